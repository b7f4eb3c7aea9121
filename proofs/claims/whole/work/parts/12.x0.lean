set_option maxRecDepth 100000 in
set_option maxHeartbeats 4000000 in
theorem wX3_isLetter_15 {p : Program} {l : Launch} {e : Env} {s : State} {m : MethodId} {args : Array Value} {below : List Frame} {meth : Method} {c : Code} {G : va_G} {cy : Nat → ClassId} {A : Nat → Prop} {q_this : Nat} {f_x : Int32} {f_y : Int32} {f_steps : Int32} {f_metLetter : Int32} {o : Int32} (C : Cx p s m args meth c cX3_isLetter 1 (some .boolean) RX3 G cy A) : ∀ (H : Heap) (locs : List Loc) (ls : Array Slot), va_P G vwCl [(q_this, .inr (3, [.int f_x, .int f_y, .int f_steps, .int f_metLetter]))] H → va_D A [(q_this, .inr (3, [.int f_x, .int f_y, .int f_steps, .int f_metLetter]))] → va_S A s.heap H locs → lv_has ls 1 [(0, .ref q_this)] → jX3_isLetter_15 f_x f_y = some o → W p l e (headSpec (Cond.code yX3_isLetter cX3_isLetter 1 (some .boolean) :: AW) ({ frames := 0, cells := 0, slots := 0, locals := 0 } : Room)).room s m args below meth c H locs 0 0 (MQ below (va_Qi (fun r (_ : Unit) => r = o) (fun _ => Wq G cy A [(q_this, .inr (3, [.int f_x, .int f_y, .int f_steps, .int f_metLetter]))]) A) args s 0 0 A) (F0 m 15 ls []) := by
  have C0 := C
  obtain ⟨hx, hb, hr, hml, htA, hown, hK, hN, hA, hlocks⟩ := C
  intro  H locs ls hP hD hS hl hf
  have hf : ((if f_x = 0 then (if f_y = 1 then some (1) else some (0)) else some (0)) : Option (Int32)) = some o := hf
  refine lv_aload_n hx hb dX3_isLetter_15 rfl (lv_at hl 0 rfl) ?_
  refine va_get (D := G) (ci := 3) (v := .int f_x) (C := RX3) (T := TX3) (N := 4) hx hb htA lyX3 hown hK hP 0 rfl rfl 0 (by decide) (htA _ a_fl_X3_9) (fun _ h9 => h9) rfl dX3_isLetter_16 ?_
  refine lv_if_ne (tgt := 34) hx hb dX3_isLetter_19 (by decide) (fun c_17 => ?_) (fun c_17 => ?_)
  · have hf := ite_f c_17 hf
    refine lv_iconst (v := 0) hx hb dX3_isLetter_34 (by decide) ?_
    have ho := Option.some.inj hf
    subst ho
    exact W.zret (v := 0) hx hb hr rfl (fun t ht hW => ⟨⟨_, (), rfl, rfl, by rw [ht]; exact hP, va_K.moved hW.alike hK, hD⟩, hS.F ht⟩) hS.2.2 dX3_isLetter_35
  · have hf := ite_t c_17 hf
    refine lv_aload_n hx hb dX3_isLetter_22 rfl (lv_at hl 0 rfl) ?_
    refine va_get (D := G) (ci := 3) (v := .int f_y) (C := RX3) (T := TX3) (N := 4) hx hb htA lyX3 hown hK hP 0 rfl rfl 1 (by decide) (htA _ a_fl_X3_15) (fun _ h9 => h9) rfl dX3_isLetter_23 ?_
    refine lv_iconst (v := 1) hx hb dX3_isLetter_26 (by decide) ?_
    refine lv_icmp_ne (tgt := 34) hx hb dX3_isLetter_27 (by decide) (fun c_18 => ?_) (fun c_18 => ?_)
    · have hf := ite_f c_18 hf
      refine lv_iconst (v := 0) hx hb dX3_isLetter_34 (by decide) ?_
      have ho := Option.some.inj hf
      subst ho
      exact W.zret (v := 0) hx hb hr rfl (fun t ht hW => ⟨⟨_, (), rfl, rfl, by rw [ht]; exact hP, va_K.moved hW.alike hK, hD⟩, hS.F ht⟩) hS.2.2 dX3_isLetter_35
    · have hf := ite_t c_18 hf
      refine lv_iconst (v := 1) hx hb dX3_isLetter_30 (by decide) ?_
      refine lv_goto (tgt := 35) hx hb dX3_isLetter_31 (by decide) ?_
      have ho := Option.some.inj hf
      subst ho
      exact W.zret (v := 1) hx hb hr rfl (fun t ht hW => ⟨⟨_, (), rfl, rfl, by rw [ht]; exact hP, va_K.moved hW.alike hK, hD⟩, hS.F ht⟩) hS.2.2 dX3_isLetter_35
set_option maxRecDepth 100000 in
set_option maxHeartbeats 4000000 in
theorem kX3_isLetter (l : Launch) (G : va_G) (cy : Nat → ClassId) (q_this : Nat) (sz : Nat) (f_x : Int32) (f_y : Int32) (f_steps : Int32) (f_metLetter : Int32) {o : Int32} (hf : fX3_isLetter f_x f_y = some o) : Met l yX3_isLetter (Cond.code yX3_isLetter cX3_isLetter 1 (some .boolean) :: AW) ({ frames := 0, cells := 0, slots := 0, locals := 0 } : Room) (va_Pc [.ref q_this] (Wp G cy [(q_this, .inr (3, [.int f_x, .int f_y, .int f_steps, .int f_metLetter]))] sz)) (va_Qi (fun r (_ : Unit) => r = o) (fun _ => Wq G cy (va_A [(q_this, .inr (3, [.int f_x, .int f_y, .int f_steps, .int f_metLetter]))] sz) [(q_this, .inr (3, [.int f_x, .int f_y, .int f_steps, .int f_metLetter]))]) (va_A [(q_this, .inr (3, [.int f_x, .int f_y, .int f_steps, .int f_metLetter]))] sz)) 0 0 (va_A [(q_this, .inr (3, [.int f_x, .int f_y, .int f_steps, .int f_metLetter]))] sz) := by
  refine Met.ofW (cc := cX3_isLetter) (maxL := 1) (ret := (some .boolean)) (by decide) rfl ?_
  intro p e s m args below meth c s₁ B hml hv
  obtain ⟨rfl, hsz, hP, hK, hD0, hN⟩ := hv
  have hx := B.exec
  have hb := B.bytes
  have hr := B.returns
  have htA : ∀ w ∈ AW, w.before _ s = true := fun w h => atoms_spec (ws := Cond.code yX3_isLetter cX3_isLetter 1 (some .boolean) :: AW) B.pre w (List.mem_cons_of_mem _ h)
  have hown : s.vm.findClass RX3 = some m.cls := findClass_of_methodNamed B.named
  have hlocks := B.notSynchronized
  subst hsz
  have hD := hD0.self (sz := s.heap.size)
  generalize hAe : va_A [(q_this, .inr (3, [.int f_x, .int f_y, .int f_steps, .int f_metLetter]))] s.heap.size = A at hD ⊢
  have hA : ∀ q : Nat, s.heap.size ≤ q → A q := fun q h => by rw [← hAe]; exact Or.inr h
  have hS : va_S A s.heap s.heap [] := va_S.rf
  have hl := lv_entry ([.ref q_this]) (n := 1) (Nat.le_of_ble_eq_true rfl)
  rw [lg_entry_eq]
  generalize (lg_sl ([.ref q_this]) ++ List.replicate (1 - (lg_sl ([.ref q_this])).length) Slot.unset).toArray = ls at hl ⊢
  have hl : lv_has ls 1 [(0, .ref q_this)] := hl
  have hP : va_P G vwCl [(q_this, .inr (3, [.int f_x, .int f_y, .int f_steps, .int f_metLetter]))] s.heap := hP
  have C0 : Cx p s m _ meth c cX3_isLetter 1 (some .boolean) RX3 G cy A := ⟨hx, hb, hr, hml, htA, hown, hK, hN, hA, hlocks⟩
  have hf : ((if f_x = 1 then (if f_y = 0 then some (1) else jX3_isLetter_15 f_x f_y) else jX3_isLetter_15 f_x f_y) : Option (Int32)) = some o := hf
  refine lv_aload_n hx hb dX3_isLetter_0 rfl (lv_at hl 0 rfl) ?_
  refine va_get (D := G) (ci := 3) (v := .int f_x) (C := RX3) (T := TX3) (N := 4) hx hb htA lyX3 hown hK hP 0 rfl rfl 0 (by decide) (htA _ a_fl_X3_9) (fun _ h9 => h9) rfl dX3_isLetter_1 ?_
  refine lv_iconst (v := 1) hx hb dX3_isLetter_4 (by decide) ?_
  refine lv_icmp_ne (tgt := 15) hx hb dX3_isLetter_5 (by decide) (fun c_19 => ?_) (fun c_19 => ?_)
  · have hf := ite_f c_19 hf
    exact wX3_isLetter_15 C0  _ _ _ hP hD hS (lv_sub hl [0] rfl) hf
  · have hf := ite_t c_19 hf
    refine lv_aload_n hx hb dX3_isLetter_8 rfl (lv_at hl 0 rfl) ?_
    refine va_get (D := G) (ci := 3) (v := .int f_y) (C := RX3) (T := TX3) (N := 4) hx hb htA lyX3 hown hK hP 0 rfl rfl 1 (by decide) (htA _ a_fl_X3_15) (fun _ h9 => h9) rfl dX3_isLetter_9 ?_
    refine lv_if_eq (tgt := 30) hx hb dX3_isLetter_12 (by decide) (fun c_20 => ?_) (fun c_20 => ?_)
    · have hf := ite_t c_20 hf
      refine lv_iconst (v := 1) hx hb dX3_isLetter_30 (by decide) ?_
      refine lv_goto (tgt := 35) hx hb dX3_isLetter_31 (by decide) ?_
      have ho := Option.some.inj hf
      subst ho
      exact W.zret (v := 1) hx hb hr rfl (fun t ht hW => ⟨⟨_, (), rfl, rfl, by rw [ht]; exact hP, va_K.moved hW.alike hK, hD⟩, hS.F ht⟩) hS.2.2 dX3_isLetter_35
    · have hf := ite_f c_20 hf
      exact wX3_isLetter_15 C0  _ _ _ hP hD hS (lv_sub hl [0] rfl) hf
set_option maxRecDepth 100000 in
set_option maxHeartbeats 4000000 in
theorem kX8_coatOf (l : Launch) (G : va_G) (cy : Nat → ClassId) (sz : Nat) (p0 : Int32) (p1 : Int32) (p2 : Int32) {o : Int32} (hf : fX8_coatOf p0 p1 p2 = some o) : Met l yX8_coatOf (Cond.code yX8_coatOf cX8_coatOf 3 (some .int) :: AW) ({ frames := 0, cells := 0, slots := 0, locals := 0 } : Room) (va_Pc [.int p0, .int p1, .int p2] (Wp G cy [] sz)) (va_Qi (fun r (_ : Unit) => r = o) (fun _ => Wq G cy (va_A [] sz) []) (va_A [] sz)) 0 0 (va_A [] sz) := by
  refine Met.ofW (cc := cX8_coatOf) (maxL := 3) (ret := (some .int)) (by decide) rfl ?_
  intro p e s m args below meth c s₁ B hml hv
  obtain ⟨rfl, hsz, hP, hK, hD0, hN⟩ := hv
  have hx := B.exec
  have hb := B.bytes
  have hr := B.returns
  have htA : ∀ w ∈ AW, w.before _ s = true := fun w h => atoms_spec (ws := Cond.code yX8_coatOf cX8_coatOf 3 (some .int) :: AW) B.pre w (List.mem_cons_of_mem _ h)
  have hown : s.vm.findClass RX8 = some m.cls := findClass_of_methodNamed B.named
  have hlocks := B.notSynchronized
  subst hsz
  have hD := hD0.self (sz := s.heap.size)
  generalize hAe : va_A [] s.heap.size = A at hD ⊢
  have hA : ∀ q : Nat, s.heap.size ≤ q → A q := fun q h => by rw [← hAe]; exact Or.inr h
  have hS : va_S A s.heap s.heap [] := va_S.rf
  have hl := lv_entry ([.int p0, .int p1, .int p2]) (n := 3) (Nat.le_of_ble_eq_true rfl)
  rw [lg_entry_eq]
  generalize (lg_sl ([.int p0, .int p1, .int p2]) ++ List.replicate (3 - (lg_sl ([.int p0, .int p1, .int p2])).length) Slot.unset).toArray = ls at hl ⊢
  have hl : lv_has ls 3 [(0, .int p0), (1, .int p1), (2, .int p2)] := hl
  have hP : va_P G vwCl [] s.heap := hP
  have hf : (some (((2 * p1) - (p0 * p2))) : Option (Int32)) = some o := hf
  refine lv_iconst (v := 2) hx hb dX8_coatOf_0 (by decide) ?_
  refine lv_iload_n hx hb dX8_coatOf_1 rfl (lv_at hl 1 rfl) ?_
  refine lv_imul hx hb dX8_coatOf_2 ?_
  refine lv_iload_n hx hb dX8_coatOf_3 rfl (lv_at hl 0 rfl) ?_
  refine lv_iload_n hx hb dX8_coatOf_4 rfl (lv_at hl 2 rfl) ?_
  refine lv_imul hx hb dX8_coatOf_5 ?_
  refine lv_isub hx hb dX8_coatOf_6 ?_
  have ho := Option.some.inj hf
  subst ho
  exact W.iret (v := ((2 * p1) - (p0 * p2))) hx hb hr (fun t ht hW => ⟨⟨_, (), rfl, rfl, by rw [ht]; exact hP, va_K.moved hW.alike hK, hD⟩, hS.F ht⟩) hS.2.2 dX8_coatOf_7
set_option maxRecDepth 100000 in
set_option maxHeartbeats 4000000 in
theorem wX3_lower_115 {p : Program} {l : Launch} {e : Env} {s : State} {m : MethodId} {args : Array Value} {below : List Frame} {meth : Method} {c : Code} {G : va_G} {cy : Nat → ClassId} {A : Nat → Prop} {q_this : Nat} {n : Nat} {o : Int32 × Int32 × Int32 × Int32} (C : Cx p s m args meth c cX3_lower 5 none RX3 G cy A) {K24 : Int32 → Int32 → Int32 → Int32 → Int32 → Int32 → Option (Int32 × Int32 × Int32 × Int32)} (ih24 : ∀ (v1 : Int32) (v2 : Int32) (f_x : Int32) (f_y : Int32) (f_steps : Int32) (f_metLetter : Int32) (H : Heap) (locs : List Loc) (ls : Array Slot), va_P G vwCl [(q_this, .inr (3, [.int f_x, .int f_y, .int f_steps, .int f_metLetter]))] H → va_D A [(q_this, .inr (3, [.int f_x, .int f_y, .int f_steps, .int f_metLetter]))] → va_S A s.heap H locs → lv_has ls 5 [(0, .ref q_this), (1, .int v1), (2, .int v2)] → K24 v1 v2 f_x f_y f_steps f_metLetter = some o → W p l e (headSpec (Cond.code yX3_lower cX3_lower 5 none :: AW) ({ frames := 1, cells := 0, slots := 0, locals := 22 } : Room)).room s m args below meth c H locs 0 0 (MQ below (va_Qv (fun (_ : Unit) => True) (fun _ => Wq G cy A [(q_this, .inr (3, [.int o.1, .int o.2.1, .int o.2.2.1, .int o.2.2.2]))]) A) args s 0 0 A) (F0 m 24 ls [])) : ∀ (v1 : Int32) (v2 : Int32) (f_x : Int32) (f_y : Int32) (f_steps : Int32) (f_metLetter : Int32) (H : Heap) (locs : List Loc) (ls : Array Slot), va_P G vwCl [(q_this, .inr (3, [.int f_x, .int f_y, .int f_steps, .int f_metLetter]))] H → va_D A [(q_this, .inr (3, [.int f_x, .int f_y, .int f_steps, .int f_metLetter]))] → va_S A s.heap H locs → lv_has ls 5 [(0, .ref q_this), (1, .int v1), (2, .int v2)] → jX3_lower_115 n K24 v1 v2 f_x f_y f_steps f_metLetter = some o → W p l e (headSpec (Cond.code yX3_lower cX3_lower 5 none :: AW) ({ frames := 1, cells := 0, slots := 0, locals := 22 } : Room)).room s m args below meth c H locs 0 0 (MQ below (va_Qv (fun (_ : Unit) => True) (fun _ => Wq G cy A [(q_this, .inr (3, [.int o.1, .int o.2.1, .int o.2.2.1, .int o.2.2.2]))]) A) args s 0 0 A) (F0 m 115 ls []) := by
  have C0 := C
  obtain ⟨hx, hb, hr, hml, htA, hown, hK, hN, hA, hlocks⟩ := C
  intro v1 v2 f_x f_y f_steps f_metLetter H locs ls hP hD hS hl hf
  have hf : ((if f_metLetter = 0 then (fX3_isLetter f_x f_y).bind fun q134 => ((if q134 = 0 then K24 v1 v2 f_x f_y (f_steps + 1) 0 else K24 v1 v2 f_x f_y (f_steps + 1) 1)) else K24 v1 v2 f_x f_y (f_steps + 1) 1) : Option (Int32 × Int32 × Int32 × Int32)) = some o := hf
  refine lv_aload_n hx hb dX3_lower_115 rfl (lv_at hl 0 rfl) ?_
  refine lv_dup hx hb dX3_lower_116 rfl ?_
  refine va_get (D := G) (ci := 3) (v := .int f_steps) (C := RX3) (T := TX3) (N := 4) hx hb htA lyX3 hown hK hP 0 rfl rfl 2 (by decide) (htA _ a_fl_X3_18) (fun _ h9 => h9) rfl dX3_lower_117 ?_
  refine lv_iconst (v := 1) hx hb dX3_lower_120 (by decide) ?_
  refine lv_iadd hx hb dX3_lower_121 ?_
  refine va_put (D := G) (ci := 3) (v := .int (f_steps + 1)) (ty := tyX3 2) (C := RX3) (T := TX3) (N := 4) hx hb htA lyX3 tyX3 tyX3_ok nmX3 hown hK hP hD hS 0 rfl rfl 2 (by decide) (htA _ a_fl_X3_18) (fun _ h9 => h9) rfl (tyX3_ok 2 (by decide)) rfl rfl (Nat.le_of_ble_eq_true rfl) dX3_lower_122 (fun H locs hP hD hS => ?_)
  have hP : va_P G vwCl [(q_this, .inr (3, [.int f_x, .int f_y, .int (f_steps + 1), .int f_metLetter]))] H := hP
  have hD : va_D A [(q_this, .inr (3, [.int f_x, .int f_y, .int (f_steps + 1), .int f_metLetter]))] := hD
  refine lv_aload_n hx hb dX3_lower_125 rfl (lv_at hl 0 rfl) ?_
  refine lv_aload_n hx hb dX3_lower_126 rfl (lv_at hl 0 rfl) ?_
  refine va_get (D := G) (ci := 3) (v := .int f_metLetter) (C := RX3) (T := TX3) (N := 4) hx hb htA lyX3 hown hK hP 0 rfl rfl 3 (by decide) (htA _ a_fl_X3_21) (fun _ h9 => h9) rfl dX3_lower_127 ?_
  refine lv_if_ne (tgt := 140) hx hb dX3_lower_130 (by decide) (fun c_49 => ?_) (fun c_49 => ?_)
  · have hf := ite_f c_49 hf
    refine lv_iconst (v := 1) hx hb dX3_lower_140 (by decide) ?_
    refine lv_goto (tgt := 145) hx hb dX3_lower_141 (by decide) ?_
    refine va_put (D := G) (ci := 3) (v := .int 1) (ty := tyX3 3) (C := RX3) (T := TX3) (N := 4) hx hb htA lyX3 tyX3 tyX3_ok nmX3 hown hK hP hD hS 0 rfl rfl 3 (by decide) (htA _ a_fl_X3_21) (fun _ h9 => h9) rfl (tyX3_ok 3 (by decide)) rfl rfl (Nat.le_of_ble_eq_true rfl) dX3_lower_145 (fun H locs hP hD hS => ?_)
    have hP : va_P G vwCl [(q_this, .inr (3, [.int f_x, .int f_y, .int (f_steps + 1), .int 1]))] H := hP
    have hD : va_D A [(q_this, .inr (3, [.int f_x, .int f_y, .int (f_steps + 1), .int 1]))] := hD
    refine lv_goto (tgt := 24) hx hb dX3_lower_148 (by decide) ?_
    exact ih24 _ _ _ _ _ _ _ _ _ hP hD hS (lv_sub hl [0, 1, 2] rfl) hf
  · have hf := ite_t c_49 hf
    refine lv_aload_n hx hb dX3_lower_133 rfl (lv_at hl 0 rfl) ?_
    obtain ⟨q134, h134_50, hf⟩ := bd_s hf
    refine u_calliR (va_runV (As := []) (rest := [.ref q_this]) ⟨hx, hb, hml, hown, htA⟩ (kX3_isLetter l G cy q_this H.size f_x f_y (f_steps + 1) f_metLetter h134_50) (u_cwV htA a_ml_X3_25 pk_X3_isLetter ⟨Nat.le_of_ble_eq_true rfl, Nat.le_of_ble_eq_true rfl⟩) (u_preV hK hN hP hD [0] rfl (by decide) 0 rfl rfl) rfl rfl hl.1 rfl (lv_room (Nat.le_of_ble_eq_true rfl)) dX3_lower_134 ⟨Nat.zero_le _, Nat.zero_le _⟩) hP hD hS hA [0] rfl (fun H locs hP hS => ?_)
    refine lv_if_eq (tgt := 144) hx hb dX3_lower_137 (by decide) (fun c_51 => ?_) (fun c_51 => ?_)
    · have hf := ite_t c_51 hf
      refine lv_iconst (v := 0) hx hb dX3_lower_144 (by decide) ?_
      refine va_put (D := G) (ci := 3) (v := .int 0) (ty := tyX3 3) (C := RX3) (T := TX3) (N := 4) hx hb htA lyX3 tyX3 tyX3_ok nmX3 hown hK hP hD hS 0 rfl rfl 3 (by decide) (htA _ a_fl_X3_21) (fun _ h9 => h9) rfl (tyX3_ok 3 (by decide)) rfl rfl (Nat.le_of_ble_eq_true rfl) dX3_lower_145 (fun H locs hP hD hS => ?_)
      have hP : va_P G vwCl [(q_this, .inr (3, [.int f_x, .int f_y, .int (f_steps + 1), .int 0]))] H := hP
      have hD : va_D A [(q_this, .inr (3, [.int f_x, .int f_y, .int (f_steps + 1), .int 0]))] := hD
      refine lv_goto (tgt := 24) hx hb dX3_lower_148 (by decide) ?_
      exact ih24 _ _ _ _ _ _ _ _ _ hP hD hS (lv_sub hl [0, 1, 2] rfl) hf
    · have hf := ite_f c_51 hf
      refine lv_iconst (v := 1) hx hb dX3_lower_140 (by decide) ?_
      refine lv_goto (tgt := 145) hx hb dX3_lower_141 (by decide) ?_
      refine va_put (D := G) (ci := 3) (v := .int 1) (ty := tyX3 3) (C := RX3) (T := TX3) (N := 4) hx hb htA lyX3 tyX3 tyX3_ok nmX3 hown hK hP hD hS 0 rfl rfl 3 (by decide) (htA _ a_fl_X3_21) (fun _ h9 => h9) rfl (tyX3_ok 3 (by decide)) rfl rfl (Nat.le_of_ble_eq_true rfl) dX3_lower_145 (fun H locs hP hD hS => ?_)
      have hP : va_P G vwCl [(q_this, .inr (3, [.int f_x, .int f_y, .int (f_steps + 1), .int 1]))] H := hP
      have hD : va_D A [(q_this, .inr (3, [.int f_x, .int f_y, .int (f_steps + 1), .int 1]))] := hD
      refine lv_goto (tgt := 24) hx hb dX3_lower_148 (by decide) ?_
      exact ih24 _ _ _ _ _ _ _ _ _ hP hD hS (lv_sub hl [0, 1, 2] rfl) hf
set_option maxRecDepth 100000 in
set_option maxHeartbeats 4000000 in
theorem wX3_lower_24 {p : Program} {l : Launch} {e : Env} {s : State} {m : MethodId} {args : Array Value} {below : List Frame} {meth : Method} {c : Code} {G : va_G} {cy : Nat → ClassId} {A : Nat → Prop} {q_this : Nat} {n : Nat} {o : Int32 × Int32 × Int32 × Int32} (C : Cx p s m args meth c cX3_lower 5 none RX3 G cy A) : ∀ k24 : Nat, ∀ (v1 : Int32) (v2 : Int32) (f_x : Int32) (f_y : Int32) (f_steps : Int32) (f_metLetter : Int32) (H : Heap) (locs : List Loc) (ls : Array Slot), va_P G vwCl [(q_this, .inr (3, [.int f_x, .int f_y, .int f_steps, .int f_metLetter]))] H → va_D A [(q_this, .inr (3, [.int f_x, .int f_y, .int f_steps, .int f_metLetter]))] → va_S A s.heap H locs → lv_has ls 5 [(0, .ref q_this), (1, .int v1), (2, .int v2)] → lX3_lower_24 n k24 v1 v2 f_x f_y f_steps f_metLetter = some o → W p l e (headSpec (Cond.code yX3_lower cX3_lower 5 none :: AW) ({ frames := 1, cells := 0, slots := 0, locals := 22 } : Room)).room s m args below meth c H locs 0 0 (MQ below (va_Qv (fun (_ : Unit) => True) (fun _ => Wq G cy A [(q_this, .inr (3, [.int o.1, .int o.2.1, .int o.2.2.1, .int o.2.2.2]))]) A) args s 0 0 A) (F0 m 24 ls []) := by
  have C0 := C
  obtain ⟨hx, hb, hr, hml, htA, hown, hK, hN, hA, hlocks⟩ := C
  intro k24
  induction k24 with
  | zero =>
    intro v1 v2 f_x f_y f_steps f_metLetter H locs ls hP hD hS hl hf
    exact no_s hf
  | succ k24 ih24 =>
    intro v1 v2 f_x f_y f_steps f_metLetter H locs ls hP hD hS hl hf
    have hf : ((if 4000 ≤ f_steps then some (f_x, f_y, f_steps, f_metLetter) else (if f_x < 0 then some (f_x, f_y, f_steps, f_metLetter) else (if f_y < 0 then some (f_x, f_y, f_steps, f_metLetter) else (fX8_coatOf v1 f_x f_y).bind fun q57 => ((if q57 ≤ 0 then (fX8_coatOf v2 f_y f_x).bind fun q90 => ((if q90 ≤ 0 then some (f_x, f_y, f_steps, f_metLetter) else jX3_lower_115 n (lX3_lower_24 n k24) v1 v2 f_x ((v2 * f_x) - f_y) f_steps f_metLetter)) else jX3_lower_115 n (lX3_lower_24 n k24) v1 v2 ((v1 * f_y) - f_x) f_y f_steps f_metLetter))))) : Option (Int32 × Int32 × Int32 × Int32)) = some o := hf
    refine lv_aload_n hx hb dX3_lower_24 rfl (lv_at hl 0 rfl) ?_
    refine va_get (D := G) (ci := 3) (v := .int f_steps) (C := RX3) (T := TX3) (N := 4) hx hb htA lyX3 hown hK hP 0 rfl rfl 2 (by decide) (htA _ a_fl_X3_18) (fun _ h9 => h9) rfl dX3_lower_25 ?_
    refine lv_sipush (v := 4000) hx hb dX3_lower_28 (by decide) ?_
    refine lv_icmp_ge (tgt := 151) hx hb dX3_lower_31 (by decide) (fun c_52 => ?_) (fun c_52 => ?_)
    · have hf := ite_t c_52 hf
      have ho := Option.some.inj hf
      subst ho
      exact W.vret hx hb hr (fun t ht hW => ⟨⟨(), rfl, trivial, by rw [ht]; exact hP, va_K.moved hW.alike hK, hD⟩, hS.F ht⟩) hS.2.2 dX3_lower_151
    · have hf := ite_f c_52 hf
      refine lv_aload_n hx hb dX3_lower_34 rfl (lv_at hl 0 rfl) ?_
      refine va_get (D := G) (ci := 3) (v := .int f_x) (C := RX3) (T := TX3) (N := 4) hx hb htA lyX3 hown hK hP 0 rfl rfl 0 (by decide) (htA _ a_fl_X3_9) (fun _ h9 => h9) rfl dX3_lower_35 ?_
      refine lv_if_lt (tgt := 151) hx hb dX3_lower_38 (by decide) (fun c_53 => ?_) (fun c_53 => ?_)
      · have hf := ite_t c_53 hf
        have ho := Option.some.inj hf
        subst ho
        exact W.vret hx hb hr (fun t ht hW => ⟨⟨(), rfl, trivial, by rw [ht]; exact hP, va_K.moved hW.alike hK, hD⟩, hS.F ht⟩) hS.2.2 dX3_lower_151
      · have hf := ite_f c_53 hf
        refine lv_aload_n hx hb dX3_lower_41 rfl (lv_at hl 0 rfl) ?_
        refine va_get (D := G) (ci := 3) (v := .int f_y) (C := RX3) (T := TX3) (N := 4) hx hb htA lyX3 hown hK hP 0 rfl rfl 1 (by decide) (htA _ a_fl_X3_15) (fun _ h9 => h9) rfl dX3_lower_42 ?_
        refine lv_if_lt (tgt := 151) hx hb dX3_lower_45 (by decide) (fun c_54 => ?_) (fun c_54 => ?_)
        · have hf := ite_t c_54 hf
          have ho := Option.some.inj hf
          subst ho
          exact W.vret hx hb hr (fun t ht hW => ⟨⟨(), rfl, trivial, by rw [ht]; exact hP, va_K.moved hW.alike hK, hD⟩, hS.F ht⟩) hS.2.2 dX3_lower_151
        · have hf := ite_f c_54 hf
          refine lv_iload_n hx hb dX3_lower_48 rfl (lv_at hl 1 rfl) ?_
          refine lv_aload_n hx hb dX3_lower_49 rfl (lv_at hl 0 rfl) ?_
          refine va_get (D := G) (ci := 3) (v := .int f_x) (C := RX3) (T := TX3) (N := 4) hx hb htA lyX3 hown hK hP 0 rfl rfl 0 (by decide) (htA _ a_fl_X3_9) (fun _ h9 => h9) rfl dX3_lower_50 ?_
          refine lv_aload_n hx hb dX3_lower_53 rfl (lv_at hl 0 rfl) ?_
          refine va_get (D := G) (ci := 3) (v := .int f_y) (C := RX3) (T := TX3) (N := 4) hx hb htA lyX3 hown hK hP 0 rfl rfl 1 (by decide) (htA _ a_fl_X3_15) (fun _ h9 => h9) rfl dX3_lower_54 ?_
          obtain ⟨q57, h57_55, hf⟩ := bd_s hf
          refine u_calliR (va_runSN (As := [.int v1, .int f_x, .int f_y]) (rest := []) ⟨hx, hb, hml, hown, htA⟩ (kX8_coatOf l G cy H.size v1 f_x f_y h57_55) (u_cnS htA hN (List.mem_of_getElem? (i := 21) rfl) pk_X8_coatOf ⟨Nat.le_of_ble_eq_true rfl, Nat.le_of_ble_eq_true rfl⟩) (u_preS hK hN hP hD [] rfl (by decide)) rfl rfl hl.1 rfl (lv_room (Nat.le_of_ble_eq_true rfl)) dX3_lower_57 ⟨Nat.zero_le _, Nat.zero_le _⟩) hP hD hS hA [] rfl (fun H locs hP hS => ?_)
          refine lv_if_le (tgt := 81) hx hb dX3_lower_60 (by decide) (fun c_56 => ?_) (fun c_56 => ?_)
          · have hf := ite_t c_56 hf
            refine lv_iload_n hx hb dX3_lower_81 rfl (lv_at hl 2 rfl) ?_
            refine lv_aload_n hx hb dX3_lower_82 rfl (lv_at hl 0 rfl) ?_
            refine va_get (D := G) (ci := 3) (v := .int f_y) (C := RX3) (T := TX3) (N := 4) hx hb htA lyX3 hown hK hP 0 rfl rfl 1 (by decide) (htA _ a_fl_X3_15) (fun _ h9 => h9) rfl dX3_lower_83 ?_
            refine lv_aload_n hx hb dX3_lower_86 rfl (lv_at hl 0 rfl) ?_
            refine va_get (D := G) (ci := 3) (v := .int f_x) (C := RX3) (T := TX3) (N := 4) hx hb htA lyX3 hown hK hP 0 rfl rfl 0 (by decide) (htA _ a_fl_X3_9) (fun _ h9 => h9) rfl dX3_lower_87 ?_
            obtain ⟨q90, h90_57, hf⟩ := bd_s hf
            refine u_calliR (va_runSN (As := [.int v2, .int f_y, .int f_x]) (rest := []) ⟨hx, hb, hml, hown, htA⟩ (kX8_coatOf l G cy H.size v2 f_y f_x h90_57) (u_cnS htA hN (List.mem_of_getElem? (i := 21) rfl) pk_X8_coatOf ⟨Nat.le_of_ble_eq_true rfl, Nat.le_of_ble_eq_true rfl⟩) (u_preS hK hN hP hD [] rfl (by decide)) rfl rfl hl.1 rfl (lv_room (Nat.le_of_ble_eq_true rfl)) dX3_lower_90 ⟨Nat.zero_le _, Nat.zero_le _⟩) hP hD hS hA [] rfl (fun H locs hP hS => ?_)
            refine lv_if_le (tgt := 114) hx hb dX3_lower_93 (by decide) (fun c_58 => ?_) (fun c_58 => ?_)
            · have hf := ite_t c_58 hf
              have ho := Option.some.inj hf
              subst ho
              exact W.vret hx hb hr (fun t ht hW => ⟨⟨(), rfl, trivial, by rw [ht]; exact hP, va_K.moved hW.alike hK, hD⟩, hS.F ht⟩) hS.2.2 dX3_lower_114
            · have hf := ite_f c_58 hf
              refine lv_aload_n hx hb dX3_lower_96 rfl (lv_at hl 0 rfl) ?_
              refine lv_iload_n hx hb dX3_lower_97 rfl (lv_at hl 2 rfl) ?_
              refine lv_aload_n hx hb dX3_lower_98 rfl (lv_at hl 0 rfl) ?_
              refine va_get (D := G) (ci := 3) (v := .int f_x) (C := RX3) (T := TX3) (N := 4) hx hb htA lyX3 hown hK hP 0 rfl rfl 0 (by decide) (htA _ a_fl_X3_9) (fun _ h9 => h9) rfl dX3_lower_99 ?_
              refine lv_imul hx hb dX3_lower_102 ?_
              refine lv_aload_n hx hb dX3_lower_103 rfl (lv_at hl 0 rfl) ?_
              refine va_get (D := G) (ci := 3) (v := .int f_y) (C := RX3) (T := TX3) (N := 4) hx hb htA lyX3 hown hK hP 0 rfl rfl 1 (by decide) (htA _ a_fl_X3_15) (fun _ h9 => h9) rfl dX3_lower_104 ?_
              refine lv_isub hx hb dX3_lower_107 ?_
              refine va_put (D := G) (ci := 3) (v := .int ((v2 * f_x) - f_y)) (ty := tyX3 1) (C := RX3) (T := TX3) (N := 4) hx hb htA lyX3 tyX3 tyX3_ok nmX3 hown hK hP hD hS 0 rfl rfl 1 (by decide) (htA _ a_fl_X3_15) (fun _ h9 => h9) rfl (tyX3_ok 1 (by decide)) rfl rfl (Nat.le_of_ble_eq_true rfl) dX3_lower_108 (fun H locs hP hD hS => ?_)
              have hP : va_P G vwCl [(q_this, .inr (3, [.int f_x, .int ((v2 * f_x) - f_y), .int f_steps, .int f_metLetter]))] H := hP
              have hD : va_D A [(q_this, .inr (3, [.int f_x, .int ((v2 * f_x) - f_y), .int f_steps, .int f_metLetter]))] := hD
              refine lv_goto (tgt := 115) hx hb dX3_lower_111 (by decide) ?_
              exact wX3_lower_115 C0 ih24 _ _ _ _ _ _ _ _ _ hP hD hS (lv_sub hl [0, 1, 2] rfl) hf
          · have hf := ite_f c_56 hf
            refine lv_aload_n hx hb dX3_lower_63 rfl (lv_at hl 0 rfl) ?_
            refine lv_iload_n hx hb dX3_lower_64 rfl (lv_at hl 1 rfl) ?_
            refine lv_aload_n hx hb dX3_lower_65 rfl (lv_at hl 0 rfl) ?_
            refine va_get (D := G) (ci := 3) (v := .int f_y) (C := RX3) (T := TX3) (N := 4) hx hb htA lyX3 hown hK hP 0 rfl rfl 1 (by decide) (htA _ a_fl_X3_15) (fun _ h9 => h9) rfl dX3_lower_66 ?_
            refine lv_imul hx hb dX3_lower_69 ?_
            refine lv_aload_n hx hb dX3_lower_70 rfl (lv_at hl 0 rfl) ?_
            refine va_get (D := G) (ci := 3) (v := .int f_x) (C := RX3) (T := TX3) (N := 4) hx hb htA lyX3 hown hK hP 0 rfl rfl 0 (by decide) (htA _ a_fl_X3_9) (fun _ h9 => h9) rfl dX3_lower_71 ?_
            refine lv_isub hx hb dX3_lower_74 ?_
            refine va_put (D := G) (ci := 3) (v := .int ((v1 * f_y) - f_x)) (ty := tyX3 0) (C := RX3) (T := TX3) (N := 4) hx hb htA lyX3 tyX3 tyX3_ok nmX3 hown hK hP hD hS 0 rfl rfl 0 (by decide) (htA _ a_fl_X3_9) (fun _ h9 => h9) rfl (tyX3_ok 0 (by decide)) rfl rfl (Nat.le_of_ble_eq_true rfl) dX3_lower_75 (fun H locs hP hD hS => ?_)
            have hP : va_P G vwCl [(q_this, .inr (3, [.int ((v1 * f_y) - f_x), .int f_y, .int f_steps, .int f_metLetter]))] H := hP
            have hD : va_D A [(q_this, .inr (3, [.int ((v1 * f_y) - f_x), .int f_y, .int f_steps, .int f_metLetter]))] := hD
            refine lv_goto (tgt := 115) hx hb dX3_lower_78 (by decide) ?_
            exact wX3_lower_115 C0 ih24 _ _ _ _ _ _ _ _ _ hP hD hS (lv_sub hl [0, 1, 2] rfl) hf
set_option maxRecDepth 100000 in
set_option maxHeartbeats 4000000 in
theorem kX3_lower (l : Launch) (G : va_G) (cy : Nat → ClassId) (q_this : Nat) (sz : Nat) (f_x : Int32) (f_y : Int32) (f_steps : Int32) (f_metLetter : Int32) (p1 : Int32) (p2 : Int32) (p3 : Int32) (p4 : Int32) (n : Nat) {o : Int32 × Int32 × Int32 × Int32} (hf : fX3_lower n p1 p2 p3 p4 f_x f_y f_steps f_metLetter = some o) : Met l yX3_lower (Cond.code yX3_lower cX3_lower 5 none :: AW) ({ frames := 1, cells := 0, slots := 0, locals := 22 } : Room) (va_Pc [.ref q_this, .int p1, .int p2, .int p3, .int p4] (Wp G cy [(q_this, .inr (3, [.int f_x, .int f_y, .int f_steps, .int f_metLetter]))] sz)) (va_Qv (fun (_ : Unit) => True) (fun _ => Wq G cy (va_A [(q_this, .inr (3, [.int f_x, .int f_y, .int f_steps, .int f_metLetter]))] sz) [(q_this, .inr (3, [.int o.1, .int o.2.1, .int o.2.2.1, .int o.2.2.2]))]) (va_A [(q_this, .inr (3, [.int f_x, .int f_y, .int f_steps, .int f_metLetter]))] sz)) 0 0 (va_A [(q_this, .inr (3, [.int f_x, .int f_y, .int f_steps, .int f_metLetter]))] sz) := by
  refine Met.ofW (cc := cX3_lower) (maxL := 5) (ret := none) (by decide) rfl ?_
  intro p e s m args below meth c s₁ B hml hv
  obtain ⟨rfl, hsz, hP, hK, hD0, hN⟩ := hv
  have hx := B.exec
  have hb := B.bytes
  have hr := B.returns
  have htA : ∀ w ∈ AW, w.before _ s = true := fun w h => atoms_spec (ws := Cond.code yX3_lower cX3_lower 5 none :: AW) B.pre w (List.mem_cons_of_mem _ h)
  have hown : s.vm.findClass RX3 = some m.cls := findClass_of_methodNamed B.named
  have hlocks := B.notSynchronized
  subst hsz
  have hD := hD0.self (sz := s.heap.size)
  generalize hAe : va_A [(q_this, .inr (3, [.int f_x, .int f_y, .int f_steps, .int f_metLetter]))] s.heap.size = A at hD ⊢
  have hA : ∀ q : Nat, s.heap.size ≤ q → A q := fun q h => by rw [← hAe]; exact Or.inr h
  have hS : va_S A s.heap s.heap [] := va_S.rf
  have hl := lv_entry ([.ref q_this, .int p1, .int p2, .int p3, .int p4]) (n := 5) (Nat.le_of_ble_eq_true rfl)
  rw [lg_entry_eq]
  generalize (lg_sl ([.ref q_this, .int p1, .int p2, .int p3, .int p4]) ++ List.replicate (5 - (lg_sl ([.ref q_this, .int p1, .int p2, .int p3, .int p4])).length) Slot.unset).toArray = ls at hl ⊢
  have hl : lv_has ls 5 [(0, .ref q_this), (1, .int p1), (2, .int p2), (3, .int p3), (4, .int p4)] := hl
  have hP : va_P G vwCl [(q_this, .inr (3, [.int f_x, .int f_y, .int f_steps, .int f_metLetter]))] s.heap := hP
  have C0 : Cx p s m _ meth c cX3_lower 5 none RX3 G cy A := ⟨hx, hb, hr, hml, htA, hown, hK, hN, hA, hlocks⟩
  have hf : ((fX3_isLetter p3 p4).bind fun q18 => (zk q18 (lX3_lower_24 n n p1 p2 p3 p4 0 q18)) : Option (Int32 × Int32 × Int32 × Int32)) = some o := hf
  refine lv_aload_n hx hb dX3_lower_0 rfl (lv_at hl 0 rfl) ?_
  refine lv_iload_n hx hb dX3_lower_1 rfl (lv_at hl 3 rfl) ?_
  refine va_put (D := G) (ci := 3) (v := .int p3) (ty := tyX3 0) (C := RX3) (T := TX3) (N := 4) hx hb htA lyX3 tyX3 tyX3_ok nmX3 hown hK hP hD hS 0 rfl rfl 0 (by decide) (htA _ a_fl_X3_9) (fun _ h9 => h9) rfl (tyX3_ok 0 (by decide)) rfl rfl (Nat.le_of_ble_eq_true rfl) dX3_lower_2 (fun H locs hP hD hS => ?_)
  have hP : va_P G vwCl [(q_this, .inr (3, [.int p3, .int f_y, .int f_steps, .int f_metLetter]))] H := hP
  have hD : va_D A [(q_this, .inr (3, [.int p3, .int f_y, .int f_steps, .int f_metLetter]))] := hD
  refine lv_aload_n hx hb dX3_lower_5 rfl (lv_at hl 0 rfl) ?_
  refine lv_iload hx hb dX3_lower_6 (lv_at hl 4 rfl) ?_
  refine va_put (D := G) (ci := 3) (v := .int p4) (ty := tyX3 1) (C := RX3) (T := TX3) (N := 4) hx hb htA lyX3 tyX3 tyX3_ok nmX3 hown hK hP hD hS 0 rfl rfl 1 (by decide) (htA _ a_fl_X3_15) (fun _ h9 => h9) rfl (tyX3_ok 1 (by decide)) rfl rfl (Nat.le_of_ble_eq_true rfl) dX3_lower_8 (fun H locs hP hD hS => ?_)
  have hP : va_P G vwCl [(q_this, .inr (3, [.int p3, .int p4, .int f_steps, .int f_metLetter]))] H := hP
  have hD : va_D A [(q_this, .inr (3, [.int p3, .int p4, .int f_steps, .int f_metLetter]))] := hD
  refine lv_aload_n hx hb dX3_lower_11 rfl (lv_at hl 0 rfl) ?_
  refine lv_iconst (v := 0) hx hb dX3_lower_12 (by decide) ?_
  refine va_put (D := G) (ci := 3) (v := .int 0) (ty := tyX3 2) (C := RX3) (T := TX3) (N := 4) hx hb htA lyX3 tyX3 tyX3_ok nmX3 hown hK hP hD hS 0 rfl rfl 2 (by decide) (htA _ a_fl_X3_18) (fun _ h9 => h9) rfl (tyX3_ok 2 (by decide)) rfl rfl (Nat.le_of_ble_eq_true rfl) dX3_lower_13 (fun H locs hP hD hS => ?_)
  have hP : va_P G vwCl [(q_this, .inr (3, [.int p3, .int p4, .int 0, .int f_metLetter]))] H := hP
  have hD : va_D A [(q_this, .inr (3, [.int p3, .int p4, .int 0, .int f_metLetter]))] := hD
  refine lv_aload_n hx hb dX3_lower_16 rfl (lv_at hl 0 rfl) ?_
  refine lv_aload_n hx hb dX3_lower_17 rfl (lv_at hl 0 rfl) ?_
  obtain ⟨q18, h18_59, hf⟩ := bd_s hf
  refine u_calliR (va_runV (As := []) (rest := [.ref q_this]) ⟨hx, hb, hml, hown, htA⟩ (kX3_isLetter l G cy q_this H.size p3 p4 0 f_metLetter h18_59) (u_cwV htA a_ml_X3_25 pk_X3_isLetter ⟨Nat.le_of_ble_eq_true rfl, Nat.le_of_ble_eq_true rfl⟩) (u_preV hK hN hP hD [0] rfl (by decide) 0 rfl rfl) rfl rfl hl.1 rfl (lv_room (Nat.le_of_ble_eq_true rfl)) dX3_lower_18 ⟨Nat.zero_le _, Nat.zero_le _⟩) hP hD hS hA [0] rfl (fun H locs hP hS => ?_)
  obtain ⟨z_60, hf⟩ := zk_s hf
  refine va_put (D := G) (ci := 3) (v := .int q18) (ty := tyX3 3) (C := RX3) (T := TX3) (N := 4) hx hb htA lyX3 tyX3 tyX3_ok nmX3 hown hK hP hD hS 0 rfl rfl 3 (by decide) (htA _ a_fl_X3_21) (fun _ h9 => h9) rfl (tyX3_ok 3 (by decide)) (zk_n z_60) (zk_f z_60) (Nat.le_of_ble_eq_true rfl) dX3_lower_21 (fun H locs hP hD hS => ?_)
  have hP : va_P G vwCl [(q_this, .inr (3, [.int p3, .int p4, .int 0, .int q18]))] H := hP
  have hD : va_D A [(q_this, .inr (3, [.int p3, .int p4, .int 0, .int q18]))] := hD
  exact wX3_lower_24 C0 n _ _ _ _ _ _ _ _ _ hP hD hS (lv_sub hl [0, 1, 2] rfl) hf
set_option maxRecDepth 100000 in
set_option maxHeartbeats 4000000 in
theorem wX3_sortOf_20 {p : Program} {l : Launch} {e : Env} {s : State} {m : MethodId} {args : Array Value} {below : List Frame} {meth : Method} {c : Code} {G : va_G} {cy : Nat → ClassId} {A : Nat → Prop} {q_this : Nat} {n : Nat} {o : Int32 × Int32 × Int32 × Int32 × Int32} (C : Cx p s m args meth c cX3_sortOf 5 (some .int) RX3 G cy A) : ∀ (v1 : Int32) (v2 : Int32) (v3 : Int32) (v4 : Int32) (f_x : Int32) (f_y : Int32) (f_steps : Int32) (f_metLetter : Int32) (H : Heap) (locs : List Loc) (ls : Array Slot), va_P G vwCl [(q_this, .inr (3, [.int f_x, .int f_y, .int f_steps, .int f_metLetter]))] H → va_D A [(q_this, .inr (3, [.int f_x, .int f_y, .int f_steps, .int f_metLetter]))] → va_S A s.heap H locs → lv_has ls 5 [(0, .ref q_this), (1, .int v1), (2, .int v2), (3, .int v3), (4, .int v4)] → jX3_sortOf_20 n v1 v2 v3 v4 f_x f_y f_steps f_metLetter = some o → W p l e (headSpec (Cond.code yX3_sortOf cX3_sortOf 5 (some .int) :: AW) ({ frames := 2, cells := 0, slots := 0, locals := 46 } : Room)).room s m args below meth c H locs 0 0 (MQ below (va_Qi (fun r (_ : Unit) => r = o.1) (fun _ => Wq G cy A [(q_this, .inr (3, [.int o.2.1, .int o.2.2.1, .int o.2.2.2.1, .int o.2.2.2.2]))]) A) args s 0 0 A) (F0 m 20 ls []) := by
  have C0 := C
  obtain ⟨hx, hb, hr, hml, htA, hown, hK, hN, hA, hlocks⟩ := C
  intro v1 v2 v3 v4 f_x f_y f_steps f_metLetter H locs ls hP hD hS hl hf
  have hf : ((fX3_lower n v1 v2 (if 0 ≤ v3 then v3 else 0 - v3) (if 0 ≤ v4 then v4 else 0 - v4) f_x f_y f_steps f_metLetter).bind fun q32 => ((if q32.2.2.2 = 0 then (if q32.1 ≤ 0 then some (0, q32.1, q32.2.1, q32.2.2.1, q32.2.2.2) else (if q32.2.1 ≤ 0 then some (0, q32.1, q32.2.1, q32.2.2.1, q32.2.2.2) else some (2, q32.1, q32.2.1, q32.2.2.1, q32.2.2.2))) else some (1, q32.1, q32.2.1, q32.2.2.1, q32.2.2.2))) : Option (Int32 × Int32 × Int32 × Int32 × Int32)) = some o := hf
  refine lv_aload_n hx hb dX3_sortOf_20 rfl (lv_at hl 0 rfl) ?_
  refine lv_iload_n hx hb dX3_sortOf_21 rfl (lv_at hl 1 rfl) ?_
  refine lv_iload_n hx hb dX3_sortOf_22 rfl (lv_at hl 2 rfl) ?_
  refine lv_iload_n hx hb dX3_sortOf_23 rfl (lv_at hl 3 rfl) ?_
  refine va_mabs hx hb (by rw [hml]; exact hl.1.symm) hown (htA _ a_ml_X3_33) (htA _ a_st_Lib_Math_abs_name) (htA _ a_in_J9) (htA _ a_co_Lib_Math_abs_name) (Nat.le_of_ble_eq_true rfl) (Nat.le_of_ble_eq_true rfl) (Nat.zero_le _) (Nat.zero_le _) dX3_sortOf_24 ?_
  refine lv_iload hx hb dX3_sortOf_27 (lv_at hl 4 rfl) ?_
  refine va_mabs hx hb (by rw [hml]; exact hl.1.symm) hown (htA _ a_ml_X3_33) (htA _ a_st_Lib_Math_abs_name) (htA _ a_in_J9) (htA _ a_co_Lib_Math_abs_name) (Nat.le_of_ble_eq_true rfl) (Nat.le_of_ble_eq_true rfl) (Nat.zero_le _) (Nat.zero_le _) dX3_sortOf_29 ?_
  obtain ⟨q32, h32_41, hf⟩ := bd_s hf
  refine u_callv [(q_this, .inr (3, [.int q32.1, .int q32.2.1, .int q32.2.2.1, .int q32.2.2.2]))] (va_runV (As := [.int v1, .int v2, .int (if 0 ≤ v3 then v3 else 0 - v3), .int (if 0 ≤ v4 then v4 else 0 - v4)]) (rest := []) ⟨hx, hb, hml, hown, htA⟩ (kX3_lower l G cy q_this H.size f_x f_y f_steps f_metLetter v1 v2 (if 0 ≤ v3 then v3 else 0 - v3) (if 0 ≤ v4 then v4 else 0 - v4) n h32_41) (u_cwV htA a_ml_X3_39 pk_X3_lower ⟨Nat.le_of_ble_eq_true rfl, Nat.le_of_ble_eq_true rfl⟩) (u_preV hK hN hP hD [0] rfl (by decide) 0 rfl rfl) rfl rfl hl.1 rfl (lv_room (Nat.le_of_ble_eq_true rfl)) dX3_sortOf_32 ⟨Nat.zero_le _, Nat.zero_le _⟩) hP hD hS hA [0] rfl [] 1 rfl rfl rfl (by decide) rfl (fun H locs hP hD hS => ?_)
  refine lv_aload_n hx hb dX3_sortOf_35 rfl (lv_at hl 0 rfl) ?_
  refine va_get (D := G) (ci := 3) (v := .int q32.2.2.2) (C := RX3) (T := TX3) (N := 4) hx hb htA lyX3 hown hK hP 0 rfl rfl 3 (by decide) (htA _ a_fl_X3_21) (fun _ h9 => h9) rfl dX3_sortOf_36 ?_
  refine lv_if_eq (tgt := 44) hx hb dX3_sortOf_39 (by decide) (fun c_42 => ?_) (fun c_42 => ?_)
  · have hf := ite_t c_42 hf
    refine lv_aload_n hx hb dX3_sortOf_44 rfl (lv_at hl 0 rfl) ?_
    refine va_get (D := G) (ci := 3) (v := .int q32.1) (C := RX3) (T := TX3) (N := 4) hx hb htA lyX3 hown hK hP 0 rfl rfl 0 (by decide) (htA _ a_fl_X3_9) (fun _ h9 => h9) rfl dX3_sortOf_45 ?_
    refine lv_if_le (tgt := 62) hx hb dX3_sortOf_48 (by decide) (fun c_43 => ?_) (fun c_43 => ?_)
    · have hf := ite_t c_43 hf
      refine lv_iconst (v := 0) hx hb dX3_sortOf_62 (by decide) ?_
      have ho := Option.some.inj hf
      subst ho
      exact W.iret (v := 0) hx hb hr (fun t ht hW => ⟨⟨_, (), rfl, rfl, by rw [ht]; exact hP, va_K.moved hW.alike hK, hD⟩, hS.F ht⟩) hS.2.2 dX3_sortOf_63
    · have hf := ite_f c_43 hf
      refine lv_aload_n hx hb dX3_sortOf_51 rfl (lv_at hl 0 rfl) ?_
      refine va_get (D := G) (ci := 3) (v := .int q32.2.1) (C := RX3) (T := TX3) (N := 4) hx hb htA lyX3 hown hK hP 0 rfl rfl 1 (by decide) (htA _ a_fl_X3_15) (fun _ h9 => h9) rfl dX3_sortOf_52 ?_
      refine lv_if_le (tgt := 62) hx hb dX3_sortOf_55 (by decide) (fun c_44 => ?_) (fun c_44 => ?_)
      · have hf := ite_t c_44 hf
        refine lv_iconst (v := 0) hx hb dX3_sortOf_62 (by decide) ?_
        have ho := Option.some.inj hf
        subst ho
        exact W.iret (v := 0) hx hb hr (fun t ht hW => ⟨⟨_, (), rfl, rfl, by rw [ht]; exact hP, va_K.moved hW.alike hK, hD⟩, hS.F ht⟩) hS.2.2 dX3_sortOf_63
      · have hf := ite_f c_44 hf
        refine lv_iconst (v := 2) hx hb dX3_sortOf_58 (by decide) ?_
        refine lv_goto (tgt := 63) hx hb dX3_sortOf_59 (by decide) ?_
        have ho := Option.some.inj hf
        subst ho
        exact W.iret (v := 2) hx hb hr (fun t ht hW => ⟨⟨_, (), rfl, rfl, by rw [ht]; exact hP, va_K.moved hW.alike hK, hD⟩, hS.F ht⟩) hS.2.2 dX3_sortOf_63
  · have hf := ite_f c_42 hf
    refine lv_iconst (v := 1) hx hb dX3_sortOf_42 (by decide) ?_
    have ho := Option.some.inj hf
    subst ho
    exact W.iret (v := 1) hx hb hr (fun t ht hW => ⟨⟨_, (), rfl, rfl, by rw [ht]; exact hP, va_K.moved hW.alike hK, hD⟩, hS.F ht⟩) hS.2.2 dX3_sortOf_43
set_option maxRecDepth 100000 in
set_option maxHeartbeats 4000000 in
theorem kX3_sortOf (l : Launch) (G : va_G) (cy : Nat → ClassId) (q_this : Nat) (sz : Nat) (f_x : Int32) (f_y : Int32) (f_steps : Int32) (f_metLetter : Int32) (p1 : Int32) (p2 : Int32) (p3 : Int32) (p4 : Int32) (n : Nat) {o : Int32 × Int32 × Int32 × Int32 × Int32} (hf : fX3_sortOf n p1 p2 p3 p4 f_x f_y f_steps f_metLetter = some o) : Met l yX3_sortOf (Cond.code yX3_sortOf cX3_sortOf 5 (some .int) :: AW) ({ frames := 2, cells := 0, slots := 0, locals := 46 } : Room) (va_Pc [.ref q_this, .int p1, .int p2, .int p3, .int p4] (Wp G cy [(q_this, .inr (3, [.int f_x, .int f_y, .int f_steps, .int f_metLetter]))] sz)) (va_Qi (fun r (_ : Unit) => r = o.1) (fun _ => Wq G cy (va_A [(q_this, .inr (3, [.int f_x, .int f_y, .int f_steps, .int f_metLetter]))] sz) [(q_this, .inr (3, [.int o.2.1, .int o.2.2.1, .int o.2.2.2.1, .int o.2.2.2.2]))]) (va_A [(q_this, .inr (3, [.int f_x, .int f_y, .int f_steps, .int f_metLetter]))] sz)) 0 0 (va_A [(q_this, .inr (3, [.int f_x, .int f_y, .int f_steps, .int f_metLetter]))] sz) := by
  refine Met.ofW (cc := cX3_sortOf) (maxL := 5) (ret := (some .int)) (by decide) rfl ?_
  intro p e s m args below meth c s₁ B hml hv
  obtain ⟨rfl, hsz, hP, hK, hD0, hN⟩ := hv
  have hx := B.exec
  have hb := B.bytes
  have hr := B.returns
  have htA : ∀ w ∈ AW, w.before _ s = true := fun w h => atoms_spec (ws := Cond.code yX3_sortOf cX3_sortOf 5 (some .int) :: AW) B.pre w (List.mem_cons_of_mem _ h)
  have hown : s.vm.findClass RX3 = some m.cls := findClass_of_methodNamed B.named
  have hlocks := B.notSynchronized
  subst hsz
  have hD := hD0.self (sz := s.heap.size)
  generalize hAe : va_A [(q_this, .inr (3, [.int f_x, .int f_y, .int f_steps, .int f_metLetter]))] s.heap.size = A at hD ⊢
  have hA : ∀ q : Nat, s.heap.size ≤ q → A q := fun q h => by rw [← hAe]; exact Or.inr h
  have hS : va_S A s.heap s.heap [] := va_S.rf
  have hl := lv_entry ([.ref q_this, .int p1, .int p2, .int p3, .int p4]) (n := 5) (Nat.le_of_ble_eq_true rfl)
  rw [lg_entry_eq]
  generalize (lg_sl ([.ref q_this, .int p1, .int p2, .int p3, .int p4]) ++ List.replicate (5 - (lg_sl ([.ref q_this, .int p1, .int p2, .int p3, .int p4])).length) Slot.unset).toArray = ls at hl ⊢
  have hl : lv_has ls 5 [(0, .ref q_this), (1, .int p1), (2, .int p2), (3, .int p3), (4, .int p4)] := hl
  have hP : va_P G vwCl [(q_this, .inr (3, [.int f_x, .int f_y, .int f_steps, .int f_metLetter]))] s.heap := hP
  have C0 : Cx p s m _ meth c cX3_sortOf 5 (some .int) RX3 G cy A := ⟨hx, hb, hr, hml, htA, hown, hK, hN, hA, hlocks⟩
  have hf : ((if p3 ≤ 0 then (if 0 ≤ p3 then jX3_sortOf_20 n p1 p2 p3 p4 f_x f_y f_steps f_metLetter else (if p4 ≤ 0 then jX3_sortOf_20 n p1 p2 p3 p4 f_x f_y f_steps f_metLetter else some (0, f_x, f_y, f_steps, f_metLetter))) else (if p4 < 0 then some (0, f_x, f_y, f_steps, f_metLetter) else (if 0 ≤ p3 then jX3_sortOf_20 n p1 p2 p3 p4 f_x f_y f_steps f_metLetter else (if p4 ≤ 0 then jX3_sortOf_20 n p1 p2 p3 p4 f_x f_y f_steps f_metLetter else some (0, f_x, f_y, f_steps, f_metLetter))))) : Option (Int32 × Int32 × Int32 × Int32 × Int32)) = some o := hf
  refine lv_iload_n hx hb dX3_sortOf_0 rfl (lv_at hl 3 rfl) ?_
  refine lv_if_le (tgt := 9) hx hb dX3_sortOf_1 (by decide) (fun c_45 => ?_) (fun c_45 => ?_)
  · have hf := ite_t c_45 hf
    refine lv_iload_n hx hb dX3_sortOf_9 rfl (lv_at hl 3 rfl) ?_
    refine lv_if_ge (tgt := 20) hx hb dX3_sortOf_10 (by decide) (fun c_46 => ?_) (fun c_46 => ?_)
    · have hf := ite_t c_46 hf
      exact wX3_sortOf_20 C0 _ _ _ _ _ _ _ _ _ _ _ hP hD hS (lv_sub hl [0, 1, 2, 3, 4] rfl) hf
    · have hf := ite_f c_46 hf
      refine lv_iload hx hb dX3_sortOf_13 (lv_at hl 4 rfl) ?_
      refine lv_if_le (tgt := 20) hx hb dX3_sortOf_15 (by decide) (fun c_47 => ?_) (fun c_47 => ?_)
      · have hf := ite_t c_47 hf
        exact wX3_sortOf_20 C0 _ _ _ _ _ _ _ _ _ _ _ hP hD hS (lv_sub hl [0, 1, 2, 3, 4] rfl) hf
      · have hf := ite_f c_47 hf
        refine lv_iconst (v := 0) hx hb dX3_sortOf_18 (by decide) ?_
        have ho := Option.some.inj hf
        subst ho
        exact W.iret (v := 0) hx hb hr (fun t ht hW => ⟨⟨_, (), rfl, rfl, by rw [ht]; exact hP, va_K.moved hW.alike hK, hD⟩, hS.F ht⟩) hS.2.2 dX3_sortOf_19
  · have hf := ite_f c_45 hf
    refine lv_iload hx hb dX3_sortOf_4 (lv_at hl 4 rfl) ?_
    refine lv_if_lt (tgt := 18) hx hb dX3_sortOf_6 (by decide) (fun c_48 => ?_) (fun c_48 => ?_)
    · have hf := ite_t c_48 hf
      refine lv_iconst (v := 0) hx hb dX3_sortOf_18 (by decide) ?_
      have ho := Option.some.inj hf
      subst ho
      exact W.iret (v := 0) hx hb hr (fun t ht hW => ⟨⟨_, (), rfl, rfl, by rw [ht]; exact hP, va_K.moved hW.alike hK, hD⟩, hS.F ht⟩) hS.2.2 dX3_sortOf_19
    · have hf := ite_f c_48 hf
      refine lv_iload_n hx hb dX3_sortOf_9 rfl (lv_at hl 3 rfl) ?_
      refine lv_if_ge (tgt := 20) hx hb dX3_sortOf_10 (by decide) (fun c_49 => ?_) (fun c_49 => ?_)
      · have hf := ite_t c_49 hf
        exact wX3_sortOf_20 C0 _ _ _ _ _ _ _ _ _ _ _ hP hD hS (lv_sub hl [0, 1, 2, 3, 4] rfl) hf
      · have hf := ite_f c_49 hf
        refine lv_iload hx hb dX3_sortOf_13 (lv_at hl 4 rfl) ?_
        refine lv_if_le (tgt := 20) hx hb dX3_sortOf_15 (by decide) (fun c_50 => ?_) (fun c_50 => ?_)
        · have hf := ite_t c_50 hf
          exact wX3_sortOf_20 C0 _ _ _ _ _ _ _ _ _ _ _ hP hD hS (lv_sub hl [0, 1, 2, 3, 4] rfl) hf
        · have hf := ite_f c_50 hf
          refine lv_iconst (v := 0) hx hb dX3_sortOf_18 (by decide) ?_
          have ho := Option.some.inj hf
          subst ho
          exact W.iret (v := 0) hx hb hr (fun t ht hW => ⟨⟨_, (), rfl, rfl, by rw [ht]; exact hP, va_K.moved hW.alike hK, hD⟩, hS.F ht⟩) hS.2.2 dX3_sortOf_19
set_option maxRecDepth 100000 in
set_option maxHeartbeats 4000000 in
theorem kX8_isSmall (l : Launch) (G : va_G) (cy : Nat → ClassId) (sz : Nat) (p0 : Int32) (p1 : Int32) {o : Int32} (hf : fX8_isSmall p0 p1 = some o) : Met l yX8_isSmall (Cond.code yX8_isSmall cX8_isSmall 2 (some .boolean) :: AW) ({ frames := 0, cells := 0, slots := 0, locals := 0 } : Room) (va_Pc [.int p0, .int p1] (Wp G cy [] sz)) (va_Qi (fun r (_ : Unit) => r = o) (fun _ => Wq G cy (va_A [] sz) []) (va_A [] sz)) 0 0 (va_A [] sz) := by
  refine Met.ofW (cc := cX8_isSmall) (maxL := 2) (ret := (some .boolean)) (by decide) rfl ?_
  intro p e s m args below meth c s₁ B hml hv
  obtain ⟨rfl, hsz, hP, hK, hD0, hN⟩ := hv
  have hx := B.exec
  have hb := B.bytes
  have hr := B.returns
  have htA : ∀ w ∈ AW, w.before _ s = true := fun w h => atoms_spec (ws := Cond.code yX8_isSmall cX8_isSmall 2 (some .boolean) :: AW) B.pre w (List.mem_cons_of_mem _ h)
  have hown : s.vm.findClass RX8 = some m.cls := findClass_of_methodNamed B.named
  have hlocks := B.notSynchronized
  subst hsz
  have hD := hD0.self (sz := s.heap.size)
  generalize hAe : va_A [] s.heap.size = A at hD ⊢
  have hA : ∀ q : Nat, s.heap.size ≤ q → A q := fun q h => by rw [← hAe]; exact Or.inr h
  have hS : va_S A s.heap s.heap [] := va_S.rf
  have hl := lv_entry ([.int p0, .int p1]) (n := 2) (Nat.le_of_ble_eq_true rfl)
  rw [lg_entry_eq]
  generalize (lg_sl ([.int p0, .int p1]) ++ List.replicate (2 - (lg_sl ([.int p0, .int p1])).length) Slot.unset).toArray = ls at hl ⊢
  have hl : lv_has ls 2 [(0, .int p0), (1, .int p1)] := hl
  have hP : va_P G vwCl [] s.heap := hP
  have hf : ((if p0 < 0 then some (0) else (if 12 < p0 then some (0) else (if p1 < 0 then some (0) else (if 12 < p1 then some (0) else (if 12 < (p0 + p1) then some (0) else some (1)))))) : Option (Int32)) = some o := hf
  refine lv_iload_n hx hb dX8_isSmall_0 rfl (lv_at hl 0 rfl) ?_
  refine lv_if_lt (tgt := 32) hx hb dX8_isSmall_1 (by decide) (fun c_21 => ?_) (fun c_21 => ?_)
  · have hf := ite_t c_21 hf
    refine lv_iconst (v := 0) hx hb dX8_isSmall_32 (by decide) ?_
    have ho := Option.some.inj hf
    subst ho
    exact W.zret (v := 0) hx hb hr rfl (fun t ht hW => ⟨⟨_, (), rfl, rfl, by rw [ht]; exact hP, va_K.moved hW.alike hK, hD⟩, hS.F ht⟩) hS.2.2 dX8_isSmall_33
  · have hf := ite_f c_21 hf
    refine lv_iload_n hx hb dX8_isSmall_4 rfl (lv_at hl 0 rfl) ?_
    refine lv_bipush (v := 12) hx hb dX8_isSmall_5 (by decide) ?_
    refine lv_icmp_gt (tgt := 32) hx hb dX8_isSmall_7 (by decide) (fun c_22 => ?_) (fun c_22 => ?_)
    · have hf := ite_t c_22 hf
      refine lv_iconst (v := 0) hx hb dX8_isSmall_32 (by decide) ?_
      have ho := Option.some.inj hf
      subst ho
      exact W.zret (v := 0) hx hb hr rfl (fun t ht hW => ⟨⟨_, (), rfl, rfl, by rw [ht]; exact hP, va_K.moved hW.alike hK, hD⟩, hS.F ht⟩) hS.2.2 dX8_isSmall_33
    · have hf := ite_f c_22 hf
      refine lv_iload_n hx hb dX8_isSmall_10 rfl (lv_at hl 1 rfl) ?_
      refine lv_if_lt (tgt := 32) hx hb dX8_isSmall_11 (by decide) (fun c_23 => ?_) (fun c_23 => ?_)
      · have hf := ite_t c_23 hf
        refine lv_iconst (v := 0) hx hb dX8_isSmall_32 (by decide) ?_
        have ho := Option.some.inj hf
        subst ho
        exact W.zret (v := 0) hx hb hr rfl (fun t ht hW => ⟨⟨_, (), rfl, rfl, by rw [ht]; exact hP, va_K.moved hW.alike hK, hD⟩, hS.F ht⟩) hS.2.2 dX8_isSmall_33
      · have hf := ite_f c_23 hf
        refine lv_iload_n hx hb dX8_isSmall_14 rfl (lv_at hl 1 rfl) ?_
        refine lv_bipush (v := 12) hx hb dX8_isSmall_15 (by decide) ?_
        refine lv_icmp_gt (tgt := 32) hx hb dX8_isSmall_17 (by decide) (fun c_24 => ?_) (fun c_24 => ?_)
        · have hf := ite_t c_24 hf
          refine lv_iconst (v := 0) hx hb dX8_isSmall_32 (by decide) ?_
          have ho := Option.some.inj hf
          subst ho
          exact W.zret (v := 0) hx hb hr rfl (fun t ht hW => ⟨⟨_, (), rfl, rfl, by rw [ht]; exact hP, va_K.moved hW.alike hK, hD⟩, hS.F ht⟩) hS.2.2 dX8_isSmall_33
        · have hf := ite_f c_24 hf
          refine lv_iload_n hx hb dX8_isSmall_20 rfl (lv_at hl 0 rfl) ?_
          refine lv_iload_n hx hb dX8_isSmall_21 rfl (lv_at hl 1 rfl) ?_
          refine lv_iadd hx hb dX8_isSmall_22 ?_
          refine lv_bipush (v := 12) hx hb dX8_isSmall_23 (by decide) ?_
          refine lv_icmp_gt (tgt := 32) hx hb dX8_isSmall_25 (by decide) (fun c_25 => ?_) (fun c_25 => ?_)
          · have hf := ite_t c_25 hf
            refine lv_iconst (v := 0) hx hb dX8_isSmall_32 (by decide) ?_
            have ho := Option.some.inj hf
            subst ho
            exact W.zret (v := 0) hx hb hr rfl (fun t ht hW => ⟨⟨_, (), rfl, rfl, by rw [ht]; exact hP, va_K.moved hW.alike hK, hD⟩, hS.F ht⟩) hS.2.2 dX8_isSmall_33
          · have hf := ite_f c_25 hf
            refine lv_iconst (v := 1) hx hb dX8_isSmall_28 (by decide) ?_
            refine lv_goto (tgt := 33) hx hb dX8_isSmall_29 (by decide) ?_
            have ho := Option.some.inj hf
            subst ho
            exact W.zret (v := 1) hx hb hr rfl (fun t ht hW => ⟨⟨_, (), rfl, rfl, by rw [ht]; exact hP, va_K.moved hW.alike hK, hD⟩, hS.F ht⟩) hS.2.2 dX8_isSmall_33
set_option maxRecDepth 100000 in
set_option maxHeartbeats 4000000 in
theorem kX8_isCountable (l : Launch) (G : va_G) (cy : Nat → ClassId) (sz : Nat) (p0 : Int32) (p1 : Int32) {o : Int32} (hf : fX8_isCountable p0 p1 = some o) : Met l yX8_isCountable (Cond.code yX8_isCountable cX8_isCountable 2 (some .boolean) :: AW) ({ frames := 1, cells := 0, slots := 0, locals := 21 } : Room) (va_Pc [.int p0, .int p1] (Wp G cy [] sz)) (va_Qi (fun r (_ : Unit) => r = o) (fun _ => Wq G cy (va_A [] sz) []) (va_A [] sz)) 0 0 (va_A [] sz) := by
  refine Met.ofW (cc := cX8_isCountable) (maxL := 2) (ret := (some .boolean)) (by decide) rfl ?_
  intro p e s m args below meth c s₁ B hml hv
  obtain ⟨rfl, hsz, hP, hK, hD0, hN⟩ := hv
  have hx := B.exec
  have hb := B.bytes
  have hr := B.returns
  have htA : ∀ w ∈ AW, w.before _ s = true := fun w h => atoms_spec (ws := Cond.code yX8_isCountable cX8_isCountable 2 (some .boolean) :: AW) B.pre w (List.mem_cons_of_mem _ h)
  have hown : s.vm.findClass RX8 = some m.cls := findClass_of_methodNamed B.named
  have hlocks := B.notSynchronized
  subst hsz
  have hD := hD0.self (sz := s.heap.size)
  generalize hAe : va_A [] s.heap.size = A at hD ⊢
  have hA : ∀ q : Nat, s.heap.size ≤ q → A q := fun q h => by rw [← hAe]; exact Or.inr h
  have hS : va_S A s.heap s.heap [] := va_S.rf
  have hl := lv_entry ([.int p0, .int p1]) (n := 2) (Nat.le_of_ble_eq_true rfl)
  rw [lg_entry_eq]
  generalize (lg_sl ([.int p0, .int p1]) ++ List.replicate (2 - (lg_sl ([.int p0, .int p1])).length) Slot.unset).toArray = ls at hl ⊢
  have hl : lv_has ls 2 [(0, .int p0), (1, .int p1)] := hl
  have hP : va_P G vwCl [] s.heap := hP
  have hf : ((fX8_isSmall p0 p1).bind fun q2 => ((if q2 = 0 then some (0) else (if (p0 + p1) < 1 then some (0) else some (1)))) : Option (Int32)) = some o := hf
  refine lv_iload_n hx hb dX8_isCountable_0 rfl (lv_at hl 0 rfl) ?_
  refine lv_iload_n hx hb dX8_isCountable_1 rfl (lv_at hl 1 rfl) ?_
  obtain ⟨q2, h2_13, hf⟩ := bd_s hf
  refine u_calliR (va_runS (As := [.int p0, .int p1]) (rest := []) ⟨hx, hb, hml, hown, htA⟩ (kX8_isSmall l G cy s.heap.size p0 p1 h2_13) (u_cwS htA a_ml_X8_225 pk_X8_isSmall ⟨Nat.le_of_ble_eq_true rfl, Nat.le_of_ble_eq_true rfl⟩) (u_preS hK hN hP hD [] rfl (by decide)) rfl rfl hl.1 rfl (lv_room (Nat.le_of_ble_eq_true rfl)) dX8_isCountable_2 ⟨Nat.zero_le _, Nat.zero_le _⟩) hP hD hS hA [] rfl (fun H locs hP hS => ?_)
  refine lv_if_eq (tgt := 19) hx hb dX8_isCountable_5 (by decide) (fun c_14 => ?_) (fun c_14 => ?_)
  · have hf := ite_t c_14 hf
    refine lv_iconst (v := 0) hx hb dX8_isCountable_19 (by decide) ?_
    have ho := Option.some.inj hf
    subst ho
    exact W.zret (v := 0) hx hb hr rfl (fun t ht hW => ⟨⟨_, (), rfl, rfl, by rw [ht]; exact hP, va_K.moved hW.alike hK, hD⟩, hS.F ht⟩) hS.2.2 dX8_isCountable_20
  · have hf := ite_f c_14 hf
    refine lv_iload_n hx hb dX8_isCountable_8 rfl (lv_at hl 0 rfl) ?_
    refine lv_iload_n hx hb dX8_isCountable_9 rfl (lv_at hl 1 rfl) ?_
    refine lv_iadd hx hb dX8_isCountable_10 ?_
    refine lv_iconst (v := 1) hx hb dX8_isCountable_11 (by decide) ?_
    refine lv_icmp_lt (tgt := 19) hx hb dX8_isCountable_12 (by decide) (fun c_15 => ?_) (fun c_15 => ?_)
    · have hf := ite_t c_15 hf
      refine lv_iconst (v := 0) hx hb dX8_isCountable_19 (by decide) ?_
      have ho := Option.some.inj hf
      subst ho
      exact W.zret (v := 0) hx hb hr rfl (fun t ht hW => ⟨⟨_, (), rfl, rfl, by rw [ht]; exact hP, va_K.moved hW.alike hK, hD⟩, hS.F ht⟩) hS.2.2 dX8_isCountable_20
    · have hf := ite_f c_15 hf
      refine lv_iconst (v := 1) hx hb dX8_isCountable_15 (by decide) ?_
      refine lv_goto (tgt := 20) hx hb dX8_isCountable_16 (by decide) ?_
      have ho := Option.some.inj hf
      subst ho
      exact W.zret (v := 1) hx hb hr rfl (fun t ht hW => ⟨⟨_, (), rfl, rfl, by rw [ht]; exact hP, va_K.moved hW.alike hK, hD⟩, hS.F ht⟩) hS.2.2 dX8_isCountable_20
set_option maxRecDepth 100000 in
set_option maxHeartbeats 4000000 in
theorem kX0_countAt (l : Launch) (G : va_G) (cy : Nat → ClassId) (q_this : Nat) (q_lowering : Nat) (q_sorts : Nat) (q_counts : Nat) (q_shares : Nat) (sz : Nat) (f_a : Int32) (f_b : Int32) (f_counts : Nat → Int32) (p1 : Int32) (p2 : Int32) {o : Int32} (hf : fX0_countAt p1 p2 f_counts = some o) : Met l yX0_countAt (Cond.code yX0_countAt cX0_countAt 3 (some .int) :: AW) ({ frames := 2, cells := 0, slots := 0, locals := 42 } : Room) (va_Pc [.ref q_this, .int p1, .int p2] (Wp G cy [(q_this, .inr (0, [.ref q_lowering, .ref q_sorts, .ref q_counts, .ref q_shares, .int f_a, .int f_b])), (q_counts, .inl (cy 0, 169, .inl f_counts))] sz)) (va_Qi (fun r (_ : Unit) => r = o) (fun _ => Wq G cy (va_A [(q_this, .inr (0, [.ref q_lowering, .ref q_sorts, .ref q_counts, .ref q_shares, .int f_a, .int f_b])), (q_counts, .inl (cy 0, 169, .inl f_counts))] sz) [(q_this, .inr (0, [.ref q_lowering, .ref q_sorts, .ref q_counts, .ref q_shares, .int f_a, .int f_b])), (q_counts, .inl (cy 0, 169, .inl f_counts))]) (va_A [(q_this, .inr (0, [.ref q_lowering, .ref q_sorts, .ref q_counts, .ref q_shares, .int f_a, .int f_b])), (q_counts, .inl (cy 0, 169, .inl f_counts))] sz)) 0 0 (va_A [(q_this, .inr (0, [.ref q_lowering, .ref q_sorts, .ref q_counts, .ref q_shares, .int f_a, .int f_b])), (q_counts, .inl (cy 0, 169, .inl f_counts))] sz) := by
  refine Met.ofW (cc := cX0_countAt) (maxL := 3) (ret := (some .int)) (by decide) rfl ?_
  intro p e s m args below meth c s₁ B hml hv
  obtain ⟨rfl, hsz, hP, hK, hD0, hN⟩ := hv
  have hx := B.exec
  have hb := B.bytes
  have hr := B.returns
  have htA : ∀ w ∈ AW, w.before _ s = true := fun w h => atoms_spec (ws := Cond.code yX0_countAt cX0_countAt 3 (some .int) :: AW) B.pre w (List.mem_cons_of_mem _ h)
  have hown : s.vm.findClass RX0 = some m.cls := findClass_of_methodNamed B.named
  have hlocks := B.notSynchronized
  subst hsz
  have hD := hD0.self (sz := s.heap.size)
  generalize hAe : va_A [(q_this, .inr (0, [.ref q_lowering, .ref q_sorts, .ref q_counts, .ref q_shares, .int f_a, .int f_b])), (q_counts, .inl (cy 0, 169, .inl f_counts))] s.heap.size = A at hD ⊢
  have hA : ∀ q : Nat, s.heap.size ≤ q → A q := fun q h => by rw [← hAe]; exact Or.inr h
  have hS : va_S A s.heap s.heap [] := va_S.rf
  have hl := lv_entry ([.ref q_this, .int p1, .int p2]) (n := 3) (Nat.le_of_ble_eq_true rfl)
  rw [lg_entry_eq]
  generalize (lg_sl ([.ref q_this, .int p1, .int p2]) ++ List.replicate (3 - (lg_sl ([.ref q_this, .int p1, .int p2])).length) Slot.unset).toArray = ls at hl ⊢
  have hl : lv_has ls 3 [(0, .ref q_this), (1, .int p1), (2, .int p2)] := hl
  have hP : va_P G vwCl [(q_this, .inr (0, [.ref q_lowering, .ref q_sorts, .ref q_counts, .ref q_shares, .int f_a, .int f_b])), (q_counts, .inl (cy 0, 169, .inl f_counts))] s.heap := hP
  have hf : ((fX8_isCountable p1 p2).bind fun q2 => ((if q2 = 0 then some (0) else ck ((13 * p1) + p2) 169 (some ((f_counts (Int32.toNatClampNeg ((13 * p1) + p2))))))) : Option (Int32)) = some o := hf
  refine lv_iload_n hx hb dX0_countAt_0 rfl (lv_at hl 1 rfl) ?_
  refine lv_iload_n hx hb dX0_countAt_1 rfl (lv_at hl 2 rfl) ?_
  obtain ⟨q2, h2_13, hf⟩ := bd_s hf
  refine u_calliR (va_runSN (As := [.int p1, .int p2]) (rest := []) ⟨hx, hb, hml, hown, htA⟩ (kX8_isCountable l G cy s.heap.size p1 p2 h2_13) (u_cnS htA hN (List.mem_of_getElem? (i := 25) rfl) pk_X8_isCountable ⟨Nat.le_of_ble_eq_true rfl, Nat.le_of_ble_eq_true rfl⟩) (u_preS hK hN hP hD [] rfl (by decide)) rfl rfl hl.1 rfl (lv_room (Nat.le_of_ble_eq_true rfl)) dX0_countAt_2 ⟨Nat.zero_le _, Nat.zero_le _⟩) hP hD hS hA [] rfl (fun H locs hP hS => ?_)
  refine lv_if_eq (tgt := 22) hx hb dX0_countAt_5 (by decide) (fun c_14 => ?_) (fun c_14 => ?_)
  · have hf := ite_t c_14 hf
    refine lv_iconst (v := 0) hx hb dX0_countAt_22 (by decide) ?_
    have ho := Option.some.inj hf
    subst ho
    exact W.iret (v := 0) hx hb hr (fun t ht hW => ⟨⟨_, (), rfl, rfl, by rw [ht]; exact hP, va_K.moved hW.alike hK, hD⟩, hS.F ht⟩) hS.2.2 dX0_countAt_23
  · have hf := ite_f c_14 hf
    refine lv_aload_n hx hb dX0_countAt_8 rfl (lv_at hl 0 rfl) ?_
    refine va_get (D := G) (ci := 0) (v := .ref q_counts) (C := RX0) (T := TX0) (N := 6) hx hb htA lyX0 hown hK hP 0 rfl rfl 2 (by decide) (htA _ a_fl_X0_15) (fun _ h9 => h9) rfl dX0_countAt_9 ?_
    refine lv_bipush (v := 13) hx hb dX0_countAt_12 (by decide) ?_
    refine lv_iload_n hx hb dX0_countAt_14 rfl (lv_at hl 1 rfl) ?_
    refine lv_imul hx hb dX0_countAt_15 ?_
    refine lv_iload_n hx hb dX0_countAt_16 rfl (lv_at hl 2 rfl) ?_
    refine lv_iadd hx hb dX0_countAt_17 ?_
    obtain ⟨i_15, hf⟩ := ck_s hf
    refine va_iald (D := G) hx hb hK hP 1 0 rfl rfl i_15 dX0_countAt_18 ?_
    refine lv_goto (tgt := 23) hx hb dX0_countAt_19 (by decide) ?_
    have ho := Option.some.inj hf
    subst ho
    exact W.iret (v := (f_counts (Int32.toNatClampNeg ((13 * p1) + p2)))) hx hb hr (fun t ht hW => ⟨⟨_, (), rfl, rfl, by rw [ht]; exact hP, va_K.moved hW.alike hK, hD⟩, hS.F ht⟩) hS.2.2 dX0_countAt_23
set_option maxRecDepth 100000 in
set_option maxHeartbeats 4000000 in
theorem wX0_sharesOfParts_5 {p : Program} {l : Launch} {e : Env} {s : State} {m : MethodId} {args : Array Value} {below : List Frame} {meth : Method} {c : Code} {G : va_G} {cy : Nat → ClassId} {A : Nat → Prop} {q_this : Nat} {q_lowering : Nat} {q_sorts : Nat} {q_counts : Nat} {q_shares : Nat} {f_a : Int32} {f_b : Int32} {f_counts : Nat → Int32} {n : Nat} {o : Int64} (C : Cx p s m args meth c cX0_sharesOfParts 6 (some .long) RX0 G cy A) : ∀ k5 : Nat, ∀ (v1 : Int32) (v2 : Int32) (v3 : Int64) (v5 : Int32) (H : Heap) (locs : List Loc) (ls : Array Slot), va_P G vwCl [(q_this, .inr (0, [.ref q_lowering, .ref q_sorts, .ref q_counts, .ref q_shares, .int f_a, .int f_b])), (q_counts, .inl (cy 0, 169, .inl f_counts))] H → va_D A [(q_this, .inr (0, [.ref q_lowering, .ref q_sorts, .ref q_counts, .ref q_shares, .int f_a, .int f_b])), (q_counts, .inl (cy 0, 169, .inl f_counts))] → va_S A s.heap H locs → lv_has ls 6 [(0, .ref q_this), (1, .int v1), (2, .int v2), (3, .long v3), (5, .int v5)] → lX0_sharesOfParts_5 n f_counts k5 v1 v2 v3 v5 = some o → W p l e (headSpec (Cond.code yX0_sharesOfParts cX0_sharesOfParts 6 (some .long) :: AW) ({ frames := 3, cells := 0, slots := 0, locals := 64 } : Room)).room s m args below meth c H locs 0 0 (MQ below (va_Ql (fun r (_ : Unit) => r = o) (fun _ => Wq G cy A [(q_this, .inr (0, [.ref q_lowering, .ref q_sorts, .ref q_counts, .ref q_shares, .int f_a, .int f_b])), (q_counts, .inl (cy 0, 169, .inl f_counts))]) A) args s 0 0 A) (F0 m 5 ls []) := by
  have C0 := C
  obtain ⟨hx, hb, hr, hml, htA, hown, hK, hN, hA, hlocks⟩ := C
  intro k5
  induction k5 with
  | zero =>
    intro v1 v2 v3 v5 H locs ls hP hD hS hl hf
    exact no_s hf
  | succ k5 ih5 =>
    intro v1 v2 v3 v5 H locs ls hP hD hS hl hf
    have hf : ((if 12 < v5 then some (v3) else dk (decide (¬ v5 = 0)) ((if (v1 - v1 / v5 * v5) = 0 then dk (decide (¬ v5 = 0)) ((if (v2 - v2 / v5 * v5) = 0 then dk (decide (¬ v5 = 0)) (dk (decide (¬ v5 = 0)) ((fX0_countAt (v1 / v5) (v2 / v5) f_counts).bind fun q36 => (dk (decide (¬ v5 = 0)) (lX0_sharesOfParts_5 n f_counts k5 v1 v2 (v3 + ((Int32.toInt64 q36) * (Int32.toInt64 (27720 / v5)))) (v5 + 1))))) else lX0_sharesOfParts_5 n f_counts k5 v1 v2 v3 (v5 + 1))) else lX0_sharesOfParts_5 n f_counts k5 v1 v2 v3 (v5 + 1)))) : Option (Int64)) = some o := hf
    refine lv_iload hx hb dX0_sharesOfParts_5 (lv_at hl 4 rfl) ?_
    refine lv_bipush (v := 12) hx hb dX0_sharesOfParts_7 (by decide) ?_
    refine lv_icmp_gt (tgt := 56) hx hb dX0_sharesOfParts_9 (by decide) (fun c_37 => ?_) (fun c_37 => ?_)
    · have hf := ite_t c_37 hf
      refine lv_lload_n hx hb dX0_sharesOfParts_56 rfl (lv_at hl 3 rfl) ?_
      have ho := Option.some.inj hf
      subst ho
      exact W.lret (v := v3) hx hb hr (fun t ht hW => ⟨⟨_, (), rfl, rfl, by rw [ht]; exact hP, va_K.moved hW.alike hK, hD⟩, hS.F ht⟩) hS.2.2 dX0_sharesOfParts_57
    · have hf := ite_f c_37 hf
      refine lv_iload_n hx hb dX0_sharesOfParts_12 rfl (lv_at hl 1 rfl) ?_
      refine lv_iload hx hb dX0_sharesOfParts_13 (lv_at hl 4 rfl) ?_
      obtain ⟨d_38, hf⟩ := dk_s hf
      refine lv_irem hx hb dX0_sharesOfParts_15 (dk_i d_38) ?_
      refine lv_if_ne (tgt := 50) hx hb dX0_sharesOfParts_16 (by decide) (fun c_39 => ?_) (fun c_39 => ?_)
      · have hf := ite_f c_39 hf
        refine lv_iinc (v := (v5 + 1)) (lv' := [(5, .int (v5 + 1)), (0, .ref q_this), (1, .int v1), (2, .int v2), (3, .long v3)]) hx hb dX0_sharesOfParts_50 hl (k := 4) rfl rfl (by decide) rfl (fun ls hl => ?_)
        refine lv_goto (tgt := 5) hx hb dX0_sharesOfParts_53 (by decide) ?_
        exact ih5 _ _ _ _ _ _ _ hP hD hS (lv_sub hl [1, 2, 3, 4, 0] rfl) hf
      · have hf := ite_t c_39 hf
        refine lv_iload_n hx hb dX0_sharesOfParts_19 rfl (lv_at hl 2 rfl) ?_
        refine lv_iload hx hb dX0_sharesOfParts_20 (lv_at hl 4 rfl) ?_
        obtain ⟨d_40, hf⟩ := dk_s hf
        refine lv_irem hx hb dX0_sharesOfParts_22 (dk_i d_40) ?_
        refine lv_if_ne (tgt := 50) hx hb dX0_sharesOfParts_23 (by decide) (fun c_41 => ?_) (fun c_41 => ?_)
        · have hf := ite_f c_41 hf
          refine lv_iinc (v := (v5 + 1)) (lv' := [(5, .int (v5 + 1)), (0, .ref q_this), (1, .int v1), (2, .int v2), (3, .long v3)]) hx hb dX0_sharesOfParts_50 hl (k := 4) rfl rfl (by decide) rfl (fun ls hl => ?_)
          refine lv_goto (tgt := 5) hx hb dX0_sharesOfParts_53 (by decide) ?_
          exact ih5 _ _ _ _ _ _ _ hP hD hS (lv_sub hl [1, 2, 3, 4, 0] rfl) hf
        · have hf := ite_t c_41 hf
          refine lv_lload_n hx hb dX0_sharesOfParts_26 rfl (lv_at hl 3 rfl) ?_
          refine lv_aload_n hx hb dX0_sharesOfParts_27 rfl (lv_at hl 0 rfl) ?_
          refine lv_iload_n hx hb dX0_sharesOfParts_28 rfl (lv_at hl 1 rfl) ?_
          refine lv_iload hx hb dX0_sharesOfParts_29 (lv_at hl 4 rfl) ?_
          obtain ⟨d_42, hf⟩ := dk_s hf
          refine lv_idiv hx hb dX0_sharesOfParts_31 (dk_i d_42) ?_
          refine lv_iload_n hx hb dX0_sharesOfParts_32 rfl (lv_at hl 2 rfl) ?_
          refine lv_iload hx hb dX0_sharesOfParts_33 (lv_at hl 4 rfl) ?_
          obtain ⟨d_43, hf⟩ := dk_s hf
          refine lv_idiv hx hb dX0_sharesOfParts_35 (dk_i d_43) ?_
          obtain ⟨q36, h36_44, hf⟩ := bd_s hf
          refine u_calliR (va_runV (As := [.int (v1 / v5), .int (v2 / v5)]) (rest := [.long v3]) ⟨hx, hb, hml, hown, htA⟩ (kX0_countAt l G cy q_this q_lowering q_sorts q_counts q_shares H.size f_a f_b f_counts (v1 / v5) (v2 / v5) h36_44) (u_cwV htA a_ml_X0_52 pk_X0_countAt ⟨Nat.le_of_ble_eq_true rfl, Nat.le_of_ble_eq_true rfl⟩) (u_preV hK hN hP hD [0, 1] rfl (by decide) 0 rfl rfl) rfl rfl hl.1 rfl (lv_room (Nat.le_of_ble_eq_true rfl)) dX0_sharesOfParts_36 ⟨Nat.zero_le _, Nat.zero_le _⟩) hP hD hS hA [0, 1] rfl (fun H locs hP hS => ?_)
          refine lv_i2l hx hb dX0_sharesOfParts_39 rfl ?_
          refine lv_sipush (v := 27720) hx hb dX0_sharesOfParts_40 (by decide) ?_
          refine lv_iload hx hb dX0_sharesOfParts_43 (lv_at hl 4 rfl) ?_
          obtain ⟨d_45, hf⟩ := dk_s hf
          refine lv_idiv hx hb dX0_sharesOfParts_45 (dk_i d_45) ?_
          refine lv_i2l hx hb dX0_sharesOfParts_46 rfl ?_
          refine lv_lmul hx hb dX0_sharesOfParts_47 ?_
          refine lv_ladd hx hb dX0_sharesOfParts_48 ?_
          refine lv_lstore_n (lv' := [(3, .long (v3 + ((Int32.toInt64 q36) * (Int32.toInt64 (27720 / v5))))), (0, .ref q_this), (1, .int v1), (2, .int v2), (5, .int v5)]) hx hb dX0_sharesOfParts_49 rfl hl (by decide) rfl (fun ls hl => ?_)
          refine lv_iinc (v := (v5 + 1)) (lv' := [(5, .int (v5 + 1)), (3, .long (v3 + ((Int32.toInt64 q36) * (Int32.toInt64 (27720 / v5))))), (0, .ref q_this), (1, .int v1), (2, .int v2)]) hx hb dX0_sharesOfParts_50 hl (k := 4) rfl rfl (by decide) rfl (fun ls hl => ?_)
          refine lv_goto (tgt := 5) hx hb dX0_sharesOfParts_53 (by decide) ?_
          exact ih5 _ _ _ _ _ _ _ hP hD hS (lv_sub hl [2, 3, 4, 1, 0] rfl) hf
set_option maxRecDepth 100000 in
set_option maxHeartbeats 4000000 in
theorem kX0_sharesOfParts (l : Launch) (G : va_G) (cy : Nat → ClassId) (q_this : Nat) (q_lowering : Nat) (q_sorts : Nat) (q_counts : Nat) (q_shares : Nat) (sz : Nat) (f_a : Int32) (f_b : Int32) (f_counts : Nat → Int32) (p1 : Int32) (p2 : Int32) (n : Nat) {o : Int64} (hf : fX0_sharesOfParts n p1 p2 f_counts = some o) : Met l yX0_sharesOfParts (Cond.code yX0_sharesOfParts cX0_sharesOfParts 6 (some .long) :: AW) ({ frames := 3, cells := 0, slots := 0, locals := 64 } : Room) (va_Pc [.ref q_this, .int p1, .int p2] (Wp G cy [(q_this, .inr (0, [.ref q_lowering, .ref q_sorts, .ref q_counts, .ref q_shares, .int f_a, .int f_b])), (q_counts, .inl (cy 0, 169, .inl f_counts))] sz)) (va_Ql (fun r (_ : Unit) => r = o) (fun _ => Wq G cy (va_A [(q_this, .inr (0, [.ref q_lowering, .ref q_sorts, .ref q_counts, .ref q_shares, .int f_a, .int f_b])), (q_counts, .inl (cy 0, 169, .inl f_counts))] sz) [(q_this, .inr (0, [.ref q_lowering, .ref q_sorts, .ref q_counts, .ref q_shares, .int f_a, .int f_b])), (q_counts, .inl (cy 0, 169, .inl f_counts))]) (va_A [(q_this, .inr (0, [.ref q_lowering, .ref q_sorts, .ref q_counts, .ref q_shares, .int f_a, .int f_b])), (q_counts, .inl (cy 0, 169, .inl f_counts))] sz)) 0 0 (va_A [(q_this, .inr (0, [.ref q_lowering, .ref q_sorts, .ref q_counts, .ref q_shares, .int f_a, .int f_b])), (q_counts, .inl (cy 0, 169, .inl f_counts))] sz) := by
  refine Met.ofW (cc := cX0_sharesOfParts) (maxL := 6) (ret := (some .long)) (by decide) rfl ?_
  intro p e s m args below meth c s₁ B hml hv
  obtain ⟨rfl, hsz, hP, hK, hD0, hN⟩ := hv
  have hx := B.exec
  have hb := B.bytes
  have hr := B.returns
  have htA : ∀ w ∈ AW, w.before _ s = true := fun w h => atoms_spec (ws := Cond.code yX0_sharesOfParts cX0_sharesOfParts 6 (some .long) :: AW) B.pre w (List.mem_cons_of_mem _ h)
  have hown : s.vm.findClass RX0 = some m.cls := findClass_of_methodNamed B.named
  have hlocks := B.notSynchronized
  subst hsz
  have hD := hD0.self (sz := s.heap.size)
  generalize hAe : va_A [(q_this, .inr (0, [.ref q_lowering, .ref q_sorts, .ref q_counts, .ref q_shares, .int f_a, .int f_b])), (q_counts, .inl (cy 0, 169, .inl f_counts))] s.heap.size = A at hD ⊢
  have hA : ∀ q : Nat, s.heap.size ≤ q → A q := fun q h => by rw [← hAe]; exact Or.inr h
  have hS : va_S A s.heap s.heap [] := va_S.rf
  have hl := lv_entry ([.ref q_this, .int p1, .int p2]) (n := 6) (Nat.le_of_ble_eq_true rfl)
  rw [lg_entry_eq]
  generalize (lg_sl ([.ref q_this, .int p1, .int p2]) ++ List.replicate (6 - (lg_sl ([.ref q_this, .int p1, .int p2])).length) Slot.unset).toArray = ls at hl ⊢
  have hl : lv_has ls 6 [(0, .ref q_this), (1, .int p1), (2, .int p2)] := hl
  have hP : va_P G vwCl [(q_this, .inr (0, [.ref q_lowering, .ref q_sorts, .ref q_counts, .ref q_shares, .int f_a, .int f_b])), (q_counts, .inl (cy 0, 169, .inl f_counts))] s.heap := hP
  have C0 : Cx p s m _ meth c cX0_sharesOfParts 6 (some .long) RX0 G cy A := ⟨hx, hb, hr, hml, htA, hown, hK, hN, hA, hlocks⟩
  have hf : (lX0_sharesOfParts_5 n f_counts n p1 p2 0 2 : Option (Int64)) = some o := hf
  refine lv_lconst (v := 0) hx hb dX0_sharesOfParts_0 (by decide) ?_
  refine lv_lstore_n (lv' := [(3, .long 0), (0, .ref q_this), (1, .int p1), (2, .int p2)]) hx hb dX0_sharesOfParts_1 rfl hl (by decide) rfl (fun ls hl => ?_)
  refine lv_iconst (v := 2) hx hb dX0_sharesOfParts_2 (by decide) ?_
  refine lv_istore (lv' := [(5, .int 2), (3, .long 0), (0, .ref q_this), (1, .int p1), (2, .int p2)]) hx hb dX0_sharesOfParts_3 hl (by decide) rfl (fun ls hl => ?_)
  exact wX0_sharesOfParts_5 C0 n _ _ _ _ _ _ _ hP hD hS (lv_sub hl [2, 3, 4, 1, 0] rfl) hf
set_option maxRecDepth 100000 in
set_option maxHeartbeats 4000000 in
theorem kX8_productOf (l : Launch) (G : va_G) (cy : Nat → ClassId) (sz : Nat) (p0 : Int32) (p1 : Int32) (p2 : Int64) (p4 : Int64) (p6 : Int64) (p8 : Int64) {o : Int64} (hf : fX8_productOf p0 p1 p2 p4 p6 p8 = some o) : Met l yX8_productOf (Cond.code yX8_productOf cX8_productOf 10 (some .long) :: AW) ({ frames := 0, cells := 0, slots := 0, locals := 0 } : Room) (va_Pc [.int p0, .int p1, .long p2, .long p4, .long p6, .long p8] (Wp G cy [] sz)) (va_Ql (fun r (_ : Unit) => r = o) (fun _ => Wq G cy (va_A [] sz) []) (va_A [] sz)) 0 0 (va_A [] sz) := by
  refine Met.ofW (cc := cX8_productOf) (maxL := 10) (ret := (some .long)) (by decide) rfl ?_
  intro p e s m args below meth c s₁ B hml hv
  obtain ⟨rfl, hsz, hP, hK, hD0, hN⟩ := hv
  have hx := B.exec
  have hb := B.bytes
  have hr := B.returns
  have htA : ∀ w ∈ AW, w.before _ s = true := fun w h => atoms_spec (ws := Cond.code yX8_productOf cX8_productOf 10 (some .long) :: AW) B.pre w (List.mem_cons_of_mem _ h)
  have hown : s.vm.findClass RX8 = some m.cls := findClass_of_methodNamed B.named
  have hlocks := B.notSynchronized
  subst hsz
  have hD := hD0.self (sz := s.heap.size)
  generalize hAe : va_A [] s.heap.size = A at hD ⊢
  have hA : ∀ q : Nat, s.heap.size ≤ q → A q := fun q h => by rw [← hAe]; exact Or.inr h
  have hS : va_S A s.heap s.heap [] := va_S.rf
  have hl := lv_entry ([.int p0, .int p1, .long p2, .long p4, .long p6, .long p8]) (n := 10) (Nat.le_of_ble_eq_true rfl)
  rw [lg_entry_eq]
  generalize (lg_sl ([.int p0, .int p1, .long p2, .long p4, .long p6, .long p8]) ++ List.replicate (10 - (lg_sl ([.int p0, .int p1, .long p2, .long p4, .long p6, .long p8])).length) Slot.unset).toArray = ls at hl ⊢
  have hl : lv_has ls 10 [(0, .int p0), (1, .int p1), (2, .long p2), (4, .long p4), (6, .long p6), (8, .long p8)] := hl
  have hP : va_P G vwCl [] s.heap := hP
  have hf : (some ((((((2 * (Int32.toInt64 p1)) * p2) * p6) - (((Int32.toInt64 p0) * (Int32.toInt64 p1)) * ((p2 * p8) + (p4 * p6)))) + (((2 * (Int32.toInt64 p0)) * p4) * p8))) : Option (Int64)) = some o := hf
  refine lv_ldc2 (v := 2) hx hb hown (htA _ a_cl_X8_296) dX8_productOf_0 ?_
  refine lv_iload_n hx hb dX8_productOf_3 rfl (lv_at hl 1 rfl) ?_
  refine lv_i2l hx hb dX8_productOf_4 rfl ?_
  refine lv_lmul hx hb dX8_productOf_5 ?_
  refine lv_lload_n hx hb dX8_productOf_6 rfl (lv_at hl 2 rfl) ?_
  refine lv_lmul hx hb dX8_productOf_7 ?_
  refine lv_lload hx hb dX8_productOf_8 (lv_at hl 4 rfl) ?_
  refine lv_lmul hx hb dX8_productOf_10 ?_
  refine lv_iload_n hx hb dX8_productOf_11 rfl (lv_at hl 0 rfl) ?_
  refine lv_i2l hx hb dX8_productOf_12 rfl ?_
  refine lv_iload_n hx hb dX8_productOf_13 rfl (lv_at hl 1 rfl) ?_
  refine lv_i2l hx hb dX8_productOf_14 rfl ?_
  refine lv_lmul hx hb dX8_productOf_15 ?_
  refine lv_lload_n hx hb dX8_productOf_16 rfl (lv_at hl 2 rfl) ?_
  refine lv_lload hx hb dX8_productOf_17 (lv_at hl 5 rfl) ?_
  refine lv_lmul hx hb dX8_productOf_19 ?_
  refine lv_lload hx hb dX8_productOf_20 (lv_at hl 3 rfl) ?_
  refine lv_lload hx hb dX8_productOf_22 (lv_at hl 4 rfl) ?_
  refine lv_lmul hx hb dX8_productOf_24 ?_
  refine lv_ladd hx hb dX8_productOf_25 ?_
  refine lv_lmul hx hb dX8_productOf_26 ?_
  refine lv_lsub hx hb dX8_productOf_27 ?_
  refine lv_ldc2 (v := 2) hx hb hown (htA _ a_cl_X8_296) dX8_productOf_28 ?_
  refine lv_iload_n hx hb dX8_productOf_31 rfl (lv_at hl 0 rfl) ?_
  refine lv_i2l hx hb dX8_productOf_32 rfl ?_
  refine lv_lmul hx hb dX8_productOf_33 ?_
  refine lv_lload hx hb dX8_productOf_34 (lv_at hl 3 rfl) ?_
  refine lv_lmul hx hb dX8_productOf_36 ?_
  refine lv_lload hx hb dX8_productOf_37 (lv_at hl 5 rfl) ?_
  refine lv_lmul hx hb dX8_productOf_39 ?_
  refine lv_ladd hx hb dX8_productOf_40 ?_
  have ho := Option.some.inj hf
  subst ho
  exact W.lret (v := (((((2 * (Int32.toInt64 p1)) * p2) * p6) - (((Int32.toInt64 p0) * (Int32.toInt64 p1)) * ((p2 * p8) + (p4 * p6)))) + (((2 * (Int32.toInt64 p0)) * p4) * p8))) hx hb hr (fun t ht hW => ⟨⟨_, (), rfl, rfl, by rw [ht]; exact hP, va_K.moved hW.alike hK, hD⟩, hS.F ht⟩) hS.2.2 dX8_productOf_41
set_option maxRecDepth 100000 in
set_option maxHeartbeats 4000000 in
theorem kX0_shareAt (l : Launch) (G : va_G) (cy : Nat → ClassId) (q_this : Nat) (q_lowering : Nat) (q_sorts : Nat) (q_counts : Nat) (q_shares : Nat) (sz : Nat) (f_a : Int32) (f_b : Int32) (f_shares : Nat → Int64) (p1 : Int32) (p2 : Int32) {o : Int64} (hf : fX0_shareAt p1 p2 f_shares = some o) : Met l yX0_shareAt (Cond.code yX0_shareAt cX0_shareAt 3 (some .long) :: AW) ({ frames := 2, cells := 0, slots := 0, locals := 42 } : Room) (va_Pc [.ref q_this, .int p1, .int p2] (Wp G cy [(q_this, .inr (0, [.ref q_lowering, .ref q_sorts, .ref q_counts, .ref q_shares, .int f_a, .int f_b])), (q_shares, .inl (cy 1, 169, .inr (.inl f_shares)))] sz)) (va_Ql (fun r (_ : Unit) => r = o) (fun _ => Wq G cy (va_A [(q_this, .inr (0, [.ref q_lowering, .ref q_sorts, .ref q_counts, .ref q_shares, .int f_a, .int f_b])), (q_shares, .inl (cy 1, 169, .inr (.inl f_shares)))] sz) [(q_this, .inr (0, [.ref q_lowering, .ref q_sorts, .ref q_counts, .ref q_shares, .int f_a, .int f_b])), (q_shares, .inl (cy 1, 169, .inr (.inl f_shares)))]) (va_A [(q_this, .inr (0, [.ref q_lowering, .ref q_sorts, .ref q_counts, .ref q_shares, .int f_a, .int f_b])), (q_shares, .inl (cy 1, 169, .inr (.inl f_shares)))] sz)) 0 0 (va_A [(q_this, .inr (0, [.ref q_lowering, .ref q_sorts, .ref q_counts, .ref q_shares, .int f_a, .int f_b])), (q_shares, .inl (cy 1, 169, .inr (.inl f_shares)))] sz) := by
  refine Met.ofW (cc := cX0_shareAt) (maxL := 3) (ret := (some .long)) (by decide) rfl ?_
  intro p e s m args below meth c s₁ B hml hv
  obtain ⟨rfl, hsz, hP, hK, hD0, hN⟩ := hv
  have hx := B.exec
  have hb := B.bytes
  have hr := B.returns
  have htA : ∀ w ∈ AW, w.before _ s = true := fun w h => atoms_spec (ws := Cond.code yX0_shareAt cX0_shareAt 3 (some .long) :: AW) B.pre w (List.mem_cons_of_mem _ h)
  have hown : s.vm.findClass RX0 = some m.cls := findClass_of_methodNamed B.named
  have hlocks := B.notSynchronized
  subst hsz
  have hD := hD0.self (sz := s.heap.size)
  generalize hAe : va_A [(q_this, .inr (0, [.ref q_lowering, .ref q_sorts, .ref q_counts, .ref q_shares, .int f_a, .int f_b])), (q_shares, .inl (cy 1, 169, .inr (.inl f_shares)))] s.heap.size = A at hD ⊢
  have hA : ∀ q : Nat, s.heap.size ≤ q → A q := fun q h => by rw [← hAe]; exact Or.inr h
  have hS : va_S A s.heap s.heap [] := va_S.rf
  have hl := lv_entry ([.ref q_this, .int p1, .int p2]) (n := 3) (Nat.le_of_ble_eq_true rfl)
  rw [lg_entry_eq]
  generalize (lg_sl ([.ref q_this, .int p1, .int p2]) ++ List.replicate (3 - (lg_sl ([.ref q_this, .int p1, .int p2])).length) Slot.unset).toArray = ls at hl ⊢
  have hl : lv_has ls 3 [(0, .ref q_this), (1, .int p1), (2, .int p2)] := hl
  have hP : va_P G vwCl [(q_this, .inr (0, [.ref q_lowering, .ref q_sorts, .ref q_counts, .ref q_shares, .int f_a, .int f_b])), (q_shares, .inl (cy 1, 169, .inr (.inl f_shares)))] s.heap := hP
  have hf : ((fX8_isCountable p1 p2).bind fun q2 => ((if q2 = 0 then some (0) else ck ((13 * p1) + p2) 169 (some ((f_shares (Int32.toNatClampNeg ((13 * p1) + p2))))))) : Option (Int64)) = some o := hf
  refine lv_iload_n hx hb dX0_shareAt_0 rfl (lv_at hl 1 rfl) ?_
  refine lv_iload_n hx hb dX0_shareAt_1 rfl (lv_at hl 2 rfl) ?_
  obtain ⟨q2, h2_13, hf⟩ := bd_s hf
  refine u_calliR (va_runSN (As := [.int p1, .int p2]) (rest := []) ⟨hx, hb, hml, hown, htA⟩ (kX8_isCountable l G cy s.heap.size p1 p2 h2_13) (u_cnS htA hN (List.mem_of_getElem? (i := 25) rfl) pk_X8_isCountable ⟨Nat.le_of_ble_eq_true rfl, Nat.le_of_ble_eq_true rfl⟩) (u_preS hK hN hP hD [] rfl (by decide)) rfl rfl hl.1 rfl (lv_room (Nat.le_of_ble_eq_true rfl)) dX0_shareAt_2 ⟨Nat.zero_le _, Nat.zero_le _⟩) hP hD hS hA [] rfl (fun H locs hP hS => ?_)
  refine lv_if_eq (tgt := 22) hx hb dX0_shareAt_5 (by decide) (fun c_14 => ?_) (fun c_14 => ?_)
  · have hf := ite_t c_14 hf
    refine lv_lconst (v := 0) hx hb dX0_shareAt_22 (by decide) ?_
    have ho := Option.some.inj hf
    subst ho
    exact W.lret (v := 0) hx hb hr (fun t ht hW => ⟨⟨_, (), rfl, rfl, by rw [ht]; exact hP, va_K.moved hW.alike hK, hD⟩, hS.F ht⟩) hS.2.2 dX0_shareAt_23
  · have hf := ite_f c_14 hf
    refine lv_aload_n hx hb dX0_shareAt_8 rfl (lv_at hl 0 rfl) ?_
    refine va_get (D := G) (ci := 0) (v := .ref q_shares) (C := RX0) (T := TX0) (N := 6) hx hb htA lyX0 hown hK hP 0 rfl rfl 3 (by decide) (htA _ a_fl_X0_18) (fun _ h9 => h9) rfl dX0_shareAt_9 ?_
    refine lv_bipush (v := 13) hx hb dX0_shareAt_12 (by decide) ?_
    refine lv_iload_n hx hb dX0_shareAt_14 rfl (lv_at hl 1 rfl) ?_
    refine lv_imul hx hb dX0_shareAt_15 ?_
    refine lv_iload_n hx hb dX0_shareAt_16 rfl (lv_at hl 2 rfl) ?_
    refine lv_iadd hx hb dX0_shareAt_17 ?_
    obtain ⟨i_15, hf⟩ := ck_s hf
    refine va_lald (D := G) hx hb hK hP 1 1 rfl rfl i_15 dX0_shareAt_18 ?_
    refine lv_goto (tgt := 23) hx hb dX0_shareAt_19 (by decide) ?_
    have ho := Option.some.inj hf
    subst ho
    exact W.lret (v := (f_shares (Int32.toNatClampNeg ((13 * p1) + p2)))) hx hb hr (fun t ht hW => ⟨⟨_, (), rfl, rfl, by rw [ht]; exact hP, va_K.moved hW.alike hK, hD⟩, hS.F ht⟩) hS.2.2 dX0_shareAt_23
set_option maxRecDepth 100000 in
set_option maxHeartbeats 4000000 in
theorem kX8_normOf (l : Launch) (G : va_G) (cy : Nat → ClassId) (sz : Nat) (p0 : Int32) (p1 : Int32) (p2 : Int32) (p3 : Int32) {o : Int64} (hf : fX8_normOf p0 p1 p2 p3 = some o) : Met l yX8_normOf (Cond.code yX8_normOf cX8_normOf 4 (some .long) :: AW) ({ frames := 1, cells := 0, slots := 0, locals := 29 } : Room) (va_Pc [.int p0, .int p1, .int p2, .int p3] (Wp G cy [] sz)) (va_Ql (fun r (_ : Unit) => r = o) (fun _ => Wq G cy (va_A [] sz) []) (va_A [] sz)) 0 0 (va_A [] sz) := by
  refine Met.ofW (cc := cX8_normOf) (maxL := 4) (ret := (some .long)) (by decide) rfl ?_
  intro p e s m args below meth c s₁ B hml hv
  obtain ⟨rfl, hsz, hP, hK, hD0, hN⟩ := hv
  have hx := B.exec
  have hb := B.bytes
  have hr := B.returns
  have htA : ∀ w ∈ AW, w.before _ s = true := fun w h => atoms_spec (ws := Cond.code yX8_normOf cX8_normOf 4 (some .long) :: AW) B.pre w (List.mem_cons_of_mem _ h)
  have hown : s.vm.findClass RX8 = some m.cls := findClass_of_methodNamed B.named
  have hlocks := B.notSynchronized
  subst hsz
  have hD := hD0.self (sz := s.heap.size)
  generalize hAe : va_A [] s.heap.size = A at hD ⊢
  have hA : ∀ q : Nat, s.heap.size ≤ q → A q := fun q h => by rw [← hAe]; exact Or.inr h
  have hS : va_S A s.heap s.heap [] := va_S.rf
  have hl := lv_entry ([.int p0, .int p1, .int p2, .int p3]) (n := 4) (Nat.le_of_ble_eq_true rfl)
  rw [lg_entry_eq]
  generalize (lg_sl ([.int p0, .int p1, .int p2, .int p3]) ++ List.replicate (4 - (lg_sl ([.int p0, .int p1, .int p2, .int p3])).length) Slot.unset).toArray = ls at hl ⊢
  have hl : lv_has ls 4 [(0, .int p0), (1, .int p1), (2, .int p2), (3, .int p3)] := hl
  have hP : va_P G vwCl [] s.heap := hP
  have hf : ((fX8_productOf p0 p1 (Int32.toInt64 p2) (Int32.toInt64 p3) (Int32.toInt64 p2) (Int32.toInt64 p3)).bind fun q10 => (some (q10)) : Option (Int64)) = some o := hf
  refine lv_iload_n hx hb dX8_normOf_0 rfl (lv_at hl 0 rfl) ?_
  refine lv_iload_n hx hb dX8_normOf_1 rfl (lv_at hl 1 rfl) ?_
  refine lv_iload_n hx hb dX8_normOf_2 rfl (lv_at hl 2 rfl) ?_
  refine lv_i2l hx hb dX8_normOf_3 rfl ?_
  refine lv_iload_n hx hb dX8_normOf_4 rfl (lv_at hl 3 rfl) ?_
  refine lv_i2l hx hb dX8_normOf_5 rfl ?_
  refine lv_iload_n hx hb dX8_normOf_6 rfl (lv_at hl 2 rfl) ?_
  refine lv_i2l hx hb dX8_normOf_7 rfl ?_
  refine lv_iload_n hx hb dX8_normOf_8 rfl (lv_at hl 3 rfl) ?_
  refine lv_i2l hx hb dX8_normOf_9 rfl ?_
  obtain ⟨q10, h10_5, hf⟩ := bd_s hf
  refine u_calllR (va_runS (As := [.int p0, .int p1, .long (Int32.toInt64 p2), .long (Int32.toInt64 p3), .long (Int32.toInt64 p2), .long (Int32.toInt64 p3)]) (rest := []) ⟨hx, hb, hml, hown, htA⟩ (kX8_productOf l G cy s.heap.size p0 p1 (Int32.toInt64 p2) (Int32.toInt64 p3) (Int32.toInt64 p2) (Int32.toInt64 p3) h10_5) (u_cwS htA a_ml_X8_176 pk_X8_productOf ⟨Nat.le_of_ble_eq_true rfl, Nat.le_of_ble_eq_true rfl⟩) (u_preS hK hN hP hD [] rfl (by decide)) rfl rfl hl.1 rfl (lv_room (Nat.le_of_ble_eq_true rfl)) dX8_normOf_10 ⟨Nat.zero_le _, Nat.zero_le _⟩) hP hD hS hA [] rfl (fun H locs hP hS => ?_)
  have ho := Option.some.inj hf
  subst ho
  exact W.lret (v := q10) hx hb hr (fun t ht hW => ⟨⟨_, (), rfl, rfl, by rw [ht]; exact hP, va_K.moved hW.alike hK, hD⟩, hS.F ht⟩) hS.2.2 dX8_normOf_13
set_option maxRecDepth 100000 in
set_option maxHeartbeats 4000000 in
theorem wX0_shareOfOther_14 {p : Program} {l : Launch} {e : Env} {s : State} {m : MethodId} {args : Array Value} {below : List Frame} {meth : Method} {c : Code} {G : va_G} {cy : Nat → ClassId} {A : Nat → Prop} {q_this : Nat} {q_lowering : Nat} {q_sorts : Nat} {q_counts : Nat} {q_shares : Nat} {f_a : Int32} {f_b : Int32} {f_shares : Nat → Int64} {n : Nat} {o : Int64} (C : Cx p s m args meth c cX0_shareOfOther 7 (some .long) RX0 G cy A) {K5 : Int32 → Int32 → Int64 → Int32 → Option (Int64)} (ih5 : ∀ (v1 : Int32) (v2 : Int32) (v3 : Int64) (v5 : Int32) (H : Heap) (locs : List Loc) (ls : Array Slot), va_P G vwCl [(q_this, .inr (0, [.ref q_lowering, .ref q_sorts, .ref q_counts, .ref q_shares, .int f_a, .int f_b])), (q_shares, .inl (cy 1, 169, .inr (.inl f_shares)))] H → va_D A [(q_this, .inr (0, [.ref q_lowering, .ref q_sorts, .ref q_counts, .ref q_shares, .int f_a, .int f_b])), (q_shares, .inl (cy 1, 169, .inr (.inl f_shares)))] → va_S A s.heap H locs → lv_has ls 7 [(0, .ref q_this), (1, .int v1), (2, .int v2), (3, .long v3), (5, .int v5)] → K5 v1 v2 v3 v5 = some o → W p l e (headSpec (Cond.code yX0_shareOfOther cX0_shareOfOther 7 (some .long) :: AW) ({ frames := 3, cells := 0, slots := 0, locals := 64 } : Room)).room s m args below meth c H locs 0 0 (MQ below (va_Ql (fun r (_ : Unit) => r = o) (fun _ => Wq G cy A [(q_this, .inr (0, [.ref q_lowering, .ref q_sorts, .ref q_counts, .ref q_shares, .int f_a, .int f_b])), (q_shares, .inl (cy 1, 169, .inr (.inl f_shares)))]) A) args s 0 0 A) (F0 m 5 ls [])) : ∀ k14 : Nat, ∀ (v1 : Int32) (v2 : Int32) (v3 : Int64) (v5 : Int32) (v6 : Int32) (H : Heap) (locs : List Loc) (ls : Array Slot), va_P G vwCl [(q_this, .inr (0, [.ref q_lowering, .ref q_sorts, .ref q_counts, .ref q_shares, .int f_a, .int f_b])), (q_shares, .inl (cy 1, 169, .inr (.inl f_shares)))] H → va_D A [(q_this, .inr (0, [.ref q_lowering, .ref q_sorts, .ref q_counts, .ref q_shares, .int f_a, .int f_b])), (q_shares, .inl (cy 1, 169, .inr (.inl f_shares)))] → va_S A s.heap H locs → lv_has ls 7 [(0, .ref q_this), (1, .int v1), (2, .int v2), (3, .long v3), (5, .int v5), (6, .int v6)] → lX0_shareOfOther_14 n f_a f_b f_shares K5 k14 v1 v2 v3 v5 v6 = some o → W p l e (headSpec (Cond.code yX0_shareOfOther cX0_shareOfOther 7 (some .long) :: AW) ({ frames := 3, cells := 0, slots := 0, locals := 64 } : Room)).room s m args below meth c H locs 0 0 (MQ below (va_Ql (fun r (_ : Unit) => r = o) (fun _ => Wq G cy A [(q_this, .inr (0, [.ref q_lowering, .ref q_sorts, .ref q_counts, .ref q_shares, .int f_a, .int f_b])), (q_shares, .inl (cy 1, 169, .inr (.inl f_shares)))]) A) args s 0 0 A) (F0 m 14 ls []) := by
  have C0 := C
  obtain ⟨hx, hb, hr, hml, htA, hown, hK, hN, hA, hlocks⟩ := C
  intro k14
  induction k14 with
  | zero =>
    intro v1 v2 v3 v5 v6 H locs ls hP hD hS hl hf
    exact no_s hf
  | succ k14 ih14 =>
    intro v1 v2 v3 v5 v6 H locs ls hP hD hS hl hf
    have hf : ((if v2 < v6 then K5 v1 v2 v3 (v5 + 1) else (fX8_isCountable v5 v6).bind fun q24 => ((if q24 = 0 then lX0_shareOfOther_14 n f_a f_b f_shares K5 k14 v1 v2 v3 v5 (v6 + 1) else (fX8_isCountable (v1 - v5) (v2 - v6)).bind fun q38 => ((if q38 = 0 then lX0_shareOfOther_14 n f_a f_b f_shares K5 k14 v1 v2 v3 v5 (v6 + 1) else (fX8_productOf f_a f_b (Int32.toInt64 v5) (Int32.toInt64 v6) (Int32.toInt64 (v1 - v5)) (Int32.toInt64 (v2 - v6))).bind fun q69 => ((fX0_shareAt v5 v6 f_shares).bind fun q77 => ((fX0_shareAt (v1 - v5) (v2 - v6) f_shares).bind fun q90 => (lX0_shareOfOther_14 n f_a f_b f_shares K5 k14 v1 v2 (v3 + ((q69 * q77) * q90)) v5 (v6 + 1))))))))) : Option (Int64)) = some o := hf
    refine lv_iload hx hb dX0_shareOfOther_14 (lv_at hl 5 rfl) ?_
    refine lv_iload_n hx hb dX0_shareOfOther_16 rfl (lv_at hl 2 rfl) ?_
    refine lv_icmp_gt (tgt := 102) hx hb dX0_shareOfOther_17 (by decide) (fun c_49 => ?_) (fun c_49 => ?_)
    · have hf := ite_t c_49 hf
      refine lv_iinc (v := (v5 + 1)) (lv' := [(5, .int (v5 + 1)), (0, .ref q_this), (1, .int v1), (2, .int v2), (3, .long v3), (6, .int v6)]) hx hb dX0_shareOfOther_102 hl (k := 4) rfl rfl (by decide) rfl (fun ls hl => ?_)
      refine lv_goto (tgt := 5) hx hb dX0_shareOfOther_105 (by decide) ?_
      exact ih5 _ _ _ _ _ _ _ hP hD hS (lv_sub hl [1, 2, 3, 4, 0] rfl) hf
    · have hf := ite_f c_49 hf
      refine lv_iload hx hb dX0_shareOfOther_20 (lv_at hl 4 rfl) ?_
      refine lv_iload hx hb dX0_shareOfOther_22 (lv_at hl 5 rfl) ?_
      obtain ⟨q24, h24_50, hf⟩ := bd_s hf
      refine u_calliR (va_runSN (As := [.int v5, .int v6]) (rest := []) ⟨hx, hb, hml, hown, htA⟩ (kX8_isCountable l G cy H.size v5 v6 h24_50) (u_cnS htA hN (List.mem_of_getElem? (i := 25) rfl) pk_X8_isCountable ⟨Nat.le_of_ble_eq_true rfl, Nat.le_of_ble_eq_true rfl⟩) (u_preS hK hN hP hD [] rfl (by decide)) rfl rfl hl.1 rfl (lv_room (Nat.le_of_ble_eq_true rfl)) dX0_shareOfOther_24 ⟨Nat.zero_le _, Nat.zero_le _⟩) hP hD hS hA [] rfl (fun H locs hP hS => ?_)
      refine lv_if_eq (tgt := 96) hx hb dX0_shareOfOther_27 (by decide) (fun c_51 => ?_) (fun c_51 => ?_)
      · have hf := ite_t c_51 hf
        refine lv_iinc (v := (v6 + 1)) (lv' := [(6, .int (v6 + 1)), (0, .ref q_this), (1, .int v1), (2, .int v2), (3, .long v3), (5, .int v5)]) hx hb dX0_shareOfOther_96 hl (k := 5) rfl rfl (by decide) rfl (fun ls hl => ?_)
        refine lv_goto (tgt := 14) hx hb dX0_shareOfOther_99 (by decide) ?_
        exact ih14 _ _ _ _ _ _ _ _ hP hD hS (lv_sub hl [1, 2, 3, 4, 5, 0] rfl) hf
      · have hf := ite_f c_51 hf
        refine lv_iload_n hx hb dX0_shareOfOther_30 rfl (lv_at hl 1 rfl) ?_
        refine lv_iload hx hb dX0_shareOfOther_31 (lv_at hl 4 rfl) ?_
        refine lv_isub hx hb dX0_shareOfOther_33 ?_
        refine lv_iload_n hx hb dX0_shareOfOther_34 rfl (lv_at hl 2 rfl) ?_
        refine lv_iload hx hb dX0_shareOfOther_35 (lv_at hl 5 rfl) ?_
        refine lv_isub hx hb dX0_shareOfOther_37 ?_
        obtain ⟨q38, h38_52, hf⟩ := bd_s hf
        refine u_calliR (va_runSN (As := [.int (v1 - v5), .int (v2 - v6)]) (rest := []) ⟨hx, hb, hml, hown, htA⟩ (kX8_isCountable l G cy H.size (v1 - v5) (v2 - v6) h38_52) (u_cnS htA hN (List.mem_of_getElem? (i := 25) rfl) pk_X8_isCountable ⟨Nat.le_of_ble_eq_true rfl, Nat.le_of_ble_eq_true rfl⟩) (u_preS hK hN hP hD [] rfl (by decide)) rfl rfl hl.1 rfl (lv_room (Nat.le_of_ble_eq_true rfl)) dX0_shareOfOther_38 ⟨Nat.zero_le _, Nat.zero_le _⟩) hP hD hS hA [] rfl (fun H locs hP hS => ?_)
        refine lv_if_eq (tgt := 96) hx hb dX0_shareOfOther_41 (by decide) (fun c_53 => ?_) (fun c_53 => ?_)
        · have hf := ite_t c_53 hf
          refine lv_iinc (v := (v6 + 1)) (lv' := [(6, .int (v6 + 1)), (0, .ref q_this), (1, .int v1), (2, .int v2), (3, .long v3), (5, .int v5)]) hx hb dX0_shareOfOther_96 hl (k := 5) rfl rfl (by decide) rfl (fun ls hl => ?_)
          refine lv_goto (tgt := 14) hx hb dX0_shareOfOther_99 (by decide) ?_
          exact ih14 _ _ _ _ _ _ _ _ hP hD hS (lv_sub hl [1, 2, 3, 4, 5, 0] rfl) hf
        · have hf := ite_f c_53 hf
          refine lv_lload_n hx hb dX0_shareOfOther_44 rfl (lv_at hl 3 rfl) ?_
          refine lv_aload_n hx hb dX0_shareOfOther_45 rfl (lv_at hl 0 rfl) ?_
          refine va_get (D := G) (ci := 0) (v := .int f_a) (C := RX0) (T := TX0) (N := 6) hx hb htA lyX0 hown hK hP 0 rfl rfl 4 (by decide) (htA _ a_fl_X0_22) (fun _ h9 => h9) rfl dX0_shareOfOther_46 ?_
          refine lv_aload_n hx hb dX0_shareOfOther_49 rfl (lv_at hl 0 rfl) ?_
          refine va_get (D := G) (ci := 0) (v := .int f_b) (C := RX0) (T := TX0) (N := 6) hx hb htA lyX0 hown hK hP 0 rfl rfl 5 (by decide) (htA _ a_fl_X0_26) (fun _ h9 => h9) rfl dX0_shareOfOther_50 ?_
          refine lv_iload hx hb dX0_shareOfOther_53 (lv_at hl 4 rfl) ?_
          refine lv_i2l hx hb dX0_shareOfOther_55 rfl ?_
          refine lv_iload hx hb dX0_shareOfOther_56 (lv_at hl 5 rfl) ?_
          refine lv_i2l hx hb dX0_shareOfOther_58 rfl ?_
          refine lv_iload_n hx hb dX0_shareOfOther_59 rfl (lv_at hl 1 rfl) ?_
          refine lv_iload hx hb dX0_shareOfOther_60 (lv_at hl 4 rfl) ?_
          refine lv_isub hx hb dX0_shareOfOther_62 ?_
          refine lv_i2l hx hb dX0_shareOfOther_63 rfl ?_
          refine lv_iload_n hx hb dX0_shareOfOther_64 rfl (lv_at hl 2 rfl) ?_
          refine lv_iload hx hb dX0_shareOfOther_65 (lv_at hl 5 rfl) ?_
          refine lv_isub hx hb dX0_shareOfOther_67 ?_
          refine lv_i2l hx hb dX0_shareOfOther_68 rfl ?_
          obtain ⟨q69, h69_54, hf⟩ := bd_s hf
          refine u_calllR (va_runSN (As := [.int f_a, .int f_b, .long (Int32.toInt64 v5), .long (Int32.toInt64 v6), .long (Int32.toInt64 (v1 - v5)), .long (Int32.toInt64 (v2 - v6))]) (rest := [.long v3]) ⟨hx, hb, hml, hown, htA⟩ (kX8_productOf l G cy H.size f_a f_b (Int32.toInt64 v5) (Int32.toInt64 v6) (Int32.toInt64 (v1 - v5)) (Int32.toInt64 (v2 - v6)) h69_54) (u_cnS htA hN (List.mem_of_getElem? (i := 26) rfl) pk_X8_productOf ⟨Nat.le_of_ble_eq_true rfl, Nat.le_of_ble_eq_true rfl⟩) (u_preS hK hN hP hD [] rfl (by decide)) rfl rfl hl.1 rfl (lv_room (Nat.le_of_ble_eq_true rfl)) dX0_shareOfOther_69 ⟨Nat.zero_le _, Nat.zero_le _⟩) hP hD hS hA [] rfl (fun H locs hP hS => ?_)
          refine lv_aload_n hx hb dX0_shareOfOther_72 rfl (lv_at hl 0 rfl) ?_
          refine lv_iload hx hb dX0_shareOfOther_73 (lv_at hl 4 rfl) ?_
          refine lv_iload hx hb dX0_shareOfOther_75 (lv_at hl 5 rfl) ?_
          obtain ⟨q77, h77_55, hf⟩ := bd_s hf
          refine u_calllR (va_runV (As := [.int v5, .int v6]) (rest := [.long q69, .long v3]) ⟨hx, hb, hml, hown, htA⟩ (kX0_shareAt l G cy q_this q_lowering q_sorts q_counts q_shares H.size f_a f_b f_shares v5 v6 h77_55) (u_cwV htA a_ml_X0_64 pk_X0_shareAt ⟨Nat.le_of_ble_eq_true rfl, Nat.le_of_ble_eq_true rfl⟩) (u_preV hK hN hP hD [0, 1] rfl (by decide) 0 rfl rfl) rfl rfl hl.1 rfl (lv_room (Nat.le_of_ble_eq_true rfl)) dX0_shareOfOther_77 ⟨Nat.zero_le _, Nat.zero_le _⟩) hP hD hS hA [0, 1] rfl (fun H locs hP hS => ?_)
          refine lv_lmul hx hb dX0_shareOfOther_80 ?_
          refine lv_aload_n hx hb dX0_shareOfOther_81 rfl (lv_at hl 0 rfl) ?_
          refine lv_iload_n hx hb dX0_shareOfOther_82 rfl (lv_at hl 1 rfl) ?_
          refine lv_iload hx hb dX0_shareOfOther_83 (lv_at hl 4 rfl) ?_
          refine lv_isub hx hb dX0_shareOfOther_85 ?_
          refine lv_iload_n hx hb dX0_shareOfOther_86 rfl (lv_at hl 2 rfl) ?_
          refine lv_iload hx hb dX0_shareOfOther_87 (lv_at hl 5 rfl) ?_
          refine lv_isub hx hb dX0_shareOfOther_89 ?_
          obtain ⟨q90, h90_56, hf⟩ := bd_s hf
          refine u_calllR (va_runV (As := [.int (v1 - v5), .int (v2 - v6)]) (rest := [.long (q69 * q77), .long v3]) ⟨hx, hb, hml, hown, htA⟩ (kX0_shareAt l G cy q_this q_lowering q_sorts q_counts q_shares H.size f_a f_b f_shares (v1 - v5) (v2 - v6) h90_56) (u_cwV htA a_ml_X0_64 pk_X0_shareAt ⟨Nat.le_of_ble_eq_true rfl, Nat.le_of_ble_eq_true rfl⟩) (u_preV hK hN hP hD [0, 1] rfl (by decide) 0 rfl rfl) rfl rfl hl.1 rfl (lv_room (Nat.le_of_ble_eq_true rfl)) dX0_shareOfOther_90 ⟨Nat.zero_le _, Nat.zero_le _⟩) hP hD hS hA [0, 1] rfl (fun H locs hP hS => ?_)
          refine lv_lmul hx hb dX0_shareOfOther_93 ?_
          refine lv_ladd hx hb dX0_shareOfOther_94 ?_
          refine lv_lstore_n (lv' := [(3, .long (v3 + ((q69 * q77) * q90))), (0, .ref q_this), (1, .int v1), (2, .int v2), (5, .int v5), (6, .int v6)]) hx hb dX0_shareOfOther_95 rfl hl (by decide) rfl (fun ls hl => ?_)
          refine lv_iinc (v := (v6 + 1)) (lv' := [(6, .int (v6 + 1)), (3, .long (v3 + ((q69 * q77) * q90))), (0, .ref q_this), (1, .int v1), (2, .int v2), (5, .int v5)]) hx hb dX0_shareOfOther_96 hl (k := 5) rfl rfl (by decide) rfl (fun ls hl => ?_)
          refine lv_goto (tgt := 14) hx hb dX0_shareOfOther_99 (by decide) ?_
          exact ih14 _ _ _ _ _ _ _ _ hP hD hS (lv_sub hl [2, 3, 4, 1, 5, 0] rfl) hf
set_option maxRecDepth 100000 in
set_option maxHeartbeats 4000000 in
theorem wX0_shareOfOther_5 {p : Program} {l : Launch} {e : Env} {s : State} {m : MethodId} {args : Array Value} {below : List Frame} {meth : Method} {c : Code} {G : va_G} {cy : Nat → ClassId} {A : Nat → Prop} {q_this : Nat} {q_lowering : Nat} {q_sorts : Nat} {q_counts : Nat} {q_shares : Nat} {f_a : Int32} {f_b : Int32} {f_shares : Nat → Int64} {n : Nat} {o : Int64} (C : Cx p s m args meth c cX0_shareOfOther 7 (some .long) RX0 G cy A) : ∀ k5 : Nat, ∀ (v1 : Int32) (v2 : Int32) (v3 : Int64) (v5 : Int32) (H : Heap) (locs : List Loc) (ls : Array Slot), va_P G vwCl [(q_this, .inr (0, [.ref q_lowering, .ref q_sorts, .ref q_counts, .ref q_shares, .int f_a, .int f_b])), (q_shares, .inl (cy 1, 169, .inr (.inl f_shares)))] H → va_D A [(q_this, .inr (0, [.ref q_lowering, .ref q_sorts, .ref q_counts, .ref q_shares, .int f_a, .int f_b])), (q_shares, .inl (cy 1, 169, .inr (.inl f_shares)))] → va_S A s.heap H locs → lv_has ls 7 [(0, .ref q_this), (1, .int v1), (2, .int v2), (3, .long v3), (5, .int v5)] → lX0_shareOfOther_5 n f_a f_b f_shares k5 v1 v2 v3 v5 = some o → W p l e (headSpec (Cond.code yX0_shareOfOther cX0_shareOfOther 7 (some .long) :: AW) ({ frames := 3, cells := 0, slots := 0, locals := 64 } : Room)).room s m args below meth c H locs 0 0 (MQ below (va_Ql (fun r (_ : Unit) => r = o) (fun _ => Wq G cy A [(q_this, .inr (0, [.ref q_lowering, .ref q_sorts, .ref q_counts, .ref q_shares, .int f_a, .int f_b])), (q_shares, .inl (cy 1, 169, .inr (.inl f_shares)))]) A) args s 0 0 A) (F0 m 5 ls []) := by
  have C0 := C
  obtain ⟨hx, hb, hr, hml, htA, hown, hK, hN, hA, hlocks⟩ := C
  intro k5
  induction k5 with
  | zero =>
    intro v1 v2 v3 v5 H locs ls hP hD hS hl hf
    exact no_s hf
  | succ k5 ih5 =>
    intro v1 v2 v3 v5 H locs ls hP hD hS hl hf
    have hf : ((if v1 < v5 then (fX8_normOf f_a f_b v1 v2).bind fun q118 => ((if (lg_cmp ((q118 - (2 * (Int32.toInt64 ((f_b * v1) + (f_a * v2))))) * 27720) 0) = 0 then some (0) else dk (decide (¬ ((q118 - (2 * (Int32.toInt64 ((f_b * v1) + (f_a * v2))))) * 27720) = 0)) (some ((v3 / ((q118 - (2 * (Int32.toInt64 ((f_b * v1) + (f_a * v2))))) * 27720)))))) else lX0_shareOfOther_14 n f_a f_b f_shares (lX0_shareOfOther_5 n f_a f_b f_shares k5) n v1 v2 v3 v5 0) : Option (Int64)) = some o := hf
    refine lv_iload hx hb dX0_shareOfOther_5 (lv_at hl 4 rfl) ?_
    refine lv_iload_n hx hb dX0_shareOfOther_7 rfl (lv_at hl 1 rfl) ?_
    refine lv_icmp_gt (tgt := 108) hx hb dX0_shareOfOther_8 (by decide) (fun c_57 => ?_) (fun c_57 => ?_)
    · have hf := ite_t c_57 hf
      refine lv_aload_n hx hb dX0_shareOfOther_108 rfl (lv_at hl 0 rfl) ?_
      refine va_get (D := G) (ci := 0) (v := .int f_a) (C := RX0) (T := TX0) (N := 6) hx hb htA lyX0 hown hK hP 0 rfl rfl 4 (by decide) (htA _ a_fl_X0_22) (fun _ h9 => h9) rfl dX0_shareOfOther_109 ?_
      refine lv_aload_n hx hb dX0_shareOfOther_112 rfl (lv_at hl 0 rfl) ?_
      refine va_get (D := G) (ci := 0) (v := .int f_b) (C := RX0) (T := TX0) (N := 6) hx hb htA lyX0 hown hK hP 0 rfl rfl 5 (by decide) (htA _ a_fl_X0_26) (fun _ h9 => h9) rfl dX0_shareOfOther_113 ?_
      refine lv_iload_n hx hb dX0_shareOfOther_116 rfl (lv_at hl 1 rfl) ?_
      refine lv_iload_n hx hb dX0_shareOfOther_117 rfl (lv_at hl 2 rfl) ?_
      obtain ⟨q118, h118_58, hf⟩ := bd_s hf
      refine u_calllR (va_runSN (As := [.int f_a, .int f_b, .int v1, .int v2]) (rest := []) ⟨hx, hb, hml, hown, htA⟩ (kX8_normOf l G cy H.size f_a f_b v1 v2 h118_58) (u_cnS htA hN (List.mem_of_getElem? (i := 27) rfl) pk_X8_normOf ⟨Nat.le_of_ble_eq_true rfl, Nat.le_of_ble_eq_true rfl⟩) (u_preS hK hN hP hD [] rfl (by decide)) rfl rfl hl.1 rfl (lv_room (Nat.le_of_ble_eq_true rfl)) dX0_shareOfOther_118 ⟨Nat.zero_le _, Nat.zero_le _⟩) hP hD hS hA [] rfl (fun H locs hP hS => ?_)
      refine lv_ldc2 (v := 2) hx hb hown (htA _ a_cl_X0_71) dX0_shareOfOther_121 ?_
      refine lv_aload_n hx hb dX0_shareOfOther_124 rfl (lv_at hl 0 rfl) ?_
      refine va_get (D := G) (ci := 0) (v := .int f_b) (C := RX0) (T := TX0) (N := 6) hx hb htA lyX0 hown hK hP 0 rfl rfl 5 (by decide) (htA _ a_fl_X0_26) (fun _ h9 => h9) rfl dX0_shareOfOther_125 ?_
      refine lv_iload_n hx hb dX0_shareOfOther_128 rfl (lv_at hl 1 rfl) ?_
      refine lv_imul hx hb dX0_shareOfOther_129 ?_
      refine lv_aload_n hx hb dX0_shareOfOther_130 rfl (lv_at hl 0 rfl) ?_
      refine va_get (D := G) (ci := 0) (v := .int f_a) (C := RX0) (T := TX0) (N := 6) hx hb htA lyX0 hown hK hP 0 rfl rfl 4 (by decide) (htA _ a_fl_X0_22) (fun _ h9 => h9) rfl dX0_shareOfOther_131 ?_
      refine lv_iload_n hx hb dX0_shareOfOther_134 rfl (lv_at hl 2 rfl) ?_
      refine lv_imul hx hb dX0_shareOfOther_135 ?_
      refine lv_iadd hx hb dX0_shareOfOther_136 ?_
      refine lv_i2l hx hb dX0_shareOfOther_137 rfl ?_
      refine lv_lmul hx hb dX0_shareOfOther_138 ?_
      refine lv_lsub hx hb dX0_shareOfOther_139 ?_
      refine lv_ldc2 (v := 27720) hx hb hown (htA _ a_cl_X0_47) dX0_shareOfOther_140 ?_
      refine lv_lmul hx hb dX0_shareOfOther_143 ?_
      refine lv_lstore (lv' := [(5, .long ((q118 - (2 * (Int32.toInt64 ((f_b * v1) + (f_a * v2))))) * 27720)), (0, .ref q_this), (1, .int v1), (2, .int v2), (3, .long v3)]) hx hb dX0_shareOfOther_144 hl (by decide) rfl (fun ls hl => ?_)
      refine lv_lload hx hb dX0_shareOfOther_146 (lv_at hl 0 rfl) ?_
      refine lv_lconst (v := 0) hx hb dX0_shareOfOther_148 (by decide) ?_
      refine W.lcmp hx hb dX0_shareOfOther_149 ?_
      refine lv_if_ne (tgt := 157) hx hb dX0_shareOfOther_150 (by decide) (fun c_59 => ?_) (fun c_59 => ?_)
      · have hf := ite_f c_59 hf
        refine lv_lload_n hx hb dX0_shareOfOther_157 rfl (lv_at hl 4 rfl) ?_
        refine lv_lload hx hb dX0_shareOfOther_158 (lv_at hl 0 rfl) ?_
        obtain ⟨d_60, hf⟩ := dk_s hf
        refine lv_ldiv hx hb dX0_shareOfOther_160 (dk_l d_60) ?_
        have ho := Option.some.inj hf
        subst ho
        exact W.lret (v := (v3 / ((q118 - (2 * (Int32.toInt64 ((f_b * v1) + (f_a * v2))))) * 27720))) hx hb hr (fun t ht hW => ⟨⟨_, (), rfl, rfl, by rw [ht]; exact hP, va_K.moved hW.alike hK, hD⟩, hS.F ht⟩) hS.2.2 dX0_shareOfOther_161
      · have hf := ite_t c_59 hf
        refine lv_lconst (v := 0) hx hb dX0_shareOfOther_153 (by decide) ?_
        refine lv_goto (tgt := 161) hx hb dX0_shareOfOther_154 (by decide) ?_
        have ho := Option.some.inj hf
        subst ho
        exact W.lret (v := 0) hx hb hr (fun t ht hW => ⟨⟨_, (), rfl, rfl, by rw [ht]; exact hP, va_K.moved hW.alike hK, hD⟩, hS.F ht⟩) hS.2.2 dX0_shareOfOther_161
    · have hf := ite_f c_57 hf
      refine lv_iconst (v := 0) hx hb dX0_shareOfOther_11 (by decide) ?_
      refine lv_istore (lv' := [(6, .int 0), (0, .ref q_this), (1, .int v1), (2, .int v2), (3, .long v3), (5, .int v5)]) hx hb dX0_shareOfOther_12 hl (by decide) rfl (fun ls hl => ?_)
      exact wX0_shareOfOther_14 C0 ih5 n _ _ _ _ _ _ _ _ hP hD hS (lv_sub hl [1, 2, 3, 4, 5, 0] rfl) hf
set_option maxRecDepth 100000 in
set_option maxHeartbeats 4000000 in
theorem kX0_shareOfOther (l : Launch) (G : va_G) (cy : Nat → ClassId) (q_this : Nat) (q_lowering : Nat) (q_sorts : Nat) (q_counts : Nat) (q_shares : Nat) (sz : Nat) (f_a : Int32) (f_b : Int32) (f_shares : Nat → Int64) (p1 : Int32) (p2 : Int32) (n : Nat) {o : Int64} (hf : fX0_shareOfOther n p1 p2 f_a f_b f_shares = some o) : Met l yX0_shareOfOther (Cond.code yX0_shareOfOther cX0_shareOfOther 7 (some .long) :: AW) ({ frames := 3, cells := 0, slots := 0, locals := 64 } : Room) (va_Pc [.ref q_this, .int p1, .int p2] (Wp G cy [(q_this, .inr (0, [.ref q_lowering, .ref q_sorts, .ref q_counts, .ref q_shares, .int f_a, .int f_b])), (q_shares, .inl (cy 1, 169, .inr (.inl f_shares)))] sz)) (va_Ql (fun r (_ : Unit) => r = o) (fun _ => Wq G cy (va_A [(q_this, .inr (0, [.ref q_lowering, .ref q_sorts, .ref q_counts, .ref q_shares, .int f_a, .int f_b])), (q_shares, .inl (cy 1, 169, .inr (.inl f_shares)))] sz) [(q_this, .inr (0, [.ref q_lowering, .ref q_sorts, .ref q_counts, .ref q_shares, .int f_a, .int f_b])), (q_shares, .inl (cy 1, 169, .inr (.inl f_shares)))]) (va_A [(q_this, .inr (0, [.ref q_lowering, .ref q_sorts, .ref q_counts, .ref q_shares, .int f_a, .int f_b])), (q_shares, .inl (cy 1, 169, .inr (.inl f_shares)))] sz)) 0 0 (va_A [(q_this, .inr (0, [.ref q_lowering, .ref q_sorts, .ref q_counts, .ref q_shares, .int f_a, .int f_b])), (q_shares, .inl (cy 1, 169, .inr (.inl f_shares)))] sz) := by
  refine Met.ofW (cc := cX0_shareOfOther) (maxL := 7) (ret := (some .long)) (by decide) rfl ?_
  intro p e s m args below meth c s₁ B hml hv
  obtain ⟨rfl, hsz, hP, hK, hD0, hN⟩ := hv
  have hx := B.exec
  have hb := B.bytes
  have hr := B.returns
  have htA : ∀ w ∈ AW, w.before _ s = true := fun w h => atoms_spec (ws := Cond.code yX0_shareOfOther cX0_shareOfOther 7 (some .long) :: AW) B.pre w (List.mem_cons_of_mem _ h)
  have hown : s.vm.findClass RX0 = some m.cls := findClass_of_methodNamed B.named
  have hlocks := B.notSynchronized
  subst hsz
  have hD := hD0.self (sz := s.heap.size)
  generalize hAe : va_A [(q_this, .inr (0, [.ref q_lowering, .ref q_sorts, .ref q_counts, .ref q_shares, .int f_a, .int f_b])), (q_shares, .inl (cy 1, 169, .inr (.inl f_shares)))] s.heap.size = A at hD ⊢
  have hA : ∀ q : Nat, s.heap.size ≤ q → A q := fun q h => by rw [← hAe]; exact Or.inr h
  have hS : va_S A s.heap s.heap [] := va_S.rf
  have hl := lv_entry ([.ref q_this, .int p1, .int p2]) (n := 7) (Nat.le_of_ble_eq_true rfl)
  rw [lg_entry_eq]
  generalize (lg_sl ([.ref q_this, .int p1, .int p2]) ++ List.replicate (7 - (lg_sl ([.ref q_this, .int p1, .int p2])).length) Slot.unset).toArray = ls at hl ⊢
  have hl : lv_has ls 7 [(0, .ref q_this), (1, .int p1), (2, .int p2)] := hl
  have hP : va_P G vwCl [(q_this, .inr (0, [.ref q_lowering, .ref q_sorts, .ref q_counts, .ref q_shares, .int f_a, .int f_b])), (q_shares, .inl (cy 1, 169, .inr (.inl f_shares)))] s.heap := hP
  have C0 : Cx p s m _ meth c cX0_shareOfOther 7 (some .long) RX0 G cy A := ⟨hx, hb, hr, hml, htA, hown, hK, hN, hA, hlocks⟩
  have hf : (lX0_shareOfOther_5 n f_a f_b f_shares n p1 p2 0 0 : Option (Int64)) = some o := hf
  refine lv_lconst (v := 0) hx hb dX0_shareOfOther_0 (by decide) ?_
  refine lv_lstore_n (lv' := [(3, .long 0), (0, .ref q_this), (1, .int p1), (2, .int p2)]) hx hb dX0_shareOfOther_1 rfl hl (by decide) rfl (fun ls hl => ?_)
  refine lv_iconst (v := 0) hx hb dX0_shareOfOther_2 (by decide) ?_
  refine lv_istore (lv' := [(5, .int 0), (3, .long 0), (0, .ref q_this), (1, .int p1), (2, .int p2)]) hx hb dX0_shareOfOther_3 hl (by decide) rfl (fun ls hl => ?_)
  exact wX0_shareOfOther_5 C0 n _ _ _ _ _ _ _ hP hD hS (lv_sub hl [2, 3, 4, 1, 0] rfl) hf
set_option maxRecDepth 100000 in
set_option maxHeartbeats 4000000 in
theorem kX0_fillPlace (l : Launch) (G : va_G) (cy : Nat → ClassId) (q_this : Nat) (q_lowering : Nat) (q_sorts : Nat) (q_counts : Nat) (q_shares : Nat) (sz : Nat) (f_a : Int32) (f_b : Int32) (f_lowering_x : Int32) (f_lowering_y : Int32) (f_lowering_steps : Int32) (f_lowering_metLetter : Int32) (f_sorts : Nat → Int32) (f_counts : Nat → Int32) (f_shares : Nat → Int64) (p1 : Int32) (p2 : Int32) (n : Nat) {o : Int32 × Int32 × Int32 × Int32 × (Nat → Int32) × (Nat → Int32) × (Nat → Int64)} (hf : fX0_fillPlace n p1 p2 f_a f_b f_lowering_x f_lowering_y f_lowering_steps f_lowering_metLetter f_sorts f_counts f_shares = some o) : Met l yX0_fillPlace (Cond.code yX0_fillPlace cX0_fillPlace 7 none :: AW) ({ frames := 4, cells := 0, slots := 0, locals := 90 } : Room) (va_Pc [.ref q_this, .int p1, .int p2] (Wp G cy [(q_this, .inr (0, [.ref q_lowering, .ref q_sorts, .ref q_counts, .ref q_shares, .int f_a, .int f_b])), (q_lowering, .inr (3, [.int f_lowering_x, .int f_lowering_y, .int f_lowering_steps, .int f_lowering_metLetter])), (q_sorts, .inl (cy 0, 169, .inl f_sorts)), (q_counts, .inl (cy 0, 169, .inl f_counts)), (q_shares, .inl (cy 1, 169, .inr (.inl f_shares)))] sz)) (va_Qv (fun (_ : Unit) => True) (fun _ => Wq G cy (va_A [(q_this, .inr (0, [.ref q_lowering, .ref q_sorts, .ref q_counts, .ref q_shares, .int f_a, .int f_b])), (q_lowering, .inr (3, [.int f_lowering_x, .int f_lowering_y, .int f_lowering_steps, .int f_lowering_metLetter])), (q_sorts, .inl (cy 0, 169, .inl f_sorts)), (q_counts, .inl (cy 0, 169, .inl f_counts)), (q_shares, .inl (cy 1, 169, .inr (.inl f_shares)))] sz) [(q_this, .inr (0, [.ref q_lowering, .ref q_sorts, .ref q_counts, .ref q_shares, .int f_a, .int f_b])), (q_lowering, .inr (3, [.int o.1, .int o.2.1, .int o.2.2.1, .int o.2.2.2.1])), (q_sorts, .inl (cy 0, 169, .inl o.2.2.2.2.1)), (q_counts, .inl (cy 0, 169, .inl o.2.2.2.2.2.1)), (q_shares, .inl (cy 1, 169, .inr (.inl o.2.2.2.2.2.2)))]) (va_A [(q_this, .inr (0, [.ref q_lowering, .ref q_sorts, .ref q_counts, .ref q_shares, .int f_a, .int f_b])), (q_lowering, .inr (3, [.int f_lowering_x, .int f_lowering_y, .int f_lowering_steps, .int f_lowering_metLetter])), (q_sorts, .inl (cy 0, 169, .inl f_sorts)), (q_counts, .inl (cy 0, 169, .inl f_counts)), (q_shares, .inl (cy 1, 169, .inr (.inl f_shares)))] sz)) 0 0 (va_A [(q_this, .inr (0, [.ref q_lowering, .ref q_sorts, .ref q_counts, .ref q_shares, .int f_a, .int f_b])), (q_lowering, .inr (3, [.int f_lowering_x, .int f_lowering_y, .int f_lowering_steps, .int f_lowering_metLetter])), (q_sorts, .inl (cy 0, 169, .inl f_sorts)), (q_counts, .inl (cy 0, 169, .inl f_counts)), (q_shares, .inl (cy 1, 169, .inr (.inl f_shares)))] sz) := by
  refine Met.ofW (cc := cX0_fillPlace) (maxL := 7) (ret := none) (by decide) rfl ?_
  intro p e s m args below meth c s₁ B hml hv
  obtain ⟨rfl, hsz, hP, hK, hD0, hN⟩ := hv
  have hx := B.exec
  have hb := B.bytes
  have hr := B.returns
  have htA : ∀ w ∈ AW, w.before _ s = true := fun w h => atoms_spec (ws := Cond.code yX0_fillPlace cX0_fillPlace 7 none :: AW) B.pre w (List.mem_cons_of_mem _ h)
  have hown : s.vm.findClass RX0 = some m.cls := findClass_of_methodNamed B.named
  have hlocks := B.notSynchronized
  subst hsz
  have hD := hD0.self (sz := s.heap.size)
  generalize hAe : va_A [(q_this, .inr (0, [.ref q_lowering, .ref q_sorts, .ref q_counts, .ref q_shares, .int f_a, .int f_b])), (q_lowering, .inr (3, [.int f_lowering_x, .int f_lowering_y, .int f_lowering_steps, .int f_lowering_metLetter])), (q_sorts, .inl (cy 0, 169, .inl f_sorts)), (q_counts, .inl (cy 0, 169, .inl f_counts)), (q_shares, .inl (cy 1, 169, .inr (.inl f_shares)))] s.heap.size = A at hD ⊢
  have hA : ∀ q : Nat, s.heap.size ≤ q → A q := fun q h => by rw [← hAe]; exact Or.inr h
  have hS : va_S A s.heap s.heap [] := va_S.rf
  have hl := lv_entry ([.ref q_this, .int p1, .int p2]) (n := 7) (Nat.le_of_ble_eq_true rfl)
  rw [lg_entry_eq]
  generalize (lg_sl ([.ref q_this, .int p1, .int p2]) ++ List.replicate (7 - (lg_sl ([.ref q_this, .int p1, .int p2])).length) Slot.unset).toArray = ls at hl ⊢
  have hl : lv_has ls 7 [(0, .ref q_this), (1, .int p1), (2, .int p2)] := hl
  have hP : va_P G vwCl [(q_this, .inr (0, [.ref q_lowering, .ref q_sorts, .ref q_counts, .ref q_shares, .int f_a, .int f_b])), (q_lowering, .inr (3, [.int f_lowering_x, .int f_lowering_y, .int f_lowering_steps, .int f_lowering_metLetter])), (q_sorts, .inl (cy 0, 169, .inl f_sorts)), (q_counts, .inl (cy 0, 169, .inl f_counts)), (q_shares, .inl (cy 1, 169, .inr (.inl f_shares)))] s.heap := hP
  have hf : ((fX3_sortOf n f_a f_b p1 p2 f_lowering_x f_lowering_y f_lowering_steps f_lowering_metLetter).bind fun q21 => ((fX0_sharesOfParts n p1 p2 f_counts).bind fun q29 => (ck ((13 * p1) + p2) 169 ((if q21.1 = 1 then ck ((13 * p1) + p2) 169 (ck ((13 * p1) + p2) 169 (some (q21.2.1, q21.2.2.1, q21.2.2.2.1, q21.2.2.2.2, (upd f_sorts (Int32.toNatClampNeg ((13 * p1) + p2)) q21.1), (upd f_counts (Int32.toNatClampNeg ((13 * p1) + p2)) 1), (vp_updL f_shares (Int32.toNatClampNeg ((13 * p1) + p2)) 27720)))) else (if q21.1 = 2 then (fX0_shareOfOther n p1 p2 f_a f_b f_shares).bind fun q81 => (ck ((13 * p1) + p2) 169 (ck ((13 * p1) + p2) 169 (ck ((13 * p1) + p2) 169 (some (q21.2.1, q21.2.2.1, q21.2.2.2.1, q21.2.2.2.2, (upd f_sorts (Int32.toNatClampNeg ((13 * p1) + p2)) q21.1), (upd f_counts (Int32.toNatClampNeg ((13 * p1) + p2)) (Int64.toInt32 ((((vp_updL f_shares (Int32.toNatClampNeg ((13 * p1) + p2)) q81) (Int32.toNatClampNeg ((13 * p1) + p2))) - q29) / 27720))), (vp_updL f_shares (Int32.toNatClampNeg ((13 * p1) + p2)) q81)))))) else ck ((13 * p1) + p2) 169 (ck ((13 * p1) + p2) 169 (some (q21.2.1, q21.2.2.1, q21.2.2.2.1, q21.2.2.2.2, (upd f_sorts (Int32.toNatClampNeg ((13 * p1) + p2)) q21.1), (upd f_counts (Int32.toNatClampNeg ((13 * p1) + p2)) 0), (vp_updL f_shares (Int32.toNatClampNeg ((13 * p1) + p2)) q29))))))))) : Option (Int32 × Int32 × Int32 × Int32 × (Nat → Int32) × (Nat → Int32) × (Nat → Int64))) = some o := hf
  refine lv_bipush (v := 13) hx hb dX0_fillPlace_0 (by decide) ?_
  refine lv_iload_n hx hb dX0_fillPlace_2 rfl (lv_at hl 1 rfl) ?_
  refine lv_imul hx hb dX0_fillPlace_3 ?_
  refine lv_iload_n hx hb dX0_fillPlace_4 rfl (lv_at hl 2 rfl) ?_
  refine lv_iadd hx hb dX0_fillPlace_5 ?_
  refine lv_istore_n (lv' := [(3, .int ((13 * p1) + p2)), (0, .ref q_this), (1, .int p1), (2, .int p2)]) hx hb dX0_fillPlace_6 rfl hl (by decide) rfl (fun ls hl => ?_)
  refine lv_aload_n hx hb dX0_fillPlace_7 rfl (lv_at hl 1 rfl) ?_
  refine va_get (D := G) (ci := 0) (v := .ref q_lowering) (C := RX0) (T := TX0) (N := 6) hx hb htA lyX0 hown hK hP 0 rfl rfl 0 (by decide) (htA _ a_fl_X0_29) (fun _ h9 => h9) rfl dX0_fillPlace_8 ?_
  refine lv_aload_n hx hb dX0_fillPlace_11 rfl (lv_at hl 1 rfl) ?_
  refine va_get (D := G) (ci := 0) (v := .int f_a) (C := RX0) (T := TX0) (N := 6) hx hb htA lyX0 hown hK hP 0 rfl rfl 4 (by decide) (htA _ a_fl_X0_22) (fun _ h9 => h9) rfl dX0_fillPlace_12 ?_
  refine lv_aload_n hx hb dX0_fillPlace_15 rfl (lv_at hl 1 rfl) ?_
  refine va_get (D := G) (ci := 0) (v := .int f_b) (C := RX0) (T := TX0) (N := 6) hx hb htA lyX0 hown hK hP 0 rfl rfl 5 (by decide) (htA _ a_fl_X0_26) (fun _ h9 => h9) rfl dX0_fillPlace_16 ?_
  refine lv_iload_n hx hb dX0_fillPlace_19 rfl (lv_at hl 2 rfl) ?_
  refine lv_iload_n hx hb dX0_fillPlace_20 rfl (lv_at hl 3 rfl) ?_
  obtain ⟨q21, h21_53, hf⟩ := bd_s hf
  refine u_calli [(q_this, .inr (0, [.ref q_lowering, .ref q_sorts, .ref q_counts, .ref q_shares, .int f_a, .int f_b])), (q_lowering, .inr (3, [.int q21.2.1, .int q21.2.2.1, .int q21.2.2.2.1, .int q21.2.2.2.2])), (q_sorts, .inl (cy 0, 169, .inl f_sorts)), (q_counts, .inl (cy 0, 169, .inl f_counts)), (q_shares, .inl (cy 1, 169, .inr (.inl f_shares)))] (va_runV (As := [.int f_a, .int f_b, .int p1, .int p2]) (rest := []) ⟨hx, hb, hml, hown, htA⟩ (kX3_sortOf l G cy q_lowering s.heap.size f_lowering_x f_lowering_y f_lowering_steps f_lowering_metLetter f_a f_b p1 p2 n h21_53) (u_cwV htA a_ml_X0_37 pk_X3_sortOf ⟨Nat.le_of_ble_eq_true rfl, Nat.le_of_ble_eq_true rfl⟩) (u_preV hK hN hP hD [1] rfl (by decide) 1 rfl rfl) rfl rfl hl.1 rfl (lv_room (Nat.le_of_ble_eq_true rfl)) dX0_fillPlace_21 ⟨Nat.zero_le _, Nat.zero_le _⟩) hP hD hS hA [1] rfl [0, 2, 3, 4] 5 rfl rfl rfl (by decide) rfl (fun H locs hP hD hS => ?_)
  refine lv_istore (lv' := [(4, .int q21.1), (3, .int ((13 * p1) + p2)), (0, .ref q_this), (1, .int p1), (2, .int p2)]) hx hb dX0_fillPlace_24 hl (by decide) rfl (fun ls hl => ?_)
  refine lv_aload_n hx hb dX0_fillPlace_26 rfl (lv_at hl 2 rfl) ?_
  refine lv_iload_n hx hb dX0_fillPlace_27 rfl (lv_at hl 3 rfl) ?_
  refine lv_iload_n hx hb dX0_fillPlace_28 rfl (lv_at hl 4 rfl) ?_
  obtain ⟨q29, h29_54, hf⟩ := bd_s hf
  refine u_calllR (va_runV (As := [.int p1, .int p2]) (rest := []) ⟨hx, hb, hml, hown, htA⟩ (kX0_sharesOfParts l G cy q_this q_lowering q_sorts q_counts q_shares H.size f_a f_b f_counts p1 p2 n h29_54) (u_cwV htA a_ml_X0_43 pk_X0_sharesOfParts ⟨Nat.le_of_ble_eq_true rfl, Nat.le_of_ble_eq_true rfl⟩) (u_preV hK hN hP hD [0, 3] rfl (by decide) 0 rfl rfl) rfl rfl hl.1 rfl (lv_room (Nat.le_of_ble_eq_true rfl)) dX0_fillPlace_29 ⟨Nat.zero_le _, Nat.zero_le _⟩) hP hD hS hA [0, 3] rfl (fun H locs hP hS => ?_)
  refine lv_lstore (lv' := [(5, .long q29), (4, .int q21.1), (3, .int ((13 * p1) + p2)), (0, .ref q_this), (1, .int p1), (2, .int p2)]) hx hb dX0_fillPlace_32 hl (by decide) rfl (fun ls hl => ?_)
  refine lv_aload_n hx hb dX0_fillPlace_34 rfl (lv_at hl 3 rfl) ?_
  refine va_get (D := G) (ci := 0) (v := .ref q_sorts) (C := RX0) (T := TX0) (N := 6) hx hb htA lyX0 hown hK hP 0 rfl rfl 1 (by decide) (htA _ a_fl_X0_9) (fun _ h9 => h9) rfl dX0_fillPlace_35 ?_
  refine lv_iload_n hx hb dX0_fillPlace_38 rfl (lv_at hl 2 rfl) ?_
  refine lv_iload hx hb dX0_fillPlace_39 (lv_at hl 1 rfl) ?_
  obtain ⟨i_55, hf⟩ := ck_s hf
  refine va_iast (D := G) hx hb hK hP hD hS 2 0 rfl rfl i_55 dX0_fillPlace_41 (fun H locs hP hD hS => ?_)
  have hP : va_P G vwCl [(q_this, .inr (0, [.ref q_lowering, .ref q_sorts, .ref q_counts, .ref q_shares, .int f_a, .int f_b])), (q_lowering, .inr (3, [.int q21.2.1, .int q21.2.2.1, .int q21.2.2.2.1, .int q21.2.2.2.2])), (q_sorts, .inl (cy 0, 169, .inl (upd f_sorts (Int32.toNatClampNeg ((13 * p1) + p2)) q21.1))), (q_counts, .inl (cy 0, 169, .inl f_counts)), (q_shares, .inl (cy 1, 169, .inr (.inl f_shares)))] H := hP
  have hD : va_D A [(q_this, .inr (0, [.ref q_lowering, .ref q_sorts, .ref q_counts, .ref q_shares, .int f_a, .int f_b])), (q_lowering, .inr (3, [.int q21.2.1, .int q21.2.2.1, .int q21.2.2.2.1, .int q21.2.2.2.2])), (q_sorts, .inl (cy 0, 169, .inl (upd f_sorts (Int32.toNatClampNeg ((13 * p1) + p2)) q21.1))), (q_counts, .inl (cy 0, 169, .inl f_counts)), (q_shares, .inl (cy 1, 169, .inr (.inl f_shares)))] := hD
  refine lv_iload hx hb dX0_fillPlace_42 (lv_at hl 1 rfl) ?_
  refine lv_iconst (v := 1) hx hb dX0_fillPlace_44 (by decide) ?_
  refine lv_icmp_ne (tgt := 67) hx hb dX0_fillPlace_45 (by decide) (fun c_56 => ?_) (fun c_56 => ?_)
  · have hf := ite_f c_56 hf
    refine lv_iload hx hb dX0_fillPlace_67 (lv_at hl 1 rfl) ?_
    refine lv_iconst (v := 2) hx hb dX0_fillPlace_69 (by decide) ?_
    refine lv_icmp_ne (tgt := 108) hx hb dX0_fillPlace_70 (by decide) (fun c_57 => ?_) (fun c_57 => ?_)
    · have hf := ite_f c_57 hf
      refine lv_aload_n hx hb dX0_fillPlace_108 rfl (lv_at hl 3 rfl) ?_
      refine va_get (D := G) (ci := 0) (v := .ref q_counts) (C := RX0) (T := TX0) (N := 6) hx hb htA lyX0 hown hK hP 0 rfl rfl 2 (by decide) (htA _ a_fl_X0_15) (fun _ h9 => h9) rfl dX0_fillPlace_109 ?_
      refine lv_iload_n hx hb dX0_fillPlace_112 rfl (lv_at hl 2 rfl) ?_
      refine lv_iconst (v := 0) hx hb dX0_fillPlace_113 (by decide) ?_
      obtain ⟨i_58, hf⟩ := ck_s hf
      refine va_iast (D := G) hx hb hK hP hD hS 3 0 rfl rfl i_58 dX0_fillPlace_114 (fun H locs hP hD hS => ?_)
      have hP : va_P G vwCl [(q_this, .inr (0, [.ref q_lowering, .ref q_sorts, .ref q_counts, .ref q_shares, .int f_a, .int f_b])), (q_lowering, .inr (3, [.int q21.2.1, .int q21.2.2.1, .int q21.2.2.2.1, .int q21.2.2.2.2])), (q_sorts, .inl (cy 0, 169, .inl (upd f_sorts (Int32.toNatClampNeg ((13 * p1) + p2)) q21.1))), (q_counts, .inl (cy 0, 169, .inl (upd f_counts (Int32.toNatClampNeg ((13 * p1) + p2)) 0))), (q_shares, .inl (cy 1, 169, .inr (.inl f_shares)))] H := hP
      have hD : va_D A [(q_this, .inr (0, [.ref q_lowering, .ref q_sorts, .ref q_counts, .ref q_shares, .int f_a, .int f_b])), (q_lowering, .inr (3, [.int q21.2.1, .int q21.2.2.1, .int q21.2.2.2.1, .int q21.2.2.2.2])), (q_sorts, .inl (cy 0, 169, .inl (upd f_sorts (Int32.toNatClampNeg ((13 * p1) + p2)) q21.1))), (q_counts, .inl (cy 0, 169, .inl (upd f_counts (Int32.toNatClampNeg ((13 * p1) + p2)) 0))), (q_shares, .inl (cy 1, 169, .inr (.inl f_shares)))] := hD
      refine lv_aload_n hx hb dX0_fillPlace_115 rfl (lv_at hl 3 rfl) ?_
      refine va_get (D := G) (ci := 0) (v := .ref q_shares) (C := RX0) (T := TX0) (N := 6) hx hb htA lyX0 hown hK hP 0 rfl rfl 3 (by decide) (htA _ a_fl_X0_18) (fun _ h9 => h9) rfl dX0_fillPlace_116 ?_
      refine lv_iload_n hx hb dX0_fillPlace_119 rfl (lv_at hl 2 rfl) ?_
      refine lv_lload hx hb dX0_fillPlace_120 (lv_at hl 0 rfl) ?_
      obtain ⟨i_59, hf⟩ := ck_s hf
      refine va_last (D := G) hx hb hK hP hD hS 4 1 rfl rfl i_59 dX0_fillPlace_122 (fun H locs hP hD hS => ?_)
      have hP : va_P G vwCl [(q_this, .inr (0, [.ref q_lowering, .ref q_sorts, .ref q_counts, .ref q_shares, .int f_a, .int f_b])), (q_lowering, .inr (3, [.int q21.2.1, .int q21.2.2.1, .int q21.2.2.2.1, .int q21.2.2.2.2])), (q_sorts, .inl (cy 0, 169, .inl (upd f_sorts (Int32.toNatClampNeg ((13 * p1) + p2)) q21.1))), (q_counts, .inl (cy 0, 169, .inl (upd f_counts (Int32.toNatClampNeg ((13 * p1) + p2)) 0))), (q_shares, .inl (cy 1, 169, .inr (.inl (vp_updL f_shares (Int32.toNatClampNeg ((13 * p1) + p2)) q29))))] H := hP
      have hD : va_D A [(q_this, .inr (0, [.ref q_lowering, .ref q_sorts, .ref q_counts, .ref q_shares, .int f_a, .int f_b])), (q_lowering, .inr (3, [.int q21.2.1, .int q21.2.2.1, .int q21.2.2.2.1, .int q21.2.2.2.2])), (q_sorts, .inl (cy 0, 169, .inl (upd f_sorts (Int32.toNatClampNeg ((13 * p1) + p2)) q21.1))), (q_counts, .inl (cy 0, 169, .inl (upd f_counts (Int32.toNatClampNeg ((13 * p1) + p2)) 0))), (q_shares, .inl (cy 1, 169, .inr (.inl (vp_updL f_shares (Int32.toNatClampNeg ((13 * p1) + p2)) q29))))] := hD
      have ho := Option.some.inj hf
      subst ho
      exact W.vret hx hb hr (fun t ht hW => ⟨⟨(), rfl, trivial, by rw [ht]; exact hP, va_K.moved hW.alike hK, hD⟩, hS.F ht⟩) hS.2.2 dX0_fillPlace_123
    · have hf := ite_t c_57 hf
      refine lv_aload_n hx hb dX0_fillPlace_73 rfl (lv_at hl 3 rfl) ?_
      refine va_get (D := G) (ci := 0) (v := .ref q_shares) (C := RX0) (T := TX0) (N := 6) hx hb htA lyX0 hown hK hP 0 rfl rfl 3 (by decide) (htA _ a_fl_X0_18) (fun _ h9 => h9) rfl dX0_fillPlace_74 ?_
      refine lv_iload_n hx hb dX0_fillPlace_77 rfl (lv_at hl 2 rfl) ?_
      refine lv_aload_n hx hb dX0_fillPlace_78 rfl (lv_at hl 3 rfl) ?_
      refine lv_iload_n hx hb dX0_fillPlace_79 rfl (lv_at hl 4 rfl) ?_
      refine lv_iload_n hx hb dX0_fillPlace_80 rfl (lv_at hl 5 rfl) ?_
      obtain ⟨q81, h81_60, hf⟩ := bd_s hf
      refine u_calllR (va_runV (As := [.int p1, .int p2]) (rest := [.int ((13 * p1) + p2), .ref q_shares]) ⟨hx, hb, hml, hown, htA⟩ (kX0_shareOfOther l G cy q_this q_lowering q_sorts q_counts q_shares H.size f_a f_b f_shares p1 p2 n h81_60) (u_cwV htA a_ml_X0_49 pk_X0_shareOfOther ⟨Nat.le_of_ble_eq_true rfl, Nat.le_of_ble_eq_true rfl⟩) (u_preV hK hN hP hD [0, 4] rfl (by decide) 0 rfl rfl) rfl rfl hl.1 rfl (lv_room (Nat.le_of_ble_eq_true rfl)) dX0_fillPlace_81 ⟨Nat.zero_le _, Nat.zero_le _⟩) hP hD hS hA [0, 4] rfl (fun H locs hP hS => ?_)
      obtain ⟨i_61, hf⟩ := ck_s hf
      refine va_last (D := G) hx hb hK hP hD hS 4 1 rfl rfl i_61 dX0_fillPlace_84 (fun H locs hP hD hS => ?_)
      have hP : va_P G vwCl [(q_this, .inr (0, [.ref q_lowering, .ref q_sorts, .ref q_counts, .ref q_shares, .int f_a, .int f_b])), (q_lowering, .inr (3, [.int q21.2.1, .int q21.2.2.1, .int q21.2.2.2.1, .int q21.2.2.2.2])), (q_sorts, .inl (cy 0, 169, .inl (upd f_sorts (Int32.toNatClampNeg ((13 * p1) + p2)) q21.1))), (q_counts, .inl (cy 0, 169, .inl f_counts)), (q_shares, .inl (cy 1, 169, .inr (.inl (vp_updL f_shares (Int32.toNatClampNeg ((13 * p1) + p2)) q81))))] H := hP
      have hD : va_D A [(q_this, .inr (0, [.ref q_lowering, .ref q_sorts, .ref q_counts, .ref q_shares, .int f_a, .int f_b])), (q_lowering, .inr (3, [.int q21.2.1, .int q21.2.2.1, .int q21.2.2.2.1, .int q21.2.2.2.2])), (q_sorts, .inl (cy 0, 169, .inl (upd f_sorts (Int32.toNatClampNeg ((13 * p1) + p2)) q21.1))), (q_counts, .inl (cy 0, 169, .inl f_counts)), (q_shares, .inl (cy 1, 169, .inr (.inl (vp_updL f_shares (Int32.toNatClampNeg ((13 * p1) + p2)) q81))))] := hD
      refine lv_aload_n hx hb dX0_fillPlace_85 rfl (lv_at hl 3 rfl) ?_
      refine va_get (D := G) (ci := 0) (v := .ref q_counts) (C := RX0) (T := TX0) (N := 6) hx hb htA lyX0 hown hK hP 0 rfl rfl 2 (by decide) (htA _ a_fl_X0_15) (fun _ h9 => h9) rfl dX0_fillPlace_86 ?_
      refine lv_iload_n hx hb dX0_fillPlace_89 rfl (lv_at hl 2 rfl) ?_
      refine lv_aload_n hx hb dX0_fillPlace_90 rfl (lv_at hl 3 rfl) ?_
      refine va_get (D := G) (ci := 0) (v := .ref q_shares) (C := RX0) (T := TX0) (N := 6) hx hb htA lyX0 hown hK hP 0 rfl rfl 3 (by decide) (htA _ a_fl_X0_18) (fun _ h9 => h9) rfl dX0_fillPlace_91 ?_
      refine lv_iload_n hx hb dX0_fillPlace_94 rfl (lv_at hl 2 rfl) ?_
      obtain ⟨i_62, hf⟩ := ck_s hf
      refine va_lald (D := G) hx hb hK hP 4 1 rfl rfl i_62 dX0_fillPlace_95 ?_
      refine lv_lload hx hb dX0_fillPlace_96 (lv_at hl 0 rfl) ?_
      refine lv_lsub hx hb dX0_fillPlace_98 ?_
      refine lv_ldc2 (v := 27720) hx hb hown (htA _ a_cl_X0_47) dX0_fillPlace_99 ?_
      refine lv_ldiv hx hb dX0_fillPlace_102 (by decide) ?_
      refine lv_l2i hx hb dX0_fillPlace_103 rfl ?_
      obtain ⟨i_63, hf⟩ := ck_s hf
      refine va_iast (D := G) hx hb hK hP hD hS 3 0 rfl rfl i_63 dX0_fillPlace_104 (fun H locs hP hD hS => ?_)
      have hP : va_P G vwCl [(q_this, .inr (0, [.ref q_lowering, .ref q_sorts, .ref q_counts, .ref q_shares, .int f_a, .int f_b])), (q_lowering, .inr (3, [.int q21.2.1, .int q21.2.2.1, .int q21.2.2.2.1, .int q21.2.2.2.2])), (q_sorts, .inl (cy 0, 169, .inl (upd f_sorts (Int32.toNatClampNeg ((13 * p1) + p2)) q21.1))), (q_counts, .inl (cy 0, 169, .inl (upd f_counts (Int32.toNatClampNeg ((13 * p1) + p2)) (Int64.toInt32 ((((vp_updL f_shares (Int32.toNatClampNeg ((13 * p1) + p2)) q81) (Int32.toNatClampNeg ((13 * p1) + p2))) - q29) / 27720))))), (q_shares, .inl (cy 1, 169, .inr (.inl (vp_updL f_shares (Int32.toNatClampNeg ((13 * p1) + p2)) q81))))] H := hP
      have hD : va_D A [(q_this, .inr (0, [.ref q_lowering, .ref q_sorts, .ref q_counts, .ref q_shares, .int f_a, .int f_b])), (q_lowering, .inr (3, [.int q21.2.1, .int q21.2.2.1, .int q21.2.2.2.1, .int q21.2.2.2.2])), (q_sorts, .inl (cy 0, 169, .inl (upd f_sorts (Int32.toNatClampNeg ((13 * p1) + p2)) q21.1))), (q_counts, .inl (cy 0, 169, .inl (upd f_counts (Int32.toNatClampNeg ((13 * p1) + p2)) (Int64.toInt32 ((((vp_updL f_shares (Int32.toNatClampNeg ((13 * p1) + p2)) q81) (Int32.toNatClampNeg ((13 * p1) + p2))) - q29) / 27720))))), (q_shares, .inl (cy 1, 169, .inr (.inl (vp_updL f_shares (Int32.toNatClampNeg ((13 * p1) + p2)) q81))))] := hD
      refine lv_goto (tgt := 123) hx hb dX0_fillPlace_105 (by decide) ?_
      have ho := Option.some.inj hf
      subst ho
      exact W.vret hx hb hr (fun t ht hW => ⟨⟨(), rfl, trivial, by rw [ht]; exact hP, va_K.moved hW.alike hK, hD⟩, hS.F ht⟩) hS.2.2 dX0_fillPlace_123
  · have hf := ite_t c_56 hf
    refine lv_aload_n hx hb dX0_fillPlace_48 rfl (lv_at hl 3 rfl) ?_
    refine va_get (D := G) (ci := 0) (v := .ref q_counts) (C := RX0) (T := TX0) (N := 6) hx hb htA lyX0 hown hK hP 0 rfl rfl 2 (by decide) (htA _ a_fl_X0_15) (fun _ h9 => h9) rfl dX0_fillPlace_49 ?_
    refine lv_iload_n hx hb dX0_fillPlace_52 rfl (lv_at hl 2 rfl) ?_
    refine lv_iconst (v := 1) hx hb dX0_fillPlace_53 (by decide) ?_
    obtain ⟨i_64, hf⟩ := ck_s hf
    refine va_iast (D := G) hx hb hK hP hD hS 3 0 rfl rfl i_64 dX0_fillPlace_54 (fun H locs hP hD hS => ?_)
    have hP : va_P G vwCl [(q_this, .inr (0, [.ref q_lowering, .ref q_sorts, .ref q_counts, .ref q_shares, .int f_a, .int f_b])), (q_lowering, .inr (3, [.int q21.2.1, .int q21.2.2.1, .int q21.2.2.2.1, .int q21.2.2.2.2])), (q_sorts, .inl (cy 0, 169, .inl (upd f_sorts (Int32.toNatClampNeg ((13 * p1) + p2)) q21.1))), (q_counts, .inl (cy 0, 169, .inl (upd f_counts (Int32.toNatClampNeg ((13 * p1) + p2)) 1))), (q_shares, .inl (cy 1, 169, .inr (.inl f_shares)))] H := hP
    have hD : va_D A [(q_this, .inr (0, [.ref q_lowering, .ref q_sorts, .ref q_counts, .ref q_shares, .int f_a, .int f_b])), (q_lowering, .inr (3, [.int q21.2.1, .int q21.2.2.1, .int q21.2.2.2.1, .int q21.2.2.2.2])), (q_sorts, .inl (cy 0, 169, .inl (upd f_sorts (Int32.toNatClampNeg ((13 * p1) + p2)) q21.1))), (q_counts, .inl (cy 0, 169, .inl (upd f_counts (Int32.toNatClampNeg ((13 * p1) + p2)) 1))), (q_shares, .inl (cy 1, 169, .inr (.inl f_shares)))] := hD
    refine lv_aload_n hx hb dX0_fillPlace_55 rfl (lv_at hl 3 rfl) ?_
    refine va_get (D := G) (ci := 0) (v := .ref q_shares) (C := RX0) (T := TX0) (N := 6) hx hb htA lyX0 hown hK hP 0 rfl rfl 3 (by decide) (htA _ a_fl_X0_18) (fun _ h9 => h9) rfl dX0_fillPlace_56 ?_
    refine lv_iload_n hx hb dX0_fillPlace_59 rfl (lv_at hl 2 rfl) ?_
    refine lv_ldc2 (v := 27720) hx hb hown (htA _ a_cl_X0_47) dX0_fillPlace_60 ?_
    obtain ⟨i_65, hf⟩ := ck_s hf
    refine va_last (D := G) hx hb hK hP hD hS 4 1 rfl rfl i_65 dX0_fillPlace_63 (fun H locs hP hD hS => ?_)
    have hP : va_P G vwCl [(q_this, .inr (0, [.ref q_lowering, .ref q_sorts, .ref q_counts, .ref q_shares, .int f_a, .int f_b])), (q_lowering, .inr (3, [.int q21.2.1, .int q21.2.2.1, .int q21.2.2.2.1, .int q21.2.2.2.2])), (q_sorts, .inl (cy 0, 169, .inl (upd f_sorts (Int32.toNatClampNeg ((13 * p1) + p2)) q21.1))), (q_counts, .inl (cy 0, 169, .inl (upd f_counts (Int32.toNatClampNeg ((13 * p1) + p2)) 1))), (q_shares, .inl (cy 1, 169, .inr (.inl (vp_updL f_shares (Int32.toNatClampNeg ((13 * p1) + p2)) 27720))))] H := hP
    have hD : va_D A [(q_this, .inr (0, [.ref q_lowering, .ref q_sorts, .ref q_counts, .ref q_shares, .int f_a, .int f_b])), (q_lowering, .inr (3, [.int q21.2.1, .int q21.2.2.1, .int q21.2.2.2.1, .int q21.2.2.2.2])), (q_sorts, .inl (cy 0, 169, .inl (upd f_sorts (Int32.toNatClampNeg ((13 * p1) + p2)) q21.1))), (q_counts, .inl (cy 0, 169, .inl (upd f_counts (Int32.toNatClampNeg ((13 * p1) + p2)) 1))), (q_shares, .inl (cy 1, 169, .inr (.inl (vp_updL f_shares (Int32.toNatClampNeg ((13 * p1) + p2)) 27720))))] := hD
    refine lv_goto (tgt := 123) hx hb dX0_fillPlace_64 (by decide) ?_
    have ho := Option.some.inj hf
    subst ho
    exact W.vret hx hb hr (fun t ht hW => ⟨⟨(), rfl, trivial, by rw [ht]; exact hP, va_K.moved hW.alike hK, hD⟩, hS.F ht⟩) hS.2.2 dX0_fillPlace_123
set_option maxRecDepth 100000 in
set_option maxHeartbeats 4000000 in
theorem wX0_fillFor_38 {p : Program} {l : Launch} {e : Env} {s : State} {m : MethodId} {args : Array Value} {below : List Frame} {meth : Method} {c : Code} {G : va_G} {cy : Nat → ClassId} {A : Nat → Prop} {q_this : Nat} {q_lowering : Nat} {q_sorts : Nat} {q_counts : Nat} {q_shares : Nat} {n : Nat} {o : Int32 × Int32 × Int32 × Int32 × Int32 × Int32 × (Nat → Int32) × (Nat → Int32) × (Nat → Int64)} (C : Cx p s m args meth c cX0_fillFor 5 none RX0 G cy A) {K29 : Int32 → Int32 → Int32 → Int32 → Int32 → Int32 → Int32 → (Nat → Int32) → (Nat → Int32) → (Nat → Int64) → Option (Int32 × Int32 × Int32 × Int32 × Int32 × Int32 × (Nat → Int32) × (Nat → Int32) × (Nat → Int64))} (ih29 : ∀ (v3 : Int32) (f_a : Int32) (f_b : Int32) (f_lowering_x : Int32) (f_lowering_y : Int32) (f_lowering_steps : Int32) (f_lowering_metLetter : Int32) (f_sorts : Nat → Int32) (f_counts : Nat → Int32) (f_shares : Nat → Int64) (H : Heap) (locs : List Loc) (ls : Array Slot), va_P G vwCl [(q_this, .inr (0, [.ref q_lowering, .ref q_sorts, .ref q_counts, .ref q_shares, .int f_a, .int f_b])), (q_lowering, .inr (3, [.int f_lowering_x, .int f_lowering_y, .int f_lowering_steps, .int f_lowering_metLetter])), (q_sorts, .inl (cy 0, 169, .inl f_sorts)), (q_counts, .inl (cy 0, 169, .inl f_counts)), (q_shares, .inl (cy 1, 169, .inr (.inl f_shares)))] H → va_D A [(q_this, .inr (0, [.ref q_lowering, .ref q_sorts, .ref q_counts, .ref q_shares, .int f_a, .int f_b])), (q_lowering, .inr (3, [.int f_lowering_x, .int f_lowering_y, .int f_lowering_steps, .int f_lowering_metLetter])), (q_sorts, .inl (cy 0, 169, .inl f_sorts)), (q_counts, .inl (cy 0, 169, .inl f_counts)), (q_shares, .inl (cy 1, 169, .inr (.inl f_shares)))] → va_S A s.heap H locs → lv_has ls 5 [(0, .ref q_this), (3, .int v3)] → K29 v3 f_a f_b f_lowering_x f_lowering_y f_lowering_steps f_lowering_metLetter f_sorts f_counts f_shares = some o → W p l e (headSpec (Cond.code yX0_fillFor cX0_fillFor 5 none :: AW) ({ frames := 5, cells := 0, slots := 0, locals := 116 } : Room)).room s m args below meth c H locs 0 0 (MQ below (va_Qv (fun (_ : Unit) => True) (fun _ => Wq G cy A [(q_this, .inr (0, [.ref q_lowering, .ref q_sorts, .ref q_counts, .ref q_shares, .int o.1, .int o.2.1])), (q_lowering, .inr (3, [.int o.2.2.1, .int o.2.2.2.1, .int o.2.2.2.2.1, .int o.2.2.2.2.2.1])), (q_sorts, .inl (cy 0, 169, .inl o.2.2.2.2.2.2.1)), (q_counts, .inl (cy 0, 169, .inl o.2.2.2.2.2.2.2.1)), (q_shares, .inl (cy 1, 169, .inr (.inl o.2.2.2.2.2.2.2.2)))]) A) args s 0 0 A) (F0 m 29 ls [])) : ∀ k38 : Nat, ∀ (v3 : Int32) (v4 : Int32) (f_a : Int32) (f_b : Int32) (f_lowering_x : Int32) (f_lowering_y : Int32) (f_lowering_steps : Int32) (f_lowering_metLetter : Int32) (f_sorts : Nat → Int32) (f_counts : Nat → Int32) (f_shares : Nat → Int64) (H : Heap) (locs : List Loc) (ls : Array Slot), va_P G vwCl [(q_this, .inr (0, [.ref q_lowering, .ref q_sorts, .ref q_counts, .ref q_shares, .int f_a, .int f_b])), (q_lowering, .inr (3, [.int f_lowering_x, .int f_lowering_y, .int f_lowering_steps, .int f_lowering_metLetter])), (q_sorts, .inl (cy 0, 169, .inl f_sorts)), (q_counts, .inl (cy 0, 169, .inl f_counts)), (q_shares, .inl (cy 1, 169, .inr (.inl f_shares)))] H → va_D A [(q_this, .inr (0, [.ref q_lowering, .ref q_sorts, .ref q_counts, .ref q_shares, .int f_a, .int f_b])), (q_lowering, .inr (3, [.int f_lowering_x, .int f_lowering_y, .int f_lowering_steps, .int f_lowering_metLetter])), (q_sorts, .inl (cy 0, 169, .inl f_sorts)), (q_counts, .inl (cy 0, 169, .inl f_counts)), (q_shares, .inl (cy 1, 169, .inr (.inl f_shares)))] → va_S A s.heap H locs → lv_has ls 5 [(0, .ref q_this), (3, .int v3), (4, .int v4)] → lX0_fillFor_38 n K29 k38 v3 v4 f_a f_b f_lowering_x f_lowering_y f_lowering_steps f_lowering_metLetter f_sorts f_counts f_shares = some o → W p l e (headSpec (Cond.code yX0_fillFor cX0_fillFor 5 none :: AW) ({ frames := 5, cells := 0, slots := 0, locals := 116 } : Room)).room s m args below meth c H locs 0 0 (MQ below (va_Qv (fun (_ : Unit) => True) (fun _ => Wq G cy A [(q_this, .inr (0, [.ref q_lowering, .ref q_sorts, .ref q_counts, .ref q_shares, .int o.1, .int o.2.1])), (q_lowering, .inr (3, [.int o.2.2.1, .int o.2.2.2.1, .int o.2.2.2.2.1, .int o.2.2.2.2.2.1])), (q_sorts, .inl (cy 0, 169, .inl o.2.2.2.2.2.2.1)), (q_counts, .inl (cy 0, 169, .inl o.2.2.2.2.2.2.2.1)), (q_shares, .inl (cy 1, 169, .inr (.inl o.2.2.2.2.2.2.2.2)))]) A) args s 0 0 A) (F0 m 38 ls []) := by
  have C0 := C
  obtain ⟨hx, hb, hr, hml, htA, hown, hK, hN, hA, hlocks⟩ := C
  intro k38
  induction k38 with
  | zero =>
    intro v3 v4 f_a f_b f_lowering_x f_lowering_y f_lowering_steps f_lowering_metLetter f_sorts f_counts f_shares H locs ls hP hD hS hl hf
    exact no_s hf
  | succ k38 ih38 =>
    intro v3 v4 f_a f_b f_lowering_x f_lowering_y f_lowering_steps f_lowering_metLetter f_sorts f_counts f_shares H locs ls hP hD hS hl hf
    have hf : ((if v3 < v4 then K29 (v3 + 1) f_a f_b f_lowering_x f_lowering_y f_lowering_steps f_lowering_metLetter f_sorts f_counts f_shares else (fX0_fillPlace n v4 (v3 - v4) f_a f_b f_lowering_x f_lowering_y f_lowering_steps f_lowering_metLetter f_sorts f_counts f_shares).bind fun q51 => (lX0_fillFor_38 n K29 k38 v3 (v4 + 1) f_a f_b q51.1 q51.2.1 q51.2.2.1 q51.2.2.2.1 q51.2.2.2.2.1 q51.2.2.2.2.2.1 q51.2.2.2.2.2.2)) : Option (Int32 × Int32 × Int32 × Int32 × Int32 × Int32 × (Nat → Int32) × (Nat → Int32) × (Nat → Int64))) = some o := hf
    refine lv_iload hx hb dX0_fillFor_38 (lv_at hl 2 rfl) ?_
    refine lv_iload_n hx hb dX0_fillFor_40 rfl (lv_at hl 1 rfl) ?_
    refine lv_icmp_gt (tgt := 60) hx hb dX0_fillFor_41 (by decide) (fun c_21 => ?_) (fun c_21 => ?_)
    · have hf := ite_t c_21 hf
      refine lv_iinc (v := (v3 + 1)) (lv' := [(3, .int (v3 + 1)), (0, .ref q_this), (4, .int v4)]) hx hb dX0_fillFor_60 hl (k := 1) rfl rfl (by decide) rfl (fun ls hl => ?_)
      refine lv_goto (tgt := 29) hx hb dX0_fillFor_63 (by decide) ?_
      exact ih29 _ _ _ _ _ _ _ _ _ _ _ _ _ hP hD hS (lv_sub hl [1, 0] rfl) hf
    · have hf := ite_f c_21 hf
      refine lv_aload_n hx hb dX0_fillFor_44 rfl (lv_at hl 0 rfl) ?_
      refine lv_iload hx hb dX0_fillFor_45 (lv_at hl 2 rfl) ?_
      refine lv_iload_n hx hb dX0_fillFor_47 rfl (lv_at hl 1 rfl) ?_
      refine lv_iload hx hb dX0_fillFor_48 (lv_at hl 2 rfl) ?_
      refine lv_isub hx hb dX0_fillFor_50 ?_
      obtain ⟨q51, h51_22, hf⟩ := bd_s hf
      refine u_callv [(q_this, .inr (0, [.ref q_lowering, .ref q_sorts, .ref q_counts, .ref q_shares, .int f_a, .int f_b])), (q_lowering, .inr (3, [.int q51.1, .int q51.2.1, .int q51.2.2.1, .int q51.2.2.2.1])), (q_sorts, .inl (cy 0, 169, .inl q51.2.2.2.2.1)), (q_counts, .inl (cy 0, 169, .inl q51.2.2.2.2.2.1)), (q_shares, .inl (cy 1, 169, .inr (.inl q51.2.2.2.2.2.2)))] (va_runV (As := [.int v4, .int (v3 - v4)]) (rest := []) ⟨hx, hb, hml, hown, htA⟩ (kX0_fillPlace l G cy q_this q_lowering q_sorts q_counts q_shares H.size f_a f_b f_lowering_x f_lowering_y f_lowering_steps f_lowering_metLetter f_sorts f_counts f_shares v4 (v3 - v4) n h51_22) (u_cwV htA a_ml_X0_33 pk_X0_fillPlace ⟨Nat.le_of_ble_eq_true rfl, Nat.le_of_ble_eq_true rfl⟩) (u_preV hK hN hP hD [0, 1, 2, 3, 4] rfl (by decide) 0 rfl rfl) rfl rfl hl.1 rfl (lv_room (Nat.le_of_ble_eq_true rfl)) dX0_fillFor_51 ⟨Nat.zero_le _, Nat.zero_le _⟩) hP hD hS hA [0, 1, 2, 3, 4] rfl [] 5 rfl rfl rfl (by decide) rfl (fun H locs hP hD hS => ?_)
      refine lv_iinc (v := (v4 + 1)) (lv' := [(4, .int (v4 + 1)), (0, .ref q_this), (3, .int v3)]) hx hb dX0_fillFor_54 hl (k := 2) rfl rfl (by decide) rfl (fun ls hl => ?_)
      refine lv_goto (tgt := 38) hx hb dX0_fillFor_57 (by decide) ?_
      exact ih38 _ _ _ _ _ _ _ _ _ _ _ _ _ _ hP hD hS (lv_sub hl [1, 2, 0] rfl) hf
set_option maxRecDepth 100000 in
set_option maxHeartbeats 4000000 in
theorem wX0_fillFor_29 {p : Program} {l : Launch} {e : Env} {s : State} {m : MethodId} {args : Array Value} {below : List Frame} {meth : Method} {c : Code} {G : va_G} {cy : Nat → ClassId} {A : Nat → Prop} {q_this : Nat} {q_lowering : Nat} {q_sorts : Nat} {q_counts : Nat} {q_shares : Nat} {n : Nat} {o : Int32 × Int32 × Int32 × Int32 × Int32 × Int32 × (Nat → Int32) × (Nat → Int32) × (Nat → Int64)} (C : Cx p s m args meth c cX0_fillFor 5 none RX0 G cy A) : ∀ k29 : Nat, ∀ (v3 : Int32) (f_a : Int32) (f_b : Int32) (f_lowering_x : Int32) (f_lowering_y : Int32) (f_lowering_steps : Int32) (f_lowering_metLetter : Int32) (f_sorts : Nat → Int32) (f_counts : Nat → Int32) (f_shares : Nat → Int64) (H : Heap) (locs : List Loc) (ls : Array Slot), va_P G vwCl [(q_this, .inr (0, [.ref q_lowering, .ref q_sorts, .ref q_counts, .ref q_shares, .int f_a, .int f_b])), (q_lowering, .inr (3, [.int f_lowering_x, .int f_lowering_y, .int f_lowering_steps, .int f_lowering_metLetter])), (q_sorts, .inl (cy 0, 169, .inl f_sorts)), (q_counts, .inl (cy 0, 169, .inl f_counts)), (q_shares, .inl (cy 1, 169, .inr (.inl f_shares)))] H → va_D A [(q_this, .inr (0, [.ref q_lowering, .ref q_sorts, .ref q_counts, .ref q_shares, .int f_a, .int f_b])), (q_lowering, .inr (3, [.int f_lowering_x, .int f_lowering_y, .int f_lowering_steps, .int f_lowering_metLetter])), (q_sorts, .inl (cy 0, 169, .inl f_sorts)), (q_counts, .inl (cy 0, 169, .inl f_counts)), (q_shares, .inl (cy 1, 169, .inr (.inl f_shares)))] → va_S A s.heap H locs → lv_has ls 5 [(0, .ref q_this), (3, .int v3)] → lX0_fillFor_29 n k29 v3 f_a f_b f_lowering_x f_lowering_y f_lowering_steps f_lowering_metLetter f_sorts f_counts f_shares = some o → W p l e (headSpec (Cond.code yX0_fillFor cX0_fillFor 5 none :: AW) ({ frames := 5, cells := 0, slots := 0, locals := 116 } : Room)).room s m args below meth c H locs 0 0 (MQ below (va_Qv (fun (_ : Unit) => True) (fun _ => Wq G cy A [(q_this, .inr (0, [.ref q_lowering, .ref q_sorts, .ref q_counts, .ref q_shares, .int o.1, .int o.2.1])), (q_lowering, .inr (3, [.int o.2.2.1, .int o.2.2.2.1, .int o.2.2.2.2.1, .int o.2.2.2.2.2.1])), (q_sorts, .inl (cy 0, 169, .inl o.2.2.2.2.2.2.1)), (q_counts, .inl (cy 0, 169, .inl o.2.2.2.2.2.2.2.1)), (q_shares, .inl (cy 1, 169, .inr (.inl o.2.2.2.2.2.2.2.2)))]) A) args s 0 0 A) (F0 m 29 ls []) := by
  have C0 := C
  obtain ⟨hx, hb, hr, hml, htA, hown, hK, hN, hA, hlocks⟩ := C
  intro k29
  induction k29 with
  | zero =>
    intro v3 f_a f_b f_lowering_x f_lowering_y f_lowering_steps f_lowering_metLetter f_sorts f_counts f_shares H locs ls hP hD hS hl hf
    exact no_s hf
  | succ k29 ih29 =>
    intro v3 f_a f_b f_lowering_x f_lowering_y f_lowering_steps f_lowering_metLetter f_sorts f_counts f_shares H locs ls hP hD hS hl hf
    have hf : ((if 12 < v3 then some (f_a, f_b, f_lowering_x, f_lowering_y, f_lowering_steps, f_lowering_metLetter, f_sorts, f_counts, f_shares) else lX0_fillFor_38 n (lX0_fillFor_29 n k29) n v3 0 f_a f_b f_lowering_x f_lowering_y f_lowering_steps f_lowering_metLetter f_sorts f_counts f_shares) : Option (Int32 × Int32 × Int32 × Int32 × Int32 × Int32 × (Nat → Int32) × (Nat → Int32) × (Nat → Int64))) = some o := hf
    refine lv_iload_n hx hb dX0_fillFor_29 rfl (lv_at hl 1 rfl) ?_
    refine lv_bipush (v := 12) hx hb dX0_fillFor_30 (by decide) ?_
    refine lv_icmp_gt (tgt := 66) hx hb dX0_fillFor_32 (by decide) (fun c_23 => ?_) (fun c_23 => ?_)
    · have hf := ite_t c_23 hf
      have ho := Option.some.inj hf
      subst ho
      exact W.vret hx hb hr (fun t ht hW => ⟨⟨(), rfl, trivial, by rw [ht]; exact hP, va_K.moved hW.alike hK, hD⟩, hS.F ht⟩) hS.2.2 dX0_fillFor_66
    · have hf := ite_f c_23 hf
      refine lv_iconst (v := 0) hx hb dX0_fillFor_35 (by decide) ?_
      refine lv_istore (lv' := [(4, .int 0), (0, .ref q_this), (3, .int v3)]) hx hb dX0_fillFor_36 hl (by decide) rfl (fun ls hl => ?_)
      exact wX0_fillFor_38 C0 ih29 n _ _ _ _ _ _ _ _ _ _ _ _ _ _ hP hD hS (lv_sub hl [1, 2, 0] rfl) hf
set_option maxRecDepth 100000 in
set_option maxHeartbeats 4000000 in
theorem wX0_fillFor_17 {p : Program} {l : Launch} {e : Env} {s : State} {m : MethodId} {args : Array Value} {below : List Frame} {meth : Method} {c : Code} {G : va_G} {cy : Nat → ClassId} {A : Nat → Prop} {q_this : Nat} {q_lowering : Nat} {q_sorts : Nat} {q_counts : Nat} {q_shares : Nat} {n : Nat} {o : Int32 × Int32 × Int32 × Int32 × Int32 × Int32 × (Nat → Int32) × (Nat → Int32) × (Nat → Int64)} (C : Cx p s m args meth c cX0_fillFor 5 none RX0 G cy A) : ∀ (v1 : Int32) (v2 : Int32) (f_a : Int32) (f_b : Int32) (f_lowering_x : Int32) (f_lowering_y : Int32) (f_lowering_steps : Int32) (f_lowering_metLetter : Int32) (f_sorts : Nat → Int32) (f_counts : Nat → Int32) (f_shares : Nat → Int64) (H : Heap) (locs : List Loc) (ls : Array Slot), va_P G vwCl [(q_this, .inr (0, [.ref q_lowering, .ref q_sorts, .ref q_counts, .ref q_shares, .int f_a, .int f_b])), (q_lowering, .inr (3, [.int f_lowering_x, .int f_lowering_y, .int f_lowering_steps, .int f_lowering_metLetter])), (q_sorts, .inl (cy 0, 169, .inl f_sorts)), (q_counts, .inl (cy 0, 169, .inl f_counts)), (q_shares, .inl (cy 1, 169, .inr (.inl f_shares)))] H → va_D A [(q_this, .inr (0, [.ref q_lowering, .ref q_sorts, .ref q_counts, .ref q_shares, .int f_a, .int f_b])), (q_lowering, .inr (3, [.int f_lowering_x, .int f_lowering_y, .int f_lowering_steps, .int f_lowering_metLetter])), (q_sorts, .inl (cy 0, 169, .inl f_sorts)), (q_counts, .inl (cy 0, 169, .inl f_counts)), (q_shares, .inl (cy 1, 169, .inr (.inl f_shares)))] → va_S A s.heap H locs → lv_has ls 5 [(0, .ref q_this), (1, .int v1), (2, .int v2)] → jX0_fillFor_17 n v1 v2 f_a f_b f_lowering_x f_lowering_y f_lowering_steps f_lowering_metLetter f_sorts f_counts f_shares = some o → W p l e (headSpec (Cond.code yX0_fillFor cX0_fillFor 5 none :: AW) ({ frames := 5, cells := 0, slots := 0, locals := 116 } : Room)).room s m args below meth c H locs 0 0 (MQ below (va_Qv (fun (_ : Unit) => True) (fun _ => Wq G cy A [(q_this, .inr (0, [.ref q_lowering, .ref q_sorts, .ref q_counts, .ref q_shares, .int o.1, .int o.2.1])), (q_lowering, .inr (3, [.int o.2.2.1, .int o.2.2.2.1, .int o.2.2.2.2.1, .int o.2.2.2.2.2.1])), (q_sorts, .inl (cy 0, 169, .inl o.2.2.2.2.2.2.1)), (q_counts, .inl (cy 0, 169, .inl o.2.2.2.2.2.2.2.1)), (q_shares, .inl (cy 1, 169, .inr (.inl o.2.2.2.2.2.2.2.2)))]) A) args s 0 0 A) (F0 m 17 ls []) := by
  have C0 := C
  obtain ⟨hx, hb, hr, hml, htA, hown, hK, hN, hA, hlocks⟩ := C
  intro v1 v2 f_a f_b f_lowering_x f_lowering_y f_lowering_steps f_lowering_metLetter f_sorts f_counts f_shares H locs ls hP hD hS hl hf
  have hf : (lX0_fillFor_29 n n 1 v1 v2 f_lowering_x f_lowering_y f_lowering_steps f_lowering_metLetter f_sorts f_counts f_shares : Option (Int32 × Int32 × Int32 × Int32 × Int32 × Int32 × (Nat → Int32) × (Nat → Int32) × (Nat → Int64))) = some o := hf
  refine lv_aload_n hx hb dX0_fillFor_17 rfl (lv_at hl 0 rfl) ?_
  refine lv_iload_n hx hb dX0_fillFor_18 rfl (lv_at hl 1 rfl) ?_
  refine va_put (D := G) (ci := 0) (v := .int v1) (ty := tyX0 4) (C := RX0) (T := TX0) (N := 6) hx hb htA lyX0 tyX0 tyX0_ok nmX0 hown hK hP hD hS 0 rfl rfl 4 (by decide) (htA _ a_fl_X0_22) (fun _ h9 => h9) rfl (tyX0_ok 4 (by decide)) rfl rfl (Nat.le_of_ble_eq_true rfl) dX0_fillFor_19 (fun H locs hP hD hS => ?_)
  have hP : va_P G vwCl [(q_this, .inr (0, [.ref q_lowering, .ref q_sorts, .ref q_counts, .ref q_shares, .int v1, .int f_b])), (q_lowering, .inr (3, [.int f_lowering_x, .int f_lowering_y, .int f_lowering_steps, .int f_lowering_metLetter])), (q_sorts, .inl (cy 0, 169, .inl f_sorts)), (q_counts, .inl (cy 0, 169, .inl f_counts)), (q_shares, .inl (cy 1, 169, .inr (.inl f_shares)))] H := hP
  have hD : va_D A [(q_this, .inr (0, [.ref q_lowering, .ref q_sorts, .ref q_counts, .ref q_shares, .int v1, .int f_b])), (q_lowering, .inr (3, [.int f_lowering_x, .int f_lowering_y, .int f_lowering_steps, .int f_lowering_metLetter])), (q_sorts, .inl (cy 0, 169, .inl f_sorts)), (q_counts, .inl (cy 0, 169, .inl f_counts)), (q_shares, .inl (cy 1, 169, .inr (.inl f_shares)))] := hD
  refine lv_aload_n hx hb dX0_fillFor_22 rfl (lv_at hl 0 rfl) ?_
  refine lv_iload_n hx hb dX0_fillFor_23 rfl (lv_at hl 2 rfl) ?_
  refine va_put (D := G) (ci := 0) (v := .int v2) (ty := tyX0 5) (C := RX0) (T := TX0) (N := 6) hx hb htA lyX0 tyX0 tyX0_ok nmX0 hown hK hP hD hS 0 rfl rfl 5 (by decide) (htA _ a_fl_X0_26) (fun _ h9 => h9) rfl (tyX0_ok 5 (by decide)) rfl rfl (Nat.le_of_ble_eq_true rfl) dX0_fillFor_24 (fun H locs hP hD hS => ?_)
  have hP : va_P G vwCl [(q_this, .inr (0, [.ref q_lowering, .ref q_sorts, .ref q_counts, .ref q_shares, .int v1, .int v2])), (q_lowering, .inr (3, [.int f_lowering_x, .int f_lowering_y, .int f_lowering_steps, .int f_lowering_metLetter])), (q_sorts, .inl (cy 0, 169, .inl f_sorts)), (q_counts, .inl (cy 0, 169, .inl f_counts)), (q_shares, .inl (cy 1, 169, .inr (.inl f_shares)))] H := hP
  have hD : va_D A [(q_this, .inr (0, [.ref q_lowering, .ref q_sorts, .ref q_counts, .ref q_shares, .int v1, .int v2])), (q_lowering, .inr (3, [.int f_lowering_x, .int f_lowering_y, .int f_lowering_steps, .int f_lowering_metLetter])), (q_sorts, .inl (cy 0, 169, .inl f_sorts)), (q_counts, .inl (cy 0, 169, .inl f_counts)), (q_shares, .inl (cy 1, 169, .inr (.inl f_shares)))] := hD
  refine lv_iconst (v := 1) hx hb dX0_fillFor_27 (by decide) ?_
  refine lv_istore_n (lv' := [(3, .int 1), (0, .ref q_this), (1, .int v1), (2, .int v2)]) hx hb dX0_fillFor_28 rfl hl (by decide) rfl (fun ls hl => ?_)
  exact wX0_fillFor_29 C0 n _ _ _ _ _ _ _ _ _ _ _ _ _ hP hD hS (lv_sub hl [1, 0] rfl) hf
set_option maxRecDepth 100000 in
set_option maxHeartbeats 4000000 in
theorem kX0_fillFor (l : Launch) (G : va_G) (cy : Nat → ClassId) (q_this : Nat) (q_lowering : Nat) (q_sorts : Nat) (q_counts : Nat) (q_shares : Nat) (sz : Nat) (f_a : Int32) (f_b : Int32) (f_lowering_x : Int32) (f_lowering_y : Int32) (f_lowering_steps : Int32) (f_lowering_metLetter : Int32) (f_sorts : Nat → Int32) (f_counts : Nat → Int32) (f_shares : Nat → Int64) (p1 : Int32) (p2 : Int32) (n : Nat) {o : Int32 × Int32 × Int32 × Int32 × Int32 × Int32 × (Nat → Int32) × (Nat → Int32) × (Nat → Int64)} (hf : fX0_fillFor n p1 p2 f_a f_b f_lowering_x f_lowering_y f_lowering_steps f_lowering_metLetter f_sorts f_counts f_shares = some o) : Met l yX0_fillFor (Cond.code yX0_fillFor cX0_fillFor 5 none :: AW) ({ frames := 5, cells := 0, slots := 0, locals := 116 } : Room) (va_Pc [.ref q_this, .int p1, .int p2] (Wp G cy [(q_this, .inr (0, [.ref q_lowering, .ref q_sorts, .ref q_counts, .ref q_shares, .int f_a, .int f_b])), (q_lowering, .inr (3, [.int f_lowering_x, .int f_lowering_y, .int f_lowering_steps, .int f_lowering_metLetter])), (q_sorts, .inl (cy 0, 169, .inl f_sorts)), (q_counts, .inl (cy 0, 169, .inl f_counts)), (q_shares, .inl (cy 1, 169, .inr (.inl f_shares)))] sz)) (va_Qv (fun (_ : Unit) => True) (fun _ => Wq G cy (va_A [(q_this, .inr (0, [.ref q_lowering, .ref q_sorts, .ref q_counts, .ref q_shares, .int f_a, .int f_b])), (q_lowering, .inr (3, [.int f_lowering_x, .int f_lowering_y, .int f_lowering_steps, .int f_lowering_metLetter])), (q_sorts, .inl (cy 0, 169, .inl f_sorts)), (q_counts, .inl (cy 0, 169, .inl f_counts)), (q_shares, .inl (cy 1, 169, .inr (.inl f_shares)))] sz) [(q_this, .inr (0, [.ref q_lowering, .ref q_sorts, .ref q_counts, .ref q_shares, .int o.1, .int o.2.1])), (q_lowering, .inr (3, [.int o.2.2.1, .int o.2.2.2.1, .int o.2.2.2.2.1, .int o.2.2.2.2.2.1])), (q_sorts, .inl (cy 0, 169, .inl o.2.2.2.2.2.2.1)), (q_counts, .inl (cy 0, 169, .inl o.2.2.2.2.2.2.2.1)), (q_shares, .inl (cy 1, 169, .inr (.inl o.2.2.2.2.2.2.2.2)))]) (va_A [(q_this, .inr (0, [.ref q_lowering, .ref q_sorts, .ref q_counts, .ref q_shares, .int f_a, .int f_b])), (q_lowering, .inr (3, [.int f_lowering_x, .int f_lowering_y, .int f_lowering_steps, .int f_lowering_metLetter])), (q_sorts, .inl (cy 0, 169, .inl f_sorts)), (q_counts, .inl (cy 0, 169, .inl f_counts)), (q_shares, .inl (cy 1, 169, .inr (.inl f_shares)))] sz)) 0 0 (va_A [(q_this, .inr (0, [.ref q_lowering, .ref q_sorts, .ref q_counts, .ref q_shares, .int f_a, .int f_b])), (q_lowering, .inr (3, [.int f_lowering_x, .int f_lowering_y, .int f_lowering_steps, .int f_lowering_metLetter])), (q_sorts, .inl (cy 0, 169, .inl f_sorts)), (q_counts, .inl (cy 0, 169, .inl f_counts)), (q_shares, .inl (cy 1, 169, .inr (.inl f_shares)))] sz) := by
  refine Met.ofW (cc := cX0_fillFor) (maxL := 5) (ret := none) (by decide) rfl ?_
  intro p e s m args below meth c s₁ B hml hv
  obtain ⟨rfl, hsz, hP, hK, hD0, hN⟩ := hv
  have hx := B.exec
  have hb := B.bytes
  have hr := B.returns
  have htA : ∀ w ∈ AW, w.before _ s = true := fun w h => atoms_spec (ws := Cond.code yX0_fillFor cX0_fillFor 5 none :: AW) B.pre w (List.mem_cons_of_mem _ h)
  have hown : s.vm.findClass RX0 = some m.cls := findClass_of_methodNamed B.named
  have hlocks := B.notSynchronized
  subst hsz
  have hD := hD0.self (sz := s.heap.size)
  generalize hAe : va_A [(q_this, .inr (0, [.ref q_lowering, .ref q_sorts, .ref q_counts, .ref q_shares, .int f_a, .int f_b])), (q_lowering, .inr (3, [.int f_lowering_x, .int f_lowering_y, .int f_lowering_steps, .int f_lowering_metLetter])), (q_sorts, .inl (cy 0, 169, .inl f_sorts)), (q_counts, .inl (cy 0, 169, .inl f_counts)), (q_shares, .inl (cy 1, 169, .inr (.inl f_shares)))] s.heap.size = A at hD ⊢
  have hA : ∀ q : Nat, s.heap.size ≤ q → A q := fun q h => by rw [← hAe]; exact Or.inr h
  have hS : va_S A s.heap s.heap [] := va_S.rf
  have hl := lv_entry ([.ref q_this, .int p1, .int p2]) (n := 5) (Nat.le_of_ble_eq_true rfl)
  rw [lg_entry_eq]
  generalize (lg_sl ([.ref q_this, .int p1, .int p2]) ++ List.replicate (5 - (lg_sl ([.ref q_this, .int p1, .int p2])).length) Slot.unset).toArray = ls at hl ⊢
  have hl : lv_has ls 5 [(0, .ref q_this), (1, .int p1), (2, .int p2)] := hl
  have hP : va_P G vwCl [(q_this, .inr (0, [.ref q_lowering, .ref q_sorts, .ref q_counts, .ref q_shares, .int f_a, .int f_b])), (q_lowering, .inr (3, [.int f_lowering_x, .int f_lowering_y, .int f_lowering_steps, .int f_lowering_metLetter])), (q_sorts, .inl (cy 0, 169, .inl f_sorts)), (q_counts, .inl (cy 0, 169, .inl f_counts)), (q_shares, .inl (cy 1, 169, .inr (.inl f_shares)))] s.heap := hP
  have C0 : Cx p s m _ meth c cX0_fillFor 5 none RX0 G cy A := ⟨hx, hb, hr, hml, htA, hown, hK, hN, hA, hlocks⟩
  have hf : ((if f_a = p1 then (if f_b = p2 then some (f_a, f_b, f_lowering_x, f_lowering_y, f_lowering_steps, f_lowering_metLetter, f_sorts, f_counts, f_shares) else jX0_fillFor_17 n p1 p2 f_a f_b f_lowering_x f_lowering_y f_lowering_steps f_lowering_metLetter f_sorts f_counts f_shares) else jX0_fillFor_17 n p1 p2 f_a f_b f_lowering_x f_lowering_y f_lowering_steps f_lowering_metLetter f_sorts f_counts f_shares) : Option (Int32 × Int32 × Int32 × Int32 × Int32 × Int32 × (Nat → Int32) × (Nat → Int32) × (Nat → Int64))) = some o := hf
  refine lv_aload_n hx hb dX0_fillFor_0 rfl (lv_at hl 0 rfl) ?_
  refine va_get (D := G) (ci := 0) (v := .int f_a) (C := RX0) (T := TX0) (N := 6) hx hb htA lyX0 hown hK hP 0 rfl rfl 4 (by decide) (htA _ a_fl_X0_22) (fun _ h9 => h9) rfl dX0_fillFor_1 ?_
  refine lv_iload_n hx hb dX0_fillFor_4 rfl (lv_at hl 1 rfl) ?_
  refine lv_icmp_ne (tgt := 17) hx hb dX0_fillFor_5 (by decide) (fun c_24 => ?_) (fun c_24 => ?_)
  · have hf := ite_f c_24 hf
    exact wX0_fillFor_17 C0 _ _ _ _ _ _ _ _ _ _ _ _ _ _ hP hD hS (lv_sub hl [0, 1, 2] rfl) hf
  · have hf := ite_t c_24 hf
    refine lv_aload_n hx hb dX0_fillFor_8 rfl (lv_at hl 0 rfl) ?_
    refine va_get (D := G) (ci := 0) (v := .int f_b) (C := RX0) (T := TX0) (N := 6) hx hb htA lyX0 hown hK hP 0 rfl rfl 5 (by decide) (htA _ a_fl_X0_26) (fun _ h9 => h9) rfl dX0_fillFor_9 ?_
    refine lv_iload_n hx hb dX0_fillFor_12 rfl (lv_at hl 2 rfl) ?_
    refine lv_icmp_ne (tgt := 17) hx hb dX0_fillFor_13 (by decide) (fun c_25 => ?_) (fun c_25 => ?_)
    · have hf := ite_f c_25 hf
      exact wX0_fillFor_17 C0 _ _ _ _ _ _ _ _ _ _ _ _ _ _ hP hD hS (lv_sub hl [0, 1, 2] rfl) hf
    · have hf := ite_t c_25 hf
      have ho := Option.some.inj hf
      subst ho
      exact W.vret hx hb hr (fun t ht hW => ⟨⟨(), rfl, trivial, by rw [ht]; exact hP, va_K.moved hW.alike hK, hD⟩, hS.F ht⟩) hS.2.2 dX0_fillFor_16
set_option maxRecDepth 100000 in
set_option maxHeartbeats 4000000 in
theorem wX0_rootsOfHeight_4 {p : Program} {l : Launch} {e : Env} {s : State} {m : MethodId} {args : Array Value} {below : List Frame} {meth : Method} {c : Code} {G : va_G} {cy : Nat → ClassId} {A : Nat → Prop} {q_this : Nat} {q_lowering : Nat} {q_sorts : Nat} {q_counts : Nat} {q_shares : Nat} {f_a : Int32} {f_b : Int32} {f_sorts : Nat → Int32} {n : Nat} {o : Int32} (C : Cx p s m args meth c cX0_rootsOfHeight 4 (some .int) RX0 G cy A) : ∀ k4 : Nat, ∀ (v1 : Int32) (v2 : Int32) (v3 : Int32) (H : Heap) (locs : List Loc) (ls : Array Slot), va_P G vwCl [(q_this, .inr (0, [.ref q_lowering, .ref q_sorts, .ref q_counts, .ref q_shares, .int f_a, .int f_b])), (q_sorts, .inl (cy 0, 169, .inl f_sorts))] H → va_D A [(q_this, .inr (0, [.ref q_lowering, .ref q_sorts, .ref q_counts, .ref q_shares, .int f_a, .int f_b])), (q_sorts, .inl (cy 0, 169, .inl f_sorts))] → va_S A s.heap H locs → lv_has ls 4 [(0, .ref q_this), (1, .int v1), (2, .int v2), (3, .int v3)] → lX0_rootsOfHeight_4 n f_sorts k4 v1 v2 v3 = some o → W p l e (headSpec (Cond.code yX0_rootsOfHeight cX0_rootsOfHeight 4 (some .int) :: AW) ({ frames := 2, cells := 0, slots := 0, locals := 42 } : Room)).room s m args below meth c H locs 0 0 (MQ below (va_Qi (fun r (_ : Unit) => r = o) (fun _ => Wq G cy A [(q_this, .inr (0, [.ref q_lowering, .ref q_sorts, .ref q_counts, .ref q_shares, .int f_a, .int f_b])), (q_sorts, .inl (cy 0, 169, .inl f_sorts))]) A) args s 0 0 A) (F0 m 4 ls []) := by
  have C0 := C
  obtain ⟨hx, hb, hr, hml, htA, hown, hK, hN, hA, hlocks⟩ := C
  intro k4
  induction k4 with
  | zero =>
    intro v1 v2 v3 H locs ls hP hD hS hl hf
    exact no_s hf
  | succ k4 ih4 =>
    intro v1 v2 v3 H locs ls hP hD hS hl hf
    have hf : ((if v1 < v3 then some (v2) else (fX8_isCountable v3 (v1 - v3)).bind fun q13 => ((if q13 = 0 then lX0_rootsOfHeight_4 n f_sorts k4 v1 v2 (v3 + 1) else ck (((13 * v3) + v1) - v3) 169 ((if (f_sorts (Int32.toNatClampNeg (((13 * v3) + v1) - v3))) = 0 then lX0_rootsOfHeight_4 n f_sorts k4 v1 v2 (v3 + 1) else lX0_rootsOfHeight_4 n f_sorts k4 v1 (v2 + 1) (v3 + 1)))))) : Option (Int32)) = some o := hf
    refine lv_iload_n hx hb dX0_rootsOfHeight_4 rfl (lv_at hl 3 rfl) ?_
    refine lv_iload_n hx hb dX0_rootsOfHeight_5 rfl (lv_at hl 1 rfl) ?_
    refine lv_icmp_gt (tgt := 44) hx hb dX0_rootsOfHeight_6 (by decide) (fun c_21 => ?_) (fun c_21 => ?_)
    · have hf := ite_t c_21 hf
      refine lv_iload_n hx hb dX0_rootsOfHeight_44 rfl (lv_at hl 2 rfl) ?_
      have ho := Option.some.inj hf
      subst ho
      exact W.iret (v := v2) hx hb hr (fun t ht hW => ⟨⟨_, (), rfl, rfl, by rw [ht]; exact hP, va_K.moved hW.alike hK, hD⟩, hS.F ht⟩) hS.2.2 dX0_rootsOfHeight_45
    · have hf := ite_f c_21 hf
      refine lv_iload_n hx hb dX0_rootsOfHeight_9 rfl (lv_at hl 3 rfl) ?_
      refine lv_iload_n hx hb dX0_rootsOfHeight_10 rfl (lv_at hl 1 rfl) ?_
      refine lv_iload_n hx hb dX0_rootsOfHeight_11 rfl (lv_at hl 3 rfl) ?_
      refine lv_isub hx hb dX0_rootsOfHeight_12 ?_
      obtain ⟨q13, h13_22, hf⟩ := bd_s hf
      refine u_calliR (va_runSN (As := [.int v3, .int (v1 - v3)]) (rest := []) ⟨hx, hb, hml, hown, htA⟩ (kX8_isCountable l G cy H.size v3 (v1 - v3) h13_22) (u_cnS htA hN (List.mem_of_getElem? (i := 25) rfl) pk_X8_isCountable ⟨Nat.le_of_ble_eq_true rfl, Nat.le_of_ble_eq_true rfl⟩) (u_preS hK hN hP hD [] rfl (by decide)) rfl rfl hl.1 rfl (lv_room (Nat.le_of_ble_eq_true rfl)) dX0_rootsOfHeight_13 ⟨Nat.zero_le _, Nat.zero_le _⟩) hP hD hS hA [] rfl (fun H locs hP hS => ?_)
      refine lv_if_eq (tgt := 38) hx hb dX0_rootsOfHeight_16 (by decide) (fun c_23 => ?_) (fun c_23 => ?_)
      · have hf := ite_t c_23 hf
        refine lv_iinc (v := (v3 + 1)) (lv' := [(3, .int (v3 + 1)), (0, .ref q_this), (1, .int v1), (2, .int v2)]) hx hb dX0_rootsOfHeight_38 hl (k := 3) rfl rfl (by decide) rfl (fun ls hl => ?_)
        refine lv_goto (tgt := 4) hx hb dX0_rootsOfHeight_41 (by decide) ?_
        exact ih4 _ _ _ _ _ _ hP hD hS (lv_sub hl [1, 2, 3, 0] rfl) hf
      · have hf := ite_f c_23 hf
        refine lv_aload_n hx hb dX0_rootsOfHeight_19 rfl (lv_at hl 0 rfl) ?_
        refine va_get (D := G) (ci := 0) (v := .ref q_sorts) (C := RX0) (T := TX0) (N := 6) hx hb htA lyX0 hown hK hP 0 rfl rfl 1 (by decide) (htA _ a_fl_X0_9) (fun _ h9 => h9) rfl dX0_rootsOfHeight_20 ?_
        refine lv_bipush (v := 13) hx hb dX0_rootsOfHeight_23 (by decide) ?_
        refine lv_iload_n hx hb dX0_rootsOfHeight_25 rfl (lv_at hl 3 rfl) ?_
        refine lv_imul hx hb dX0_rootsOfHeight_26 ?_
        refine lv_iload_n hx hb dX0_rootsOfHeight_27 rfl (lv_at hl 1 rfl) ?_
        refine lv_iadd hx hb dX0_rootsOfHeight_28 ?_
        refine lv_iload_n hx hb dX0_rootsOfHeight_29 rfl (lv_at hl 3 rfl) ?_
        refine lv_isub hx hb dX0_rootsOfHeight_30 ?_
        obtain ⟨i_24, hf⟩ := ck_s hf
        refine va_iald (D := G) hx hb hK hP 1 0 rfl rfl i_24 dX0_rootsOfHeight_31 ?_
        refine lv_if_eq (tgt := 38) hx hb dX0_rootsOfHeight_32 (by decide) (fun c_25 => ?_) (fun c_25 => ?_)
        · have hf := ite_t c_25 hf
          refine lv_iinc (v := (v3 + 1)) (lv' := [(3, .int (v3 + 1)), (0, .ref q_this), (1, .int v1), (2, .int v2)]) hx hb dX0_rootsOfHeight_38 hl (k := 3) rfl rfl (by decide) rfl (fun ls hl => ?_)
          refine lv_goto (tgt := 4) hx hb dX0_rootsOfHeight_41 (by decide) ?_
          exact ih4 _ _ _ _ _ _ hP hD hS (lv_sub hl [1, 2, 3, 0] rfl) hf
        · have hf := ite_f c_25 hf
          refine lv_iinc (v := (v2 + 1)) (lv' := [(2, .int (v2 + 1)), (0, .ref q_this), (1, .int v1), (3, .int v3)]) hx hb dX0_rootsOfHeight_35 hl (k := 2) rfl rfl (by decide) rfl (fun ls hl => ?_)
          refine lv_iinc (v := (v3 + 1)) (lv' := [(3, .int (v3 + 1)), (2, .int (v2 + 1)), (0, .ref q_this), (1, .int v1)]) hx hb dX0_rootsOfHeight_38 hl (k := 3) rfl rfl (by decide) rfl (fun ls hl => ?_)
          refine lv_goto (tgt := 4) hx hb dX0_rootsOfHeight_41 (by decide) ?_
          exact ih4 _ _ _ _ _ _ hP hD hS (lv_sub hl [2, 3, 1, 0] rfl) hf
set_option maxRecDepth 100000 in
set_option maxHeartbeats 4000000 in
theorem kX0_rootsOfHeight (l : Launch) (G : va_G) (cy : Nat → ClassId) (q_this : Nat) (q_lowering : Nat) (q_sorts : Nat) (q_counts : Nat) (q_shares : Nat) (sz : Nat) (f_a : Int32) (f_b : Int32) (f_sorts : Nat → Int32) (p1 : Int32) (n : Nat) {o : Int32} (hf : fX0_rootsOfHeight n p1 f_sorts = some o) : Met l yX0_rootsOfHeight (Cond.code yX0_rootsOfHeight cX0_rootsOfHeight 4 (some .int) :: AW) ({ frames := 2, cells := 0, slots := 0, locals := 42 } : Room) (va_Pc [.ref q_this, .int p1] (Wp G cy [(q_this, .inr (0, [.ref q_lowering, .ref q_sorts, .ref q_counts, .ref q_shares, .int f_a, .int f_b])), (q_sorts, .inl (cy 0, 169, .inl f_sorts))] sz)) (va_Qi (fun r (_ : Unit) => r = o) (fun _ => Wq G cy (va_A [(q_this, .inr (0, [.ref q_lowering, .ref q_sorts, .ref q_counts, .ref q_shares, .int f_a, .int f_b])), (q_sorts, .inl (cy 0, 169, .inl f_sorts))] sz) [(q_this, .inr (0, [.ref q_lowering, .ref q_sorts, .ref q_counts, .ref q_shares, .int f_a, .int f_b])), (q_sorts, .inl (cy 0, 169, .inl f_sorts))]) (va_A [(q_this, .inr (0, [.ref q_lowering, .ref q_sorts, .ref q_counts, .ref q_shares, .int f_a, .int f_b])), (q_sorts, .inl (cy 0, 169, .inl f_sorts))] sz)) 0 0 (va_A [(q_this, .inr (0, [.ref q_lowering, .ref q_sorts, .ref q_counts, .ref q_shares, .int f_a, .int f_b])), (q_sorts, .inl (cy 0, 169, .inl f_sorts))] sz) := by
  refine Met.ofW (cc := cX0_rootsOfHeight) (maxL := 4) (ret := (some .int)) (by decide) rfl ?_
  intro p e s m args below meth c s₁ B hml hv
  obtain ⟨rfl, hsz, hP, hK, hD0, hN⟩ := hv
  have hx := B.exec
  have hb := B.bytes
  have hr := B.returns
  have htA : ∀ w ∈ AW, w.before _ s = true := fun w h => atoms_spec (ws := Cond.code yX0_rootsOfHeight cX0_rootsOfHeight 4 (some .int) :: AW) B.pre w (List.mem_cons_of_mem _ h)
  have hown : s.vm.findClass RX0 = some m.cls := findClass_of_methodNamed B.named
  have hlocks := B.notSynchronized
  subst hsz
  have hD := hD0.self (sz := s.heap.size)
  generalize hAe : va_A [(q_this, .inr (0, [.ref q_lowering, .ref q_sorts, .ref q_counts, .ref q_shares, .int f_a, .int f_b])), (q_sorts, .inl (cy 0, 169, .inl f_sorts))] s.heap.size = A at hD ⊢
  have hA : ∀ q : Nat, s.heap.size ≤ q → A q := fun q h => by rw [← hAe]; exact Or.inr h
  have hS : va_S A s.heap s.heap [] := va_S.rf
  have hl := lv_entry ([.ref q_this, .int p1]) (n := 4) (Nat.le_of_ble_eq_true rfl)
  rw [lg_entry_eq]
  generalize (lg_sl ([.ref q_this, .int p1]) ++ List.replicate (4 - (lg_sl ([.ref q_this, .int p1])).length) Slot.unset).toArray = ls at hl ⊢
  have hl : lv_has ls 4 [(0, .ref q_this), (1, .int p1)] := hl
  have hP : va_P G vwCl [(q_this, .inr (0, [.ref q_lowering, .ref q_sorts, .ref q_counts, .ref q_shares, .int f_a, .int f_b])), (q_sorts, .inl (cy 0, 169, .inl f_sorts))] s.heap := hP
  have C0 : Cx p s m _ meth c cX0_rootsOfHeight 4 (some .int) RX0 G cy A := ⟨hx, hb, hr, hml, htA, hown, hK, hN, hA, hlocks⟩
  have hf : (lX0_rootsOfHeight_4 n f_sorts n p1 0 0 : Option (Int32)) = some o := hf
  refine lv_iconst (v := 0) hx hb dX0_rootsOfHeight_0 (by decide) ?_
  refine lv_istore_n (lv' := [(2, .int 0), (0, .ref q_this), (1, .int p1)]) hx hb dX0_rootsOfHeight_1 rfl hl (by decide) rfl (fun ls hl => ?_)
  refine lv_iconst (v := 0) hx hb dX0_rootsOfHeight_2 (by decide) ?_
  refine lv_istore_n (lv' := [(3, .int 0), (2, .int 0), (0, .ref q_this), (1, .int p1)]) hx hb dX0_rootsOfHeight_3 rfl hl (by decide) rfl (fun ls hl => ?_)
  exact wX0_rootsOfHeight_4 C0 n _ _ _ _ _ _ hP hD hS (lv_sub hl [2, 3, 1, 0] rfl) hf
set_option maxRecDepth 100000 in
set_option maxHeartbeats 4000000 in
theorem wX0_sumOfHeight_4 {p : Program} {l : Launch} {e : Env} {s : State} {m : MethodId} {args : Array Value} {below : List Frame} {meth : Method} {c : Code} {G : va_G} {cy : Nat → ClassId} {A : Nat → Prop} {q_this : Nat} {q_lowering : Nat} {q_sorts : Nat} {q_counts : Nat} {q_shares : Nat} {f_a : Int32} {f_b : Int32} {f_counts : Nat → Int32} {n : Nat} {o : Int32} (C : Cx p s m args meth c cX0_sumOfHeight 4 (some .int) RX0 G cy A) : ∀ k4 : Nat, ∀ (v1 : Int32) (v2 : Int32) (v3 : Int32) (H : Heap) (locs : List Loc) (ls : Array Slot), va_P G vwCl [(q_this, .inr (0, [.ref q_lowering, .ref q_sorts, .ref q_counts, .ref q_shares, .int f_a, .int f_b])), (q_counts, .inl (cy 0, 169, .inl f_counts))] H → va_D A [(q_this, .inr (0, [.ref q_lowering, .ref q_sorts, .ref q_counts, .ref q_shares, .int f_a, .int f_b])), (q_counts, .inl (cy 0, 169, .inl f_counts))] → va_S A s.heap H locs → lv_has ls 4 [(0, .ref q_this), (1, .int v1), (2, .int v2), (3, .int v3)] → lX0_sumOfHeight_4 n f_counts k4 v1 v2 v3 = some o → W p l e (headSpec (Cond.code yX0_sumOfHeight cX0_sumOfHeight 4 (some .int) :: AW) ({ frames := 3, cells := 0, slots := 0, locals := 64 } : Room)).room s m args below meth c H locs 0 0 (MQ below (va_Qi (fun r (_ : Unit) => r = o) (fun _ => Wq G cy A [(q_this, .inr (0, [.ref q_lowering, .ref q_sorts, .ref q_counts, .ref q_shares, .int f_a, .int f_b])), (q_counts, .inl (cy 0, 169, .inl f_counts))]) A) args s 0 0 A) (F0 m 4 ls []) := by
  have C0 := C
  obtain ⟨hx, hb, hr, hml, htA, hown, hK, hN, hA, hlocks⟩ := C
  intro k4
  induction k4 with
  | zero =>
    intro v1 v2 v3 H locs ls hP hD hS hl hf
    exact no_s hf
  | succ k4 ih4 =>
    intro v1 v2 v3 H locs ls hP hD hS hl hf
    have hf : ((if v1 < v3 then some (v2) else (fX0_countAt v3 (v1 - v3) f_counts).bind fun q15 => (lX0_sumOfHeight_4 n f_counts k4 v1 (v2 + q15) (v3 + 1))) : Option (Int32)) = some o := hf
    refine lv_iload_n hx hb dX0_sumOfHeight_4 rfl (lv_at hl 3 rfl) ?_
    refine lv_iload_n hx hb dX0_sumOfHeight_5 rfl (lv_at hl 1 rfl) ?_
    refine lv_icmp_gt (tgt := 26) hx hb dX0_sumOfHeight_6 (by decide) (fun c_9 => ?_) (fun c_9 => ?_)
    · have hf := ite_t c_9 hf
      refine lv_iload_n hx hb dX0_sumOfHeight_26 rfl (lv_at hl 2 rfl) ?_
      have ho := Option.some.inj hf
      subst ho
      exact W.iret (v := v2) hx hb hr (fun t ht hW => ⟨⟨_, (), rfl, rfl, by rw [ht]; exact hP, va_K.moved hW.alike hK, hD⟩, hS.F ht⟩) hS.2.2 dX0_sumOfHeight_27
    · have hf := ite_f c_9 hf
      refine lv_iload_n hx hb dX0_sumOfHeight_9 rfl (lv_at hl 2 rfl) ?_
      refine lv_aload_n hx hb dX0_sumOfHeight_10 rfl (lv_at hl 0 rfl) ?_
      refine lv_iload_n hx hb dX0_sumOfHeight_11 rfl (lv_at hl 3 rfl) ?_
      refine lv_iload_n hx hb dX0_sumOfHeight_12 rfl (lv_at hl 1 rfl) ?_
      refine lv_iload_n hx hb dX0_sumOfHeight_13 rfl (lv_at hl 3 rfl) ?_
      refine lv_isub hx hb dX0_sumOfHeight_14 ?_
      obtain ⟨q15, h15_10, hf⟩ := bd_s hf
      refine u_calliR (va_runV (As := [.int v3, .int (v1 - v3)]) (rest := [.int v2]) ⟨hx, hb, hml, hown, htA⟩ (kX0_countAt l G cy q_this q_lowering q_sorts q_counts q_shares H.size f_a f_b f_counts v3 (v1 - v3) h15_10) (u_cwV htA a_ml_X0_52 pk_X0_countAt ⟨Nat.le_of_ble_eq_true rfl, Nat.le_of_ble_eq_true rfl⟩) (u_preV hK hN hP hD [0, 1] rfl (by decide) 0 rfl rfl) rfl rfl hl.1 rfl (lv_room (Nat.le_of_ble_eq_true rfl)) dX0_sumOfHeight_15 ⟨Nat.zero_le _, Nat.zero_le _⟩) hP hD hS hA [0, 1] rfl (fun H locs hP hS => ?_)
      refine lv_iadd hx hb dX0_sumOfHeight_18 ?_
      refine lv_istore_n (lv' := [(2, .int (v2 + q15)), (0, .ref q_this), (1, .int v1), (3, .int v3)]) hx hb dX0_sumOfHeight_19 rfl hl (by decide) rfl (fun ls hl => ?_)
      refine lv_iinc (v := (v3 + 1)) (lv' := [(3, .int (v3 + 1)), (2, .int (v2 + q15)), (0, .ref q_this), (1, .int v1)]) hx hb dX0_sumOfHeight_20 hl (k := 3) rfl rfl (by decide) rfl (fun ls hl => ?_)
      refine lv_goto (tgt := 4) hx hb dX0_sumOfHeight_23 (by decide) ?_
      exact ih4 _ _ _ _ _ _ hP hD hS (lv_sub hl [2, 3, 1, 0] rfl) hf
set_option maxRecDepth 100000 in
set_option maxHeartbeats 4000000 in
theorem kX0_sumOfHeight (l : Launch) (G : va_G) (cy : Nat → ClassId) (q_this : Nat) (q_lowering : Nat) (q_sorts : Nat) (q_counts : Nat) (q_shares : Nat) (sz : Nat) (f_a : Int32) (f_b : Int32) (f_counts : Nat → Int32) (p1 : Int32) (n : Nat) {o : Int32} (hf : fX0_sumOfHeight n p1 f_counts = some o) : Met l yX0_sumOfHeight (Cond.code yX0_sumOfHeight cX0_sumOfHeight 4 (some .int) :: AW) ({ frames := 3, cells := 0, slots := 0, locals := 64 } : Room) (va_Pc [.ref q_this, .int p1] (Wp G cy [(q_this, .inr (0, [.ref q_lowering, .ref q_sorts, .ref q_counts, .ref q_shares, .int f_a, .int f_b])), (q_counts, .inl (cy 0, 169, .inl f_counts))] sz)) (va_Qi (fun r (_ : Unit) => r = o) (fun _ => Wq G cy (va_A [(q_this, .inr (0, [.ref q_lowering, .ref q_sorts, .ref q_counts, .ref q_shares, .int f_a, .int f_b])), (q_counts, .inl (cy 0, 169, .inl f_counts))] sz) [(q_this, .inr (0, [.ref q_lowering, .ref q_sorts, .ref q_counts, .ref q_shares, .int f_a, .int f_b])), (q_counts, .inl (cy 0, 169, .inl f_counts))]) (va_A [(q_this, .inr (0, [.ref q_lowering, .ref q_sorts, .ref q_counts, .ref q_shares, .int f_a, .int f_b])), (q_counts, .inl (cy 0, 169, .inl f_counts))] sz)) 0 0 (va_A [(q_this, .inr (0, [.ref q_lowering, .ref q_sorts, .ref q_counts, .ref q_shares, .int f_a, .int f_b])), (q_counts, .inl (cy 0, 169, .inl f_counts))] sz) := by
  refine Met.ofW (cc := cX0_sumOfHeight) (maxL := 4) (ret := (some .int)) (by decide) rfl ?_
  intro p e s m args below meth c s₁ B hml hv
  obtain ⟨rfl, hsz, hP, hK, hD0, hN⟩ := hv
  have hx := B.exec
  have hb := B.bytes
  have hr := B.returns
  have htA : ∀ w ∈ AW, w.before _ s = true := fun w h => atoms_spec (ws := Cond.code yX0_sumOfHeight cX0_sumOfHeight 4 (some .int) :: AW) B.pre w (List.mem_cons_of_mem _ h)
  have hown : s.vm.findClass RX0 = some m.cls := findClass_of_methodNamed B.named
  have hlocks := B.notSynchronized
  subst hsz
  have hD := hD0.self (sz := s.heap.size)
  generalize hAe : va_A [(q_this, .inr (0, [.ref q_lowering, .ref q_sorts, .ref q_counts, .ref q_shares, .int f_a, .int f_b])), (q_counts, .inl (cy 0, 169, .inl f_counts))] s.heap.size = A at hD ⊢
  have hA : ∀ q : Nat, s.heap.size ≤ q → A q := fun q h => by rw [← hAe]; exact Or.inr h
  have hS : va_S A s.heap s.heap [] := va_S.rf
  have hl := lv_entry ([.ref q_this, .int p1]) (n := 4) (Nat.le_of_ble_eq_true rfl)
  rw [lg_entry_eq]
  generalize (lg_sl ([.ref q_this, .int p1]) ++ List.replicate (4 - (lg_sl ([.ref q_this, .int p1])).length) Slot.unset).toArray = ls at hl ⊢
  have hl : lv_has ls 4 [(0, .ref q_this), (1, .int p1)] := hl
  have hP : va_P G vwCl [(q_this, .inr (0, [.ref q_lowering, .ref q_sorts, .ref q_counts, .ref q_shares, .int f_a, .int f_b])), (q_counts, .inl (cy 0, 169, .inl f_counts))] s.heap := hP
  have C0 : Cx p s m _ meth c cX0_sumOfHeight 4 (some .int) RX0 G cy A := ⟨hx, hb, hr, hml, htA, hown, hK, hN, hA, hlocks⟩
  have hf : (lX0_sumOfHeight_4 n f_counts n p1 0 0 : Option (Int32)) = some o := hf
  refine lv_iconst (v := 0) hx hb dX0_sumOfHeight_0 (by decide) ?_
  refine lv_istore_n (lv' := [(2, .int 0), (0, .ref q_this), (1, .int p1)]) hx hb dX0_sumOfHeight_1 rfl hl (by decide) rfl (fun ls hl => ?_)
  refine lv_iconst (v := 0) hx hb dX0_sumOfHeight_2 (by decide) ?_
  refine lv_istore_n (lv' := [(3, .int 0), (2, .int 0), (0, .ref q_this), (1, .int p1)]) hx hb dX0_sumOfHeight_3 rfl hl (by decide) rfl (fun ls hl => ?_)
  exact wX0_sumOfHeight_4 C0 n _ _ _ _ _ _ hP hD hS (lv_sub hl [2, 3, 1, 0] rfl) hf
set_option maxRecDepth 100000 in
set_option maxHeartbeats 4000000 in
theorem kX1_coefficientAt (l : Launch) (G : va_G) (cy : Nat → ClassId) (q_this : Nat) (q_coefficients : Nat) (sz : Nat) (f_a : Int32) (f_b : Int32) (f_coefficients : Nat → Int64) (p1 : Int32) (p2 : Int32) {o : Int64} (hf : fX1_coefficientAt p1 p2 f_coefficients = some o) : Met l yX1_coefficientAt (Cond.code yX1_coefficientAt cX1_coefficientAt 3 (some .long) :: AW) ({ frames := 1, cells := 0, slots := 0, locals := 21 } : Room) (va_Pc [.ref q_this, .int p1, .int p2] (Wp G cy [(q_this, .inr (1, [.ref q_coefficients, .int f_a, .int f_b])), (q_coefficients, .inl (cy 1, 169, .inr (.inl f_coefficients)))] sz)) (va_Ql (fun r (_ : Unit) => r = o) (fun _ => Wq G cy (va_A [(q_this, .inr (1, [.ref q_coefficients, .int f_a, .int f_b])), (q_coefficients, .inl (cy 1, 169, .inr (.inl f_coefficients)))] sz) [(q_this, .inr (1, [.ref q_coefficients, .int f_a, .int f_b])), (q_coefficients, .inl (cy 1, 169, .inr (.inl f_coefficients)))]) (va_A [(q_this, .inr (1, [.ref q_coefficients, .int f_a, .int f_b])), (q_coefficients, .inl (cy 1, 169, .inr (.inl f_coefficients)))] sz)) 0 0 (va_A [(q_this, .inr (1, [.ref q_coefficients, .int f_a, .int f_b])), (q_coefficients, .inl (cy 1, 169, .inr (.inl f_coefficients)))] sz) := by
  refine Met.ofW (cc := cX1_coefficientAt) (maxL := 3) (ret := (some .long)) (by decide) rfl ?_
  intro p e s m args below meth c s₁ B hml hv
  obtain ⟨rfl, hsz, hP, hK, hD0, hN⟩ := hv
  have hx := B.exec
  have hb := B.bytes
  have hr := B.returns
  have htA : ∀ w ∈ AW, w.before _ s = true := fun w h => atoms_spec (ws := Cond.code yX1_coefficientAt cX1_coefficientAt 3 (some .long) :: AW) B.pre w (List.mem_cons_of_mem _ h)
  have hown : s.vm.findClass RX1 = some m.cls := findClass_of_methodNamed B.named
  have hlocks := B.notSynchronized
  subst hsz
  have hD := hD0.self (sz := s.heap.size)
  generalize hAe : va_A [(q_this, .inr (1, [.ref q_coefficients, .int f_a, .int f_b])), (q_coefficients, .inl (cy 1, 169, .inr (.inl f_coefficients)))] s.heap.size = A at hD ⊢
  have hA : ∀ q : Nat, s.heap.size ≤ q → A q := fun q h => by rw [← hAe]; exact Or.inr h
  have hS : va_S A s.heap s.heap [] := va_S.rf
  have hl := lv_entry ([.ref q_this, .int p1, .int p2]) (n := 3) (Nat.le_of_ble_eq_true rfl)
  rw [lg_entry_eq]
  generalize (lg_sl ([.ref q_this, .int p1, .int p2]) ++ List.replicate (3 - (lg_sl ([.ref q_this, .int p1, .int p2])).length) Slot.unset).toArray = ls at hl ⊢
  have hl : lv_has ls 3 [(0, .ref q_this), (1, .int p1), (2, .int p2)] := hl
  have hP : va_P G vwCl [(q_this, .inr (1, [.ref q_coefficients, .int f_a, .int f_b])), (q_coefficients, .inl (cy 1, 169, .inr (.inl f_coefficients)))] s.heap := hP
  have hf : ((fX8_isSmall p1 p2).bind fun q2 => ((if q2 = 0 then some (0) else ck ((13 * p1) + p2) 169 (some ((f_coefficients (Int32.toNatClampNeg ((13 * p1) + p2))))))) : Option (Int64)) = some o := hf
  refine lv_iload_n hx hb dX1_coefficientAt_0 rfl (lv_at hl 1 rfl) ?_
  refine lv_iload_n hx hb dX1_coefficientAt_1 rfl (lv_at hl 2 rfl) ?_
  obtain ⟨q2, h2_13, hf⟩ := bd_s hf
  refine u_calliR (va_runSN (As := [.int p1, .int p2]) (rest := []) ⟨hx, hb, hml, hown, htA⟩ (kX8_isSmall l G cy s.heap.size p1 p2 h2_13) (u_cnS htA hN (List.mem_of_getElem? (i := 28) rfl) pk_X8_isSmall ⟨Nat.le_of_ble_eq_true rfl, Nat.le_of_ble_eq_true rfl⟩) (u_preS hK hN hP hD [] rfl (by decide)) rfl rfl hl.1 rfl (lv_room (Nat.le_of_ble_eq_true rfl)) dX1_coefficientAt_2 ⟨Nat.zero_le _, Nat.zero_le _⟩) hP hD hS hA [] rfl (fun H locs hP hS => ?_)
  refine lv_if_eq (tgt := 22) hx hb dX1_coefficientAt_5 (by decide) (fun c_14 => ?_) (fun c_14 => ?_)
  · have hf := ite_t c_14 hf
    refine lv_lconst (v := 0) hx hb dX1_coefficientAt_22 (by decide) ?_
    have ho := Option.some.inj hf
    subst ho
    exact W.lret (v := 0) hx hb hr (fun t ht hW => ⟨⟨_, (), rfl, rfl, by rw [ht]; exact hP, va_K.moved hW.alike hK, hD⟩, hS.F ht⟩) hS.2.2 dX1_coefficientAt_23
  · have hf := ite_f c_14 hf
    refine lv_aload_n hx hb dX1_coefficientAt_8 rfl (lv_at hl 0 rfl) ?_
    refine va_get (D := G) (ci := 1) (v := .ref q_coefficients) (C := RX1) (T := TX1) (N := 3) hx hb htA lyX1 hown hK hP 0 rfl rfl 0 (by decide) (htA _ a_fl_X1_9) (fun _ h9 => h9) rfl dX1_coefficientAt_9 ?_
    refine lv_bipush (v := 13) hx hb dX1_coefficientAt_12 (by decide) ?_
    refine lv_iload_n hx hb dX1_coefficientAt_14 rfl (lv_at hl 1 rfl) ?_
    refine lv_imul hx hb dX1_coefficientAt_15 ?_
    refine lv_iload_n hx hb dX1_coefficientAt_16 rfl (lv_at hl 2 rfl) ?_
    refine lv_iadd hx hb dX1_coefficientAt_17 ?_
    obtain ⟨i_15, hf⟩ := ck_s hf
    refine va_lald (D := G) hx hb hK hP 1 1 rfl rfl i_15 dX1_coefficientAt_18 ?_
    refine lv_goto (tgt := 23) hx hb dX1_coefficientAt_19 (by decide) ?_
    have ho := Option.some.inj hf
    subst ho
    exact W.lret (v := (f_coefficients (Int32.toNatClampNeg ((13 * p1) + p2)))) hx hb hr (fun t ht hW => ⟨⟨_, (), rfl, rfl, by rw [ht]; exact hP, va_K.moved hW.alike hK, hD⟩, hS.F ht⟩) hS.2.2 dX1_coefficientAt_23
set_option maxRecDepth 100000 in
set_option maxHeartbeats 4000000 in
theorem wX1_fromBelow_9 {p : Program} {l : Launch} {e : Env} {s : State} {m : MethodId} {args : Array Value} {below : List Frame} {meth : Method} {c : Code} {G : va_G} {cy : Nat → ClassId} {A : Nat → Prop} {q_this : Nat} {q_coefficients : Nat} {f_a : Int32} {f_b : Int32} {f_coefficients : Nat → Int64} {n : Nat} {o : Int64} (C : Cx p s m args meth c cX1_fromBelow 11 (some .long) RX1 G cy A) : ∀ k9 : Nat, ∀ (v1 : Int32) (v2 : Int32) (v3 : Int32) (v4 : Int32) (v5 : Int32) (v6 : Int64) (v8 : Int64) (v10 : Int32) (H : Heap) (locs : List Loc) (ls : Array Slot), va_P G vwCl [(q_this, .inr (1, [.ref q_coefficients, .int f_a, .int f_b])), (q_coefficients, .inl (cy 1, 169, .inr (.inl f_coefficients)))] H → va_D A [(q_this, .inr (1, [.ref q_coefficients, .int f_a, .int f_b])), (q_coefficients, .inl (cy 1, 169, .inr (.inl f_coefficients)))] → va_S A s.heap H locs → lv_has ls 11 [(0, .ref q_this), (1, .int v1), (2, .int v2), (3, .int v3), (4, .int v4), (5, .int v5), (6, .long v6), (8, .long v8), (10, .int v10)] → lX1_fromBelow_9 n f_coefficients k9 v1 v2 v3 v4 v5 v6 v8 v10 = some o → W p l e (headSpec (Cond.code yX1_fromBelow cX1_fromBelow 11 (some .long) :: AW) ({ frames := 2, cells := 0, slots := 0, locals := 43 } : Room)).room s m args below meth c H locs 0 0 (MQ below (va_Ql (fun r (_ : Unit) => r = o) (fun _ => Wq G cy A [(q_this, .inr (1, [.ref q_coefficients, .int f_a, .int f_b])), (q_coefficients, .inl (cy 1, 169, .inr (.inl f_coefficients)))]) A) args s 0 0 A) (F0 m 9 ls []) := by
  have C0 := C
  obtain ⟨hx, hb, hr, hml, htA, hown, hK, hN, hA, hlocks⟩ := C
  intro k9
  induction k9 with
  | zero =>
    intro v1 v2 v3 v4 v5 v6 v8 v10 H locs ls hP hD hS hl hf
    exact no_s hf
  | succ k9 ih9 =>
    intro v1 v2 v3 v4 v5 v6 v8 v10 H locs ls hP hD hS hl hf
    have hf : ((if 12 < v10 then some (v6) else (if v1 < (v10 * v3) then some (v6) else (if v2 < (v10 * v4) then some (v6) else dk (decide (¬ (Int32.toInt64 v10) = 0)) ((fX1_coefficientAt (v1 - (v10 * v3)) (v2 - (v10 * v4)) f_coefficients).bind fun q69 => (lX1_fromBelow_9 n f_coefficients k9 v1 v2 v3 v4 v5 (v6 + ((((-v8) * (Int32.toInt64 ((v5 - v10) + 1))) / (Int32.toInt64 v10)) * q69)) (((-v8) * (Int32.toInt64 ((v5 - v10) + 1))) / (Int32.toInt64 v10)) (v10 + 1)))))) : Option (Int64)) = some o := hf
    refine lv_iload hx hb dX1_fromBelow_9 (lv_at hl 8 rfl) ?_
    refine lv_bipush (v := 12) hx hb dX1_fromBelow_11 (by decide) ?_
    refine lv_icmp_gt (tgt := 82) hx hb dX1_fromBelow_13 (by decide) (fun c_21 => ?_) (fun c_21 => ?_)
    · have hf := ite_t c_21 hf
      refine lv_lload hx hb dX1_fromBelow_82 (lv_at hl 6 rfl) ?_
      have ho := Option.some.inj hf
      subst ho
      exact W.lret (v := v6) hx hb hr (fun t ht hW => ⟨⟨_, (), rfl, rfl, by rw [ht]; exact hP, va_K.moved hW.alike hK, hD⟩, hS.F ht⟩) hS.2.2 dX1_fromBelow_84
    · have hf := ite_f c_21 hf
      refine lv_iload_n hx hb dX1_fromBelow_16 rfl (lv_at hl 1 rfl) ?_
      refine lv_iload hx hb dX1_fromBelow_17 (lv_at hl 8 rfl) ?_
      refine lv_iload_n hx hb dX1_fromBelow_19 rfl (lv_at hl 3 rfl) ?_
      refine lv_imul hx hb dX1_fromBelow_20 ?_
      refine lv_icmp_lt (tgt := 82) hx hb dX1_fromBelow_21 (by decide) (fun c_22 => ?_) (fun c_22 => ?_)
      · have hf := ite_t c_22 hf
        refine lv_lload hx hb dX1_fromBelow_82 (lv_at hl 6 rfl) ?_
        have ho := Option.some.inj hf
        subst ho
        exact W.lret (v := v6) hx hb hr (fun t ht hW => ⟨⟨_, (), rfl, rfl, by rw [ht]; exact hP, va_K.moved hW.alike hK, hD⟩, hS.F ht⟩) hS.2.2 dX1_fromBelow_84
      · have hf := ite_f c_22 hf
        refine lv_iload_n hx hb dX1_fromBelow_24 rfl (lv_at hl 2 rfl) ?_
        refine lv_iload hx hb dX1_fromBelow_25 (lv_at hl 8 rfl) ?_
        refine lv_iload hx hb dX1_fromBelow_27 (lv_at hl 4 rfl) ?_
        refine lv_imul hx hb dX1_fromBelow_29 ?_
        refine lv_icmp_lt (tgt := 82) hx hb dX1_fromBelow_30 (by decide) (fun c_23 => ?_) (fun c_23 => ?_)
        · have hf := ite_t c_23 hf
          refine lv_lload hx hb dX1_fromBelow_82 (lv_at hl 6 rfl) ?_
          have ho := Option.some.inj hf
          subst ho
          exact W.lret (v := v6) hx hb hr (fun t ht hW => ⟨⟨_, (), rfl, rfl, by rw [ht]; exact hP, va_K.moved hW.alike hK, hD⟩, hS.F ht⟩) hS.2.2 dX1_fromBelow_84
        · have hf := ite_f c_23 hf
          refine lv_lload hx hb dX1_fromBelow_33 (lv_at hl 7 rfl) ?_
          refine lv_lneg hx hb dX1_fromBelow_35 ?_
          refine lv_iload hx hb dX1_fromBelow_36 (lv_at hl 5 rfl) ?_
          refine lv_iload hx hb dX1_fromBelow_38 (lv_at hl 8 rfl) ?_
          refine lv_isub hx hb dX1_fromBelow_40 ?_
          refine lv_iconst (v := 1) hx hb dX1_fromBelow_41 (by decide) ?_
          refine lv_iadd hx hb dX1_fromBelow_42 ?_
          refine lv_i2l hx hb dX1_fromBelow_43 rfl ?_
          refine lv_lmul hx hb dX1_fromBelow_44 ?_
          refine lv_iload hx hb dX1_fromBelow_45 (lv_at hl 8 rfl) ?_
          refine lv_i2l hx hb dX1_fromBelow_47 rfl ?_
          obtain ⟨d_24, hf⟩ := dk_s hf
          refine lv_ldiv hx hb dX1_fromBelow_48 (dk_l d_24) ?_
          refine lv_lstore (lv' := [(8, .long (((-v8) * (Int32.toInt64 ((v5 - v10) + 1))) / (Int32.toInt64 v10))), (0, .ref q_this), (1, .int v1), (2, .int v2), (3, .int v3), (4, .int v4), (5, .int v5), (6, .long v6), (10, .int v10)]) hx hb dX1_fromBelow_49 hl (by decide) rfl (fun ls hl => ?_)
          refine lv_lload hx hb dX1_fromBelow_51 (lv_at hl 7 rfl) ?_
          refine lv_lload hx hb dX1_fromBelow_53 (lv_at hl 0 rfl) ?_
          refine lv_aload_n hx hb dX1_fromBelow_55 rfl (lv_at hl 1 rfl) ?_
          refine lv_iload_n hx hb dX1_fromBelow_56 rfl (lv_at hl 2 rfl) ?_
          refine lv_iload hx hb dX1_fromBelow_57 (lv_at hl 8 rfl) ?_
          refine lv_iload_n hx hb dX1_fromBelow_59 rfl (lv_at hl 4 rfl) ?_
          refine lv_imul hx hb dX1_fromBelow_60 ?_
          refine lv_isub hx hb dX1_fromBelow_61 ?_
          refine lv_iload_n hx hb dX1_fromBelow_62 rfl (lv_at hl 3 rfl) ?_
          refine lv_iload hx hb dX1_fromBelow_63 (lv_at hl 8 rfl) ?_
          refine lv_iload hx hb dX1_fromBelow_65 (lv_at hl 5 rfl) ?_
          refine lv_imul hx hb dX1_fromBelow_67 ?_
          refine lv_isub hx hb dX1_fromBelow_68 ?_
          obtain ⟨q69, h69_25, hf⟩ := bd_s hf
          refine u_calllR (va_runV (As := [.int (v1 - (v10 * v3)), .int (v2 - (v10 * v4))]) (rest := [.long (((-v8) * (Int32.toInt64 ((v5 - v10) + 1))) / (Int32.toInt64 v10)), .long v6]) ⟨hx, hb, hml, hown, htA⟩ (kX1_coefficientAt l G cy q_this q_coefficients H.size f_a f_b f_coefficients (v1 - (v10 * v3)) (v2 - (v10 * v4)) h69_25) (u_cwV htA a_ml_X1_38 pk_X1_coefficientAt ⟨Nat.le_of_ble_eq_true rfl, Nat.le_of_ble_eq_true rfl⟩) (u_preV hK hN hP hD [0, 1] rfl (by decide) 0 rfl rfl) rfl rfl hl.1 rfl (lv_room (Nat.le_of_ble_eq_true rfl)) dX1_fromBelow_69 ⟨Nat.zero_le _, Nat.zero_le _⟩) hP hD hS hA [0, 1] rfl (fun H locs hP hS => ?_)
          refine lv_lmul hx hb dX1_fromBelow_72 ?_
          refine lv_ladd hx hb dX1_fromBelow_73 ?_
          refine lv_lstore (lv' := [(6, .long (v6 + ((((-v8) * (Int32.toInt64 ((v5 - v10) + 1))) / (Int32.toInt64 v10)) * q69))), (8, .long (((-v8) * (Int32.toInt64 ((v5 - v10) + 1))) / (Int32.toInt64 v10))), (0, .ref q_this), (1, .int v1), (2, .int v2), (3, .int v3), (4, .int v4), (5, .int v5), (10, .int v10)]) hx hb dX1_fromBelow_74 hl (by decide) rfl (fun ls hl => ?_)
          refine lv_iinc (v := (v10 + 1)) (lv' := [(10, .int (v10 + 1)), (6, .long (v6 + ((((-v8) * (Int32.toInt64 ((v5 - v10) + 1))) / (Int32.toInt64 v10)) * q69))), (8, .long (((-v8) * (Int32.toInt64 ((v5 - v10) + 1))) / (Int32.toInt64 v10))), (0, .ref q_this), (1, .int v1), (2, .int v2), (3, .int v3), (4, .int v4), (5, .int v5)]) hx hb dX1_fromBelow_76 hl (k := 8) rfl rfl (by decide) rfl (fun ls hl => ?_)
          refine lv_goto (tgt := 9) hx hb dX1_fromBelow_79 (by decide) ?_
          exact ih9 _ _ _ _ _ _ _ _ _ _ _ hP hD hS (lv_sub hl [3, 4, 5, 6, 7, 8, 1, 2, 0] rfl) hf
set_option maxRecDepth 100000 in
set_option maxHeartbeats 4000000 in
theorem kX1_fromBelow (l : Launch) (G : va_G) (cy : Nat → ClassId) (q_this : Nat) (q_coefficients : Nat) (sz : Nat) (f_a : Int32) (f_b : Int32) (f_coefficients : Nat → Int64) (p1 : Int32) (p2 : Int32) (p3 : Int32) (p4 : Int32) (p5 : Int32) (n : Nat) {o : Int64} (hf : fX1_fromBelow n p1 p2 p3 p4 p5 f_coefficients = some o) : Met l yX1_fromBelow (Cond.code yX1_fromBelow cX1_fromBelow 11 (some .long) :: AW) ({ frames := 2, cells := 0, slots := 0, locals := 43 } : Room) (va_Pc [.ref q_this, .int p1, .int p2, .int p3, .int p4, .int p5] (Wp G cy [(q_this, .inr (1, [.ref q_coefficients, .int f_a, .int f_b])), (q_coefficients, .inl (cy 1, 169, .inr (.inl f_coefficients)))] sz)) (va_Ql (fun r (_ : Unit) => r = o) (fun _ => Wq G cy (va_A [(q_this, .inr (1, [.ref q_coefficients, .int f_a, .int f_b])), (q_coefficients, .inl (cy 1, 169, .inr (.inl f_coefficients)))] sz) [(q_this, .inr (1, [.ref q_coefficients, .int f_a, .int f_b])), (q_coefficients, .inl (cy 1, 169, .inr (.inl f_coefficients)))]) (va_A [(q_this, .inr (1, [.ref q_coefficients, .int f_a, .int f_b])), (q_coefficients, .inl (cy 1, 169, .inr (.inl f_coefficients)))] sz)) 0 0 (va_A [(q_this, .inr (1, [.ref q_coefficients, .int f_a, .int f_b])), (q_coefficients, .inl (cy 1, 169, .inr (.inl f_coefficients)))] sz) := by
  refine Met.ofW (cc := cX1_fromBelow) (maxL := 11) (ret := (some .long)) (by decide) rfl ?_
  intro p e s m args below meth c s₁ B hml hv
  obtain ⟨rfl, hsz, hP, hK, hD0, hN⟩ := hv
  have hx := B.exec
  have hb := B.bytes
  have hr := B.returns
  have htA : ∀ w ∈ AW, w.before _ s = true := fun w h => atoms_spec (ws := Cond.code yX1_fromBelow cX1_fromBelow 11 (some .long) :: AW) B.pre w (List.mem_cons_of_mem _ h)
  have hown : s.vm.findClass RX1 = some m.cls := findClass_of_methodNamed B.named
  have hlocks := B.notSynchronized
  subst hsz
  have hD := hD0.self (sz := s.heap.size)
  generalize hAe : va_A [(q_this, .inr (1, [.ref q_coefficients, .int f_a, .int f_b])), (q_coefficients, .inl (cy 1, 169, .inr (.inl f_coefficients)))] s.heap.size = A at hD ⊢
  have hA : ∀ q : Nat, s.heap.size ≤ q → A q := fun q h => by rw [← hAe]; exact Or.inr h
  have hS : va_S A s.heap s.heap [] := va_S.rf
  have hl := lv_entry ([.ref q_this, .int p1, .int p2, .int p3, .int p4, .int p5]) (n := 11) (Nat.le_of_ble_eq_true rfl)
  rw [lg_entry_eq]
  generalize (lg_sl ([.ref q_this, .int p1, .int p2, .int p3, .int p4, .int p5]) ++ List.replicate (11 - (lg_sl ([.ref q_this, .int p1, .int p2, .int p3, .int p4, .int p5])).length) Slot.unset).toArray = ls at hl ⊢
  have hl : lv_has ls 11 [(0, .ref q_this), (1, .int p1), (2, .int p2), (3, .int p3), (4, .int p4), (5, .int p5)] := hl
  have hP : va_P G vwCl [(q_this, .inr (1, [.ref q_coefficients, .int f_a, .int f_b])), (q_coefficients, .inl (cy 1, 169, .inr (.inl f_coefficients)))] s.heap := hP
  have C0 : Cx p s m _ meth c cX1_fromBelow 11 (some .long) RX1 G cy A := ⟨hx, hb, hr, hml, htA, hown, hK, hN, hA, hlocks⟩
  have hf : (lX1_fromBelow_9 n f_coefficients n p1 p2 p3 p4 p5 0 1 1 : Option (Int64)) = some o := hf
  refine lv_lconst (v := 0) hx hb dX1_fromBelow_0 (by decide) ?_
  refine lv_lstore (lv' := [(6, .long 0), (0, .ref q_this), (1, .int p1), (2, .int p2), (3, .int p3), (4, .int p4), (5, .int p5)]) hx hb dX1_fromBelow_1 hl (by decide) rfl (fun ls hl => ?_)
  refine lv_lconst (v := 1) hx hb dX1_fromBelow_3 (by decide) ?_
  refine lv_lstore (lv' := [(8, .long 1), (6, .long 0), (0, .ref q_this), (1, .int p1), (2, .int p2), (3, .int p3), (4, .int p4), (5, .int p5)]) hx hb dX1_fromBelow_4 hl (by decide) rfl (fun ls hl => ?_)
  refine lv_iconst (v := 1) hx hb dX1_fromBelow_6 (by decide) ?_
  refine lv_istore (lv' := [(10, .int 1), (8, .long 1), (6, .long 0), (0, .ref q_this), (1, .int p1), (2, .int p2), (3, .int p3), (4, .int p4), (5, .int p5)]) hx hb dX1_fromBelow_7 hl (by decide) rfl (fun ls hl => ?_)
  exact wX1_fromBelow_9 C0 n _ _ _ _ _ _ _ _ _ _ _ hP hD hS (lv_sub hl [3, 4, 5, 6, 7, 8, 2, 1, 0] rfl) hf
set_option maxRecDepth 100000 in
set_option maxHeartbeats 4000000 in
theorem wX1_multiply_20 {p : Program} {l : Launch} {e : Env} {s : State} {m : MethodId} {args : Array Value} {below : List Frame} {meth : Method} {c : Code} {G : va_G} {cy : Nat → ClassId} {A : Nat → Prop} {q_this : Nat} {q_coefficients : Nat} {f_a : Int32} {f_b : Int32} {n : Nat} {o : (Nat → Int64)} (C : Cx p s m args meth c cX1_multiply 6 none RX1 G cy A) {K9 : Int32 → Int32 → Int32 → Int32 → (Nat → Int64) → Option ((Nat → Int64))} (ih9 : ∀ (v1 : Int32) (v2 : Int32) (v3 : Int32) (v4 : Int32) (f_coefficients : Nat → Int64) (H : Heap) (locs : List Loc) (ls : Array Slot), va_P G vwCl [(q_this, .inr (1, [.ref q_coefficients, .int f_a, .int f_b])), (q_coefficients, .inl (cy 1, 169, .inr (.inl f_coefficients)))] H → va_D A [(q_this, .inr (1, [.ref q_coefficients, .int f_a, .int f_b])), (q_coefficients, .inl (cy 1, 169, .inr (.inl f_coefficients)))] → va_S A s.heap H locs → lv_has ls 6 [(0, .ref q_this), (1, .int v1), (2, .int v2), (3, .int v3), (4, .int v4)] → K9 v1 v2 v3 v4 f_coefficients = some o → W p l e (headSpec (Cond.code yX1_multiply cX1_multiply 6 none :: AW) ({ frames := 3, cells := 0, slots := 0, locals := 73 } : Room)).room s m args below meth c H locs 0 0 (MQ below (va_Qv (fun (_ : Unit) => True) (fun _ => Wq G cy A [(q_this, .inr (1, [.ref q_coefficients, .int f_a, .int f_b])), (q_coefficients, .inl (cy 1, 169, .inr (.inl o)))]) A) args s 0 0 A) (F0 m 9 ls [])) : ∀ k20 : Nat, ∀ (v1 : Int32) (v2 : Int32) (v3 : Int32) (v4 : Int32) (v5 : Int32) (f_coefficients : Nat → Int64) (H : Heap) (locs : List Loc) (ls : Array Slot), va_P G vwCl [(q_this, .inr (1, [.ref q_coefficients, .int f_a, .int f_b])), (q_coefficients, .inl (cy 1, 169, .inr (.inl f_coefficients)))] H → va_D A [(q_this, .inr (1, [.ref q_coefficients, .int f_a, .int f_b])), (q_coefficients, .inl (cy 1, 169, .inr (.inl f_coefficients)))] → va_S A s.heap H locs → lv_has ls 6 [(0, .ref q_this), (1, .int v1), (2, .int v2), (3, .int v3), (4, .int v4), (5, .int v5)] → lX1_multiply_20 n K9 k20 v1 v2 v3 v4 v5 f_coefficients = some o → W p l e (headSpec (Cond.code yX1_multiply cX1_multiply 6 none :: AW) ({ frames := 3, cells := 0, slots := 0, locals := 73 } : Room)).room s m args below meth c H locs 0 0 (MQ below (va_Qv (fun (_ : Unit) => True) (fun _ => Wq G cy A [(q_this, .inr (1, [.ref q_coefficients, .int f_a, .int f_b])), (q_coefficients, .inl (cy 1, 169, .inr (.inl o)))]) A) args s 0 0 A) (F0 m 20 ls []) := by
  have C0 := C
  obtain ⟨hx, hb, hr, hml, htA, hown, hK, hN, hA, hlocks⟩ := C
  intro k20
  induction k20 with
  | zero =>
    intro v1 v2 v3 v4 v5 f_coefficients H locs ls hP hD hS hl hf
    exact no_s hf
  | succ k20 ih20 =>
    intro v1 v2 v3 v4 v5 f_coefficients H locs ls hP hD hS hl hf
    have hf : ((if (v4 - v2) < v5 then K9 v1 v2 v3 (v4 + (-1)) f_coefficients else ck (((13 * v5) + v4) - v5) 169 ((fX1_fromBelow n v5 (v4 - v5) v1 v2 v3 f_coefficients).bind fun q57 => (ck (((13 * v5) + v4) - v5) 169 (lX1_multiply_20 n K9 k20 v1 v2 v3 v4 (v5 + 1) (vp_updL f_coefficients (Int32.toNatClampNeg (((13 * v5) + v4) - v5)) ((f_coefficients (Int32.toNatClampNeg (((13 * v5) + v4) - v5))) + q57)))))) : Option ((Nat → Int64))) = some o := hf
    refine lv_iload hx hb dX1_multiply_20 (lv_at hl 5 rfl) ?_
    refine lv_iload hx hb dX1_multiply_22 (lv_at hl 4 rfl) ?_
    refine lv_iload_n hx hb dX1_multiply_24 rfl (lv_at hl 2 rfl) ?_
    refine lv_isub hx hb dX1_multiply_25 ?_
    refine lv_icmp_gt (tgt := 68) hx hb dX1_multiply_26 (by decide) (fun c_25 => ?_) (fun c_25 => ?_)
    · have hf := ite_t c_25 hf
      refine lv_iinc (v := (v4 + (-1))) (lv' := [(4, .int (v4 + (-1))), (0, .ref q_this), (1, .int v1), (2, .int v2), (3, .int v3), (5, .int v5)]) hx hb dX1_multiply_68 hl (k := 4) rfl rfl (by decide) rfl (fun ls hl => ?_)
      refine lv_goto (tgt := 9) hx hb dX1_multiply_71 (by decide) ?_
      exact ih9 _ _ _ _ _ _ _ _ hP hD hS (lv_sub hl [1, 2, 3, 4, 0] rfl) hf
    · have hf := ite_f c_25 hf
      refine lv_aload_n hx hb dX1_multiply_29 rfl (lv_at hl 0 rfl) ?_
      refine va_get (D := G) (ci := 1) (v := .ref q_coefficients) (C := RX1) (T := TX1) (N := 3) hx hb htA lyX1 hown hK hP 0 rfl rfl 0 (by decide) (htA _ a_fl_X1_9) (fun _ h9 => h9) rfl dX1_multiply_30 ?_
      refine lv_bipush (v := 13) hx hb dX1_multiply_33 (by decide) ?_
      refine lv_iload hx hb dX1_multiply_35 (lv_at hl 5 rfl) ?_
      refine lv_imul hx hb dX1_multiply_37 ?_
      refine lv_iload hx hb dX1_multiply_38 (lv_at hl 4 rfl) ?_
      refine lv_iadd hx hb dX1_multiply_40 ?_
      refine lv_iload hx hb dX1_multiply_41 (lv_at hl 5 rfl) ?_
      refine lv_isub hx hb dX1_multiply_43 ?_
      refine lv_dup2_11 hx hb dX1_multiply_44 rfl rfl ?_
      obtain ⟨i_26, hf⟩ := ck_s hf
      refine va_lald (D := G) hx hb hK hP 1 1 rfl rfl i_26 dX1_multiply_45 ?_
      refine lv_aload_n hx hb dX1_multiply_46 rfl (lv_at hl 0 rfl) ?_
      refine lv_iload hx hb dX1_multiply_47 (lv_at hl 5 rfl) ?_
      refine lv_iload hx hb dX1_multiply_49 (lv_at hl 4 rfl) ?_
      refine lv_iload hx hb dX1_multiply_51 (lv_at hl 5 rfl) ?_
      refine lv_isub hx hb dX1_multiply_53 ?_
      refine lv_iload_n hx hb dX1_multiply_54 rfl (lv_at hl 1 rfl) ?_
      refine lv_iload_n hx hb dX1_multiply_55 rfl (lv_at hl 2 rfl) ?_
      refine lv_iload_n hx hb dX1_multiply_56 rfl (lv_at hl 3 rfl) ?_
      obtain ⟨q57, h57_27, hf⟩ := bd_s hf
      refine u_calllR (va_runV (As := [.int v5, .int (v4 - v5), .int v1, .int v2, .int v3]) (rest := [.long (f_coefficients (Int32.toNatClampNeg (((13 * v5) + v4) - v5))), .int (((13 * v5) + v4) - v5), .ref q_coefficients]) ⟨hx, hb, hml, hown, htA⟩ (kX1_fromBelow l G cy q_this q_coefficients H.size f_a f_b f_coefficients v5 (v4 - v5) v1 v2 v3 n h57_27) (u_cwV htA a_ml_X1_34 pk_X1_fromBelow ⟨Nat.le_of_ble_eq_true rfl, Nat.le_of_ble_eq_true rfl⟩) (u_preV hK hN hP hD [0, 1] rfl (by decide) 0 rfl rfl) rfl rfl hl.1 rfl (lv_room (Nat.le_of_ble_eq_true rfl)) dX1_multiply_57 ⟨Nat.zero_le _, Nat.zero_le _⟩) hP hD hS hA [0, 1] rfl (fun H locs hP hS => ?_)
      refine lv_ladd hx hb dX1_multiply_60 ?_
      obtain ⟨i_28, hf⟩ := ck_s hf
      refine va_last (D := G) hx hb hK hP hD hS 1 1 rfl rfl i_28 dX1_multiply_61 (fun H locs hP hD hS => ?_)
      have hP : va_P G vwCl [(q_this, .inr (1, [.ref q_coefficients, .int f_a, .int f_b])), (q_coefficients, .inl (cy 1, 169, .inr (.inl (vp_updL f_coefficients (Int32.toNatClampNeg (((13 * v5) + v4) - v5)) ((f_coefficients (Int32.toNatClampNeg (((13 * v5) + v4) - v5))) + q57)))))] H := hP
      have hD : va_D A [(q_this, .inr (1, [.ref q_coefficients, .int f_a, .int f_b])), (q_coefficients, .inl (cy 1, 169, .inr (.inl (vp_updL f_coefficients (Int32.toNatClampNeg (((13 * v5) + v4) - v5)) ((f_coefficients (Int32.toNatClampNeg (((13 * v5) + v4) - v5))) + q57)))))] := hD
      refine lv_iinc (v := (v5 + 1)) (lv' := [(5, .int (v5 + 1)), (0, .ref q_this), (1, .int v1), (2, .int v2), (3, .int v3), (4, .int v4)]) hx hb dX1_multiply_62 hl (k := 5) rfl rfl (by decide) rfl (fun ls hl => ?_)
      refine lv_goto (tgt := 20) hx hb dX1_multiply_65 (by decide) ?_
      exact ih20 _ _ _ _ _ _ _ _ _ hP hD hS (lv_sub hl [1, 2, 3, 4, 5, 0] rfl) hf
set_option maxRecDepth 100000 in
set_option maxHeartbeats 4000000 in
theorem wX1_multiply_9 {p : Program} {l : Launch} {e : Env} {s : State} {m : MethodId} {args : Array Value} {below : List Frame} {meth : Method} {c : Code} {G : va_G} {cy : Nat → ClassId} {A : Nat → Prop} {q_this : Nat} {q_coefficients : Nat} {f_a : Int32} {f_b : Int32} {n : Nat} {o : (Nat → Int64)} (C : Cx p s m args meth c cX1_multiply 6 none RX1 G cy A) : ∀ k9 : Nat, ∀ (v1 : Int32) (v2 : Int32) (v3 : Int32) (v4 : Int32) (f_coefficients : Nat → Int64) (H : Heap) (locs : List Loc) (ls : Array Slot), va_P G vwCl [(q_this, .inr (1, [.ref q_coefficients, .int f_a, .int f_b])), (q_coefficients, .inl (cy 1, 169, .inr (.inl f_coefficients)))] H → va_D A [(q_this, .inr (1, [.ref q_coefficients, .int f_a, .int f_b])), (q_coefficients, .inl (cy 1, 169, .inr (.inl f_coefficients)))] → va_S A s.heap H locs → lv_has ls 6 [(0, .ref q_this), (1, .int v1), (2, .int v2), (3, .int v3), (4, .int v4)] → lX1_multiply_9 n k9 v1 v2 v3 v4 f_coefficients = some o → W p l e (headSpec (Cond.code yX1_multiply cX1_multiply 6 none :: AW) ({ frames := 3, cells := 0, slots := 0, locals := 73 } : Room)).room s m args below meth c H locs 0 0 (MQ below (va_Qv (fun (_ : Unit) => True) (fun _ => Wq G cy A [(q_this, .inr (1, [.ref q_coefficients, .int f_a, .int f_b])), (q_coefficients, .inl (cy 1, 169, .inr (.inl o)))]) A) args s 0 0 A) (F0 m 9 ls []) := by
  have C0 := C
  obtain ⟨hx, hb, hr, hml, htA, hown, hK, hN, hA, hlocks⟩ := C
  intro k9
  induction k9 with
  | zero =>
    intro v1 v2 v3 v4 f_coefficients H locs ls hP hD hS hl hf
    exact no_s hf
  | succ k9 ih9 =>
    intro v1 v2 v3 v4 f_coefficients H locs ls hP hD hS hl hf
    have hf : ((if v4 < (v1 + v2) then some (f_coefficients) else lX1_multiply_20 n (lX1_multiply_9 n k9) n v1 v2 v3 v4 v1 f_coefficients) : Option ((Nat → Int64))) = some o := hf
    refine lv_iload hx hb dX1_multiply_9 (lv_at hl 4 rfl) ?_
    refine lv_iload_n hx hb dX1_multiply_11 rfl (lv_at hl 1 rfl) ?_
    refine lv_iload_n hx hb dX1_multiply_12 rfl (lv_at hl 2 rfl) ?_
    refine lv_iadd hx hb dX1_multiply_13 ?_
    refine lv_icmp_lt (tgt := 74) hx hb dX1_multiply_14 (by decide) (fun c_29 => ?_) (fun c_29 => ?_)
    · have hf := ite_t c_29 hf
      have ho := Option.some.inj hf
      subst ho
      exact W.vret hx hb hr (fun t ht hW => ⟨⟨(), rfl, trivial, by rw [ht]; exact hP, va_K.moved hW.alike hK, hD⟩, hS.F ht⟩) hS.2.2 dX1_multiply_74
    · have hf := ite_f c_29 hf
      refine lv_iload_n hx hb dX1_multiply_17 rfl (lv_at hl 1 rfl) ?_
      refine lv_istore (lv' := [(5, .int v1), (0, .ref q_this), (1, .int v1), (2, .int v2), (3, .int v3), (4, .int v4)]) hx hb dX1_multiply_18 hl (by decide) rfl (fun ls hl => ?_)
      exact wX1_multiply_20 C0 ih9 n _ _ _ _ _ _ _ _ _ hP hD hS (lv_sub hl [1, 2, 3, 4, 5, 0] rfl) hf
set_option maxRecDepth 100000 in
set_option maxHeartbeats 4000000 in
theorem kX1_multiply (l : Launch) (G : va_G) (cy : Nat → ClassId) (q_this : Nat) (q_coefficients : Nat) (sz : Nat) (f_a : Int32) (f_b : Int32) (f_coefficients : Nat → Int64) (p1 : Int32) (p2 : Int32) (p3 : Int32) (n : Nat) {o : (Nat → Int64)} (hf : fX1_multiply n p1 p2 p3 f_coefficients = some o) : Met l yX1_multiply (Cond.code yX1_multiply cX1_multiply 6 none :: AW) ({ frames := 3, cells := 0, slots := 0, locals := 73 } : Room) (va_Pc [.ref q_this, .int p1, .int p2, .int p3] (Wp G cy [(q_this, .inr (1, [.ref q_coefficients, .int f_a, .int f_b])), (q_coefficients, .inl (cy 1, 169, .inr (.inl f_coefficients)))] sz)) (va_Qv (fun (_ : Unit) => True) (fun _ => Wq G cy (va_A [(q_this, .inr (1, [.ref q_coefficients, .int f_a, .int f_b])), (q_coefficients, .inl (cy 1, 169, .inr (.inl f_coefficients)))] sz) [(q_this, .inr (1, [.ref q_coefficients, .int f_a, .int f_b])), (q_coefficients, .inl (cy 1, 169, .inr (.inl o)))]) (va_A [(q_this, .inr (1, [.ref q_coefficients, .int f_a, .int f_b])), (q_coefficients, .inl (cy 1, 169, .inr (.inl f_coefficients)))] sz)) 0 0 (va_A [(q_this, .inr (1, [.ref q_coefficients, .int f_a, .int f_b])), (q_coefficients, .inl (cy 1, 169, .inr (.inl f_coefficients)))] sz) := by
  refine Met.ofW (cc := cX1_multiply) (maxL := 6) (ret := none) (by decide) rfl ?_
  intro p e s m args below meth c s₁ B hml hv
  obtain ⟨rfl, hsz, hP, hK, hD0, hN⟩ := hv
  have hx := B.exec
  have hb := B.bytes
  have hr := B.returns
  have htA : ∀ w ∈ AW, w.before _ s = true := fun w h => atoms_spec (ws := Cond.code yX1_multiply cX1_multiply 6 none :: AW) B.pre w (List.mem_cons_of_mem _ h)
  have hown : s.vm.findClass RX1 = some m.cls := findClass_of_methodNamed B.named
  have hlocks := B.notSynchronized
  subst hsz
  have hD := hD0.self (sz := s.heap.size)
  generalize hAe : va_A [(q_this, .inr (1, [.ref q_coefficients, .int f_a, .int f_b])), (q_coefficients, .inl (cy 1, 169, .inr (.inl f_coefficients)))] s.heap.size = A at hD ⊢
  have hA : ∀ q : Nat, s.heap.size ≤ q → A q := fun q h => by rw [← hAe]; exact Or.inr h
  have hS : va_S A s.heap s.heap [] := va_S.rf
  have hl := lv_entry ([.ref q_this, .int p1, .int p2, .int p3]) (n := 6) (Nat.le_of_ble_eq_true rfl)
  rw [lg_entry_eq]
  generalize (lg_sl ([.ref q_this, .int p1, .int p2, .int p3]) ++ List.replicate (6 - (lg_sl ([.ref q_this, .int p1, .int p2, .int p3])).length) Slot.unset).toArray = ls at hl ⊢
  have hl : lv_has ls 6 [(0, .ref q_this), (1, .int p1), (2, .int p2), (3, .int p3)] := hl
  have hP : va_P G vwCl [(q_this, .inr (1, [.ref q_coefficients, .int f_a, .int f_b])), (q_coefficients, .inl (cy 1, 169, .inr (.inl f_coefficients)))] s.heap := hP
  have C0 : Cx p s m _ meth c cX1_multiply 6 none RX1 G cy A := ⟨hx, hb, hr, hml, htA, hown, hK, hN, hA, hlocks⟩
  have hf : ((if 0 < p3 then lX1_multiply_9 n n p1 p2 p3 12 f_coefficients else some (f_coefficients)) : Option ((Nat → Int64))) = some o := hf
  refine lv_iload_n hx hb dX1_multiply_0 rfl (lv_at hl 3 rfl) ?_
  refine lv_if_gt (tgt := 5) hx hb dX1_multiply_1 (by decide) (fun c_30 => ?_) (fun c_30 => ?_)
  · have hf := ite_t c_30 hf
    refine lv_bipush (v := 12) hx hb dX1_multiply_5 (by decide) ?_
    refine lv_istore (lv' := [(4, .int 12), (0, .ref q_this), (1, .int p1), (2, .int p2), (3, .int p3)]) hx hb dX1_multiply_7 hl (by decide) rfl (fun ls hl => ?_)
    exact wX1_multiply_9 C0 n _ _ _ _ _ _ _ _ hP hD hS (lv_sub hl [1, 2, 3, 4, 0] rfl) hf
  · have hf := ite_f c_30 hf
    have ho := Option.some.inj hf
    subst ho
    exact W.vret hx hb hr (fun t ht hW => ⟨⟨(), rfl, trivial, by rw [ht]; exact hP, va_K.moved hW.alike hK, hD⟩, hS.F ht⟩) hS.2.2 dX1_multiply_4
set_option maxRecDepth 100000 in
set_option maxHeartbeats 4000000 in
theorem wX1_fillFrom_80 {p : Program} {l : Launch} {e : Env} {s : State} {m : MethodId} {args : Array Value} {below : List Frame} {meth : Method} {c : Code} {G : va_G} {cy : Nat → ClassId} {A : Nat → Prop} {q_this : Nat} {q_coefficients : Nat} {q_o : Nat} {q_o_lowering : Nat} {q_o_sorts : Nat} {q_o_counts : Nat} {q_o_shares : Nat} {f_o_a : Int32} {f_o_b : Int32} {f_o_counts : Nat → Int32} {n : Nat} {o : Int32 × Int32 × (Nat → Int64)} (C : Cx p s m args meth c cX1_fillFrom 4 none RX1 G cy A) {K72 : Int32 → Int32 → Int32 → (Nat → Int64) → Option (Int32 × Int32 × (Nat → Int64))} (ih72 : ∀ (v2 : Int32) (f_a : Int32) (f_b : Int32) (f_coefficients : Nat → Int64) (H : Heap) (locs : List Loc) (ls : Array Slot), va_P G vwCl [(q_this, .inr (1, [.ref q_coefficients, .int f_a, .int f_b])), (q_coefficients, .inl (cy 1, 169, .inr (.inl f_coefficients))), (q_o, .inr (0, [.ref q_o_lowering, .ref q_o_sorts, .ref q_o_counts, .ref q_o_shares, .int f_o_a, .int f_o_b])), (q_o_counts, .inl (cy 0, 169, .inl f_o_counts))] H → va_D A [(q_this, .inr (1, [.ref q_coefficients, .int f_a, .int f_b])), (q_coefficients, .inl (cy 1, 169, .inr (.inl f_coefficients))), (q_o, .inr (0, [.ref q_o_lowering, .ref q_o_sorts, .ref q_o_counts, .ref q_o_shares, .int f_o_a, .int f_o_b])), (q_o_counts, .inl (cy 0, 169, .inl f_o_counts))] → va_S A s.heap H locs → lv_has ls 4 [(0, .ref q_this), (1, .ref q_o), (2, .int v2)] → K72 v2 f_a f_b f_coefficients = some o → W p l e (headSpec (Cond.code yX1_fillFrom cX1_fillFrom 4 none :: AW) ({ frames := 4, cells := 0, slots := 0, locals := 98 } : Room)).room s m args below meth c H locs 0 0 (MQ below (va_Qv (fun (_ : Unit) => True) (fun _ => Wq G cy A [(q_this, .inr (1, [.ref q_coefficients, .int o.1, .int o.2.1])), (q_coefficients, .inl (cy 1, 169, .inr (.inl o.2.2))), (q_o, .inr (0, [.ref q_o_lowering, .ref q_o_sorts, .ref q_o_counts, .ref q_o_shares, .int f_o_a, .int f_o_b])), (q_o_counts, .inl (cy 0, 169, .inl f_o_counts))]) A) args s 0 0 A) (F0 m 72 ls [])) : ∀ k80 : Nat, ∀ (v2 : Int32) (v3 : Int32) (f_a : Int32) (f_b : Int32) (f_coefficients : Nat → Int64) (H : Heap) (locs : List Loc) (ls : Array Slot), va_P G vwCl [(q_this, .inr (1, [.ref q_coefficients, .int f_a, .int f_b])), (q_coefficients, .inl (cy 1, 169, .inr (.inl f_coefficients))), (q_o, .inr (0, [.ref q_o_lowering, .ref q_o_sorts, .ref q_o_counts, .ref q_o_shares, .int f_o_a, .int f_o_b])), (q_o_counts, .inl (cy 0, 169, .inl f_o_counts))] H → va_D A [(q_this, .inr (1, [.ref q_coefficients, .int f_a, .int f_b])), (q_coefficients, .inl (cy 1, 169, .inr (.inl f_coefficients))), (q_o, .inr (0, [.ref q_o_lowering, .ref q_o_sorts, .ref q_o_counts, .ref q_o_shares, .int f_o_a, .int f_o_b])), (q_o_counts, .inl (cy 0, 169, .inl f_o_counts))] → va_S A s.heap H locs → lv_has ls 4 [(0, .ref q_this), (1, .ref q_o), (2, .int v2), (3, .int v3)] → lX1_fillFrom_80 n f_o_counts K72 k80 v2 v3 f_a f_b f_coefficients = some o → W p l e (headSpec (Cond.code yX1_fillFrom cX1_fillFrom 4 none :: AW) ({ frames := 4, cells := 0, slots := 0, locals := 98 } : Room)).room s m args below meth c H locs 0 0 (MQ below (va_Qv (fun (_ : Unit) => True) (fun _ => Wq G cy A [(q_this, .inr (1, [.ref q_coefficients, .int o.1, .int o.2.1])), (q_coefficients, .inl (cy 1, 169, .inr (.inl o.2.2))), (q_o, .inr (0, [.ref q_o_lowering, .ref q_o_sorts, .ref q_o_counts, .ref q_o_shares, .int f_o_a, .int f_o_b])), (q_o_counts, .inl (cy 0, 169, .inl f_o_counts))]) A) args s 0 0 A) (F0 m 80 ls []) := by
  have C0 := C
  obtain ⟨hx, hb, hr, hml, htA, hown, hK, hN, hA, hlocks⟩ := C
  intro k80
  induction k80 with
  | zero =>
    intro v2 v3 f_a f_b f_coefficients H locs ls hP hD hS hl hf
    exact no_s hf
  | succ k80 ih80 =>
    intro v2 v3 f_a f_b f_coefficients H locs ls hP hD hS hl hf
    have hf : ((if v2 < v3 then K72 (v2 + 1) f_a f_b f_coefficients else (fX0_countAt v3 (v2 - v3) f_o_counts).bind fun q95 => ((fX1_multiply n v3 (v2 - v3) q95 f_coefficients).bind fun q98 => (lX1_fillFrom_80 n f_o_counts K72 k80 v2 (v3 + 1) f_a f_b q98))) : Option (Int32 × Int32 × (Nat → Int64))) = some o := hf
    refine lv_iload_n hx hb dX1_fillFrom_80 rfl (lv_at hl 3 rfl) ?_
    refine lv_iload_n hx hb dX1_fillFrom_81 rfl (lv_at hl 2 rfl) ?_
    refine lv_icmp_gt (tgt := 107) hx hb dX1_fillFrom_82 (by decide) (fun c_37 => ?_) (fun c_37 => ?_)
    · have hf := ite_t c_37 hf
      refine lv_iinc (v := (v2 + 1)) (lv' := [(2, .int (v2 + 1)), (0, .ref q_this), (1, .ref q_o), (3, .int v3)]) hx hb dX1_fillFrom_107 hl (k := 2) rfl rfl (by decide) rfl (fun ls hl => ?_)
      refine lv_goto (tgt := 72) hx hb dX1_fillFrom_110 (by decide) ?_
      exact ih72 _ _ _ _ _ _ _ hP hD hS (lv_sub hl [1, 2, 0] rfl) hf
    · have hf := ite_f c_37 hf
      refine lv_aload_n hx hb dX1_fillFrom_85 rfl (lv_at hl 0 rfl) ?_
      refine lv_iload_n hx hb dX1_fillFrom_86 rfl (lv_at hl 3 rfl) ?_
      refine lv_iload_n hx hb dX1_fillFrom_87 rfl (lv_at hl 2 rfl) ?_
      refine lv_iload_n hx hb dX1_fillFrom_88 rfl (lv_at hl 3 rfl) ?_
      refine lv_isub hx hb dX1_fillFrom_89 ?_
      refine lv_aload_n hx hb dX1_fillFrom_90 rfl (lv_at hl 1 rfl) ?_
      refine lv_iload_n hx hb dX1_fillFrom_91 rfl (lv_at hl 3 rfl) ?_
      refine lv_iload_n hx hb dX1_fillFrom_92 rfl (lv_at hl 2 rfl) ?_
      refine lv_iload_n hx hb dX1_fillFrom_93 rfl (lv_at hl 3 rfl) ?_
      refine lv_isub hx hb dX1_fillFrom_94 ?_
      obtain ⟨q95, h95_38, hf⟩ := bd_s hf
      refine u_calliR (va_runV (As := [.int v3, .int (v2 - v3)]) (rest := [.int (v2 - v3), .int v3, .ref q_this]) ⟨hx, hb, hml, hown, htA⟩ (kX0_countAt l G cy q_o q_o_lowering q_o_sorts q_o_counts q_o_shares H.size f_o_a f_o_b f_o_counts v3 (v2 - v3) h95_38) (u_cwV htA a_ml_X1_26 pk_X0_countAt ⟨Nat.le_of_ble_eq_true rfl, Nat.le_of_ble_eq_true rfl⟩) (u_preV hK hN hP hD [2, 3] rfl (by decide) 2 rfl rfl) rfl rfl hl.1 rfl (lv_room (Nat.le_of_ble_eq_true rfl)) dX1_fillFrom_95 ⟨Nat.zero_le _, Nat.zero_le _⟩) hP hD hS hA [2, 3] rfl (fun H locs hP hS => ?_)
      obtain ⟨q98, h98_39, hf⟩ := bd_s hf
      refine u_callv [(q_this, .inr (1, [.ref q_coefficients, .int f_a, .int f_b])), (q_coefficients, .inl (cy 1, 169, .inr (.inl q98))), (q_o, .inr (0, [.ref q_o_lowering, .ref q_o_sorts, .ref q_o_counts, .ref q_o_shares, .int f_o_a, .int f_o_b])), (q_o_counts, .inl (cy 0, 169, .inl f_o_counts))] (va_runV (As := [.int v3, .int (v2 - v3), .int q95]) (rest := []) ⟨hx, hb, hml, hown, htA⟩ (kX1_multiply l G cy q_this q_coefficients H.size f_a f_b f_coefficients v3 (v2 - v3) q95 n h98_39) (u_cwV htA a_ml_X1_30 pk_X1_multiply ⟨Nat.le_of_ble_eq_true rfl, Nat.le_of_ble_eq_true rfl⟩) (u_preV hK hN hP hD [0, 1] rfl (by decide) 0 rfl rfl) rfl rfl hl.1 rfl (lv_room (Nat.le_of_ble_eq_true rfl)) dX1_fillFrom_98 ⟨Nat.zero_le _, Nat.zero_le _⟩) hP hD hS hA [0, 1] rfl [2, 3] 4 rfl rfl rfl (by decide) rfl (fun H locs hP hD hS => ?_)
      refine lv_iinc (v := (v3 + 1)) (lv' := [(3, .int (v3 + 1)), (0, .ref q_this), (1, .ref q_o), (2, .int v2)]) hx hb dX1_fillFrom_101 hl (k := 3) rfl rfl (by decide) rfl (fun ls hl => ?_)
      refine lv_goto (tgt := 80) hx hb dX1_fillFrom_104 (by decide) ?_
      exact ih80 _ _ _ _ _ _ _ _ hP hD hS (lv_sub hl [1, 2, 3, 0] rfl) hf
set_option maxRecDepth 100000 in
set_option maxHeartbeats 4000000 in
theorem wX1_fillFrom_72 {p : Program} {l : Launch} {e : Env} {s : State} {m : MethodId} {args : Array Value} {below : List Frame} {meth : Method} {c : Code} {G : va_G} {cy : Nat → ClassId} {A : Nat → Prop} {q_this : Nat} {q_coefficients : Nat} {q_o : Nat} {q_o_lowering : Nat} {q_o_sorts : Nat} {q_o_counts : Nat} {q_o_shares : Nat} {f_o_a : Int32} {f_o_b : Int32} {f_o_counts : Nat → Int32} {n : Nat} {o : Int32 × Int32 × (Nat → Int64)} (C : Cx p s m args meth c cX1_fillFrom 4 none RX1 G cy A) : ∀ k72 : Nat, ∀ (v2 : Int32) (f_a : Int32) (f_b : Int32) (f_coefficients : Nat → Int64) (H : Heap) (locs : List Loc) (ls : Array Slot), va_P G vwCl [(q_this, .inr (1, [.ref q_coefficients, .int f_a, .int f_b])), (q_coefficients, .inl (cy 1, 169, .inr (.inl f_coefficients))), (q_o, .inr (0, [.ref q_o_lowering, .ref q_o_sorts, .ref q_o_counts, .ref q_o_shares, .int f_o_a, .int f_o_b])), (q_o_counts, .inl (cy 0, 169, .inl f_o_counts))] H → va_D A [(q_this, .inr (1, [.ref q_coefficients, .int f_a, .int f_b])), (q_coefficients, .inl (cy 1, 169, .inr (.inl f_coefficients))), (q_o, .inr (0, [.ref q_o_lowering, .ref q_o_sorts, .ref q_o_counts, .ref q_o_shares, .int f_o_a, .int f_o_b])), (q_o_counts, .inl (cy 0, 169, .inl f_o_counts))] → va_S A s.heap H locs → lv_has ls 4 [(0, .ref q_this), (1, .ref q_o), (2, .int v2)] → lX1_fillFrom_72 n f_o_counts k72 v2 f_a f_b f_coefficients = some o → W p l e (headSpec (Cond.code yX1_fillFrom cX1_fillFrom 4 none :: AW) ({ frames := 4, cells := 0, slots := 0, locals := 98 } : Room)).room s m args below meth c H locs 0 0 (MQ below (va_Qv (fun (_ : Unit) => True) (fun _ => Wq G cy A [(q_this, .inr (1, [.ref q_coefficients, .int o.1, .int o.2.1])), (q_coefficients, .inl (cy 1, 169, .inr (.inl o.2.2))), (q_o, .inr (0, [.ref q_o_lowering, .ref q_o_sorts, .ref q_o_counts, .ref q_o_shares, .int f_o_a, .int f_o_b])), (q_o_counts, .inl (cy 0, 169, .inl f_o_counts))]) A) args s 0 0 A) (F0 m 72 ls []) := by
  have C0 := C
  obtain ⟨hx, hb, hr, hml, htA, hown, hK, hN, hA, hlocks⟩ := C
  intro k72
  induction k72 with
  | zero =>
    intro v2 f_a f_b f_coefficients H locs ls hP hD hS hl hf
    exact no_s hf
  | succ k72 ih72 =>
    intro v2 f_a f_b f_coefficients H locs ls hP hD hS hl hf
    have hf : ((if 12 < v2 then some (f_a, f_b, f_coefficients) else lX1_fillFrom_80 n f_o_counts (lX1_fillFrom_72 n f_o_counts k72) n v2 0 f_a f_b f_coefficients) : Option (Int32 × Int32 × (Nat → Int64))) = some o := hf
    refine lv_iload_n hx hb dX1_fillFrom_72 rfl (lv_at hl 2 rfl) ?_
    refine lv_bipush (v := 12) hx hb dX1_fillFrom_73 (by decide) ?_
    refine lv_icmp_gt (tgt := 113) hx hb dX1_fillFrom_75 (by decide) (fun c_40 => ?_) (fun c_40 => ?_)
    · have hf := ite_t c_40 hf
      have ho := Option.some.inj hf
      subst ho
      exact W.vret hx hb hr (fun t ht hW => ⟨⟨(), rfl, trivial, by rw [ht]; exact hP, va_K.moved hW.alike hK, hD⟩, hS.F ht⟩) hS.2.2 dX1_fillFrom_113
    · have hf := ite_f c_40 hf
      refine lv_iconst (v := 0) hx hb dX1_fillFrom_78 (by decide) ?_
      refine lv_istore_n (lv' := [(3, .int 0), (0, .ref q_this), (1, .ref q_o), (2, .int v2)]) hx hb dX1_fillFrom_79 rfl hl (by decide) rfl (fun ls hl => ?_)
      exact wX1_fillFrom_80 C0 ih72 n _ _ _ _ _ _ _ _ hP hD hS (lv_sub hl [1, 2, 3, 0] rfl) hf
set_option maxRecDepth 100000 in
set_option maxHeartbeats 4000000 in
theorem wX1_fillFrom_41 {p : Program} {l : Launch} {e : Env} {s : State} {m : MethodId} {args : Array Value} {below : List Frame} {meth : Method} {c : Code} {G : va_G} {cy : Nat → ClassId} {A : Nat → Prop} {q_this : Nat} {q_coefficients : Nat} {q_o : Nat} {q_o_lowering : Nat} {q_o_sorts : Nat} {q_o_counts : Nat} {q_o_shares : Nat} {f_o_a : Int32} {f_o_b : Int32} {f_o_counts : Nat → Int32} {n : Nat} {o : Int32 × Int32 × (Nat → Int64)} (C : Cx p s m args meth c cX1_fillFrom 4 none RX1 G cy A) : ∀ k41 : Nat, ∀ (v2 : Int32) (f_a : Int32) (f_b : Int32) (f_coefficients : Nat → Int64) (H : Heap) (locs : List Loc) (ls : Array Slot), va_P G vwCl [(q_this, .inr (1, [.ref q_coefficients, .int f_a, .int f_b])), (q_coefficients, .inl (cy 1, 169, .inr (.inl f_coefficients))), (q_o, .inr (0, [.ref q_o_lowering, .ref q_o_sorts, .ref q_o_counts, .ref q_o_shares, .int f_o_a, .int f_o_b])), (q_o_counts, .inl (cy 0, 169, .inl f_o_counts))] H → va_D A [(q_this, .inr (1, [.ref q_coefficients, .int f_a, .int f_b])), (q_coefficients, .inl (cy 1, 169, .inr (.inl f_coefficients))), (q_o, .inr (0, [.ref q_o_lowering, .ref q_o_sorts, .ref q_o_counts, .ref q_o_shares, .int f_o_a, .int f_o_b])), (q_o_counts, .inl (cy 0, 169, .inl f_o_counts))] → va_S A s.heap H locs → lv_has ls 4 [(0, .ref q_this), (1, .ref q_o), (2, .int v2)] → lX1_fillFrom_41 n f_o_counts k41 v2 f_a f_b f_coefficients = some o → W p l e (headSpec (Cond.code yX1_fillFrom cX1_fillFrom 4 none :: AW) ({ frames := 4, cells := 0, slots := 0, locals := 98 } : Room)).room s m args below meth c H locs 0 0 (MQ below (va_Qv (fun (_ : Unit) => True) (fun _ => Wq G cy A [(q_this, .inr (1, [.ref q_coefficients, .int o.1, .int o.2.1])), (q_coefficients, .inl (cy 1, 169, .inr (.inl o.2.2))), (q_o, .inr (0, [.ref q_o_lowering, .ref q_o_sorts, .ref q_o_counts, .ref q_o_shares, .int f_o_a, .int f_o_b])), (q_o_counts, .inl (cy 0, 169, .inl f_o_counts))]) A) args s 0 0 A) (F0 m 41 ls []) := by
  have C0 := C
  obtain ⟨hx, hb, hr, hml, htA, hown, hK, hN, hA, hlocks⟩ := C
  intro k41
  induction k41 with
  | zero =>
    intro v2 f_a f_b f_coefficients H locs ls hP hD hS hl hf
    exact no_s hf
  | succ k41 ih41 =>
    intro v2 f_a f_b f_coefficients H locs ls hP hD hS hl hf
    have hf : ((if 169 ≤ v2 then ck 0 169 (lX1_fillFrom_72 n f_o_counts n 1 f_a f_b (vp_updL f_coefficients (Int32.toNatClampNeg 0) 1)) else ck v2 169 (lX1_fillFrom_41 n f_o_counts k41 (v2 + 1) f_a f_b (vp_updL f_coefficients (Int32.toNatClampNeg v2) 0))) : Option (Int32 × Int32 × (Nat → Int64))) = some o := hf
    refine lv_iload_n hx hb dX1_fillFrom_41 rfl (lv_at hl 2 rfl) ?_
    refine lv_aload_n hx hb dX1_fillFrom_42 rfl (lv_at hl 0 rfl) ?_
    refine va_get (D := G) (ci := 1) (v := .ref q_coefficients) (C := RX1) (T := TX1) (N := 3) hx hb htA lyX1 hown hK hP 0 rfl rfl 0 (by decide) (htA _ a_fl_X1_9) (fun _ h9 => h9) rfl dX1_fillFrom_43 ?_
    refine va_alen (D := G) (v := 169) hx hb hK hP 1 1 rfl rfl rfl dX1_fillFrom_46 ?_
    refine lv_icmp_ge (tgt := 63) hx hb dX1_fillFrom_47 (by decide) (fun c_41 => ?_) (fun c_41 => ?_)
    · have hf := ite_t c_41 hf
      refine lv_aload_n hx hb dX1_fillFrom_63 rfl (lv_at hl 0 rfl) ?_
      refine va_get (D := G) (ci := 1) (v := .ref q_coefficients) (C := RX1) (T := TX1) (N := 3) hx hb htA lyX1 hown hK hP 0 rfl rfl 0 (by decide) (htA _ a_fl_X1_9) (fun _ h9 => h9) rfl dX1_fillFrom_64 ?_
      refine lv_iconst (v := 0) hx hb dX1_fillFrom_67 (by decide) ?_
      refine lv_lconst (v := 1) hx hb dX1_fillFrom_68 (by decide) ?_
      obtain ⟨i_42, hf⟩ := ck_s hf
      refine va_last (D := G) hx hb hK hP hD hS 1 1 rfl rfl i_42 dX1_fillFrom_69 (fun H locs hP hD hS => ?_)
      have hP : va_P G vwCl [(q_this, .inr (1, [.ref q_coefficients, .int f_a, .int f_b])), (q_coefficients, .inl (cy 1, 169, .inr (.inl (vp_updL f_coefficients (Int32.toNatClampNeg 0) 1)))), (q_o, .inr (0, [.ref q_o_lowering, .ref q_o_sorts, .ref q_o_counts, .ref q_o_shares, .int f_o_a, .int f_o_b])), (q_o_counts, .inl (cy 0, 169, .inl f_o_counts))] H := hP
      have hD : va_D A [(q_this, .inr (1, [.ref q_coefficients, .int f_a, .int f_b])), (q_coefficients, .inl (cy 1, 169, .inr (.inl (vp_updL f_coefficients (Int32.toNatClampNeg 0) 1)))), (q_o, .inr (0, [.ref q_o_lowering, .ref q_o_sorts, .ref q_o_counts, .ref q_o_shares, .int f_o_a, .int f_o_b])), (q_o_counts, .inl (cy 0, 169, .inl f_o_counts))] := hD
      refine lv_iconst (v := 1) hx hb dX1_fillFrom_70 (by decide) ?_
      refine lv_istore_n (lv' := [(2, .int 1), (0, .ref q_this), (1, .ref q_o)]) hx hb dX1_fillFrom_71 rfl hl (by decide) rfl (fun ls hl => ?_)
      exact wX1_fillFrom_72 C0 n _ _ _ _ _ _ _ hP hD hS (lv_sub hl [1, 2, 0] rfl) hf
    · have hf := ite_f c_41 hf
      refine lv_aload_n hx hb dX1_fillFrom_50 rfl (lv_at hl 0 rfl) ?_
      refine va_get (D := G) (ci := 1) (v := .ref q_coefficients) (C := RX1) (T := TX1) (N := 3) hx hb htA lyX1 hown hK hP 0 rfl rfl 0 (by decide) (htA _ a_fl_X1_9) (fun _ h9 => h9) rfl dX1_fillFrom_51 ?_
      refine lv_iload_n hx hb dX1_fillFrom_54 rfl (lv_at hl 2 rfl) ?_
      refine lv_lconst (v := 0) hx hb dX1_fillFrom_55 (by decide) ?_
      obtain ⟨i_43, hf⟩ := ck_s hf
      refine va_last (D := G) hx hb hK hP hD hS 1 1 rfl rfl i_43 dX1_fillFrom_56 (fun H locs hP hD hS => ?_)
      have hP : va_P G vwCl [(q_this, .inr (1, [.ref q_coefficients, .int f_a, .int f_b])), (q_coefficients, .inl (cy 1, 169, .inr (.inl (vp_updL f_coefficients (Int32.toNatClampNeg v2) 0)))), (q_o, .inr (0, [.ref q_o_lowering, .ref q_o_sorts, .ref q_o_counts, .ref q_o_shares, .int f_o_a, .int f_o_b])), (q_o_counts, .inl (cy 0, 169, .inl f_o_counts))] H := hP
      have hD : va_D A [(q_this, .inr (1, [.ref q_coefficients, .int f_a, .int f_b])), (q_coefficients, .inl (cy 1, 169, .inr (.inl (vp_updL f_coefficients (Int32.toNatClampNeg v2) 0)))), (q_o, .inr (0, [.ref q_o_lowering, .ref q_o_sorts, .ref q_o_counts, .ref q_o_shares, .int f_o_a, .int f_o_b])), (q_o_counts, .inl (cy 0, 169, .inl f_o_counts))] := hD
      refine lv_iinc (v := (v2 + 1)) (lv' := [(2, .int (v2 + 1)), (0, .ref q_this), (1, .ref q_o)]) hx hb dX1_fillFrom_57 hl (k := 2) rfl rfl (by decide) rfl (fun ls hl => ?_)
      refine lv_goto (tgt := 41) hx hb dX1_fillFrom_60 (by decide) ?_
      exact ih41 _ _ _ _ _ _ _ hP hD hS (lv_sub hl [1, 2, 0] rfl) hf
set_option maxRecDepth 100000 in
set_option maxHeartbeats 4000000 in
theorem wX1_fillFrom_23 {p : Program} {l : Launch} {e : Env} {s : State} {m : MethodId} {args : Array Value} {below : List Frame} {meth : Method} {c : Code} {G : va_G} {cy : Nat → ClassId} {A : Nat → Prop} {q_this : Nat} {q_coefficients : Nat} {q_o : Nat} {q_o_lowering : Nat} {q_o_sorts : Nat} {q_o_counts : Nat} {q_o_shares : Nat} {f_o_a : Int32} {f_o_b : Int32} {f_o_counts : Nat → Int32} {n : Nat} {o : Int32 × Int32 × (Nat → Int64)} (C : Cx p s m args meth c cX1_fillFrom 4 none RX1 G cy A) : ∀ (f_a : Int32) (f_b : Int32) (f_coefficients : Nat → Int64) (H : Heap) (locs : List Loc) (ls : Array Slot), va_P G vwCl [(q_this, .inr (1, [.ref q_coefficients, .int f_a, .int f_b])), (q_coefficients, .inl (cy 1, 169, .inr (.inl f_coefficients))), (q_o, .inr (0, [.ref q_o_lowering, .ref q_o_sorts, .ref q_o_counts, .ref q_o_shares, .int f_o_a, .int f_o_b])), (q_o_counts, .inl (cy 0, 169, .inl f_o_counts))] H → va_D A [(q_this, .inr (1, [.ref q_coefficients, .int f_a, .int f_b])), (q_coefficients, .inl (cy 1, 169, .inr (.inl f_coefficients))), (q_o, .inr (0, [.ref q_o_lowering, .ref q_o_sorts, .ref q_o_counts, .ref q_o_shares, .int f_o_a, .int f_o_b])), (q_o_counts, .inl (cy 0, 169, .inl f_o_counts))] → va_S A s.heap H locs → lv_has ls 4 [(0, .ref q_this), (1, .ref q_o)] → jX1_fillFrom_23 n f_o_a f_o_b f_o_counts f_a f_b f_coefficients = some o → W p l e (headSpec (Cond.code yX1_fillFrom cX1_fillFrom 4 none :: AW) ({ frames := 4, cells := 0, slots := 0, locals := 98 } : Room)).room s m args below meth c H locs 0 0 (MQ below (va_Qv (fun (_ : Unit) => True) (fun _ => Wq G cy A [(q_this, .inr (1, [.ref q_coefficients, .int o.1, .int o.2.1])), (q_coefficients, .inl (cy 1, 169, .inr (.inl o.2.2))), (q_o, .inr (0, [.ref q_o_lowering, .ref q_o_sorts, .ref q_o_counts, .ref q_o_shares, .int f_o_a, .int f_o_b])), (q_o_counts, .inl (cy 0, 169, .inl f_o_counts))]) A) args s 0 0 A) (F0 m 23 ls []) := by
  have C0 := C
  obtain ⟨hx, hb, hr, hml, htA, hown, hK, hN, hA, hlocks⟩ := C
  intro f_a f_b f_coefficients H locs ls hP hD hS hl hf
  have hf : (lX1_fillFrom_41 n f_o_counts n 0 f_o_a f_o_b f_coefficients : Option (Int32 × Int32 × (Nat → Int64))) = some o := hf
  refine lv_aload_n hx hb dX1_fillFrom_23 rfl (lv_at hl 0 rfl) ?_
  refine lv_aload_n hx hb dX1_fillFrom_24 rfl (lv_at hl 1 rfl) ?_
  refine va_getN (D := G) (ci := 0) (v := .int f_o_a) (C := RX0) (T := TX0) (N := 6) hx hb htA lyX0 hown hK hP 2 rfl rfl 4 (by decide) (u_link hN (List.mem_of_getElem? (i := 16) rfl)) (fun _ h9 => h9) rfl dX1_fillFrom_25 ?_
  refine va_put (D := G) (ci := 1) (v := .int f_o_a) (ty := tyX1 1) (C := RX1) (T := TX1) (N := 3) hx hb htA lyX1 tyX1 tyX1_ok nmX1 hown hK hP hD hS 0 rfl rfl 1 (by decide) (htA _ a_fl_X1_15) (fun _ h9 => h9) rfl (tyX1_ok 1 (by decide)) rfl rfl (Nat.le_of_ble_eq_true rfl) dX1_fillFrom_28 (fun H locs hP hD hS => ?_)
  have hP : va_P G vwCl [(q_this, .inr (1, [.ref q_coefficients, .int f_o_a, .int f_b])), (q_coefficients, .inl (cy 1, 169, .inr (.inl f_coefficients))), (q_o, .inr (0, [.ref q_o_lowering, .ref q_o_sorts, .ref q_o_counts, .ref q_o_shares, .int f_o_a, .int f_o_b])), (q_o_counts, .inl (cy 0, 169, .inl f_o_counts))] H := hP
  have hD : va_D A [(q_this, .inr (1, [.ref q_coefficients, .int f_o_a, .int f_b])), (q_coefficients, .inl (cy 1, 169, .inr (.inl f_coefficients))), (q_o, .inr (0, [.ref q_o_lowering, .ref q_o_sorts, .ref q_o_counts, .ref q_o_shares, .int f_o_a, .int f_o_b])), (q_o_counts, .inl (cy 0, 169, .inl f_o_counts))] := hD
  refine lv_aload_n hx hb dX1_fillFrom_31 rfl (lv_at hl 0 rfl) ?_
  refine lv_aload_n hx hb dX1_fillFrom_32 rfl (lv_at hl 1 rfl) ?_
  refine va_getN (D := G) (ci := 0) (v := .int f_o_b) (C := RX0) (T := TX0) (N := 6) hx hb htA lyX0 hown hK hP 2 rfl rfl 5 (by decide) (u_link hN (List.mem_of_getElem? (i := 17) rfl)) (fun _ h9 => h9) rfl dX1_fillFrom_33 ?_
  refine va_put (D := G) (ci := 1) (v := .int f_o_b) (ty := tyX1 2) (C := RX1) (T := TX1) (N := 3) hx hb htA lyX1 tyX1 tyX1_ok nmX1 hown hK hP hD hS 0 rfl rfl 2 (by decide) (htA _ a_fl_X1_19) (fun _ h9 => h9) rfl (tyX1_ok 2 (by decide)) rfl rfl (Nat.le_of_ble_eq_true rfl) dX1_fillFrom_36 (fun H locs hP hD hS => ?_)
  have hP : va_P G vwCl [(q_this, .inr (1, [.ref q_coefficients, .int f_o_a, .int f_o_b])), (q_coefficients, .inl (cy 1, 169, .inr (.inl f_coefficients))), (q_o, .inr (0, [.ref q_o_lowering, .ref q_o_sorts, .ref q_o_counts, .ref q_o_shares, .int f_o_a, .int f_o_b])), (q_o_counts, .inl (cy 0, 169, .inl f_o_counts))] H := hP
  have hD : va_D A [(q_this, .inr (1, [.ref q_coefficients, .int f_o_a, .int f_o_b])), (q_coefficients, .inl (cy 1, 169, .inr (.inl f_coefficients))), (q_o, .inr (0, [.ref q_o_lowering, .ref q_o_sorts, .ref q_o_counts, .ref q_o_shares, .int f_o_a, .int f_o_b])), (q_o_counts, .inl (cy 0, 169, .inl f_o_counts))] := hD
  refine lv_iconst (v := 0) hx hb dX1_fillFrom_39 (by decide) ?_
  refine lv_istore_n (lv' := [(2, .int 0), (0, .ref q_this), (1, .ref q_o)]) hx hb dX1_fillFrom_40 rfl hl (by decide) rfl (fun ls hl => ?_)
  exact wX1_fillFrom_41 C0 n _ _ _ _ _ _ _ hP hD hS (lv_sub hl [1, 2, 0] rfl) hf
set_option maxRecDepth 100000 in
set_option maxHeartbeats 4000000 in
theorem kX1_fillFrom (l : Launch) (G : va_G) (cy : Nat → ClassId) (q_this : Nat) (q_coefficients : Nat) (q_o : Nat) (q_o_lowering : Nat) (q_o_sorts : Nat) (q_o_counts : Nat) (q_o_shares : Nat) (sz : Nat) (f_a : Int32) (f_b : Int32) (f_coefficients : Nat → Int64) (f_o_a : Int32) (f_o_b : Int32) (f_o_counts : Nat → Int32) (n : Nat) {o : Int32 × Int32 × (Nat → Int64)} (hf : fX1_fillFrom n f_a f_b f_coefficients f_o_a f_o_b f_o_counts = some o) : Met l yX1_fillFrom (Cond.code yX1_fillFrom cX1_fillFrom 4 none :: AW) ({ frames := 4, cells := 0, slots := 0, locals := 98 } : Room) (va_Pc [.ref q_this, .ref q_o] (Wp G cy [(q_this, .inr (1, [.ref q_coefficients, .int f_a, .int f_b])), (q_coefficients, .inl (cy 1, 169, .inr (.inl f_coefficients))), (q_o, .inr (0, [.ref q_o_lowering, .ref q_o_sorts, .ref q_o_counts, .ref q_o_shares, .int f_o_a, .int f_o_b])), (q_o_counts, .inl (cy 0, 169, .inl f_o_counts))] sz)) (va_Qv (fun (_ : Unit) => True) (fun _ => Wq G cy (va_A [(q_this, .inr (1, [.ref q_coefficients, .int f_a, .int f_b])), (q_coefficients, .inl (cy 1, 169, .inr (.inl f_coefficients))), (q_o, .inr (0, [.ref q_o_lowering, .ref q_o_sorts, .ref q_o_counts, .ref q_o_shares, .int f_o_a, .int f_o_b])), (q_o_counts, .inl (cy 0, 169, .inl f_o_counts))] sz) [(q_this, .inr (1, [.ref q_coefficients, .int o.1, .int o.2.1])), (q_coefficients, .inl (cy 1, 169, .inr (.inl o.2.2))), (q_o, .inr (0, [.ref q_o_lowering, .ref q_o_sorts, .ref q_o_counts, .ref q_o_shares, .int f_o_a, .int f_o_b])), (q_o_counts, .inl (cy 0, 169, .inl f_o_counts))]) (va_A [(q_this, .inr (1, [.ref q_coefficients, .int f_a, .int f_b])), (q_coefficients, .inl (cy 1, 169, .inr (.inl f_coefficients))), (q_o, .inr (0, [.ref q_o_lowering, .ref q_o_sorts, .ref q_o_counts, .ref q_o_shares, .int f_o_a, .int f_o_b])), (q_o_counts, .inl (cy 0, 169, .inl f_o_counts))] sz)) 0 0 (va_A [(q_this, .inr (1, [.ref q_coefficients, .int f_a, .int f_b])), (q_coefficients, .inl (cy 1, 169, .inr (.inl f_coefficients))), (q_o, .inr (0, [.ref q_o_lowering, .ref q_o_sorts, .ref q_o_counts, .ref q_o_shares, .int f_o_a, .int f_o_b])), (q_o_counts, .inl (cy 0, 169, .inl f_o_counts))] sz) := by
  refine Met.ofW (cc := cX1_fillFrom) (maxL := 4) (ret := none) (by decide) rfl ?_
  intro p e s m args below meth c s₁ B hml hv
  obtain ⟨rfl, hsz, hP, hK, hD0, hN⟩ := hv
  have hx := B.exec
  have hb := B.bytes
  have hr := B.returns
  have htA : ∀ w ∈ AW, w.before _ s = true := fun w h => atoms_spec (ws := Cond.code yX1_fillFrom cX1_fillFrom 4 none :: AW) B.pre w (List.mem_cons_of_mem _ h)
  have hown : s.vm.findClass RX1 = some m.cls := findClass_of_methodNamed B.named
  have hlocks := B.notSynchronized
  subst hsz
  have hD := hD0.self (sz := s.heap.size)
  generalize hAe : va_A [(q_this, .inr (1, [.ref q_coefficients, .int f_a, .int f_b])), (q_coefficients, .inl (cy 1, 169, .inr (.inl f_coefficients))), (q_o, .inr (0, [.ref q_o_lowering, .ref q_o_sorts, .ref q_o_counts, .ref q_o_shares, .int f_o_a, .int f_o_b])), (q_o_counts, .inl (cy 0, 169, .inl f_o_counts))] s.heap.size = A at hD ⊢
  have hA : ∀ q : Nat, s.heap.size ≤ q → A q := fun q h => by rw [← hAe]; exact Or.inr h
  have hS : va_S A s.heap s.heap [] := va_S.rf
  have hl := lv_entry ([.ref q_this, .ref q_o]) (n := 4) (Nat.le_of_ble_eq_true rfl)
  rw [lg_entry_eq]
  generalize (lg_sl ([.ref q_this, .ref q_o]) ++ List.replicate (4 - (lg_sl ([.ref q_this, .ref q_o])).length) Slot.unset).toArray = ls at hl ⊢
  have hl : lv_has ls 4 [(0, .ref q_this), (1, .ref q_o)] := hl
  have hP : va_P G vwCl [(q_this, .inr (1, [.ref q_coefficients, .int f_a, .int f_b])), (q_coefficients, .inl (cy 1, 169, .inr (.inl f_coefficients))), (q_o, .inr (0, [.ref q_o_lowering, .ref q_o_sorts, .ref q_o_counts, .ref q_o_shares, .int f_o_a, .int f_o_b])), (q_o_counts, .inl (cy 0, 169, .inl f_o_counts))] s.heap := hP
  have C0 : Cx p s m _ meth c cX1_fillFrom 4 none RX1 G cy A := ⟨hx, hb, hr, hml, htA, hown, hK, hN, hA, hlocks⟩
  have hf : ((if f_a = f_o_a then (if f_b = f_o_b then some (f_a, f_b, f_coefficients) else jX1_fillFrom_23 n f_o_a f_o_b f_o_counts f_a f_b f_coefficients) else jX1_fillFrom_23 n f_o_a f_o_b f_o_counts f_a f_b f_coefficients) : Option (Int32 × Int32 × (Nat → Int64))) = some o := hf
  refine lv_aload_n hx hb dX1_fillFrom_0 rfl (lv_at hl 0 rfl) ?_
  refine va_get (D := G) (ci := 1) (v := .int f_a) (C := RX1) (T := TX1) (N := 3) hx hb htA lyX1 hown hK hP 0 rfl rfl 1 (by decide) (htA _ a_fl_X1_15) (fun _ h9 => h9) rfl dX1_fillFrom_1 ?_
  refine lv_aload_n hx hb dX1_fillFrom_4 rfl (lv_at hl 1 rfl) ?_
  refine va_getN (D := G) (ci := 0) (v := .int f_o_a) (C := RX0) (T := TX0) (N := 6) hx hb htA lyX0 hown hK hP 2 rfl rfl 4 (by decide) (u_link hN (List.mem_of_getElem? (i := 16) rfl)) (fun _ h9 => h9) rfl dX1_fillFrom_5 ?_
  refine lv_icmp_ne (tgt := 23) hx hb dX1_fillFrom_8 (by decide) (fun c_44 => ?_) (fun c_44 => ?_)
  · have hf := ite_f c_44 hf
    exact wX1_fillFrom_23 C0 _ _ _ _ _ _ hP hD hS (lv_sub hl [0, 1] rfl) hf
  · have hf := ite_t c_44 hf
    refine lv_aload_n hx hb dX1_fillFrom_11 rfl (lv_at hl 0 rfl) ?_
    refine va_get (D := G) (ci := 1) (v := .int f_b) (C := RX1) (T := TX1) (N := 3) hx hb htA lyX1 hown hK hP 0 rfl rfl 2 (by decide) (htA _ a_fl_X1_19) (fun _ h9 => h9) rfl dX1_fillFrom_12 ?_
    refine lv_aload_n hx hb dX1_fillFrom_15 rfl (lv_at hl 1 rfl) ?_
    refine va_getN (D := G) (ci := 0) (v := .int f_o_b) (C := RX0) (T := TX0) (N := 6) hx hb htA lyX0 hown hK hP 2 rfl rfl 5 (by decide) (u_link hN (List.mem_of_getElem? (i := 17) rfl)) (fun _ h9 => h9) rfl dX1_fillFrom_16 ?_
    refine lv_icmp_ne (tgt := 23) hx hb dX1_fillFrom_19 (by decide) (fun c_45 => ?_) (fun c_45 => ?_)
    · have hf := ite_f c_45 hf
      exact wX1_fillFrom_23 C0 _ _ _ _ _ _ hP hD hS (lv_sub hl [0, 1] rfl) hf
    · have hf := ite_t c_45 hf
      have ho := Option.some.inj hf
      subst ho
      exact W.vret hx hb hr (fun t ht hW => ⟨⟨(), rfl, trivial, by rw [ht]; exact hP, va_K.moved hW.alike hK, hD⟩, hS.F ht⟩) hS.2.2 dX1_fillFrom_22
set_option maxRecDepth 100000 in
set_option maxHeartbeats 4000000 in
theorem kX8_isIn (l : Launch) (G : va_G) (cy : Nat → ClassId) (sz : Nat) (p0 : Int32) (p1 : Int32) (p2 : Int32) {o : Int32} (hf : fX8_isIn p0 p1 p2 = some o) : Met l yX8_isIn (Cond.code yX8_isIn cX8_isIn 3 (some .boolean) :: AW) ({ frames := 0, cells := 0, slots := 0, locals := 0 } : Room) (va_Pc [.int p0, .int p1, .int p2] (Wp G cy [] sz)) (va_Qi (fun r (_ : Unit) => r = o) (fun _ => Wq G cy (va_A [] sz) []) (va_A [] sz)) 0 0 (va_A [] sz) := by
  refine Met.ofW (cc := cX8_isIn) (maxL := 3) (ret := (some .boolean)) (by decide) rfl ?_
  intro p e s m args below meth c s₁ B hml hv
  obtain ⟨rfl, hsz, hP, hK, hD0, hN⟩ := hv
  have hx := B.exec
  have hb := B.bytes
  have hr := B.returns
  have htA : ∀ w ∈ AW, w.before _ s = true := fun w h => atoms_spec (ws := Cond.code yX8_isIn cX8_isIn 3 (some .boolean) :: AW) B.pre w (List.mem_cons_of_mem _ h)
  have hown : s.vm.findClass RX8 = some m.cls := findClass_of_methodNamed B.named
  have hlocks := B.notSynchronized
  subst hsz
  have hD := hD0.self (sz := s.heap.size)
  generalize hAe : va_A [] s.heap.size = A at hD ⊢
  have hA : ∀ q : Nat, s.heap.size ≤ q → A q := fun q h => by rw [← hAe]; exact Or.inr h
  have hS : va_S A s.heap s.heap [] := va_S.rf
  have hl := lv_entry ([.int p0, .int p1, .int p2]) (n := 3) (Nat.le_of_ble_eq_true rfl)
  rw [lg_entry_eq]
  generalize (lg_sl ([.int p0, .int p1, .int p2]) ++ List.replicate (3 - (lg_sl ([.int p0, .int p1, .int p2])).length) Slot.unset).toArray = ls at hl ⊢
  have hl : lv_has ls 3 [(0, .int p0), (1, .int p1), (2, .int p2)] := hl
  have hP : va_P G vwCl [] s.heap := hP
  have hf : ((if p0 < p1 then some (0) else (if p2 < p0 then some (0) else some (1))) : Option (Int32)) = some o := hf
  refine lv_iload_n hx hb dX8_isIn_0 rfl (lv_at hl 0 rfl) ?_
  refine lv_iload_n hx hb dX8_isIn_1 rfl (lv_at hl 1 rfl) ?_
  refine lv_icmp_lt (tgt := 14) hx hb dX8_isIn_2 (by decide) (fun c_9 => ?_) (fun c_9 => ?_)
  · have hf := ite_t c_9 hf
    refine lv_iconst (v := 0) hx hb dX8_isIn_14 (by decide) ?_
    have ho := Option.some.inj hf
    subst ho
    exact W.zret (v := 0) hx hb hr rfl (fun t ht hW => ⟨⟨_, (), rfl, rfl, by rw [ht]; exact hP, va_K.moved hW.alike hK, hD⟩, hS.F ht⟩) hS.2.2 dX8_isIn_15
  · have hf := ite_f c_9 hf
    refine lv_iload_n hx hb dX8_isIn_5 rfl (lv_at hl 0 rfl) ?_
    refine lv_iload_n hx hb dX8_isIn_6 rfl (lv_at hl 2 rfl) ?_
    refine lv_icmp_gt (tgt := 14) hx hb dX8_isIn_7 (by decide) (fun c_10 => ?_) (fun c_10 => ?_)
    · have hf := ite_t c_10 hf
      refine lv_iconst (v := 0) hx hb dX8_isIn_14 (by decide) ?_
      have ho := Option.some.inj hf
      subst ho
      exact W.zret (v := 0) hx hb hr rfl (fun t ht hW => ⟨⟨_, (), rfl, rfl, by rw [ht]; exact hP, va_K.moved hW.alike hK, hD⟩, hS.F ht⟩) hS.2.2 dX8_isIn_15
    · have hf := ite_f c_10 hf
      refine lv_iconst (v := 1) hx hb dX8_isIn_10 (by decide) ?_
      refine lv_goto (tgt := 15) hx hb dX8_isIn_11 (by decide) ?_
      have ho := Option.some.inj hf
      subst ho
      exact W.zret (v := 1) hx hb hr rfl (fun t ht hW => ⟨⟨_, (), rfl, rfl, by rw [ht]; exact hP, va_K.moved hW.alike hK, hD⟩, hS.F ht⟩) hS.2.2 dX8_isIn_15
set_option maxRecDepth 100000 in
set_option maxHeartbeats 4000000 in
theorem kX8_isPlace (l : Launch) (G : va_G) (cy : Nat → ClassId) (sz : Nat) (p0 : Int32) (p1 : Int32) {o : Int32} (hf : fX8_isPlace p0 p1 = some o) : Met l yX8_isPlace (Cond.code yX8_isPlace cX8_isPlace 2 (some .boolean) :: AW) ({ frames := 1, cells := 0, slots := 0, locals := 22 } : Room) (va_Pc [.int p0, .int p1] (Wp G cy [] sz)) (va_Qi (fun r (_ : Unit) => r = o) (fun _ => Wq G cy (va_A [] sz) []) (va_A [] sz)) 0 0 (va_A [] sz) := by
  refine Met.ofW (cc := cX8_isPlace) (maxL := 2) (ret := (some .boolean)) (by decide) rfl ?_
  intro p e s m args below meth c s₁ B hml hv
  obtain ⟨rfl, hsz, hP, hK, hD0, hN⟩ := hv
  have hx := B.exec
  have hb := B.bytes
  have hr := B.returns
  have htA : ∀ w ∈ AW, w.before _ s = true := fun w h => atoms_spec (ws := Cond.code yX8_isPlace cX8_isPlace 2 (some .boolean) :: AW) B.pre w (List.mem_cons_of_mem _ h)
  have hown : s.vm.findClass RX8 = some m.cls := findClass_of_methodNamed B.named
  have hlocks := B.notSynchronized
  subst hsz
  have hD := hD0.self (sz := s.heap.size)
  generalize hAe : va_A [] s.heap.size = A at hD ⊢
  have hA : ∀ q : Nat, s.heap.size ≤ q → A q := fun q h => by rw [← hAe]; exact Or.inr h
  have hS : va_S A s.heap s.heap [] := va_S.rf
  have hl := lv_entry ([.int p0, .int p1]) (n := 2) (Nat.le_of_ble_eq_true rfl)
  rw [lg_entry_eq]
  generalize (lg_sl ([.int p0, .int p1]) ++ List.replicate (2 - (lg_sl ([.int p0, .int p1])).length) Slot.unset).toArray = ls at hl ⊢
  have hl : lv_has ls 2 [(0, .int p0), (1, .int p1)] := hl
  have hP : va_P G vwCl [] s.heap := hP
  have hf : ((fX8_isIn p0 (-999) 999).bind fun q7 => ((if q7 = 0 then some (0) else (fX8_isIn p1 (-999) 999).bind fun q20 => ((if q20 = 0 then some (0) else some (1))))) : Option (Int32)) = some o := hf
  refine lv_iload_n hx hb dX8_isPlace_0 rfl (lv_at hl 0 rfl) ?_
  refine lv_sipush (v := (-999)) hx hb dX8_isPlace_1 (by decide) ?_
  refine lv_sipush (v := 999) hx hb dX8_isPlace_4 (by decide) ?_
  obtain ⟨q7, h7_17, hf⟩ := bd_s hf
  refine u_calliR (va_runS (As := [.int p0, .int (-999), .int 999]) (rest := []) ⟨hx, hb, hml, hown, htA⟩ (kX8_isIn l G cy s.heap.size p0 (-999) 999 h7_17) (u_cwS htA a_ml_X8_69 pk_X8_isIn ⟨Nat.le_of_ble_eq_true rfl, Nat.le_of_ble_eq_true rfl⟩) (u_preS hK hN hP hD [] rfl (by decide)) rfl rfl hl.1 rfl (lv_room (Nat.le_of_ble_eq_true rfl)) dX8_isPlace_7 ⟨Nat.zero_le _, Nat.zero_le _⟩) hP hD hS hA [] rfl (fun H locs hP hS => ?_)
  refine lv_if_eq (tgt := 30) hx hb dX8_isPlace_10 (by decide) (fun c_18 => ?_) (fun c_18 => ?_)
  · have hf := ite_t c_18 hf
    refine lv_iconst (v := 0) hx hb dX8_isPlace_30 (by decide) ?_
    have ho := Option.some.inj hf
    subst ho
    exact W.zret (v := 0) hx hb hr rfl (fun t ht hW => ⟨⟨_, (), rfl, rfl, by rw [ht]; exact hP, va_K.moved hW.alike hK, hD⟩, hS.F ht⟩) hS.2.2 dX8_isPlace_31
  · have hf := ite_f c_18 hf
    refine lv_iload_n hx hb dX8_isPlace_13 rfl (lv_at hl 1 rfl) ?_
    refine lv_sipush (v := (-999)) hx hb dX8_isPlace_14 (by decide) ?_
    refine lv_sipush (v := 999) hx hb dX8_isPlace_17 (by decide) ?_
    obtain ⟨q20, h20_19, hf⟩ := bd_s hf
    refine u_calliR (va_runS (As := [.int p1, .int (-999), .int 999]) (rest := []) ⟨hx, hb, hml, hown, htA⟩ (kX8_isIn l G cy H.size p1 (-999) 999 h20_19) (u_cwS htA a_ml_X8_69 pk_X8_isIn ⟨Nat.le_of_ble_eq_true rfl, Nat.le_of_ble_eq_true rfl⟩) (u_preS hK hN hP hD [] rfl (by decide)) rfl rfl hl.1 rfl (lv_room (Nat.le_of_ble_eq_true rfl)) dX8_isPlace_20 ⟨Nat.zero_le _, Nat.zero_le _⟩) hP hD hS hA [] rfl (fun H locs hP hS => ?_)
    refine lv_if_eq (tgt := 30) hx hb dX8_isPlace_23 (by decide) (fun c_20 => ?_) (fun c_20 => ?_)
    · have hf := ite_t c_20 hf
      refine lv_iconst (v := 0) hx hb dX8_isPlace_30 (by decide) ?_
      have ho := Option.some.inj hf
      subst ho
      exact W.zret (v := 0) hx hb hr rfl (fun t ht hW => ⟨⟨_, (), rfl, rfl, by rw [ht]; exact hP, va_K.moved hW.alike hK, hD⟩, hS.F ht⟩) hS.2.2 dX8_isPlace_31
    · have hf := ite_f c_20 hf
      refine lv_iconst (v := 1) hx hb dX8_isPlace_26 (by decide) ?_
      refine lv_goto (tgt := 31) hx hb dX8_isPlace_27 (by decide) ?_
      have ho := Option.some.inj hf
      subst ho
      exact W.zret (v := 1) hx hb hr rfl (fun t ht hW => ⟨⟨_, (), rfl, rfl, by rw [ht]; exact hP, va_K.moved hW.alike hK, hD⟩, hS.F ht⟩) hS.2.2 dX8_isPlace_31
set_option maxRecDepth 100000 in
set_option maxHeartbeats 4000000 in
theorem wX2_carryBy_51 {p : Program} {l : Launch} {e : Env} {s : State} {m : MethodId} {args : Array Value} {below : List Frame} {meth : Method} {c : Code} {G : va_G} {cy : Nat → ClassId} {A : Nat → Prop} {q_this : Nat} {f_a : Int32} {f_b : Int32} {o : Int32 × Int32 × Int32} (C : Cx p s m args meth c cX2_carryBy 4 (some .boolean) RX2 G cy A) : ∀ (v2 : Int32) (s0 : Int32) (f_x : Int32) (f_y : Int32) (H : Heap) (locs : List Loc) (ls : Array Slot), va_P G vwCl [(q_this, .inr (2, [.int f_a, .int f_b, .int f_x, .int f_y]))] H → va_D A [(q_this, .inr (2, [.int f_a, .int f_b, .int f_x, .int f_y]))] → va_S A s.heap H locs → lv_has ls 4 [(0, .ref q_this), (2, .int v2)] → jX2_carryBy_51 v2 s0 f_x f_y = some o → W p l e (headSpec (Cond.code yX2_carryBy cX2_carryBy 4 (some .boolean) :: AW) ({ frames := 2, cells := 0, slots := 0, locals := 43 } : Room)).room s m args below meth c H locs 0 0 (MQ below (va_Qi (fun r (_ : Unit) => r = o.1) (fun _ => Wq G cy A [(q_this, .inr (2, [.int f_a, .int f_b, .int o.2.1, .int o.2.2]))]) A) args s 0 0 A) (F0 m 51 ls [.int s0]) := by
  have C0 := C
  obtain ⟨hx, hb, hr, hml, htA, hown, hK, hN, hA, hlocks⟩ := C
  intro v2 s0 f_x f_y H locs ls hP hD hS hl hf
  have hf : ((fX8_isPlace v2 s0).bind fun q54 => ((if q54 = 0 then some (0, f_x, f_y) else some (1, v2, s0))) : Option (Int32 × Int32 × Int32)) = some o := hf
  refine lv_istore_n (lv' := [(3, .int s0), (0, .ref q_this), (2, .int v2)]) hx hb dX2_carryBy_51 rfl hl (by decide) rfl (fun ls hl => ?_)
  refine lv_iload_n hx hb dX2_carryBy_52 rfl (lv_at hl 2 rfl) ?_
  refine lv_iload_n hx hb dX2_carryBy_53 rfl (lv_at hl 0 rfl) ?_
  obtain ⟨q54, h54_17, hf⟩ := bd_s hf
  refine u_calliR (va_runSN (As := [.int v2, .int s0]) (rest := []) ⟨hx, hb, hml, hown, htA⟩ (kX8_isPlace l G cy H.size v2 s0 h54_17) (u_cnS htA hN (List.mem_of_getElem? (i := 22) rfl) pk_X8_isPlace ⟨Nat.le_of_ble_eq_true rfl, Nat.le_of_ble_eq_true rfl⟩) (u_preS hK hN hP hD [] rfl (by decide)) rfl rfl hl.1 rfl (lv_room (Nat.le_of_ble_eq_true rfl)) dX2_carryBy_54 ⟨Nat.zero_le _, Nat.zero_le _⟩) hP hD hS hA [] rfl (fun H locs hP hS => ?_)
  refine lv_if_ne (tgt := 62) hx hb dX2_carryBy_57 (by decide) (fun c_18 => ?_) (fun c_18 => ?_)
  · have hf := ite_f c_18 hf
    refine lv_aload_n hx hb dX2_carryBy_62 rfl (lv_at hl 1 rfl) ?_
    refine lv_iload_n hx hb dX2_carryBy_63 rfl (lv_at hl 2 rfl) ?_
    refine va_put (D := G) (ci := 2) (v := .int v2) (ty := tyX2 2) (C := RX2) (T := TX2) (N := 4) hx hb htA lyX2 tyX2 tyX2_ok nmX2 hown hK hP hD hS 0 rfl rfl 2 (by decide) (htA _ a_fl_X2_16) (fun _ h9 => h9) rfl (tyX2_ok 2 (by decide)) rfl rfl (Nat.le_of_ble_eq_true rfl) dX2_carryBy_64 (fun H locs hP hD hS => ?_)
    have hP : va_P G vwCl [(q_this, .inr (2, [.int f_a, .int f_b, .int v2, .int f_y]))] H := hP
    have hD : va_D A [(q_this, .inr (2, [.int f_a, .int f_b, .int v2, .int f_y]))] := hD
    refine lv_aload_n hx hb dX2_carryBy_67 rfl (lv_at hl 1 rfl) ?_
    refine lv_iload_n hx hb dX2_carryBy_68 rfl (lv_at hl 0 rfl) ?_
    refine va_put (D := G) (ci := 2) (v := .int s0) (ty := tyX2 3) (C := RX2) (T := TX2) (N := 4) hx hb htA lyX2 tyX2 tyX2_ok nmX2 hown hK hP hD hS 0 rfl rfl 3 (by decide) (htA _ a_fl_X2_19) (fun _ h9 => h9) rfl (tyX2_ok 3 (by decide)) rfl rfl (Nat.le_of_ble_eq_true rfl) dX2_carryBy_69 (fun H locs hP hD hS => ?_)
    have hP : va_P G vwCl [(q_this, .inr (2, [.int f_a, .int f_b, .int v2, .int s0]))] H := hP
    have hD : va_D A [(q_this, .inr (2, [.int f_a, .int f_b, .int v2, .int s0]))] := hD
    refine lv_iconst (v := 1) hx hb dX2_carryBy_72 (by decide) ?_
    have ho := Option.some.inj hf
    subst ho
    exact W.zret (v := 1) hx hb hr rfl (fun t ht hW => ⟨⟨_, (), rfl, rfl, by rw [ht]; exact hP, va_K.moved hW.alike hK, hD⟩, hS.F ht⟩) hS.2.2 dX2_carryBy_73
  · have hf := ite_t c_18 hf
    refine lv_iconst (v := 0) hx hb dX2_carryBy_60 (by decide) ?_
    have ho := Option.some.inj hf
    subst ho
    exact W.zret (v := 0) hx hb hr rfl (fun t ht hW => ⟨⟨_, (), rfl, rfl, by rw [ht]; exact hP, va_K.moved hW.alike hK, hD⟩, hS.F ht⟩) hS.2.2 dX2_carryBy_61
set_option maxRecDepth 100000 in
set_option maxHeartbeats 4000000 in
theorem wX2_carryBy_25 {p : Program} {l : Launch} {e : Env} {s : State} {m : MethodId} {args : Array Value} {below : List Frame} {meth : Method} {c : Code} {G : va_G} {cy : Nat → ClassId} {A : Nat → Prop} {q_this : Nat} {f_a : Int32} {f_b : Int32} {o : Int32 × Int32 × Int32} (C : Cx p s m args meth c cX2_carryBy 4 (some .boolean) RX2 G cy A) : ∀ (v1 : Int32) (s0 : Int32) (f_x : Int32) (f_y : Int32) (H : Heap) (locs : List Loc) (ls : Array Slot), va_P G vwCl [(q_this, .inr (2, [.int f_a, .int f_b, .int f_x, .int f_y]))] H → va_D A [(q_this, .inr (2, [.int f_a, .int f_b, .int f_x, .int f_y]))] → va_S A s.heap H locs → lv_has ls 4 [(0, .ref q_this), (1, .int v1)] → jX2_carryBy_25 f_b v1 s0 f_x f_y = some o → W p l e (headSpec (Cond.code yX2_carryBy cX2_carryBy 4 (some .boolean) :: AW) ({ frames := 2, cells := 0, slots := 0, locals := 43 } : Room)).room s m args below meth c H locs 0 0 (MQ below (va_Qi (fun r (_ : Unit) => r = o.1) (fun _ => Wq G cy A [(q_this, .inr (2, [.int f_a, .int f_b, .int o.2.1, .int o.2.2]))]) A) args s 0 0 A) (F0 m 25 ls [.int s0]) := by
  have C0 := C
  obtain ⟨hx, hb, hr, hml, htA, hown, hK, hN, hA, hlocks⟩ := C
  intro v1 s0 f_x f_y H locs ls hP hD hS hl hf
  have hf : ((if v1 = 0 then jX2_carryBy_51 s0 f_y f_x f_y else jX2_carryBy_51 s0 ((f_b * f_x) - f_y) f_x f_y) : Option (Int32 × Int32 × Int32)) = some o := hf
  refine lv_istore_n (lv' := [(2, .int s0), (0, .ref q_this), (1, .int v1)]) hx hb dX2_carryBy_25 rfl hl (by decide) rfl (fun ls hl => ?_)
  refine lv_iload_n hx hb dX2_carryBy_26 rfl (lv_at hl 2 rfl) ?_
  refine lv_if_ne (tgt := 37) hx hb dX2_carryBy_27 (by decide) (fun c_19 => ?_) (fun c_19 => ?_)
  · have hf := ite_f c_19 hf
    refine lv_aload_n hx hb dX2_carryBy_37 rfl (lv_at hl 1 rfl) ?_
    refine va_get (D := G) (ci := 2) (v := .int f_b) (C := RX2) (T := TX2) (N := 4) hx hb htA lyX2 hown hK hP 0 rfl rfl 1 (by decide) (htA _ a_fl_X2_13) (fun _ h9 => h9) rfl dX2_carryBy_38 ?_
    refine lv_aload_n hx hb dX2_carryBy_41 rfl (lv_at hl 1 rfl) ?_
    refine va_get (D := G) (ci := 2) (v := .int f_x) (C := RX2) (T := TX2) (N := 4) hx hb htA lyX2 hown hK hP 0 rfl rfl 2 (by decide) (htA _ a_fl_X2_16) (fun _ h9 => h9) rfl dX2_carryBy_42 ?_
    refine lv_imul hx hb dX2_carryBy_45 ?_
    refine lv_aload_n hx hb dX2_carryBy_46 rfl (lv_at hl 1 rfl) ?_
    refine va_get (D := G) (ci := 2) (v := .int f_y) (C := RX2) (T := TX2) (N := 4) hx hb htA lyX2 hown hK hP 0 rfl rfl 3 (by decide) (htA _ a_fl_X2_19) (fun _ h9 => h9) rfl dX2_carryBy_47 ?_
    refine lv_isub hx hb dX2_carryBy_50 ?_
    exact wX2_carryBy_51 C0 _ _ _ _ _ _ _ hP hD hS (lv_sub hl [1, 0] rfl) hf
  · have hf := ite_t c_19 hf
    refine lv_aload_n hx hb dX2_carryBy_30 rfl (lv_at hl 1 rfl) ?_
    refine va_get (D := G) (ci := 2) (v := .int f_y) (C := RX2) (T := TX2) (N := 4) hx hb htA lyX2 hown hK hP 0 rfl rfl 3 (by decide) (htA _ a_fl_X2_19) (fun _ h9 => h9) rfl dX2_carryBy_31 ?_
    refine lv_goto (tgt := 51) hx hb dX2_carryBy_34 (by decide) ?_
    exact wX2_carryBy_51 C0 _ _ _ _ _ _ _ hP hD hS (lv_sub hl [1, 0] rfl) hf
set_option maxRecDepth 100000 in
set_option maxHeartbeats 4000000 in
theorem kX2_carryBy (l : Launch) (G : va_G) (cy : Nat → ClassId) (q_this : Nat) (sz : Nat) (f_a : Int32) (f_b : Int32) (f_x : Int32) (f_y : Int32) (p1 : Int32) {o : Int32 × Int32 × Int32} (hf : fX2_carryBy p1 f_a f_b f_x f_y = some o) : Met l yX2_carryBy (Cond.code yX2_carryBy cX2_carryBy 4 (some .boolean) :: AW) ({ frames := 2, cells := 0, slots := 0, locals := 43 } : Room) (va_Pc [.ref q_this, .int p1] (Wp G cy [(q_this, .inr (2, [.int f_a, .int f_b, .int f_x, .int f_y]))] sz)) (va_Qi (fun r (_ : Unit) => r = o.1) (fun _ => Wq G cy (va_A [(q_this, .inr (2, [.int f_a, .int f_b, .int f_x, .int f_y]))] sz) [(q_this, .inr (2, [.int f_a, .int f_b, .int o.2.1, .int o.2.2]))]) (va_A [(q_this, .inr (2, [.int f_a, .int f_b, .int f_x, .int f_y]))] sz)) 0 0 (va_A [(q_this, .inr (2, [.int f_a, .int f_b, .int f_x, .int f_y]))] sz) := by
  refine Met.ofW (cc := cX2_carryBy) (maxL := 4) (ret := (some .boolean)) (by decide) rfl ?_
  intro p e s m args below meth c s₁ B hml hv
  obtain ⟨rfl, hsz, hP, hK, hD0, hN⟩ := hv
  have hx := B.exec
  have hb := B.bytes
  have hr := B.returns
  have htA : ∀ w ∈ AW, w.before _ s = true := fun w h => atoms_spec (ws := Cond.code yX2_carryBy cX2_carryBy 4 (some .boolean) :: AW) B.pre w (List.mem_cons_of_mem _ h)
  have hown : s.vm.findClass RX2 = some m.cls := findClass_of_methodNamed B.named
  have hlocks := B.notSynchronized
  subst hsz
  have hD := hD0.self (sz := s.heap.size)
  generalize hAe : va_A [(q_this, .inr (2, [.int f_a, .int f_b, .int f_x, .int f_y]))] s.heap.size = A at hD ⊢
  have hA : ∀ q : Nat, s.heap.size ≤ q → A q := fun q h => by rw [← hAe]; exact Or.inr h
  have hS : va_S A s.heap s.heap [] := va_S.rf
  have hl := lv_entry ([.ref q_this, .int p1]) (n := 4) (Nat.le_of_ble_eq_true rfl)
  rw [lg_entry_eq]
  generalize (lg_sl ([.ref q_this, .int p1]) ++ List.replicate (4 - (lg_sl ([.ref q_this, .int p1])).length) Slot.unset).toArray = ls at hl ⊢
  have hl : lv_has ls 4 [(0, .ref q_this), (1, .int p1)] := hl
  have hP : va_P G vwCl [(q_this, .inr (2, [.int f_a, .int f_b, .int f_x, .int f_y]))] s.heap := hP
  have C0 : Cx p s m _ meth c cX2_carryBy 4 (some .boolean) RX2 G cy A := ⟨hx, hb, hr, hml, htA, hown, hK, hN, hA, hlocks⟩
  have hf : ((if p1 = 0 then jX2_carryBy_25 f_b p1 ((f_a * f_y) - f_x) f_x f_y else jX2_carryBy_25 f_b p1 f_x f_x f_y) : Option (Int32 × Int32 × Int32)) = some o := hf
  refine lv_iload_n hx hb dX2_carryBy_0 rfl (lv_at hl 1 rfl) ?_
  refine lv_if_ne (tgt := 21) hx hb dX2_carryBy_1 (by decide) (fun c_20 => ?_) (fun c_20 => ?_)
  · have hf := ite_f c_20 hf
    refine lv_aload_n hx hb dX2_carryBy_21 rfl (lv_at hl 0 rfl) ?_
    refine va_get (D := G) (ci := 2) (v := .int f_x) (C := RX2) (T := TX2) (N := 4) hx hb htA lyX2 hown hK hP 0 rfl rfl 2 (by decide) (htA _ a_fl_X2_16) (fun _ h9 => h9) rfl dX2_carryBy_22 ?_
    exact wX2_carryBy_25 C0 _ _ _ _ _ _ _ hP hD hS (lv_sub hl [0, 1] rfl) hf
  · have hf := ite_t c_20 hf
    refine lv_aload_n hx hb dX2_carryBy_4 rfl (lv_at hl 0 rfl) ?_
    refine va_get (D := G) (ci := 2) (v := .int f_a) (C := RX2) (T := TX2) (N := 4) hx hb htA lyX2 hown hK hP 0 rfl rfl 0 (by decide) (htA _ a_fl_X2_7) (fun _ h9 => h9) rfl dX2_carryBy_5 ?_
    refine lv_aload_n hx hb dX2_carryBy_8 rfl (lv_at hl 0 rfl) ?_
    refine va_get (D := G) (ci := 2) (v := .int f_y) (C := RX2) (T := TX2) (N := 4) hx hb htA lyX2 hown hK hP 0 rfl rfl 3 (by decide) (htA _ a_fl_X2_19) (fun _ h9 => h9) rfl dX2_carryBy_9 ?_
    refine lv_imul hx hb dX2_carryBy_12 ?_
    refine lv_aload_n hx hb dX2_carryBy_13 rfl (lv_at hl 0 rfl) ?_
    refine va_get (D := G) (ci := 2) (v := .int f_x) (C := RX2) (T := TX2) (N := 4) hx hb htA lyX2 hown hK hP 0 rfl rfl 2 (by decide) (htA _ a_fl_X2_16) (fun _ h9 => h9) rfl dX2_carryBy_14 ?_
    refine lv_isub hx hb dX2_carryBy_17 ?_
    refine lv_goto (tgt := 25) hx hb dX2_carryBy_18 (by decide) ?_
    exact wX2_carryBy_25 C0 _ _ _ _ _ _ _ hP hD hS (lv_sub hl [0, 1] rfl) hf
set_option maxRecDepth 100000 in
set_option maxHeartbeats 4000000 in
theorem kX2_swap (l : Launch) (G : va_G) (cy : Nat → ClassId) (q_this : Nat) (sz : Nat) (f_a : Int32) (f_b : Int32) (f_x : Int32) (f_y : Int32) {o : Int32 × Int32 × Int32 × Int32} (hf : fX2_swap f_a f_b f_x f_y = some o) : Met l yX2_swap (Cond.code yX2_swap cX2_swap 3 none :: AW) ({ frames := 0, cells := 0, slots := 0, locals := 0 } : Room) (va_Pc [.ref q_this] (Wp G cy [(q_this, .inr (2, [.int f_a, .int f_b, .int f_x, .int f_y]))] sz)) (va_Qv (fun (_ : Unit) => True) (fun _ => Wq G cy (va_A [(q_this, .inr (2, [.int f_a, .int f_b, .int f_x, .int f_y]))] sz) [(q_this, .inr (2, [.int o.1, .int o.2.1, .int o.2.2.1, .int o.2.2.2]))]) (va_A [(q_this, .inr (2, [.int f_a, .int f_b, .int f_x, .int f_y]))] sz)) 0 0 (va_A [(q_this, .inr (2, [.int f_a, .int f_b, .int f_x, .int f_y]))] sz) := by
  refine Met.ofW (cc := cX2_swap) (maxL := 3) (ret := none) (by decide) rfl ?_
  intro p e s m args below meth c s₁ B hml hv
  obtain ⟨rfl, hsz, hP, hK, hD0, hN⟩ := hv
  have hx := B.exec
  have hb := B.bytes
  have hr := B.returns
  have htA : ∀ w ∈ AW, w.before _ s = true := fun w h => atoms_spec (ws := Cond.code yX2_swap cX2_swap 3 none :: AW) B.pre w (List.mem_cons_of_mem _ h)
  have hown : s.vm.findClass RX2 = some m.cls := findClass_of_methodNamed B.named
  have hlocks := B.notSynchronized
  subst hsz
  have hD := hD0.self (sz := s.heap.size)
  generalize hAe : va_A [(q_this, .inr (2, [.int f_a, .int f_b, .int f_x, .int f_y]))] s.heap.size = A at hD ⊢
  have hA : ∀ q : Nat, s.heap.size ≤ q → A q := fun q h => by rw [← hAe]; exact Or.inr h
  have hS : va_S A s.heap s.heap [] := va_S.rf
  have hl := lv_entry ([.ref q_this]) (n := 3) (Nat.le_of_ble_eq_true rfl)
  rw [lg_entry_eq]
  generalize (lg_sl ([.ref q_this]) ++ List.replicate (3 - (lg_sl ([.ref q_this])).length) Slot.unset).toArray = ls at hl ⊢
  have hl : lv_has ls 3 [(0, .ref q_this)] := hl
  have hP : va_P G vwCl [(q_this, .inr (2, [.int f_a, .int f_b, .int f_x, .int f_y]))] s.heap := hP
  have hf : (some (f_b, f_a, f_y, f_x) : Option (Int32 × Int32 × Int32 × Int32)) = some o := hf
  refine lv_aload_n hx hb dX2_swap_0 rfl (lv_at hl 0 rfl) ?_
  refine va_get (D := G) (ci := 2) (v := .int f_a) (C := RX2) (T := TX2) (N := 4) hx hb htA lyX2 hown hK hP 0 rfl rfl 0 (by decide) (htA _ a_fl_X2_7) (fun _ h9 => h9) rfl dX2_swap_1 ?_
  refine lv_istore_n (lv' := [(1, .int f_a), (0, .ref q_this)]) hx hb dX2_swap_4 rfl hl (by decide) rfl (fun ls hl => ?_)
  refine lv_aload_n hx hb dX2_swap_5 rfl (lv_at hl 1 rfl) ?_
  refine lv_aload_n hx hb dX2_swap_6 rfl (lv_at hl 1 rfl) ?_
  refine va_get (D := G) (ci := 2) (v := .int f_b) (C := RX2) (T := TX2) (N := 4) hx hb htA lyX2 hown hK hP 0 rfl rfl 1 (by decide) (htA _ a_fl_X2_13) (fun _ h9 => h9) rfl dX2_swap_7 ?_
  refine va_put (D := G) (ci := 2) (v := .int f_b) (ty := tyX2 0) (C := RX2) (T := TX2) (N := 4) hx hb htA lyX2 tyX2 tyX2_ok nmX2 hown hK hP hD hS 0 rfl rfl 0 (by decide) (htA _ a_fl_X2_7) (fun _ h9 => h9) rfl (tyX2_ok 0 (by decide)) rfl rfl (Nat.le_of_ble_eq_true rfl) dX2_swap_10 (fun H locs hP hD hS => ?_)
  have hP : va_P G vwCl [(q_this, .inr (2, [.int f_b, .int f_b, .int f_x, .int f_y]))] H := hP
  have hD : va_D A [(q_this, .inr (2, [.int f_b, .int f_b, .int f_x, .int f_y]))] := hD
  refine lv_aload_n hx hb dX2_swap_13 rfl (lv_at hl 1 rfl) ?_
  refine lv_iload_n hx hb dX2_swap_14 rfl (lv_at hl 0 rfl) ?_
  refine va_put (D := G) (ci := 2) (v := .int f_a) (ty := tyX2 1) (C := RX2) (T := TX2) (N := 4) hx hb htA lyX2 tyX2 tyX2_ok nmX2 hown hK hP hD hS 0 rfl rfl 1 (by decide) (htA _ a_fl_X2_13) (fun _ h9 => h9) rfl (tyX2_ok 1 (by decide)) rfl rfl (Nat.le_of_ble_eq_true rfl) dX2_swap_15 (fun H locs hP hD hS => ?_)
  have hP : va_P G vwCl [(q_this, .inr (2, [.int f_b, .int f_a, .int f_x, .int f_y]))] H := hP
  have hD : va_D A [(q_this, .inr (2, [.int f_b, .int f_a, .int f_x, .int f_y]))] := hD
  refine lv_aload_n hx hb dX2_swap_18 rfl (lv_at hl 1 rfl) ?_
  refine va_get (D := G) (ci := 2) (v := .int f_x) (C := RX2) (T := TX2) (N := 4) hx hb htA lyX2 hown hK hP 0 rfl rfl 2 (by decide) (htA _ a_fl_X2_16) (fun _ h9 => h9) rfl dX2_swap_19 ?_
  refine lv_istore_n (lv' := [(2, .int f_x), (1, .int f_a), (0, .ref q_this)]) hx hb dX2_swap_22 rfl hl (by decide) rfl (fun ls hl => ?_)
  refine lv_aload_n hx hb dX2_swap_23 rfl (lv_at hl 2 rfl) ?_
  refine lv_aload_n hx hb dX2_swap_24 rfl (lv_at hl 2 rfl) ?_
  refine va_get (D := G) (ci := 2) (v := .int f_y) (C := RX2) (T := TX2) (N := 4) hx hb htA lyX2 hown hK hP 0 rfl rfl 3 (by decide) (htA _ a_fl_X2_19) (fun _ h9 => h9) rfl dX2_swap_25 ?_
  refine va_put (D := G) (ci := 2) (v := .int f_y) (ty := tyX2 2) (C := RX2) (T := TX2) (N := 4) hx hb htA lyX2 tyX2 tyX2_ok nmX2 hown hK hP hD hS 0 rfl rfl 2 (by decide) (htA _ a_fl_X2_16) (fun _ h9 => h9) rfl (tyX2_ok 2 (by decide)) rfl rfl (Nat.le_of_ble_eq_true rfl) dX2_swap_28 (fun H locs hP hD hS => ?_)
  have hP : va_P G vwCl [(q_this, .inr (2, [.int f_b, .int f_a, .int f_y, .int f_y]))] H := hP
  have hD : va_D A [(q_this, .inr (2, [.int f_b, .int f_a, .int f_y, .int f_y]))] := hD
  refine lv_aload_n hx hb dX2_swap_31 rfl (lv_at hl 2 rfl) ?_
  refine lv_iload_n hx hb dX2_swap_32 rfl (lv_at hl 0 rfl) ?_
  refine va_put (D := G) (ci := 2) (v := .int f_x) (ty := tyX2 3) (C := RX2) (T := TX2) (N := 4) hx hb htA lyX2 tyX2 tyX2_ok nmX2 hown hK hP hD hS 0 rfl rfl 3 (by decide) (htA _ a_fl_X2_19) (fun _ h9 => h9) rfl (tyX2_ok 3 (by decide)) rfl rfl (Nat.le_of_ble_eq_true rfl) dX2_swap_33 (fun H locs hP hD hS => ?_)
  have hP : va_P G vwCl [(q_this, .inr (2, [.int f_b, .int f_a, .int f_y, .int f_x]))] H := hP
  have hD : va_D A [(q_this, .inr (2, [.int f_b, .int f_a, .int f_y, .int f_x]))] := hD
  have ho := Option.some.inj hf
  subst ho
  exact W.vret hx hb hr (fun t ht hW => ⟨⟨(), rfl, trivial, by rw [ht]; exact hP, va_K.moved hW.alike hK, hD⟩, hS.F ht⟩) hS.2.2 dX2_swap_36
set_option maxRecDepth 100000 in
set_option maxHeartbeats 4000000 in
theorem kX2_copyFrom (l : Launch) (G : va_G) (cy : Nat → ClassId) (q_this : Nat) (q_o : Nat) (sz : Nat) (f_a : Int32) (f_b : Int32) (f_x : Int32) (f_y : Int32) (f_o_a : Int32) (f_o_b : Int32) (f_o_x : Int32) (f_o_y : Int32) {o : Int32 × Int32 × Int32 × Int32} (hf : fX2_copyFrom f_a f_b f_x f_y f_o_a f_o_b f_o_x f_o_y = some o) : Met l yX2_copyFrom (Cond.code yX2_copyFrom cX2_copyFrom 2 none :: AW) ({ frames := 0, cells := 0, slots := 0, locals := 0 } : Room) (va_Pc [.ref q_this, .ref q_o] (Wp G cy [(q_this, .inr (2, [.int f_a, .int f_b, .int f_x, .int f_y])), (q_o, .inr (2, [.int f_o_a, .int f_o_b, .int f_o_x, .int f_o_y]))] sz)) (va_Qv (fun (_ : Unit) => True) (fun _ => Wq G cy (va_A [(q_this, .inr (2, [.int f_a, .int f_b, .int f_x, .int f_y])), (q_o, .inr (2, [.int f_o_a, .int f_o_b, .int f_o_x, .int f_o_y]))] sz) [(q_this, .inr (2, [.int o.1, .int o.2.1, .int o.2.2.1, .int o.2.2.2])), (q_o, .inr (2, [.int f_o_a, .int f_o_b, .int f_o_x, .int f_o_y]))]) (va_A [(q_this, .inr (2, [.int f_a, .int f_b, .int f_x, .int f_y])), (q_o, .inr (2, [.int f_o_a, .int f_o_b, .int f_o_x, .int f_o_y]))] sz)) 0 0 (va_A [(q_this, .inr (2, [.int f_a, .int f_b, .int f_x, .int f_y])), (q_o, .inr (2, [.int f_o_a, .int f_o_b, .int f_o_x, .int f_o_y]))] sz) := by
  refine Met.ofW (cc := cX2_copyFrom) (maxL := 2) (ret := none) (by decide) rfl ?_
  intro p e s m args below meth c s₁ B hml hv
  obtain ⟨rfl, hsz, hP, hK, hD0, hN⟩ := hv
  have hx := B.exec
  have hb := B.bytes
  have hr := B.returns
  have htA : ∀ w ∈ AW, w.before _ s = true := fun w h => atoms_spec (ws := Cond.code yX2_copyFrom cX2_copyFrom 2 none :: AW) B.pre w (List.mem_cons_of_mem _ h)
  have hown : s.vm.findClass RX2 = some m.cls := findClass_of_methodNamed B.named
  have hlocks := B.notSynchronized
  subst hsz
  have hD := hD0.self (sz := s.heap.size)
  generalize hAe : va_A [(q_this, .inr (2, [.int f_a, .int f_b, .int f_x, .int f_y])), (q_o, .inr (2, [.int f_o_a, .int f_o_b, .int f_o_x, .int f_o_y]))] s.heap.size = A at hD ⊢
  have hA : ∀ q : Nat, s.heap.size ≤ q → A q := fun q h => by rw [← hAe]; exact Or.inr h
  have hS : va_S A s.heap s.heap [] := va_S.rf
  have hl := lv_entry ([.ref q_this, .ref q_o]) (n := 2) (Nat.le_of_ble_eq_true rfl)
  rw [lg_entry_eq]
  generalize (lg_sl ([.ref q_this, .ref q_o]) ++ List.replicate (2 - (lg_sl ([.ref q_this, .ref q_o])).length) Slot.unset).toArray = ls at hl ⊢
  have hl : lv_has ls 2 [(0, .ref q_this), (1, .ref q_o)] := hl
  have hP : va_P G vwCl [(q_this, .inr (2, [.int f_a, .int f_b, .int f_x, .int f_y])), (q_o, .inr (2, [.int f_o_a, .int f_o_b, .int f_o_x, .int f_o_y]))] s.heap := hP
  have hf : (some (f_o_a, f_o_b, f_o_x, f_o_y) : Option (Int32 × Int32 × Int32 × Int32)) = some o := hf
  refine lv_aload_n hx hb dX2_copyFrom_0 rfl (lv_at hl 0 rfl) ?_
  refine lv_aload_n hx hb dX2_copyFrom_1 rfl (lv_at hl 1 rfl) ?_
  refine va_get (D := G) (ci := 2) (v := .int f_o_a) (C := RX2) (T := TX2) (N := 4) hx hb htA lyX2 hown hK hP 1 rfl rfl 0 (by decide) (htA _ a_fl_X2_7) (fun _ h9 => h9) rfl dX2_copyFrom_2 ?_
  refine va_put (D := G) (ci := 2) (v := .int f_o_a) (ty := tyX2 0) (C := RX2) (T := TX2) (N := 4) hx hb htA lyX2 tyX2 tyX2_ok nmX2 hown hK hP hD hS 0 rfl rfl 0 (by decide) (htA _ a_fl_X2_7) (fun _ h9 => h9) rfl (tyX2_ok 0 (by decide)) rfl rfl (Nat.le_of_ble_eq_true rfl) dX2_copyFrom_5 (fun H locs hP hD hS => ?_)
  have hP : va_P G vwCl [(q_this, .inr (2, [.int f_o_a, .int f_b, .int f_x, .int f_y])), (q_o, .inr (2, [.int f_o_a, .int f_o_b, .int f_o_x, .int f_o_y]))] H := hP
  have hD : va_D A [(q_this, .inr (2, [.int f_o_a, .int f_b, .int f_x, .int f_y])), (q_o, .inr (2, [.int f_o_a, .int f_o_b, .int f_o_x, .int f_o_y]))] := hD
  refine lv_aload_n hx hb dX2_copyFrom_8 rfl (lv_at hl 0 rfl) ?_
  refine lv_aload_n hx hb dX2_copyFrom_9 rfl (lv_at hl 1 rfl) ?_
  refine va_get (D := G) (ci := 2) (v := .int f_o_b) (C := RX2) (T := TX2) (N := 4) hx hb htA lyX2 hown hK hP 1 rfl rfl 1 (by decide) (htA _ a_fl_X2_13) (fun _ h9 => h9) rfl dX2_copyFrom_10 ?_
  refine va_put (D := G) (ci := 2) (v := .int f_o_b) (ty := tyX2 1) (C := RX2) (T := TX2) (N := 4) hx hb htA lyX2 tyX2 tyX2_ok nmX2 hown hK hP hD hS 0 rfl rfl 1 (by decide) (htA _ a_fl_X2_13) (fun _ h9 => h9) rfl (tyX2_ok 1 (by decide)) rfl rfl (Nat.le_of_ble_eq_true rfl) dX2_copyFrom_13 (fun H locs hP hD hS => ?_)
  have hP : va_P G vwCl [(q_this, .inr (2, [.int f_o_a, .int f_o_b, .int f_x, .int f_y])), (q_o, .inr (2, [.int f_o_a, .int f_o_b, .int f_o_x, .int f_o_y]))] H := hP
  have hD : va_D A [(q_this, .inr (2, [.int f_o_a, .int f_o_b, .int f_x, .int f_y])), (q_o, .inr (2, [.int f_o_a, .int f_o_b, .int f_o_x, .int f_o_y]))] := hD
  refine lv_aload_n hx hb dX2_copyFrom_16 rfl (lv_at hl 0 rfl) ?_
  refine lv_aload_n hx hb dX2_copyFrom_17 rfl (lv_at hl 1 rfl) ?_
  refine va_get (D := G) (ci := 2) (v := .int f_o_x) (C := RX2) (T := TX2) (N := 4) hx hb htA lyX2 hown hK hP 1 rfl rfl 2 (by decide) (htA _ a_fl_X2_16) (fun _ h9 => h9) rfl dX2_copyFrom_18 ?_
  refine va_put (D := G) (ci := 2) (v := .int f_o_x) (ty := tyX2 2) (C := RX2) (T := TX2) (N := 4) hx hb htA lyX2 tyX2 tyX2_ok nmX2 hown hK hP hD hS 0 rfl rfl 2 (by decide) (htA _ a_fl_X2_16) (fun _ h9 => h9) rfl (tyX2_ok 2 (by decide)) rfl rfl (Nat.le_of_ble_eq_true rfl) dX2_copyFrom_21 (fun H locs hP hD hS => ?_)
  have hP : va_P G vwCl [(q_this, .inr (2, [.int f_o_a, .int f_o_b, .int f_o_x, .int f_y])), (q_o, .inr (2, [.int f_o_a, .int f_o_b, .int f_o_x, .int f_o_y]))] H := hP
  have hD : va_D A [(q_this, .inr (2, [.int f_o_a, .int f_o_b, .int f_o_x, .int f_y])), (q_o, .inr (2, [.int f_o_a, .int f_o_b, .int f_o_x, .int f_o_y]))] := hD
  refine lv_aload_n hx hb dX2_copyFrom_24 rfl (lv_at hl 0 rfl) ?_
  refine lv_aload_n hx hb dX2_copyFrom_25 rfl (lv_at hl 1 rfl) ?_
  refine va_get (D := G) (ci := 2) (v := .int f_o_y) (C := RX2) (T := TX2) (N := 4) hx hb htA lyX2 hown hK hP 1 rfl rfl 3 (by decide) (htA _ a_fl_X2_19) (fun _ h9 => h9) rfl dX2_copyFrom_26 ?_
  refine va_put (D := G) (ci := 2) (v := .int f_o_y) (ty := tyX2 3) (C := RX2) (T := TX2) (N := 4) hx hb htA lyX2 tyX2 tyX2_ok nmX2 hown hK hP hD hS 0 rfl rfl 3 (by decide) (htA _ a_fl_X2_19) (fun _ h9 => h9) rfl (tyX2_ok 3 (by decide)) rfl rfl (Nat.le_of_ble_eq_true rfl) dX2_copyFrom_29 (fun H locs hP hD hS => ?_)
  have hP : va_P G vwCl [(q_this, .inr (2, [.int f_o_a, .int f_o_b, .int f_o_x, .int f_o_y])), (q_o, .inr (2, [.int f_o_a, .int f_o_b, .int f_o_x, .int f_o_y]))] H := hP
  have hD : va_D A [(q_this, .inr (2, [.int f_o_a, .int f_o_b, .int f_o_x, .int f_o_y])), (q_o, .inr (2, [.int f_o_a, .int f_o_b, .int f_o_x, .int f_o_y]))] := hD
  have ho := Option.some.inj hf
  subst ho
  exact W.vret hx hb hr (fun t ht hW => ⟨⟨(), rfl, trivial, by rw [ht]; exact hP, va_K.moved hW.alike hK, hD⟩, hS.F ht⟩) hS.2.2 dX2_copyFrom_32
set_option maxRecDepth 100000 in
set_option maxHeartbeats 4000000 in
theorem kX4_size (l : Launch) (G : va_G) (cy : Nat → ClassId) (q_this : Nat) (q_cells : Nat) (sz : Nat) (f_limit : Int32) (f_used : Int32) {o : Int32} (hf : fX4_size f_used = some o) : Met l yX4_size (Cond.code yX4_size cX4_size 1 (some .int) :: AW) ({ frames := 0, cells := 0, slots := 0, locals := 0 } : Room) (va_Pc [.ref q_this] (Wp G cy [(q_this, .inr (4, [.int f_limit, .ref q_cells, .int f_used]))] sz)) (va_Qi (fun r (_ : Unit) => r = o) (fun _ => Wq G cy (va_A [(q_this, .inr (4, [.int f_limit, .ref q_cells, .int f_used]))] sz) [(q_this, .inr (4, [.int f_limit, .ref q_cells, .int f_used]))]) (va_A [(q_this, .inr (4, [.int f_limit, .ref q_cells, .int f_used]))] sz)) 0 0 (va_A [(q_this, .inr (4, [.int f_limit, .ref q_cells, .int f_used]))] sz) := by
  refine Met.ofW (cc := cX4_size) (maxL := 1) (ret := (some .int)) (by decide) rfl ?_
  intro p e s m args below meth c s₁ B hml hv
  obtain ⟨rfl, hsz, hP, hK, hD0, hN⟩ := hv
  have hx := B.exec
  have hb := B.bytes
  have hr := B.returns
  have htA : ∀ w ∈ AW, w.before _ s = true := fun w h => atoms_spec (ws := Cond.code yX4_size cX4_size 1 (some .int) :: AW) B.pre w (List.mem_cons_of_mem _ h)
  have hown : s.vm.findClass RX4 = some m.cls := findClass_of_methodNamed B.named
  have hlocks := B.notSynchronized
  subst hsz
  have hD := hD0.self (sz := s.heap.size)
  generalize hAe : va_A [(q_this, .inr (4, [.int f_limit, .ref q_cells, .int f_used]))] s.heap.size = A at hD ⊢
  have hA : ∀ q : Nat, s.heap.size ≤ q → A q := fun q h => by rw [← hAe]; exact Or.inr h
  have hS : va_S A s.heap s.heap [] := va_S.rf
  have hl := lv_entry ([.ref q_this]) (n := 1) (Nat.le_of_ble_eq_true rfl)
  rw [lg_entry_eq]
  generalize (lg_sl ([.ref q_this]) ++ List.replicate (1 - (lg_sl ([.ref q_this])).length) Slot.unset).toArray = ls at hl ⊢
  have hl : lv_has ls 1 [(0, .ref q_this)] := hl
  have hP : va_P G vwCl [(q_this, .inr (4, [.int f_limit, .ref q_cells, .int f_used]))] s.heap := hP
  have hf : (some (f_used) : Option (Int32)) = some o := hf
  refine lv_aload_n hx hb dX4_size_0 rfl (lv_at hl 0 rfl) ?_
  refine va_get (D := G) (ci := 4) (v := .int f_used) (C := RX4) (T := TX4) (N := 3) hx hb htA lyX4 hown hK hP 0 rfl rfl 2 (by decide) (htA _ a_fl_X4_9) (fun _ h9 => h9) rfl dX4_size_1 ?_
  have ho := Option.some.inj hf
  subst ho
  exact W.iret (v := f_used) hx hb hr (fun t ht hW => ⟨⟨_, (), rfl, rfl, by rw [ht]; exact hP, va_K.moved hW.alike hK, hD⟩, hS.F ht⟩) hS.2.2 dX4_size_4
set_option maxRecDepth 100000 in
set_option maxHeartbeats 4000000 in
theorem kX4_clear (l : Launch) (G : va_G) (cy : Nat → ClassId) (q_this : Nat) (q_cells : Nat) (sz : Nat) (f_limit : Int32) (f_used : Int32) {o : Int32} (hf : fX4_clear f_used = some o) : Met l yX4_clear (Cond.code yX4_clear cX4_clear 1 none :: AW) ({ frames := 0, cells := 0, slots := 0, locals := 0 } : Room) (va_Pc [.ref q_this] (Wp G cy [(q_this, .inr (4, [.int f_limit, .ref q_cells, .int f_used]))] sz)) (va_Qv (fun (_ : Unit) => True) (fun _ => Wq G cy (va_A [(q_this, .inr (4, [.int f_limit, .ref q_cells, .int f_used]))] sz) [(q_this, .inr (4, [.int f_limit, .ref q_cells, .int o]))]) (va_A [(q_this, .inr (4, [.int f_limit, .ref q_cells, .int f_used]))] sz)) 0 0 (va_A [(q_this, .inr (4, [.int f_limit, .ref q_cells, .int f_used]))] sz) := by
  refine Met.ofW (cc := cX4_clear) (maxL := 1) (ret := none) (by decide) rfl ?_
  intro p e s m args below meth c s₁ B hml hv
  obtain ⟨rfl, hsz, hP, hK, hD0, hN⟩ := hv
  have hx := B.exec
  have hb := B.bytes
  have hr := B.returns
  have htA : ∀ w ∈ AW, w.before _ s = true := fun w h => atoms_spec (ws := Cond.code yX4_clear cX4_clear 1 none :: AW) B.pre w (List.mem_cons_of_mem _ h)
  have hown : s.vm.findClass RX4 = some m.cls := findClass_of_methodNamed B.named
  have hlocks := B.notSynchronized
  subst hsz
  have hD := hD0.self (sz := s.heap.size)
  generalize hAe : va_A [(q_this, .inr (4, [.int f_limit, .ref q_cells, .int f_used]))] s.heap.size = A at hD ⊢
  have hA : ∀ q : Nat, s.heap.size ≤ q → A q := fun q h => by rw [← hAe]; exact Or.inr h
  have hS : va_S A s.heap s.heap [] := va_S.rf
  have hl := lv_entry ([.ref q_this]) (n := 1) (Nat.le_of_ble_eq_true rfl)
  rw [lg_entry_eq]
  generalize (lg_sl ([.ref q_this]) ++ List.replicate (1 - (lg_sl ([.ref q_this])).length) Slot.unset).toArray = ls at hl ⊢
  have hl : lv_has ls 1 [(0, .ref q_this)] := hl
  have hP : va_P G vwCl [(q_this, .inr (4, [.int f_limit, .ref q_cells, .int f_used]))] s.heap := hP
  have hf : (some (0) : Option (Int32)) = some o := hf
  refine lv_aload_n hx hb dX4_clear_0 rfl (lv_at hl 0 rfl) ?_
  refine lv_iconst (v := 0) hx hb dX4_clear_1 (by decide) ?_
  refine va_put (D := G) (ci := 4) (v := .int 0) (ty := tyX4 2) (C := RX4) (T := TX4) (N := 3) hx hb htA lyX4 tyX4 tyX4_ok nmX4 hown hK hP hD hS 0 rfl rfl 2 (by decide) (htA _ a_fl_X4_9) (fun _ h9 => h9) rfl (tyX4_ok 2 (by decide)) rfl rfl (Nat.le_of_ble_eq_true rfl) dX4_clear_2 (fun H locs hP hD hS => ?_)
  have hP : va_P G vwCl [(q_this, .inr (4, [.int f_limit, .ref q_cells, .int 0]))] H := hP
  have hD : va_D A [(q_this, .inr (4, [.int f_limit, .ref q_cells, .int 0]))] := hD
  have ho := Option.some.inj hf
  subst ho
  exact W.vret hx hb hr (fun t ht hW => ⟨⟨(), rfl, trivial, by rw [ht]; exact hP, va_K.moved hW.alike hK, hD⟩, hS.F ht⟩) hS.2.2 dX4_clear_5
set_option maxRecDepth 100000 in
set_option maxHeartbeats 4000000 in
theorem kX4_put (l : Launch) (G : va_G) (cy : Nat → ClassId) (q_this : Nat) (q_cells : Nat) (sz : Nat) (n_cells : Nat) (f_limit : Int32) (f_used : Int32) (f_cells : Nat → Int32) (p1 : Int32) (p2 : Int32) (p3 : Int32) {o : Int32 × Int32 × (Nat → Int32)} (hf : fX4_put p1 p2 p3 n_cells f_limit f_used f_cells = some o) : Met l yX4_put (Cond.code yX4_put cX4_put 4 (some .int) :: AW) ({ frames := 0, cells := 0, slots := 0, locals := 0 } : Room) (va_Pc [.ref q_this, .int p1, .int p2, .int p3] (Wp G cy [(q_this, .inr (4, [.int f_limit, .ref q_cells, .int f_used])), (q_cells, .inl (cy 0, n_cells, .inl f_cells))] sz)) (va_Qi (fun r (_ : Unit) => r = o.1) (fun _ => Wq G cy (va_A [(q_this, .inr (4, [.int f_limit, .ref q_cells, .int f_used])), (q_cells, .inl (cy 0, n_cells, .inl f_cells))] sz) [(q_this, .inr (4, [.int f_limit, .ref q_cells, .int o.2.1])), (q_cells, .inl (cy 0, n_cells, .inl o.2.2))]) (va_A [(q_this, .inr (4, [.int f_limit, .ref q_cells, .int f_used])), (q_cells, .inl (cy 0, n_cells, .inl f_cells))] sz)) 0 0 (va_A [(q_this, .inr (4, [.int f_limit, .ref q_cells, .int f_used])), (q_cells, .inl (cy 0, n_cells, .inl f_cells))] sz) := by
  refine Met.ofW (cc := cX4_put) (maxL := 4) (ret := (some .int)) (by decide) rfl ?_
  intro p e s m args below meth c s₁ B hml hv
  obtain ⟨rfl, hsz, hP, hK, hD0, hN⟩ := hv
  have hx := B.exec
  have hb := B.bytes
  have hr := B.returns
  have htA : ∀ w ∈ AW, w.before _ s = true := fun w h => atoms_spec (ws := Cond.code yX4_put cX4_put 4 (some .int) :: AW) B.pre w (List.mem_cons_of_mem _ h)
  have hown : s.vm.findClass RX4 = some m.cls := findClass_of_methodNamed B.named
  have hlocks := B.notSynchronized
  subst hsz
  have hD := hD0.self (sz := s.heap.size)
  generalize hAe : va_A [(q_this, .inr (4, [.int f_limit, .ref q_cells, .int f_used])), (q_cells, .inl (cy 0, n_cells, .inl f_cells))] s.heap.size = A at hD ⊢
  have hA : ∀ q : Nat, s.heap.size ≤ q → A q := fun q h => by rw [← hAe]; exact Or.inr h
  have hS : va_S A s.heap s.heap [] := va_S.rf
  have hl := lv_entry ([.ref q_this, .int p1, .int p2, .int p3]) (n := 4) (Nat.le_of_ble_eq_true rfl)
  rw [lg_entry_eq]
  generalize (lg_sl ([.ref q_this, .int p1, .int p2, .int p3]) ++ List.replicate (4 - (lg_sl ([.ref q_this, .int p1, .int p2, .int p3])).length) Slot.unset).toArray = ls at hl ⊢
  have hl : lv_has ls 4 [(0, .ref q_this), (1, .int p1), (2, .int p2), (3, .int p3)] := hl
  have hP : va_P G vwCl [(q_this, .inr (4, [.int f_limit, .ref q_cells, .int f_used])), (q_cells, .inl (cy 0, n_cells, .inl f_cells))] s.heap := hP
  have hf : ((if f_used < f_limit then ck (3 * f_used) n_cells (ck ((3 * f_used) + 1) n_cells (ck ((3 * f_used) + 2) n_cells (some ((f_used + 1), (f_used + 1), (upd (upd (upd f_cells (Int32.toNatClampNeg (3 * f_used)) p1) (Int32.toNatClampNeg ((3 * f_used) + 1)) p2) (Int32.toNatClampNeg ((3 * f_used) + 2)) p3))))) else some ((-4), f_used, f_cells)) : Option (Int32 × Int32 × (Nat → Int32))) = some o := hf
  refine lv_aload_n hx hb dX4_put_0 rfl (lv_at hl 0 rfl) ?_
  refine va_get (D := G) (ci := 4) (v := .int f_used) (C := RX4) (T := TX4) (N := 3) hx hb htA lyX4 hown hK hP 0 rfl rfl 2 (by decide) (htA _ a_fl_X4_9) (fun _ h9 => h9) rfl dX4_put_1 ?_
  refine lv_aload_n hx hb dX4_put_4 rfl (lv_at hl 0 rfl) ?_
  refine va_get (D := G) (ci := 4) (v := .int f_limit) (C := RX4) (T := TX4) (N := 3) hx hb htA lyX4 hown hK hP 0 rfl rfl 0 (by decide) (htA _ a_fl_X4_21) (fun _ h9 => h9) rfl dX4_put_5 ?_
  refine lv_icmp_lt (tgt := 14) hx hb dX4_put_8 (by decide) (fun c_17 => ?_) (fun c_17 => ?_)
  · have hf := ite_t c_17 hf
    refine lv_aload_n hx hb dX4_put_14 rfl (lv_at hl 0 rfl) ?_
    refine va_get (D := G) (ci := 4) (v := .ref q_cells) (C := RX4) (T := TX4) (N := 3) hx hb htA lyX4 hown hK hP 0 rfl rfl 1 (by decide) (htA _ a_fl_X4_24) (fun _ h9 => h9) rfl dX4_put_15 ?_
    refine lv_iconst (v := 3) hx hb dX4_put_18 (by decide) ?_
    refine lv_aload_n hx hb dX4_put_19 rfl (lv_at hl 0 rfl) ?_
    refine va_get (D := G) (ci := 4) (v := .int f_used) (C := RX4) (T := TX4) (N := 3) hx hb htA lyX4 hown hK hP 0 rfl rfl 2 (by decide) (htA _ a_fl_X4_9) (fun _ h9 => h9) rfl dX4_put_20 ?_
    refine lv_imul hx hb dX4_put_23 ?_
    refine lv_iload_n hx hb dX4_put_24 rfl (lv_at hl 1 rfl) ?_
    obtain ⟨i_18, hf⟩ := ck_s hf
    refine va_iast (D := G) hx hb hK hP hD hS 1 0 rfl rfl i_18 dX4_put_25 (fun H locs hP hD hS => ?_)
    have hP : va_P G vwCl [(q_this, .inr (4, [.int f_limit, .ref q_cells, .int f_used])), (q_cells, .inl (cy 0, n_cells, .inl (upd f_cells (Int32.toNatClampNeg (3 * f_used)) p1)))] H := hP
    have hD : va_D A [(q_this, .inr (4, [.int f_limit, .ref q_cells, .int f_used])), (q_cells, .inl (cy 0, n_cells, .inl (upd f_cells (Int32.toNatClampNeg (3 * f_used)) p1)))] := hD
    refine lv_aload_n hx hb dX4_put_26 rfl (lv_at hl 0 rfl) ?_
    refine va_get (D := G) (ci := 4) (v := .ref q_cells) (C := RX4) (T := TX4) (N := 3) hx hb htA lyX4 hown hK hP 0 rfl rfl 1 (by decide) (htA _ a_fl_X4_24) (fun _ h9 => h9) rfl dX4_put_27 ?_
    refine lv_iconst (v := 3) hx hb dX4_put_30 (by decide) ?_
    refine lv_aload_n hx hb dX4_put_31 rfl (lv_at hl 0 rfl) ?_
    refine va_get (D := G) (ci := 4) (v := .int f_used) (C := RX4) (T := TX4) (N := 3) hx hb htA lyX4 hown hK hP 0 rfl rfl 2 (by decide) (htA _ a_fl_X4_9) (fun _ h9 => h9) rfl dX4_put_32 ?_
    refine lv_imul hx hb dX4_put_35 ?_
    refine lv_iconst (v := 1) hx hb dX4_put_36 (by decide) ?_
    refine lv_iadd hx hb dX4_put_37 ?_
    refine lv_iload_n hx hb dX4_put_38 rfl (lv_at hl 2 rfl) ?_
    obtain ⟨i_19, hf⟩ := ck_s hf
    refine va_iast (D := G) hx hb hK hP hD hS 1 0 rfl rfl i_19 dX4_put_39 (fun H locs hP hD hS => ?_)
    have hP : va_P G vwCl [(q_this, .inr (4, [.int f_limit, .ref q_cells, .int f_used])), (q_cells, .inl (cy 0, n_cells, .inl (upd (upd f_cells (Int32.toNatClampNeg (3 * f_used)) p1) (Int32.toNatClampNeg ((3 * f_used) + 1)) p2)))] H := hP
    have hD : va_D A [(q_this, .inr (4, [.int f_limit, .ref q_cells, .int f_used])), (q_cells, .inl (cy 0, n_cells, .inl (upd (upd f_cells (Int32.toNatClampNeg (3 * f_used)) p1) (Int32.toNatClampNeg ((3 * f_used) + 1)) p2)))] := hD
    refine lv_aload_n hx hb dX4_put_40 rfl (lv_at hl 0 rfl) ?_
    refine va_get (D := G) (ci := 4) (v := .ref q_cells) (C := RX4) (T := TX4) (N := 3) hx hb htA lyX4 hown hK hP 0 rfl rfl 1 (by decide) (htA _ a_fl_X4_24) (fun _ h9 => h9) rfl dX4_put_41 ?_
    refine lv_iconst (v := 3) hx hb dX4_put_44 (by decide) ?_
    refine lv_aload_n hx hb dX4_put_45 rfl (lv_at hl 0 rfl) ?_
    refine va_get (D := G) (ci := 4) (v := .int f_used) (C := RX4) (T := TX4) (N := 3) hx hb htA lyX4 hown hK hP 0 rfl rfl 2 (by decide) (htA _ a_fl_X4_9) (fun _ h9 => h9) rfl dX4_put_46 ?_
    refine lv_imul hx hb dX4_put_49 ?_
    refine lv_iconst (v := 2) hx hb dX4_put_50 (by decide) ?_
    refine lv_iadd hx hb dX4_put_51 ?_
    refine lv_iload_n hx hb dX4_put_52 rfl (lv_at hl 3 rfl) ?_
    obtain ⟨i_20, hf⟩ := ck_s hf
    refine va_iast (D := G) hx hb hK hP hD hS 1 0 rfl rfl i_20 dX4_put_53 (fun H locs hP hD hS => ?_)
    have hP : va_P G vwCl [(q_this, .inr (4, [.int f_limit, .ref q_cells, .int f_used])), (q_cells, .inl (cy 0, n_cells, .inl (upd (upd (upd f_cells (Int32.toNatClampNeg (3 * f_used)) p1) (Int32.toNatClampNeg ((3 * f_used) + 1)) p2) (Int32.toNatClampNeg ((3 * f_used) + 2)) p3)))] H := hP
    have hD : va_D A [(q_this, .inr (4, [.int f_limit, .ref q_cells, .int f_used])), (q_cells, .inl (cy 0, n_cells, .inl (upd (upd (upd f_cells (Int32.toNatClampNeg (3 * f_used)) p1) (Int32.toNatClampNeg ((3 * f_used) + 1)) p2) (Int32.toNatClampNeg ((3 * f_used) + 2)) p3)))] := hD
    refine lv_aload_n hx hb dX4_put_54 rfl (lv_at hl 0 rfl) ?_
    refine lv_dup hx hb dX4_put_55 rfl ?_
    refine va_get (D := G) (ci := 4) (v := .int f_used) (C := RX4) (T := TX4) (N := 3) hx hb htA lyX4 hown hK hP 0 rfl rfl 2 (by decide) (htA _ a_fl_X4_9) (fun _ h9 => h9) rfl dX4_put_56 ?_
    refine lv_iconst (v := 1) hx hb dX4_put_59 (by decide) ?_
    refine lv_iadd hx hb dX4_put_60 ?_
    refine va_put (D := G) (ci := 4) (v := .int (f_used + 1)) (ty := tyX4 2) (C := RX4) (T := TX4) (N := 3) hx hb htA lyX4 tyX4 tyX4_ok nmX4 hown hK hP hD hS 0 rfl rfl 2 (by decide) (htA _ a_fl_X4_9) (fun _ h9 => h9) rfl (tyX4_ok 2 (by decide)) rfl rfl (Nat.le_of_ble_eq_true rfl) dX4_put_61 (fun H locs hP hD hS => ?_)
    have hP : va_P G vwCl [(q_this, .inr (4, [.int f_limit, .ref q_cells, .int (f_used + 1)])), (q_cells, .inl (cy 0, n_cells, .inl (upd (upd (upd f_cells (Int32.toNatClampNeg (3 * f_used)) p1) (Int32.toNatClampNeg ((3 * f_used) + 1)) p2) (Int32.toNatClampNeg ((3 * f_used) + 2)) p3)))] H := hP
    have hD : va_D A [(q_this, .inr (4, [.int f_limit, .ref q_cells, .int (f_used + 1)])), (q_cells, .inl (cy 0, n_cells, .inl (upd (upd (upd f_cells (Int32.toNatClampNeg (3 * f_used)) p1) (Int32.toNatClampNeg ((3 * f_used) + 1)) p2) (Int32.toNatClampNeg ((3 * f_used) + 2)) p3)))] := hD
    refine lv_aload_n hx hb dX4_put_64 rfl (lv_at hl 0 rfl) ?_
    refine va_get (D := G) (ci := 4) (v := .int (f_used + 1)) (C := RX4) (T := TX4) (N := 3) hx hb htA lyX4 hown hK hP 0 rfl rfl 2 (by decide) (htA _ a_fl_X4_9) (fun _ h9 => h9) rfl dX4_put_65 ?_
    have ho := Option.some.inj hf
    subst ho
    exact W.iret (v := (f_used + 1)) hx hb hr (fun t ht hW => ⟨⟨_, (), rfl, rfl, by rw [ht]; exact hP, va_K.moved hW.alike hK, hD⟩, hS.F ht⟩) hS.2.2 dX4_put_68
  · have hf := ite_f c_17 hf
    refine lv_bipush (v := (-4)) hx hb dX4_put_11 (by decide) ?_
    have ho := Option.some.inj hf
    subst ho
    exact W.iret (v := (-4)) hx hb hr (fun t ht hW => ⟨⟨_, (), rfl, rfl, by rw [ht]; exact hP, va_K.moved hW.alike hK, hD⟩, hS.F ht⟩) hS.2.2 dX4_put_13
set_option maxRecDepth 100000 in
set_option maxHeartbeats 4000000 in
theorem kX4_cell (l : Launch) (G : va_G) (cy : Nat → ClassId) (q_this : Nat) (q_cells : Nat) (sz : Nat) (n_cells : Nat) (f_limit : Int32) (f_used : Int32) (f_cells : Nat → Int32) (p1 : Int32) (p2 : Int32) {o : Int32} (hf : fX4_cell p1 p2 n_cells f_used f_cells = some o) : Met l yX4_cell (Cond.code yX4_cell cX4_cell 3 (some .int) :: AW) ({ frames := 1, cells := 0, slots := 0, locals := 22 } : Room) (va_Pc [.ref q_this, .int p1, .int p2] (Wp G cy [(q_this, .inr (4, [.int f_limit, .ref q_cells, .int f_used])), (q_cells, .inl (cy 0, n_cells, .inl f_cells))] sz)) (va_Qi (fun r (_ : Unit) => r = o) (fun _ => Wq G cy (va_A [(q_this, .inr (4, [.int f_limit, .ref q_cells, .int f_used])), (q_cells, .inl (cy 0, n_cells, .inl f_cells))] sz) [(q_this, .inr (4, [.int f_limit, .ref q_cells, .int f_used])), (q_cells, .inl (cy 0, n_cells, .inl f_cells))]) (va_A [(q_this, .inr (4, [.int f_limit, .ref q_cells, .int f_used])), (q_cells, .inl (cy 0, n_cells, .inl f_cells))] sz)) 0 0 (va_A [(q_this, .inr (4, [.int f_limit, .ref q_cells, .int f_used])), (q_cells, .inl (cy 0, n_cells, .inl f_cells))] sz) := by
  refine Met.ofW (cc := cX4_cell) (maxL := 3) (ret := (some .int)) (by decide) rfl ?_
  intro p e s m args below meth c s₁ B hml hv
  obtain ⟨rfl, hsz, hP, hK, hD0, hN⟩ := hv
  have hx := B.exec
  have hb := B.bytes
  have hr := B.returns
  have htA : ∀ w ∈ AW, w.before _ s = true := fun w h => atoms_spec (ws := Cond.code yX4_cell cX4_cell 3 (some .int) :: AW) B.pre w (List.mem_cons_of_mem _ h)
  have hown : s.vm.findClass RX4 = some m.cls := findClass_of_methodNamed B.named
  have hlocks := B.notSynchronized
  subst hsz
  have hD := hD0.self (sz := s.heap.size)
  generalize hAe : va_A [(q_this, .inr (4, [.int f_limit, .ref q_cells, .int f_used])), (q_cells, .inl (cy 0, n_cells, .inl f_cells))] s.heap.size = A at hD ⊢
  have hA : ∀ q : Nat, s.heap.size ≤ q → A q := fun q h => by rw [← hAe]; exact Or.inr h
  have hS : va_S A s.heap s.heap [] := va_S.rf
  have hl := lv_entry ([.ref q_this, .int p1, .int p2]) (n := 3) (Nat.le_of_ble_eq_true rfl)
  rw [lg_entry_eq]
  generalize (lg_sl ([.ref q_this, .int p1, .int p2]) ++ List.replicate (3 - (lg_sl ([.ref q_this, .int p1, .int p2])).length) Slot.unset).toArray = ls at hl ⊢
  have hl : lv_has ls 3 [(0, .ref q_this), (1, .int p1), (2, .int p2)] := hl
  have hP : va_P G vwCl [(q_this, .inr (4, [.int f_limit, .ref q_cells, .int f_used])), (q_cells, .inl (cy 0, n_cells, .inl f_cells))] s.heap := hP
  have hf : ((fX8_isIn p1 0 (f_used - 1)).bind fun q8 => ((if q8 = 0 then some (0) else (fX8_isIn p2 0 2).bind fun q17 => ((if q17 = 0 then some (0) else ck ((3 * p1) + p2) n_cells (some ((f_cells (Int32.toNatClampNeg ((3 * p1) + p2))))))))) : Option (Int32)) = some o := hf
  refine lv_iload_n hx hb dX4_cell_0 rfl (lv_at hl 1 rfl) ?_
  refine lv_iconst (v := 0) hx hb dX4_cell_1 (by decide) ?_
  refine lv_aload_n hx hb dX4_cell_2 rfl (lv_at hl 0 rfl) ?_
  refine va_get (D := G) (ci := 4) (v := .int f_used) (C := RX4) (T := TX4) (N := 3) hx hb htA lyX4 hown hK hP 0 rfl rfl 2 (by decide) (htA _ a_fl_X4_9) (fun _ h9 => h9) rfl dX4_cell_3 ?_
  refine lv_iconst (v := 1) hx hb dX4_cell_6 (by decide) ?_
  refine lv_isub hx hb dX4_cell_7 ?_
  obtain ⟨q8, h8_21, hf⟩ := bd_s hf
  refine u_calliR (va_runSN (As := [.int p1, .int 0, .int (f_used - 1)]) (rest := []) ⟨hx, hb, hml, hown, htA⟩ (kX8_isIn l G cy s.heap.size p1 0 (f_used - 1) h8_21) (u_cnS htA hN (List.mem_of_getElem? (i := 23) rfl) pk_X8_isIn ⟨Nat.le_of_ble_eq_true rfl, Nat.le_of_ble_eq_true rfl⟩) (u_preS hK hN hP hD [] rfl (by decide)) rfl rfl hl.1 rfl (lv_room (Nat.le_of_ble_eq_true rfl)) dX4_cell_8 ⟨Nat.zero_le _, Nat.zero_le _⟩) hP hD hS hA [] rfl (fun H locs hP hS => ?_)
  refine lv_if_eq (tgt := 23) hx hb dX4_cell_11 (by decide) (fun c_22 => ?_) (fun c_22 => ?_)
  · have hf := ite_t c_22 hf
    refine lv_iconst (v := 0) hx hb dX4_cell_23 (by decide) ?_
    have ho := Option.some.inj hf
    subst ho
    exact W.iret (v := 0) hx hb hr (fun t ht hW => ⟨⟨_, (), rfl, rfl, by rw [ht]; exact hP, va_K.moved hW.alike hK, hD⟩, hS.F ht⟩) hS.2.2 dX4_cell_24
  · have hf := ite_f c_22 hf
    refine lv_iload_n hx hb dX4_cell_14 rfl (lv_at hl 2 rfl) ?_
    refine lv_iconst (v := 0) hx hb dX4_cell_15 (by decide) ?_
    refine lv_iconst (v := 2) hx hb dX4_cell_16 (by decide) ?_
    obtain ⟨q17, h17_23, hf⟩ := bd_s hf
    refine u_calliR (va_runSN (As := [.int p2, .int 0, .int 2]) (rest := []) ⟨hx, hb, hml, hown, htA⟩ (kX8_isIn l G cy H.size p2 0 2 h17_23) (u_cnS htA hN (List.mem_of_getElem? (i := 23) rfl) pk_X8_isIn ⟨Nat.le_of_ble_eq_true rfl, Nat.le_of_ble_eq_true rfl⟩) (u_preS hK hN hP hD [] rfl (by decide)) rfl rfl hl.1 rfl (lv_room (Nat.le_of_ble_eq_true rfl)) dX4_cell_17 ⟨Nat.zero_le _, Nat.zero_le _⟩) hP hD hS hA [] rfl (fun H locs hP hS => ?_)
    refine lv_if_ne (tgt := 25) hx hb dX4_cell_20 (by decide) (fun c_24 => ?_) (fun c_24 => ?_)
    · have hf := ite_f c_24 hf
      refine lv_aload_n hx hb dX4_cell_25 rfl (lv_at hl 0 rfl) ?_
      refine va_get (D := G) (ci := 4) (v := .ref q_cells) (C := RX4) (T := TX4) (N := 3) hx hb htA lyX4 hown hK hP 0 rfl rfl 1 (by decide) (htA _ a_fl_X4_24) (fun _ h9 => h9) rfl dX4_cell_26 ?_
      refine lv_iconst (v := 3) hx hb dX4_cell_29 (by decide) ?_
      refine lv_iload_n hx hb dX4_cell_30 rfl (lv_at hl 1 rfl) ?_
      refine lv_imul hx hb dX4_cell_31 ?_
      refine lv_iload_n hx hb dX4_cell_32 rfl (lv_at hl 2 rfl) ?_
      refine lv_iadd hx hb dX4_cell_33 ?_
      obtain ⟨i_25, hf⟩ := ck_s hf
      refine va_iald (D := G) hx hb hK hP 1 0 rfl rfl i_25 dX4_cell_34 ?_
      have ho := Option.some.inj hf
      subst ho
      exact W.iret (v := (f_cells (Int32.toNatClampNeg ((3 * p1) + p2)))) hx hb hr (fun t ht hW => ⟨⟨_, (), rfl, rfl, by rw [ht]; exact hP, va_K.moved hW.alike hK, hD⟩, hS.F ht⟩) hS.2.2 dX4_cell_35
    · have hf := ite_t c_24 hf
      refine lv_iconst (v := 0) hx hb dX4_cell_23 (by decide) ?_
      have ho := Option.some.inj hf
      subst ho
      exact W.iret (v := 0) hx hb hr (fun t ht hW => ⟨⟨_, (), rfl, rfl, by rw [ht]; exact hP, va_K.moved hW.alike hK, hD⟩, hS.F ht⟩) hS.2.2 dX4_cell_24
set_option maxRecDepth 100000 in
set_option maxHeartbeats 4000000 in
theorem wX4_copyFrom_7 {p : Program} {l : Launch} {e : Env} {s : State} {m : MethodId} {args : Array Value} {below : List Frame} {meth : Method} {c : Code} {G : va_G} {cy : Nat → ClassId} {A : Nat → Prop} {q_this : Nat} {q_cells : Nat} {q_o : Nat} {q_o_cells : Nat} {n_cells : Nat} {n_o_cells : Nat} {f_limit : Int32} {f_o_limit : Int32} {f_o_used : Int32} {f_o_cells : Nat → Int32} {n : Nat} {o : Int32 × (Nat → Int32)} (C : Cx p s m args meth c cX4_copyFrom 3 none RX4 G cy A) : ∀ k7 : Nat, ∀ (v2 : Int32) (f_used : Int32) (f_cells : Nat → Int32) (H : Heap) (locs : List Loc) (ls : Array Slot), va_P G vwCl [(q_this, .inr (4, [.int f_limit, .ref q_cells, .int f_used])), (q_cells, .inl (cy 0, n_cells, .inl f_cells)), (q_o, .inr (4, [.int f_o_limit, .ref q_o_cells, .int f_o_used])), (q_o_cells, .inl (cy 0, n_o_cells, .inl f_o_cells))] H → va_D A [(q_this, .inr (4, [.int f_limit, .ref q_cells, .int f_used])), (q_cells, .inl (cy 0, n_cells, .inl f_cells)), (q_o, .inr (4, [.int f_o_limit, .ref q_o_cells, .int f_o_used])), (q_o_cells, .inl (cy 0, n_o_cells, .inl f_o_cells))] → va_S A s.heap H locs → lv_has ls 3 [(0, .ref q_this), (1, .ref q_o), (2, .int v2)] → lX4_copyFrom_7 n n_cells n_o_cells f_limit f_o_used f_o_cells k7 v2 f_used f_cells = some o → W p l e (headSpec (Cond.code yX4_copyFrom cX4_copyFrom 3 none :: AW) ({ frames := 2, cells := 0, slots := 0, locals := 44 } : Room)).room s m args below meth c H locs 0 0 (MQ below (va_Qv (fun (_ : Unit) => True) (fun _ => Wq G cy A [(q_this, .inr (4, [.int f_limit, .ref q_cells, .int o.1])), (q_cells, .inl (cy 0, n_cells, .inl o.2)), (q_o, .inr (4, [.int f_o_limit, .ref q_o_cells, .int f_o_used])), (q_o_cells, .inl (cy 0, n_o_cells, .inl f_o_cells))]) A) args s 0 0 A) (F0 m 7 ls []) := by
  have C0 := C
  obtain ⟨hx, hb, hr, hml, htA, hown, hK, hN, hA, hlocks⟩ := C
  intro k7
  induction k7 with
  | zero =>
    intro v2 f_used f_cells H locs ls hP hD hS hl hf
    exact no_s hf
  | succ k7 ih7 =>
    intro v2 f_used f_cells H locs ls hP hD hS hl hf
    have hf : ((fX4_size f_o_used).bind fun q9 => ((if q9 ≤ v2 then some (f_used, f_cells) else (fX4_cell v2 0 n_o_cells f_o_used f_o_cells).bind fun q19 => ((fX4_cell v2 1 n_o_cells f_o_used f_o_cells).bind fun q25 => ((fX4_cell v2 2 n_o_cells f_o_used f_o_cells).bind fun q31 => ((fX4_put q19 q25 q31 n_cells f_limit f_used f_cells).bind fun q34 => (lX4_copyFrom_7 n n_cells n_o_cells f_limit f_o_used f_o_cells k7 (v2 + 1) q34.2.1 q34.2.2)))))) : Option (Int32 × (Nat → Int32))) = some o := hf
    refine lv_iload_n hx hb dX4_copyFrom_7 rfl (lv_at hl 2 rfl) ?_
    refine lv_aload_n hx hb dX4_copyFrom_8 rfl (lv_at hl 1 rfl) ?_
    obtain ⟨q9, h9_25, hf⟩ := bd_s hf
    refine u_calliR (va_runV (As := []) (rest := [.int v2]) ⟨hx, hb, hml, hown, htA⟩ (kX4_size l G cy q_o q_o_cells H.size f_o_limit f_o_used h9_25) (u_cwV htA a_ml_X4_32 pk_X4_size ⟨Nat.le_of_ble_eq_true rfl, Nat.le_of_ble_eq_true rfl⟩) (u_preV hK hN hP hD [2] rfl (by decide) 2 rfl rfl) rfl rfl hl.1 rfl (lv_room (Nat.le_of_ble_eq_true rfl)) dX4_copyFrom_9 ⟨Nat.zero_le _, Nat.zero_le _⟩) hP hD hS hA [2] rfl (fun H locs hP hS => ?_)
    refine lv_icmp_ge (tgt := 44) hx hb dX4_copyFrom_12 (by decide) (fun c_26 => ?_) (fun c_26 => ?_)
    · have hf := ite_t c_26 hf
      have ho := Option.some.inj hf
      subst ho
      exact W.vret hx hb hr (fun t ht hW => ⟨⟨(), rfl, trivial, by rw [ht]; exact hP, va_K.moved hW.alike hK, hD⟩, hS.F ht⟩) hS.2.2 dX4_copyFrom_44
    · have hf := ite_f c_26 hf
      refine lv_aload_n hx hb dX4_copyFrom_15 rfl (lv_at hl 0 rfl) ?_
      refine lv_aload_n hx hb dX4_copyFrom_16 rfl (lv_at hl 1 rfl) ?_
      refine lv_iload_n hx hb dX4_copyFrom_17 rfl (lv_at hl 2 rfl) ?_
      refine lv_iconst (v := 0) hx hb dX4_copyFrom_18 (by decide) ?_
      obtain ⟨q19, h19_27, hf⟩ := bd_s hf
      refine u_calliR (va_runV (As := [.int v2, .int 0]) (rest := [.ref q_this]) ⟨hx, hb, hml, hown, htA⟩ (kX4_cell l G cy q_o q_o_cells H.size n_o_cells f_o_limit f_o_used f_o_cells v2 0 h19_27) (u_cwV htA a_ml_X4_36 pk_X4_cell ⟨Nat.le_of_ble_eq_true rfl, Nat.le_of_ble_eq_true rfl⟩) (u_preV hK hN hP hD [2, 3] rfl (by decide) 2 rfl rfl) rfl rfl hl.1 rfl (lv_room (Nat.le_of_ble_eq_true rfl)) dX4_copyFrom_19 ⟨Nat.zero_le _, Nat.zero_le _⟩) hP hD hS hA [2, 3] rfl (fun H locs hP hS => ?_)
      refine lv_aload_n hx hb dX4_copyFrom_22 rfl (lv_at hl 1 rfl) ?_
      refine lv_iload_n hx hb dX4_copyFrom_23 rfl (lv_at hl 2 rfl) ?_
      refine lv_iconst (v := 1) hx hb dX4_copyFrom_24 (by decide) ?_
      obtain ⟨q25, h25_28, hf⟩ := bd_s hf
      refine u_calliR (va_runV (As := [.int v2, .int 1]) (rest := [.int q19, .ref q_this]) ⟨hx, hb, hml, hown, htA⟩ (kX4_cell l G cy q_o q_o_cells H.size n_o_cells f_o_limit f_o_used f_o_cells v2 1 h25_28) (u_cwV htA a_ml_X4_36 pk_X4_cell ⟨Nat.le_of_ble_eq_true rfl, Nat.le_of_ble_eq_true rfl⟩) (u_preV hK hN hP hD [2, 3] rfl (by decide) 2 rfl rfl) rfl rfl hl.1 rfl (lv_room (Nat.le_of_ble_eq_true rfl)) dX4_copyFrom_25 ⟨Nat.zero_le _, Nat.zero_le _⟩) hP hD hS hA [2, 3] rfl (fun H locs hP hS => ?_)
      refine lv_aload_n hx hb dX4_copyFrom_28 rfl (lv_at hl 1 rfl) ?_
      refine lv_iload_n hx hb dX4_copyFrom_29 rfl (lv_at hl 2 rfl) ?_
      refine lv_iconst (v := 2) hx hb dX4_copyFrom_30 (by decide) ?_
      obtain ⟨q31, h31_29, hf⟩ := bd_s hf
      refine u_calliR (va_runV (As := [.int v2, .int 2]) (rest := [.int q25, .int q19, .ref q_this]) ⟨hx, hb, hml, hown, htA⟩ (kX4_cell l G cy q_o q_o_cells H.size n_o_cells f_o_limit f_o_used f_o_cells v2 2 h31_29) (u_cwV htA a_ml_X4_36 pk_X4_cell ⟨Nat.le_of_ble_eq_true rfl, Nat.le_of_ble_eq_true rfl⟩) (u_preV hK hN hP hD [2, 3] rfl (by decide) 2 rfl rfl) rfl rfl hl.1 rfl (lv_room (Nat.le_of_ble_eq_true rfl)) dX4_copyFrom_31 ⟨Nat.zero_le _, Nat.zero_le _⟩) hP hD hS hA [2, 3] rfl (fun H locs hP hS => ?_)
      obtain ⟨q34, h34_30, hf⟩ := bd_s hf
      refine u_calli [(q_this, .inr (4, [.int f_limit, .ref q_cells, .int q34.2.1])), (q_cells, .inl (cy 0, n_cells, .inl q34.2.2)), (q_o, .inr (4, [.int f_o_limit, .ref q_o_cells, .int f_o_used])), (q_o_cells, .inl (cy 0, n_o_cells, .inl f_o_cells))] (va_runV (As := [.int q19, .int q25, .int q31]) (rest := []) ⟨hx, hb, hml, hown, htA⟩ (kX4_put l G cy q_this q_cells H.size n_cells f_limit f_used f_cells q19 q25 q31 h34_30) (u_cwV htA a_ml_X4_39 pk_X4_put ⟨Nat.le_of_ble_eq_true rfl, Nat.le_of_ble_eq_true rfl⟩) (u_preV hK hN hP hD [0, 1] rfl (by decide) 0 rfl rfl) rfl rfl hl.1 rfl (lv_room (Nat.le_of_ble_eq_true rfl)) dX4_copyFrom_34 ⟨Nat.zero_le _, Nat.zero_le _⟩) hP hD hS hA [0, 1] rfl [2, 3] 4 rfl rfl rfl (by decide) rfl (fun H locs hP hD hS => ?_)
      refine lv_pop hx hb dX4_copyFrom_37 rfl ?_
      refine lv_iinc (v := (v2 + 1)) (lv' := [(2, .int (v2 + 1)), (0, .ref q_this), (1, .ref q_o)]) hx hb dX4_copyFrom_38 hl (k := 2) rfl rfl (by decide) rfl (fun ls hl => ?_)
      refine lv_goto (tgt := 7) hx hb dX4_copyFrom_41 (by decide) ?_
      exact ih7 _ _ _ _ _ _ hP hD hS (lv_sub hl [1, 2, 0] rfl) hf
set_option maxRecDepth 100000 in
set_option maxHeartbeats 4000000 in
theorem kX4_copyFrom (l : Launch) (G : va_G) (cy : Nat → ClassId) (q_this : Nat) (q_cells : Nat) (q_o : Nat) (q_o_cells : Nat) (sz : Nat) (n_cells : Nat) (n_o_cells : Nat) (f_limit : Int32) (f_used : Int32) (f_cells : Nat → Int32) (f_o_limit : Int32) (f_o_used : Int32) (f_o_cells : Nat → Int32) (n : Nat) {o : Int32 × (Nat → Int32)} (hf : fX4_copyFrom n n_cells n_o_cells f_limit f_used f_cells f_o_used f_o_cells = some o) : Met l yX4_copyFrom (Cond.code yX4_copyFrom cX4_copyFrom 3 none :: AW) ({ frames := 2, cells := 0, slots := 0, locals := 44 } : Room) (va_Pc [.ref q_this, .ref q_o] (Wp G cy [(q_this, .inr (4, [.int f_limit, .ref q_cells, .int f_used])), (q_cells, .inl (cy 0, n_cells, .inl f_cells)), (q_o, .inr (4, [.int f_o_limit, .ref q_o_cells, .int f_o_used])), (q_o_cells, .inl (cy 0, n_o_cells, .inl f_o_cells))] sz)) (va_Qv (fun (_ : Unit) => True) (fun _ => Wq G cy (va_A [(q_this, .inr (4, [.int f_limit, .ref q_cells, .int f_used])), (q_cells, .inl (cy 0, n_cells, .inl f_cells)), (q_o, .inr (4, [.int f_o_limit, .ref q_o_cells, .int f_o_used])), (q_o_cells, .inl (cy 0, n_o_cells, .inl f_o_cells))] sz) [(q_this, .inr (4, [.int f_limit, .ref q_cells, .int o.1])), (q_cells, .inl (cy 0, n_cells, .inl o.2)), (q_o, .inr (4, [.int f_o_limit, .ref q_o_cells, .int f_o_used])), (q_o_cells, .inl (cy 0, n_o_cells, .inl f_o_cells))]) (va_A [(q_this, .inr (4, [.int f_limit, .ref q_cells, .int f_used])), (q_cells, .inl (cy 0, n_cells, .inl f_cells)), (q_o, .inr (4, [.int f_o_limit, .ref q_o_cells, .int f_o_used])), (q_o_cells, .inl (cy 0, n_o_cells, .inl f_o_cells))] sz)) 0 0 (va_A [(q_this, .inr (4, [.int f_limit, .ref q_cells, .int f_used])), (q_cells, .inl (cy 0, n_cells, .inl f_cells)), (q_o, .inr (4, [.int f_o_limit, .ref q_o_cells, .int f_o_used])), (q_o_cells, .inl (cy 0, n_o_cells, .inl f_o_cells))] sz) := by
  refine Met.ofW (cc := cX4_copyFrom) (maxL := 3) (ret := none) (by decide) rfl ?_
  intro p e s m args below meth c s₁ B hml hv
  obtain ⟨rfl, hsz, hP, hK, hD0, hN⟩ := hv
  have hx := B.exec
  have hb := B.bytes
  have hr := B.returns
  have htA : ∀ w ∈ AW, w.before _ s = true := fun w h => atoms_spec (ws := Cond.code yX4_copyFrom cX4_copyFrom 3 none :: AW) B.pre w (List.mem_cons_of_mem _ h)
  have hown : s.vm.findClass RX4 = some m.cls := findClass_of_methodNamed B.named
  have hlocks := B.notSynchronized
  subst hsz
  have hD := hD0.self (sz := s.heap.size)
  generalize hAe : va_A [(q_this, .inr (4, [.int f_limit, .ref q_cells, .int f_used])), (q_cells, .inl (cy 0, n_cells, .inl f_cells)), (q_o, .inr (4, [.int f_o_limit, .ref q_o_cells, .int f_o_used])), (q_o_cells, .inl (cy 0, n_o_cells, .inl f_o_cells))] s.heap.size = A at hD ⊢
  have hA : ∀ q : Nat, s.heap.size ≤ q → A q := fun q h => by rw [← hAe]; exact Or.inr h
  have hS : va_S A s.heap s.heap [] := va_S.rf
  have hl := lv_entry ([.ref q_this, .ref q_o]) (n := 3) (Nat.le_of_ble_eq_true rfl)
  rw [lg_entry_eq]
  generalize (lg_sl ([.ref q_this, .ref q_o]) ++ List.replicate (3 - (lg_sl ([.ref q_this, .ref q_o])).length) Slot.unset).toArray = ls at hl ⊢
  have hl : lv_has ls 3 [(0, .ref q_this), (1, .ref q_o)] := hl
  have hP : va_P G vwCl [(q_this, .inr (4, [.int f_limit, .ref q_cells, .int f_used])), (q_cells, .inl (cy 0, n_cells, .inl f_cells)), (q_o, .inr (4, [.int f_o_limit, .ref q_o_cells, .int f_o_used])), (q_o_cells, .inl (cy 0, n_o_cells, .inl f_o_cells))] s.heap := hP
  have C0 : Cx p s m _ meth c cX4_copyFrom 3 none RX4 G cy A := ⟨hx, hb, hr, hml, htA, hown, hK, hN, hA, hlocks⟩
  have hf : (lX4_copyFrom_7 n n_cells n_o_cells f_limit f_o_used f_o_cells n 0 0 f_cells : Option (Int32 × (Nat → Int32))) = some o := hf
  refine lv_aload_n hx hb dX4_copyFrom_0 rfl (lv_at hl 0 rfl) ?_
  refine lv_iconst (v := 0) hx hb dX4_copyFrom_1 (by decide) ?_
  refine va_put (D := G) (ci := 4) (v := .int 0) (ty := tyX4 2) (C := RX4) (T := TX4) (N := 3) hx hb htA lyX4 tyX4 tyX4_ok nmX4 hown hK hP hD hS 0 rfl rfl 2 (by decide) (htA _ a_fl_X4_9) (fun _ h9 => h9) rfl (tyX4_ok 2 (by decide)) rfl rfl (Nat.le_of_ble_eq_true rfl) dX4_copyFrom_2 (fun H locs hP hD hS => ?_)
  have hP : va_P G vwCl [(q_this, .inr (4, [.int f_limit, .ref q_cells, .int 0])), (q_cells, .inl (cy 0, n_cells, .inl f_cells)), (q_o, .inr (4, [.int f_o_limit, .ref q_o_cells, .int f_o_used])), (q_o_cells, .inl (cy 0, n_o_cells, .inl f_o_cells))] H := hP
  have hD : va_D A [(q_this, .inr (4, [.int f_limit, .ref q_cells, .int 0])), (q_cells, .inl (cy 0, n_cells, .inl f_cells)), (q_o, .inr (4, [.int f_o_limit, .ref q_o_cells, .int f_o_used])), (q_o_cells, .inl (cy 0, n_o_cells, .inl f_o_cells))] := hD
  refine lv_iconst (v := 0) hx hb dX4_copyFrom_5 (by decide) ?_
  refine lv_istore_n (lv' := [(2, .int 0), (0, .ref q_this), (1, .ref q_o)]) hx hb dX4_copyFrom_6 rfl hl (by decide) rfl (fun ls hl => ?_)
  exact wX4_copyFrom_7 C0 n _ _ _ _ _ _ hP hD hS (lv_sub hl [1, 2, 0] rfl) hf
set_option maxRecDepth 100000 in
set_option maxHeartbeats 4000000 in
theorem kX5_append (l : Launch) (G : va_G) (cy : Nat → ClassId) (q_this : Nat) (q_text : Nat) (q_kinds : Nat) (q_firsts : Nat) (q_seconds : Nat) (sz : Nat) (f_length : Int32) (f_clauses : Int32) (f_spot : Int32) (f_value : Int32) (f_text : Nat → Int32) (p1 : Int32) {o : Int32 × Int32 × (Nat → Int32)} (hf : fX5_append p1 f_length f_text = some o) : Met l yX5_append (Cond.code yX5_append cX5_append 2 (some .int) :: AW) ({ frames := 0, cells := 0, slots := 0, locals := 0 } : Room) (va_Pc [.ref q_this, .int p1] (Wp G cy [(q_this, .inr (5, [.ref q_text, .int f_length, .ref q_kinds, .ref q_firsts, .ref q_seconds, .int f_clauses, .int f_spot, .int f_value])), (q_text, .inl (cy 0, 100, .inl f_text))] sz)) (va_Qi (fun r (_ : Unit) => r = o.1) (fun _ => Wq G cy (va_A [(q_this, .inr (5, [.ref q_text, .int f_length, .ref q_kinds, .ref q_firsts, .ref q_seconds, .int f_clauses, .int f_spot, .int f_value])), (q_text, .inl (cy 0, 100, .inl f_text))] sz) [(q_this, .inr (5, [.ref q_text, .int o.2.1, .ref q_kinds, .ref q_firsts, .ref q_seconds, .int f_clauses, .int f_spot, .int f_value])), (q_text, .inl (cy 0, 100, .inl o.2.2))]) (va_A [(q_this, .inr (5, [.ref q_text, .int f_length, .ref q_kinds, .ref q_firsts, .ref q_seconds, .int f_clauses, .int f_spot, .int f_value])), (q_text, .inl (cy 0, 100, .inl f_text))] sz)) 0 0 (va_A [(q_this, .inr (5, [.ref q_text, .int f_length, .ref q_kinds, .ref q_firsts, .ref q_seconds, .int f_clauses, .int f_spot, .int f_value])), (q_text, .inl (cy 0, 100, .inl f_text))] sz) := by
  refine Met.ofW (cc := cX5_append) (maxL := 2) (ret := (some .int)) (by decide) rfl ?_
  intro p e s m args below meth c s₁ B hml hv
  obtain ⟨rfl, hsz, hP, hK, hD0, hN⟩ := hv
  have hx := B.exec
  have hb := B.bytes
  have hr := B.returns
  have htA : ∀ w ∈ AW, w.before _ s = true := fun w h => atoms_spec (ws := Cond.code yX5_append cX5_append 2 (some .int) :: AW) B.pre w (List.mem_cons_of_mem _ h)
  have hown : s.vm.findClass RX5 = some m.cls := findClass_of_methodNamed B.named
  have hlocks := B.notSynchronized
  subst hsz
  have hD := hD0.self (sz := s.heap.size)
  generalize hAe : va_A [(q_this, .inr (5, [.ref q_text, .int f_length, .ref q_kinds, .ref q_firsts, .ref q_seconds, .int f_clauses, .int f_spot, .int f_value])), (q_text, .inl (cy 0, 100, .inl f_text))] s.heap.size = A at hD ⊢
  have hA : ∀ q : Nat, s.heap.size ≤ q → A q := fun q h => by rw [← hAe]; exact Or.inr h
  have hS : va_S A s.heap s.heap [] := va_S.rf
  have hl := lv_entry ([.ref q_this, .int p1]) (n := 2) (Nat.le_of_ble_eq_true rfl)
  rw [lg_entry_eq]
  generalize (lg_sl ([.ref q_this, .int p1]) ++ List.replicate (2 - (lg_sl ([.ref q_this, .int p1])).length) Slot.unset).toArray = ls at hl ⊢
  have hl : lv_has ls 2 [(0, .ref q_this), (1, .int p1)] := hl
  have hP : va_P G vwCl [(q_this, .inr (5, [.ref q_text, .int f_length, .ref q_kinds, .ref q_firsts, .ref q_seconds, .int f_clauses, .int f_spot, .int f_value])), (q_text, .inl (cy 0, 100, .inl f_text))] s.heap := hP
  have hf : ((if f_length < 100 then ck f_length 100 (some ((f_length + 1), (f_length + 1), (upd f_text (Int32.toNatClampNeg f_length) p1))) else some ((-4), f_length, f_text)) : Option (Int32 × Int32 × (Nat → Int32))) = some o := hf
  refine lv_aload_n hx hb dX5_append_0 rfl (lv_at hl 0 rfl) ?_
  refine va_get (D := G) (ci := 5) (v := .int f_length) (C := RX5) (T := TX5) (N := 8) hx hb htA lyX5 hown hK hP 0 rfl rfl 1 (by decide) (htA _ a_fl_X5_15) (fun _ h9 => h9) rfl dX5_append_1 ?_
  refine lv_bipush (v := 100) hx hb dX5_append_4 (by decide) ?_
  refine lv_icmp_lt (tgt := 12) hx hb dX5_append_6 (by decide) (fun c_9 => ?_) (fun c_9 => ?_)
  · have hf := ite_t c_9 hf
    refine lv_aload_n hx hb dX5_append_12 rfl (lv_at hl 0 rfl) ?_
    refine va_get (D := G) (ci := 5) (v := .ref q_text) (C := RX5) (T := TX5) (N := 8) hx hb htA lyX5 hown hK hP 0 rfl rfl 0 (by decide) (htA _ a_fl_X5_11) (fun _ h9 => h9) rfl dX5_append_13 ?_
    refine lv_aload_n hx hb dX5_append_16 rfl (lv_at hl 0 rfl) ?_
    refine va_get (D := G) (ci := 5) (v := .int f_length) (C := RX5) (T := TX5) (N := 8) hx hb htA lyX5 hown hK hP 0 rfl rfl 1 (by decide) (htA _ a_fl_X5_15) (fun _ h9 => h9) rfl dX5_append_17 ?_
    refine lv_iload_n hx hb dX5_append_20 rfl (lv_at hl 1 rfl) ?_
    obtain ⟨i_10, hf⟩ := ck_s hf
    refine va_iast (D := G) hx hb hK hP hD hS 1 0 rfl rfl i_10 dX5_append_21 (fun H locs hP hD hS => ?_)
    have hP : va_P G vwCl [(q_this, .inr (5, [.ref q_text, .int f_length, .ref q_kinds, .ref q_firsts, .ref q_seconds, .int f_clauses, .int f_spot, .int f_value])), (q_text, .inl (cy 0, 100, .inl (upd f_text (Int32.toNatClampNeg f_length) p1)))] H := hP
    have hD : va_D A [(q_this, .inr (5, [.ref q_text, .int f_length, .ref q_kinds, .ref q_firsts, .ref q_seconds, .int f_clauses, .int f_spot, .int f_value])), (q_text, .inl (cy 0, 100, .inl (upd f_text (Int32.toNatClampNeg f_length) p1)))] := hD
    refine lv_aload_n hx hb dX5_append_22 rfl (lv_at hl 0 rfl) ?_
    refine lv_dup hx hb dX5_append_23 rfl ?_
    refine va_get (D := G) (ci := 5) (v := .int f_length) (C := RX5) (T := TX5) (N := 8) hx hb htA lyX5 hown hK hP 0 rfl rfl 1 (by decide) (htA _ a_fl_X5_15) (fun _ h9 => h9) rfl dX5_append_24 ?_
    refine lv_iconst (v := 1) hx hb dX5_append_27 (by decide) ?_
    refine lv_iadd hx hb dX5_append_28 ?_
    refine va_put (D := G) (ci := 5) (v := .int (f_length + 1)) (ty := tyX5 1) (C := RX5) (T := TX5) (N := 8) hx hb htA lyX5 tyX5 tyX5_ok nmX5 hown hK hP hD hS 0 rfl rfl 1 (by decide) (htA _ a_fl_X5_15) (fun _ h9 => h9) rfl (tyX5_ok 1 (by decide)) rfl rfl (Nat.le_of_ble_eq_true rfl) dX5_append_29 (fun H locs hP hD hS => ?_)
    have hP : va_P G vwCl [(q_this, .inr (5, [.ref q_text, .int (f_length + 1), .ref q_kinds, .ref q_firsts, .ref q_seconds, .int f_clauses, .int f_spot, .int f_value])), (q_text, .inl (cy 0, 100, .inl (upd f_text (Int32.toNatClampNeg f_length) p1)))] H := hP
    have hD : va_D A [(q_this, .inr (5, [.ref q_text, .int (f_length + 1), .ref q_kinds, .ref q_firsts, .ref q_seconds, .int f_clauses, .int f_spot, .int f_value])), (q_text, .inl (cy 0, 100, .inl (upd f_text (Int32.toNatClampNeg f_length) p1)))] := hD
    refine lv_aload_n hx hb dX5_append_32 rfl (lv_at hl 0 rfl) ?_
    refine va_get (D := G) (ci := 5) (v := .int (f_length + 1)) (C := RX5) (T := TX5) (N := 8) hx hb htA lyX5 hown hK hP 0 rfl rfl 1 (by decide) (htA _ a_fl_X5_15) (fun _ h9 => h9) rfl dX5_append_33 ?_
    have ho := Option.some.inj hf
    subst ho
    exact W.iret (v := (f_length + 1)) hx hb hr (fun t ht hW => ⟨⟨_, (), rfl, rfl, by rw [ht]; exact hP, va_K.moved hW.alike hK, hD⟩, hS.F ht⟩) hS.2.2 dX5_append_36
  · have hf := ite_f c_9 hf
    refine lv_bipush (v := (-4)) hx hb dX5_append_9 (by decide) ?_
    have ho := Option.some.inj hf
    subst ho
    exact W.iret (v := (-4)) hx hb hr (fun t ht hW => ⟨⟨_, (), rfl, rfl, by rw [ht]; exact hP, va_K.moved hW.alike hK, hD⟩, hS.F ht⟩) hS.2.2 dX5_append_11
set_option maxRecDepth 100000 in
set_option maxHeartbeats 4000000 in
theorem kX5_clear (l : Launch) (G : va_G) (cy : Nat → ClassId) (q_this : Nat) (q_text : Nat) (q_kinds : Nat) (q_firsts : Nat) (q_seconds : Nat) (sz : Nat) (f_length : Int32) (f_clauses : Int32) (f_spot : Int32) (f_value : Int32) {o : Int32} (hf : fX5_clear f_length = some o) : Met l yX5_clear (Cond.code yX5_clear cX5_clear 1 none :: AW) ({ frames := 0, cells := 0, slots := 0, locals := 0 } : Room) (va_Pc [.ref q_this] (Wp G cy [(q_this, .inr (5, [.ref q_text, .int f_length, .ref q_kinds, .ref q_firsts, .ref q_seconds, .int f_clauses, .int f_spot, .int f_value]))] sz)) (va_Qv (fun (_ : Unit) => True) (fun _ => Wq G cy (va_A [(q_this, .inr (5, [.ref q_text, .int f_length, .ref q_kinds, .ref q_firsts, .ref q_seconds, .int f_clauses, .int f_spot, .int f_value]))] sz) [(q_this, .inr (5, [.ref q_text, .int o, .ref q_kinds, .ref q_firsts, .ref q_seconds, .int f_clauses, .int f_spot, .int f_value]))]) (va_A [(q_this, .inr (5, [.ref q_text, .int f_length, .ref q_kinds, .ref q_firsts, .ref q_seconds, .int f_clauses, .int f_spot, .int f_value]))] sz)) 0 0 (va_A [(q_this, .inr (5, [.ref q_text, .int f_length, .ref q_kinds, .ref q_firsts, .ref q_seconds, .int f_clauses, .int f_spot, .int f_value]))] sz) := by
  refine Met.ofW (cc := cX5_clear) (maxL := 1) (ret := none) (by decide) rfl ?_
  intro p e s m args below meth c s₁ B hml hv
  obtain ⟨rfl, hsz, hP, hK, hD0, hN⟩ := hv
  have hx := B.exec
  have hb := B.bytes
  have hr := B.returns
  have htA : ∀ w ∈ AW, w.before _ s = true := fun w h => atoms_spec (ws := Cond.code yX5_clear cX5_clear 1 none :: AW) B.pre w (List.mem_cons_of_mem _ h)
  have hown : s.vm.findClass RX5 = some m.cls := findClass_of_methodNamed B.named
  have hlocks := B.notSynchronized
  subst hsz
  have hD := hD0.self (sz := s.heap.size)
  generalize hAe : va_A [(q_this, .inr (5, [.ref q_text, .int f_length, .ref q_kinds, .ref q_firsts, .ref q_seconds, .int f_clauses, .int f_spot, .int f_value]))] s.heap.size = A at hD ⊢
  have hA : ∀ q : Nat, s.heap.size ≤ q → A q := fun q h => by rw [← hAe]; exact Or.inr h
  have hS : va_S A s.heap s.heap [] := va_S.rf
  have hl := lv_entry ([.ref q_this]) (n := 1) (Nat.le_of_ble_eq_true rfl)
  rw [lg_entry_eq]
  generalize (lg_sl ([.ref q_this]) ++ List.replicate (1 - (lg_sl ([.ref q_this])).length) Slot.unset).toArray = ls at hl ⊢
  have hl : lv_has ls 1 [(0, .ref q_this)] := hl
  have hP : va_P G vwCl [(q_this, .inr (5, [.ref q_text, .int f_length, .ref q_kinds, .ref q_firsts, .ref q_seconds, .int f_clauses, .int f_spot, .int f_value]))] s.heap := hP
  have hf : (some (0) : Option (Int32)) = some o := hf
  refine lv_aload_n hx hb dX5_clear_0 rfl (lv_at hl 0 rfl) ?_
  refine lv_iconst (v := 0) hx hb dX5_clear_1 (by decide) ?_
  refine va_put (D := G) (ci := 5) (v := .int 0) (ty := tyX5 1) (C := RX5) (T := TX5) (N := 8) hx hb htA lyX5 tyX5 tyX5_ok nmX5 hown hK hP hD hS 0 rfl rfl 1 (by decide) (htA _ a_fl_X5_15) (fun _ h9 => h9) rfl (tyX5_ok 1 (by decide)) rfl rfl (Nat.le_of_ble_eq_true rfl) dX5_clear_2 (fun H locs hP hD hS => ?_)
  have hP : va_P G vwCl [(q_this, .inr (5, [.ref q_text, .int 0, .ref q_kinds, .ref q_firsts, .ref q_seconds, .int f_clauses, .int f_spot, .int f_value]))] H := hP
  have hD : va_D A [(q_this, .inr (5, [.ref q_text, .int 0, .ref q_kinds, .ref q_firsts, .ref q_seconds, .int f_clauses, .int f_spot, .int f_value]))] := hD
  have ho := Option.some.inj hf
  subst ho
  exact W.vret hx hb hr (fun t ht hW => ⟨⟨(), rfl, trivial, by rw [ht]; exact hP, va_K.moved hW.alike hK, hD⟩, hS.F ht⟩) hS.2.2 dX5_clear_5
set_option maxRecDepth 100000 in
set_option maxHeartbeats 4000000 in
theorem kX5_bytes (l : Launch) (G : va_G) (cy : Nat → ClassId) (q_this : Nat) (q_text : Nat) (q_kinds : Nat) (q_firsts : Nat) (q_seconds : Nat) (sz : Nat) (f_length : Int32) (f_clauses : Int32) (f_spot : Int32) (f_value : Int32) {o : Int32} (hf : fX5_bytes f_length = some o) : Met l yX5_bytes (Cond.code yX5_bytes cX5_bytes 1 (some .int) :: AW) ({ frames := 0, cells := 0, slots := 0, locals := 0 } : Room) (va_Pc [.ref q_this] (Wp G cy [(q_this, .inr (5, [.ref q_text, .int f_length, .ref q_kinds, .ref q_firsts, .ref q_seconds, .int f_clauses, .int f_spot, .int f_value]))] sz)) (va_Qi (fun r (_ : Unit) => r = o) (fun _ => Wq G cy (va_A [(q_this, .inr (5, [.ref q_text, .int f_length, .ref q_kinds, .ref q_firsts, .ref q_seconds, .int f_clauses, .int f_spot, .int f_value]))] sz) [(q_this, .inr (5, [.ref q_text, .int f_length, .ref q_kinds, .ref q_firsts, .ref q_seconds, .int f_clauses, .int f_spot, .int f_value]))]) (va_A [(q_this, .inr (5, [.ref q_text, .int f_length, .ref q_kinds, .ref q_firsts, .ref q_seconds, .int f_clauses, .int f_spot, .int f_value]))] sz)) 0 0 (va_A [(q_this, .inr (5, [.ref q_text, .int f_length, .ref q_kinds, .ref q_firsts, .ref q_seconds, .int f_clauses, .int f_spot, .int f_value]))] sz) := by
  refine Met.ofW (cc := cX5_bytes) (maxL := 1) (ret := (some .int)) (by decide) rfl ?_
  intro p e s m args below meth c s₁ B hml hv
  obtain ⟨rfl, hsz, hP, hK, hD0, hN⟩ := hv
  have hx := B.exec
  have hb := B.bytes
  have hr := B.returns
  have htA : ∀ w ∈ AW, w.before _ s = true := fun w h => atoms_spec (ws := Cond.code yX5_bytes cX5_bytes 1 (some .int) :: AW) B.pre w (List.mem_cons_of_mem _ h)
  have hown : s.vm.findClass RX5 = some m.cls := findClass_of_methodNamed B.named
  have hlocks := B.notSynchronized
  subst hsz
  have hD := hD0.self (sz := s.heap.size)
  generalize hAe : va_A [(q_this, .inr (5, [.ref q_text, .int f_length, .ref q_kinds, .ref q_firsts, .ref q_seconds, .int f_clauses, .int f_spot, .int f_value]))] s.heap.size = A at hD ⊢
  have hA : ∀ q : Nat, s.heap.size ≤ q → A q := fun q h => by rw [← hAe]; exact Or.inr h
  have hS : va_S A s.heap s.heap [] := va_S.rf
  have hl := lv_entry ([.ref q_this]) (n := 1) (Nat.le_of_ble_eq_true rfl)
  rw [lg_entry_eq]
  generalize (lg_sl ([.ref q_this]) ++ List.replicate (1 - (lg_sl ([.ref q_this])).length) Slot.unset).toArray = ls at hl ⊢
  have hl : lv_has ls 1 [(0, .ref q_this)] := hl
  have hP : va_P G vwCl [(q_this, .inr (5, [.ref q_text, .int f_length, .ref q_kinds, .ref q_firsts, .ref q_seconds, .int f_clauses, .int f_spot, .int f_value]))] s.heap := hP
  have hf : (some (f_length) : Option (Int32)) = some o := hf
  refine lv_aload_n hx hb dX5_bytes_0 rfl (lv_at hl 0 rfl) ?_
  refine va_get (D := G) (ci := 5) (v := .int f_length) (C := RX5) (T := TX5) (N := 8) hx hb htA lyX5 hown hK hP 0 rfl rfl 1 (by decide) (htA _ a_fl_X5_15) (fun _ h9 => h9) rfl dX5_bytes_1 ?_
  have ho := Option.some.inj hf
  subst ho
  exact W.iret (v := f_length) hx hb hr (fun t ht hW => ⟨⟨_, (), rfl, rfl, by rw [ht]; exact hP, va_K.moved hW.alike hK, hD⟩, hS.F ht⟩) hS.2.2 dX5_bytes_4
set_option maxRecDepth 100000 in
set_option maxHeartbeats 4000000 in
theorem kX5_byteAt (l : Launch) (G : va_G) (cy : Nat → ClassId) (q_this : Nat) (q_text : Nat) (q_kinds : Nat) (q_firsts : Nat) (q_seconds : Nat) (sz : Nat) (f_length : Int32) (f_clauses : Int32) (f_spot : Int32) (f_value : Int32) (f_text : Nat → Int32) (p1 : Int32) {o : Int32} (hf : fX5_byteAt p1 f_length f_text = some o) : Met l yX5_byteAt (Cond.code yX5_byteAt cX5_byteAt 2 (some .int) :: AW) ({ frames := 0, cells := 0, slots := 0, locals := 0 } : Room) (va_Pc [.ref q_this, .int p1] (Wp G cy [(q_this, .inr (5, [.ref q_text, .int f_length, .ref q_kinds, .ref q_firsts, .ref q_seconds, .int f_clauses, .int f_spot, .int f_value])), (q_text, .inl (cy 0, 100, .inl f_text))] sz)) (va_Qi (fun r (_ : Unit) => r = o) (fun _ => Wq G cy (va_A [(q_this, .inr (5, [.ref q_text, .int f_length, .ref q_kinds, .ref q_firsts, .ref q_seconds, .int f_clauses, .int f_spot, .int f_value])), (q_text, .inl (cy 0, 100, .inl f_text))] sz) [(q_this, .inr (5, [.ref q_text, .int f_length, .ref q_kinds, .ref q_firsts, .ref q_seconds, .int f_clauses, .int f_spot, .int f_value])), (q_text, .inl (cy 0, 100, .inl f_text))]) (va_A [(q_this, .inr (5, [.ref q_text, .int f_length, .ref q_kinds, .ref q_firsts, .ref q_seconds, .int f_clauses, .int f_spot, .int f_value])), (q_text, .inl (cy 0, 100, .inl f_text))] sz)) 0 0 (va_A [(q_this, .inr (5, [.ref q_text, .int f_length, .ref q_kinds, .ref q_firsts, .ref q_seconds, .int f_clauses, .int f_spot, .int f_value])), (q_text, .inl (cy 0, 100, .inl f_text))] sz) := by
  refine Met.ofW (cc := cX5_byteAt) (maxL := 2) (ret := (some .int)) (by decide) rfl ?_
  intro p e s m args below meth c s₁ B hml hv
  obtain ⟨rfl, hsz, hP, hK, hD0, hN⟩ := hv
  have hx := B.exec
  have hb := B.bytes
  have hr := B.returns
  have htA : ∀ w ∈ AW, w.before _ s = true := fun w h => atoms_spec (ws := Cond.code yX5_byteAt cX5_byteAt 2 (some .int) :: AW) B.pre w (List.mem_cons_of_mem _ h)
  have hown : s.vm.findClass RX5 = some m.cls := findClass_of_methodNamed B.named
  have hlocks := B.notSynchronized
  subst hsz
  have hD := hD0.self (sz := s.heap.size)
  generalize hAe : va_A [(q_this, .inr (5, [.ref q_text, .int f_length, .ref q_kinds, .ref q_firsts, .ref q_seconds, .int f_clauses, .int f_spot, .int f_value])), (q_text, .inl (cy 0, 100, .inl f_text))] s.heap.size = A at hD ⊢
  have hA : ∀ q : Nat, s.heap.size ≤ q → A q := fun q h => by rw [← hAe]; exact Or.inr h
  have hS : va_S A s.heap s.heap [] := va_S.rf
  have hl := lv_entry ([.ref q_this, .int p1]) (n := 2) (Nat.le_of_ble_eq_true rfl)
  rw [lg_entry_eq]
  generalize (lg_sl ([.ref q_this, .int p1]) ++ List.replicate (2 - (lg_sl ([.ref q_this, .int p1])).length) Slot.unset).toArray = ls at hl ⊢
  have hl : lv_has ls 2 [(0, .ref q_this), (1, .int p1)] := hl
  have hP : va_P G vwCl [(q_this, .inr (5, [.ref q_text, .int f_length, .ref q_kinds, .ref q_firsts, .ref q_seconds, .int f_clauses, .int f_spot, .int f_value])), (q_text, .inl (cy 0, 100, .inl f_text))] s.heap := hP
  have hf : ((if p1 < 0 then some ((-1)) else (if f_length ≤ p1 then some ((-1)) else ck p1 100 (some ((f_text (Int32.toNatClampNeg p1)))))) : Option (Int32)) = some o := hf
  refine lv_iload_n hx hb dX5_byteAt_0 rfl (lv_at hl 1 rfl) ?_
  refine lv_if_lt (tgt := 21) hx hb dX5_byteAt_1 (by decide) (fun c_13 => ?_) (fun c_13 => ?_)
  · have hf := ite_t c_13 hf
    refine lv_iconst (v := (-1)) hx hb dX5_byteAt_21 (by decide) ?_
    have ho := Option.some.inj hf
    subst ho
    exact W.iret (v := (-1)) hx hb hr (fun t ht hW => ⟨⟨_, (), rfl, rfl, by rw [ht]; exact hP, va_K.moved hW.alike hK, hD⟩, hS.F ht⟩) hS.2.2 dX5_byteAt_22
  · have hf := ite_f c_13 hf
    refine lv_iload_n hx hb dX5_byteAt_4 rfl (lv_at hl 1 rfl) ?_
    refine lv_aload_n hx hb dX5_byteAt_5 rfl (lv_at hl 0 rfl) ?_
    refine va_get (D := G) (ci := 5) (v := .int f_length) (C := RX5) (T := TX5) (N := 8) hx hb htA lyX5 hown hK hP 0 rfl rfl 1 (by decide) (htA _ a_fl_X5_15) (fun _ h9 => h9) rfl dX5_byteAt_6 ?_
    refine lv_icmp_ge (tgt := 21) hx hb dX5_byteAt_9 (by decide) (fun c_14 => ?_) (fun c_14 => ?_)
    · have hf := ite_t c_14 hf
      refine lv_iconst (v := (-1)) hx hb dX5_byteAt_21 (by decide) ?_
      have ho := Option.some.inj hf
      subst ho
      exact W.iret (v := (-1)) hx hb hr (fun t ht hW => ⟨⟨_, (), rfl, rfl, by rw [ht]; exact hP, va_K.moved hW.alike hK, hD⟩, hS.F ht⟩) hS.2.2 dX5_byteAt_22
    · have hf := ite_f c_14 hf
      refine lv_aload_n hx hb dX5_byteAt_12 rfl (lv_at hl 0 rfl) ?_
      refine va_get (D := G) (ci := 5) (v := .ref q_text) (C := RX5) (T := TX5) (N := 8) hx hb htA lyX5 hown hK hP 0 rfl rfl 0 (by decide) (htA _ a_fl_X5_11) (fun _ h9 => h9) rfl dX5_byteAt_13 ?_
      refine lv_iload_n hx hb dX5_byteAt_16 rfl (lv_at hl 1 rfl) ?_
      obtain ⟨i_15, hf⟩ := ck_s hf
      refine va_iald (D := G) hx hb hK hP 1 0 rfl rfl i_15 dX5_byteAt_17 ?_
      refine lv_goto (tgt := 22) hx hb dX5_byteAt_18 (by decide) ?_
      have ho := Option.some.inj hf
      subst ho
      exact W.iret (v := (f_text (Int32.toNatClampNeg p1))) hx hb hr (fun t ht hW => ⟨⟨_, (), rfl, rfl, by rw [ht]; exact hP, va_K.moved hW.alike hK, hD⟩, hS.F ht⟩) hS.2.2 dX5_byteAt_22
