-- ===== my own kit: pure checks, worlds in place, calls =====
theorem ite_t {α : Type} {c : Prop} [Decidable c] {a b o : α} (h : c) (hf : (if c then a else b) = o) : a = o := by rw [if_pos h] at hf; exact hf
theorem ite_f {α : Type} {c : Prop} [Decidable c] {a b o : α} (h : ¬ c) (hf : (if c then a else b) = o) : b = o := by rw [if_neg h] at hf; exact hf
/-- an index that is looked at -/
def ck {α : Type} (i : Int32) (n : Nat) (k : Option α) : Option α := if i < 0 ∨ n ≤ i.toNatClampNeg then none else k
theorem ck_s {α : Type} {i : Int32} {n : Nat} {k : Option α} {o : α} (h : ck i n k = some o) : vp_in i n ∧ k = some o := by
  unfold ck at h
  split at h
  · cases h
  · next hn => exact ⟨hn, h⟩
theorem ck_in {α : Type} {i : Int32} {n : Nat} {k : Option α} (h : vp_in i n) : ck i n k = k := if_neg h
/-- a divisor that is looked at -/
def dk {α : Type} (c : Bool) (k : Option α) : Option α := if c then k else none
theorem dk_s {α : Type} {c : Bool} {k : Option α} {o : α} (h : dk c k = some o) : c = true ∧ k = some o := by
  cases c
  · cases h
  · exact ⟨rfl, h⟩
/-- a boolean that is looked at -/
def zk {α : Type} (v : Int32) (k : Option α) : Option α := if v = 0 ∨ v = 1 then k else none
theorem zk_s {α : Type} {v : Int32} {k : Option α} {o : α} (h : zk v k = some o) : (v = 0 ∨ v = 1) ∧ k = some o := by
  unfold zk at h
  split at h
  · next hn => exact ⟨hn, h⟩
  · cases h
theorem zk_n {v : Int32} (h : v = 0 ∨ v = 1) : narrow .boolean (.int v) = .int v := by rcases h with rfl | rfl <;> rfl
theorem zk_f {v : Int32} (h : v = 0 ∨ v = 1) : fits .boolean (.int v) = true := by rcases h with rfl | rfl <;> rfl
theorem bd_s {α β : Type} {x : Option α} {k : α → Option β} {o : β} (h : x.bind k = some o) : ∃ y, x = some y ∧ k y = some o := by
  cases x with
  | none => cases h
  | some y => exact ⟨y, rfl, h⟩
theorem no_s {α : Type} {o : α} {P : Prop} (h : (none : Option α) = some o) : P := by cases h
theorem dk_i {y : Int32} (h : decide (¬ y = 0) = true) : ¬ y = 0 := of_decide_eq_true h
theorem dk_l {y : Int64} (h : decide (¬ y = 0) = true) : ¬ y = 0 := of_decide_eq_true h
theorem sw_no {x k : Int32} {a : Int} (h : ¬ x = k) (hk : k.toInt = a) : ¬ x.toInt = a := fun q => h (Int32.toInt_inj.mp (by rw [hk]; exact q))
-- ---- nest mates' words
def nzL : List Cond := [Cond.methodLinkNest RX8 13 yX6_init "EndlessRoots", Cond.methodLinkNest RX6 9 yX2_init "EndlessRoots", Cond.fieldLinkNest RX8 80 "EndlessRoots$Ground" "a" "I" "EndlessRoots", Cond.fieldLinkNest RX8 84 "EndlessRoots$Ground" "b" "I" "EndlessRoots", Cond.fieldLinkNest RX8 91 "EndlessRoots$Ground" "x" "I" "EndlessRoots", Cond.fieldLinkNest RX8 94 "EndlessRoots$Ground" "y" "I" "EndlessRoots", Cond.fieldLinkNest RX8 77 "EndlessRoots$Setting" "ground" "LEndlessRoots$Ground;" "EndlessRoots", Cond.fieldLinkNest RX8 105 "EndlessRoots$Setting" "notes" "LEndlessRoots$Rows;" "EndlessRoots", Cond.fieldLinkNest RX8 238 "EndlessRoots$Setting" "seen" "LEndlessRoots$Rows;" "EndlessRoots", Cond.fieldLinkNest RX8 247 "EndlessRoots$Setting" "events" "LEndlessRoots$Rows;" "EndlessRoots", Cond.fieldLinkNest RX8 256 "EndlessRoots$Setting" "book" "LEndlessRoots$Rows;" "EndlessRoots", Cond.methodLinkNest RX8 27 yX2_init "EndlessRoots", Cond.methodLinkNest RX8 34 yX3_init "EndlessRoots", Cond.fieldLinkNest RX8 190 "EndlessRoots$Lowering" "x" "I" "EndlessRoots", Cond.fieldLinkNest RX8 191 "EndlessRoots$Lowering" "y" "I" "EndlessRoots", Cond.fieldLinkNest RX8 187 "EndlessRoots$Lowering" "steps" "I" "EndlessRoots", Cond.fieldLinkNest RX1 22 "EndlessRoots$Counts" "a" "I" "EndlessRoots", Cond.fieldLinkNest RX1 25 "EndlessRoots$Counts" "b" "I" "EndlessRoots", Cond.methodLinkNest RX8 50 yX1_init "EndlessRoots", Cond.methodLinkNest RX8 57 yX5_init "EndlessRoots", Cond.methodLinkNest RX8 64 yX7_init "EndlessRoots", Cond.methodLinkNest RX3 29 yX8_coatOf "EndlessRoots", Cond.methodLinkNest RX2 22 yX8_isPlace "EndlessRoots", Cond.methodLinkNest RX4 28 yX8_isIn "EndlessRoots", Cond.methodLinkNest RX5 37 yX8_isIn "EndlessRoots", Cond.methodLinkNest RX0 56 yX8_isCountable "EndlessRoots", Cond.methodLinkNest RX0 60 yX8_productOf "EndlessRoots", Cond.methodLinkNest RX0 67 yX8_normOf "EndlessRoots", Cond.methodLinkNest RX1 42 yX8_isSmall "EndlessRoots", Cond.methodLinkNest RX7 22 yX8_isIn "EndlessRoots"]
theorem nz_kind : ∀ w ∈ nzL, (∃ a i b n d h, w = Cond.fieldLinkNest a i b n d h) ∨ (∃ a i x h, w = Cond.methodLinkNest a i x h) := List.forall_mem_cons.mpr ⟨Or.inr ⟨_, _, _, _, rfl⟩, List.forall_mem_cons.mpr ⟨Or.inr ⟨_, _, _, _, rfl⟩, List.forall_mem_cons.mpr ⟨Or.inl ⟨_, _, _, _, _, _, rfl⟩, List.forall_mem_cons.mpr ⟨Or.inl ⟨_, _, _, _, _, _, rfl⟩, List.forall_mem_cons.mpr ⟨Or.inl ⟨_, _, _, _, _, _, rfl⟩, List.forall_mem_cons.mpr ⟨Or.inl ⟨_, _, _, _, _, _, rfl⟩, List.forall_mem_cons.mpr ⟨Or.inl ⟨_, _, _, _, _, _, rfl⟩, List.forall_mem_cons.mpr ⟨Or.inl ⟨_, _, _, _, _, _, rfl⟩, List.forall_mem_cons.mpr ⟨Or.inl ⟨_, _, _, _, _, _, rfl⟩, List.forall_mem_cons.mpr ⟨Or.inl ⟨_, _, _, _, _, _, rfl⟩, List.forall_mem_cons.mpr ⟨Or.inl ⟨_, _, _, _, _, _, rfl⟩, List.forall_mem_cons.mpr ⟨Or.inr ⟨_, _, _, _, rfl⟩, List.forall_mem_cons.mpr ⟨Or.inr ⟨_, _, _, _, rfl⟩, List.forall_mem_cons.mpr ⟨Or.inl ⟨_, _, _, _, _, _, rfl⟩, List.forall_mem_cons.mpr ⟨Or.inl ⟨_, _, _, _, _, _, rfl⟩, List.forall_mem_cons.mpr ⟨Or.inl ⟨_, _, _, _, _, _, rfl⟩, List.forall_mem_cons.mpr ⟨Or.inl ⟨_, _, _, _, _, _, rfl⟩, List.forall_mem_cons.mpr ⟨Or.inl ⟨_, _, _, _, _, _, rfl⟩, List.forall_mem_cons.mpr ⟨Or.inr ⟨_, _, _, _, rfl⟩, List.forall_mem_cons.mpr ⟨Or.inr ⟨_, _, _, _, rfl⟩, List.forall_mem_cons.mpr ⟨Or.inr ⟨_, _, _, _, rfl⟩, List.forall_mem_cons.mpr ⟨Or.inr ⟨_, _, _, _, rfl⟩, List.forall_mem_cons.mpr ⟨Or.inr ⟨_, _, _, _, rfl⟩, List.forall_mem_cons.mpr ⟨Or.inr ⟨_, _, _, _, rfl⟩, List.forall_mem_cons.mpr ⟨Or.inr ⟨_, _, _, _, rfl⟩, List.forall_mem_cons.mpr ⟨Or.inr ⟨_, _, _, _, rfl⟩, List.forall_mem_cons.mpr ⟨Or.inr ⟨_, _, _, _, rfl⟩, List.forall_mem_cons.mpr ⟨Or.inr ⟨_, _, _, _, rfl⟩, List.forall_mem_cons.mpr ⟨Or.inr ⟨_, _, _, _, rfl⟩, List.forall_mem_cons.mpr ⟨Or.inr ⟨_, _, _, _, rfl⟩, fun _ h => absurd h List.not_mem_nil⟩⟩⟩⟩⟩⟩⟩⟩⟩⟩⟩⟩⟩⟩⟩⟩⟩⟩⟩⟩⟩⟩⟩⟩⟩⟩⟩⟩⟩⟩
theorem nz_tbl : ∀ w ∈ nzL, w ∈ lw_tbl := List.forall_mem_cons.mpr ⟨t1 (List.mem_of_getElem? (i := 27) rfl), List.forall_mem_cons.mpr ⟨t1 (List.mem_of_getElem? (i := 33) rfl), List.forall_mem_cons.mpr ⟨t1 (List.mem_of_getElem? (i := 38) rfl), List.forall_mem_cons.mpr ⟨t1 (List.mem_of_getElem? (i := 40) rfl), List.forall_mem_cons.mpr ⟨t1 (List.mem_of_getElem? (i := 42) rfl), List.forall_mem_cons.mpr ⟨t1 (List.mem_of_getElem? (i := 44) rfl), List.forall_mem_cons.mpr ⟨t1 (List.mem_of_getElem? (i := 75) rfl), List.forall_mem_cons.mpr ⟨t1 (List.mem_of_getElem? (i := 77) rfl), List.forall_mem_cons.mpr ⟨t1 (List.mem_of_getElem? (i := 79) rfl), List.forall_mem_cons.mpr ⟨t1 (List.mem_of_getElem? (i := 81) rfl), List.forall_mem_cons.mpr ⟨t1 (List.mem_of_getElem? (i := 83) rfl), List.forall_mem_cons.mpr ⟨t1 (List.mem_of_getElem? (i := 96) rfl), List.forall_mem_cons.mpr ⟨t1 (List.mem_of_getElem? (i := 99) rfl), List.forall_mem_cons.mpr ⟨t1 (List.mem_of_getElem? (i := 104) rfl), List.forall_mem_cons.mpr ⟨t1 (List.mem_of_getElem? (i := 106) rfl), List.forall_mem_cons.mpr ⟨t1 (List.mem_of_getElem? (i := 108) rfl), List.forall_mem_cons.mpr ⟨t1 (List.mem_of_getElem? (i := 130) rfl), List.forall_mem_cons.mpr ⟨t1 (List.mem_of_getElem? (i := 132) rfl), List.forall_mem_cons.mpr ⟨t1 (List.mem_of_getElem? (i := 149) rfl), List.forall_mem_cons.mpr ⟨t1 (List.mem_of_getElem? (i := 165) rfl), List.forall_mem_cons.mpr ⟨t1 (List.mem_of_getElem? (i := 196) rfl), List.forall_mem_cons.mpr ⟨t2 (List.mem_of_getElem? (i := 35) rfl), List.forall_mem_cons.mpr ⟨t2 (List.mem_of_getElem? (i := 46) rfl), List.forall_mem_cons.mpr ⟨t2 (List.mem_of_getElem? (i := 59) rfl), List.forall_mem_cons.mpr ⟨t2 (List.mem_of_getElem? (i := 181) rfl), List.forall_mem_cons.mpr ⟨t3 (List.mem_of_getElem? (i := 51) rfl), List.forall_mem_cons.mpr ⟨t3 (List.mem_of_getElem? (i := 57) rfl), List.forall_mem_cons.mpr ⟨t3 (List.mem_of_getElem? (i := 62) rfl), List.forall_mem_cons.mpr ⟨t3 (List.mem_of_getElem? (i := 113) rfl), List.forall_mem_cons.mpr ⟨t3 (List.mem_of_getElem? (i := 175) rfl), fun _ h => absurd h List.not_mem_nil⟩⟩⟩⟩⟩⟩⟩⟩⟩⟩⟩⟩⟩⟩⟩⟩⟩⟩⟩⟩⟩⟩⟩⟩⟩⟩⟩⟩⟩⟩
def nz (U : State) : Prop := ∀ w ∈ nzL, va_Nw w U
theorem nz.warm {s U : State} (hW : s.WarmedH U.vm) (h : nz s) : nz U := fun w hw => by
  rcases nz_kind w hw with ⟨a, i, b, n, d, hh, rfl⟩ | ⟨a, i, x, hh, rfl⟩
  · exact va_Nw.warmF hW (h _ hw)
  · exact va_Nw.warmM hW (h _ hw)
theorem nz.same {u U : State} (hv : u.vm = U.vm) (h : nz u) : nz U := fun w hw => by
  rcases nz_kind w hw with ⟨a, i, b, n, d, hh, rfl⟩ | ⟨a, i, x, hh, rfl⟩
  · exact va_Nw.same rfl hv (h _ hw)
  · exact va_Nw.same rfl hv (h _ hw)
-- ---- worlds
abbrev tysA (cy : Nat → ClassId) : List (ClassId × FieldType) := [(cy 0, .int), (cy 1, .long), (cy 2, .byte), (cy 3, .array .int), (cy 4, .array .long)]
abbrev Wp (G : va_G) (cy : Nat → ClassId) (w : va_W) (sz : Nat) (U : State) : Prop := U.heap.size = sz ∧ va_P G vwCl w U.heap ∧ va_K G vwCl (tysA cy) U ∧ va_D (fun _ => True) w ∧ nz U
abbrev Wq (G : va_G) (cy : Nat → ClassId) (A : Nat → Prop) (w' : va_W) (t : State) : Prop := va_P G vwCl w' t.heap ∧ va_K G vwCl (tysA cy) t ∧ va_D A w'
theorem Wp.blind {av : List Value} {G : va_G} {cy : Nat → ClassId} {w : va_W} {sz : Nat} : FrameBlind (va_Pc av (Wp G cy w sz)) := fun a U g mk q => by
  obtain ⟨q0, q1, qP, qK, qD, qN⟩ := q
  exact ⟨q0, q1, qP, va_K.moved (u := U) (U := U.calling g mk a) (Vm.Alike.refl U.vm) qK, qD, nz.same (u := U) (U := U.calling g mk a) rfl qN⟩
theorem P_subm {D : va_G} {cl : List vw_C} {ws wc : va_W} {H : Heap} (h : va_P D cl ws H) (is : List Nat) (hs : is.map (fun i => ws[i]?) = wc.map some) : va_P D cl wc H := by
  intro k q hk
  have h1 : (is.map (fun i => ws[i]?))[k]? = some (some q) := by rw [hs, List.getElem?_map, hk]; rfl
  rw [List.getElem?_map] at h1
  cases hi : is[k]? with
  | none => rw [hi] at h1; cases h1
  | some i => rw [hi] at h1; exact h i q (Option.some.inj h1)
theorem u_pre {s : State} {H : Heap} {G : va_G} {cy : Nat → ClassId} {wc ws : va_W} {A : Nat → Prop} (hK : va_K G vwCl (tysA cy) s) (hN : nz s) (hP : va_P G vwCl ws H) (hD : va_D A ws) (is : List Nat) (hC : is.map (fun i => ws[i]?) = wc.map some) (hn : va_nd is = true) (U : State) (hU : U.heap = H) (hW : s.WarmedH U.vm) : Wp G cy wc H.size U :=
  ⟨by rw [hU], by rw [hU]; exact P_subm hP is hC, va_K.moved hW.alike hK, (hD.sub is hn hC).weaken (fun _ _ _ _ => trivial), hN.warm hW⟩
theorem u_preV {s : State} {H : Heap} {G : va_G} {cy : Nat → ClassId} {wc ws : va_W} {A : Nat → Prop} {C : String} {T : u_T} {N ci b : Nat} {fs As : List Value} (hK : va_K G vwCl (tysA cy) s) (hN : nz s) (hP : va_P G vwCl ws H) (hD : va_D A ws) (is : List Nat) (hC : is.map (fun i => ws[i]?) = wc.map some) (hn : va_nd is = true) (q0 : Nat) (hc : vwCl[ci]? = some (C, T, N)) (he : ws[q0]? = some (b, .inr (ci, fs))) : PreV s H C b (va_Pc (.ref b :: As) (Wp G cy wc H.size)) As :=
  ⟨Wp.blind, va_recv hK hP hc he, fun U hU hW => ⟨rfl, u_pre hK hN hP hD is hC hn U hU hW⟩⟩
theorem u_preS {s : State} {H : Heap} {G : va_G} {cy : Nat → ClassId} {wc ws : va_W} {A : Nat → Prop} {As : List Value} (hK : va_K G vwCl (tysA cy) s) (hN : nz s) (hP : va_P G vwCl ws H) (hD : va_D A ws) (is : List Nat) (hC : is.map (fun i => ws[i]?) = wc.map some) (hn : va_nd is = true) : PreS s H (va_Pc As (Wp G cy wc H.size)) As :=
  ⟨Wp.blind, fun U hU hW => ⟨rfl, u_pre hK hN hP hD is hC hn U hU hW⟩⟩
theorem D_fst {A : Nat → Prop} {ws ws' : va_W} (h : ws'.map (fun q => q.1) = ws.map (fun q => q.1)) (hD : va_D A ws) : va_D A ws' := by
  have key : ∀ (k : Nat) (q : Nat × va_E), ws'[k]? = some q → ∃ q0, ws[k]? = some q0 ∧ q0.1 = q.1 := by
    intro k q hk
    have h1 : (ws'.map (fun q => q.1))[k]? = some q.1 := by rw [List.getElem?_map, hk]; rfl
    rw [h, List.getElem?_map] at h1
    cases hw : ws[k]? with
    | none => rw [hw] at h1; cases h1
    | some q0 => rw [hw] at h1; exact ⟨q0, rfl, Option.some.inj h1⟩
  refine ⟨fun i j x y hi hj hxy => ?_, fun k q hk => ?_⟩
  · obtain ⟨x0, h1, h2⟩ := key i x hi
    obtain ⟨y0, h3, h4⟩ := key j y hj
    exact hD.1 i j x0 y0 h1 h3 (h2.trans (hxy.trans h4.symm))
  · obtain ⟨q0, h1, h2⟩ := key k q hk
    rw [← h2]
    exact hD.2 k q0 h1
/-- behind a call: the caller's world, the callee's cells in their places -/
theorem u_join {A : Nat → Prop} {D : va_G} {cl : List vw_C} {ws wc w1 w2 : va_W} {H H1 : Heap} (hP : va_P D cl ws H) (hD : va_D A ws) (is ir : List Nat) (n : Nat) (hC : is.map (fun i => ws[i]?) = wc.map some) (hC1 : is.map (fun i => w2[i]?) = w1.map some) (hR : ir.map (fun i => w2[i]?) = ir.map (fun i => ws[i]?)) (hn : w2.length = n) (hcov : (List.range n).all (fun i => is.contains i || ir.contains i) = true) (hf : w2.map (fun q => q.1) = ws.map (fun q => q.1))
    (hk : ∀ q : Nat, q < H.size → ¬ va_A wc H.size q → H1[q]? = H[q]?) (hP1 : va_P D cl w1 H1) : va_P D cl w2 H1 ∧ va_D A w2 := by
  refine ⟨fun k q hkq => ?_, D_fst hf hD⟩
  have at' : ∀ {w wx : va_W}, is.map (fun i => w[i]?) = wx.map some → ∀ (j i : Nat), is[j]? = some i → ∃ x, wx[j]? = some x ∧ w[i]? = some x := by
    intro w wx hC j i hji
    have h1 : (is.map (fun i => w[i]?))[j]? = some w[i]? := by rw [List.getElem?_map, hji]; rfl
    rw [hC, List.getElem?_map] at h1
    cases hw : wx[j]? with
    | none => rw [hw] at h1; cases h1
    | some x => rw [hw] at h1; exact ⟨x, rfl, (Option.some.inj h1).symm⟩
  by_cases hi : k ∈ is
  · obtain ⟨j, hj⟩ := List.getElem?_of_mem hi
    obtain ⟨x, h1, h2⟩ := at' hC1 j k hj
    rw [hkq] at h2
    cases h2
    exact hP1 j q h1
  · have hkn : k < n := by rw [← hn]; exact (List.getElem?_eq_some_iff.mp hkq).1
    have h1 := List.all_eq_true.mp hcov k (List.mem_range.mpr hkn)
    simp only [Bool.or_eq_true, List.contains_iff_mem] at h1
    have hir : k ∈ ir := h1.resolve_left hi
    obtain ⟨j, hj⟩ := List.getElem?_of_mem hir
    have h2 : (ir.map (fun i => w2[i]?))[j]? = some w2[k]? := by rw [List.getElem?_map, hj]; rfl
    rw [hR, List.getElem?_map, hj] at h2
    have h3 : ws[k]? = w2[k]? := Option.some.inj h2
    rw [hkq] at h3
    have hat := hP k q h3
    refine hat.kept (hk q.1 hat.lt (fun ha => ?_))
    rcases ha with ⟨j, e, hj⟩ | ha
    · have hjl : j < is.length := by
        have h3 := congrArg List.length hC
        simp at h3
        rw [h3]
        exact (List.getElem?_eq_some_iff.mp hj).1
      obtain ⟨x, h5, h4⟩ := at' hC j is[j] (List.getElem?_eq_getElem hjl)
      rw [hj] at h5
      cases h5
      have := hD.1 k is[j] q (q.1, e) h3 h4 rfl
      exact hi (by rw [this]; exact List.getElem_mem hjl)
    · have := hat.lt
      omega
/-- behind a call that writes nothing -/
theorem u_same0 {A : Nat → Prop} {D : va_G} {cl : List vw_C} {ws wc : va_W} {H H1 : Heap} (hP : va_P D cl ws H) (hD : va_D A ws) (is : List Nat) (hC : is.map (fun i => ws[i]?) = wc.map some)
    (hk : ∀ q : Nat, q < H.size → ¬ va_A wc H.size q → H1[q]? = H[q]?) (hP1 : va_P D cl wc H1) : va_P D cl ws H1 := by
  intro k q hkq
  have hat := hP k q hkq
  by_cases ha : va_A wc H.size q.1
  · rcases ha with ⟨j, e, hj⟩ | ha
    · have h1 : (wc.map some)[j]? = some (some (q.1, e)) := by rw [List.getElem?_map, hj]; rfl
      rw [← hC, List.getElem?_map] at h1
      cases hi : is[j]? with
      | none => rw [hi] at h1; cases h1
      | some i =>
        rw [hi] at h1
        have h2 : ws[i]? = some (q.1, e) := Option.some.inj h1
        have h3 := hD.1 k i q (q.1, e) hkq h2 rfl
        subst h3
        have h5 : q = (q.1, e) := Option.some.inj (hkq.symm.trans h2)
        have h6 := hP1 j _ hj
        rw [← h5] at h6
        exact h6
    · have := hat.lt
      omega
  · exact hat.kept (hk q.1 hat.lt ha)
/-- what a method's walk stands on -/
def Cx (p : Program) (s : State) (m : MethodId) (args : Array Value) (meth : Method) (c : Code) (cc : ByteArray) (nL : Nat) (ret : Option FieldType) (own : String) (G : va_G) (cy : Nat → ClassId) (A : Nat → Prop) : Prop := p.tables.exec = Jvm.exec ∧ c.code = cc ∧ meth.sig.returnType = ret ∧ c.maxLocals = nL ∧ (∀ w ∈ AW, w.before args s = true) ∧ s.vm.findClass own = some m.cls ∧ va_K G vwCl (tysA cy) s ∧ nz s ∧ (∀ q : Nat, s.heap.size ≤ q → A q) ∧ meth.locks = false
section UC
variable {p : Program} {l : Launch} {e : Env} {R : Room} {s : State} {m : MethodId} {args : Array Value} {below : List Frame} {meth : Method} {c : Code} {H : Heap} {locs : List Loc} {cells slots : Nat} {Q : State → Prop}
variable {pc : Nat} {ls : Array Slot} {rest st0 : List Value} {a : Array Value} {A : Nat → Prop} {H0 : Heap} {G : va_G} {cy : Nat → ClassId} {ws wc w1 : va_W}
theorem u_calli (w2 : va_W) {rv : Int32} (hr : va_Run p l e R s m args below meth c H locs cells slots 0 0 (F0 m pc ls st0) rest (va_Qi (fun r (_ : Unit) => r = rv) (fun _ => Wq G cy (va_A wc H.size) w1) (va_A wc H.size) a) (va_A wc H.size)) (hP : va_P G vwCl ws H) (hD : va_D A ws) (hS : va_S A H0 H locs) (hA : ∀ q, H0.size ≤ q → A q) (is : List Nat) (hC : is.map (fun i => ws[i]?) = wc.map some) (ir : List Nat) (n : Nat) (hC1 : is.map (fun i => w2[i]?) = w1.map some) (hR : ir.map (fun i => w2[i]?) = ir.map (fun i => ws[i]?)) (hn : w2.length = n) (hcov : (List.range n).all (fun i => is.contains i || ir.contains i) = true) (hf : w2.map (fun q => q.1) = ws.map (fun q => q.1))
    (kk : ∀ (H1 : Heap) (locs1 : List Loc), va_P G vwCl (w2) H1 → va_D A (w2) → va_S A H0 H1 locs1 → W p l e R s m args below meth c H1 locs1 cells slots Q (F0 m (pc + 3) ls (.int rv :: rest))) : W p l e R s m args below meth c H locs cells slots Q (F0 m pc ls st0) := by
  have hF := va_free (wc := wc) hD hS hA is hC
  refine va_calli hr hS (fun q _ h => hF q h) hF (fun r u t H1 locs1 ht hvm hw hB hz1 hk1 hS1 => ?_)
  obtain ⟨hP1, hK1, hD1⟩ := hB
  rw [ht] at hP1
  subst hw
  obtain ⟨hP2, hD2⟩ := u_join hP hD is ir n hC hC1 hR hn hcov hf hk1 hP1
  exact kk H1 locs1 hP2 hD2 hS1
theorem u_calliR {rv : Int32} (hr : va_Run p l e R s m args below meth c H locs cells slots 0 0 (F0 m pc ls st0) rest (va_Qi (fun r (_ : Unit) => r = rv) (fun _ => Wq G cy (va_A wc H.size) wc) (va_A wc H.size) a) (va_A wc H.size)) (hP : va_P G vwCl ws H) (hD : va_D A ws) (hS : va_S A H0 H locs) (hA : ∀ q, H0.size ≤ q → A q) (is : List Nat) (hC : is.map (fun i => ws[i]?) = wc.map some)
    (kk : ∀ (H1 : Heap) (locs1 : List Loc), va_P G vwCl (ws) H1 → va_S A H0 H1 locs1 → W p l e R s m args below meth c H1 locs1 cells slots Q (F0 m (pc + 3) ls (.int rv :: rest))) : W p l e R s m args below meth c H locs cells slots Q (F0 m pc ls st0) := by
  have hF := va_free (wc := wc) hD hS hA is hC
  refine va_calli hr hS (fun q _ h => hF q h) hF (fun r u t H1 locs1 ht hvm hw hB hz1 hk1 hS1 => ?_)
  obtain ⟨hP1, hK1, hD1⟩ := hB
  rw [ht] at hP1
  subst hw
  exact kk H1 locs1 (u_same0 hP hD is hC hk1 hP1) hS1
theorem u_calll (w2 : va_W) {rv : Int64} (hr : va_Run p l e R s m args below meth c H locs cells slots 0 0 (F0 m pc ls st0) rest (va_Ql (fun r (_ : Unit) => r = rv) (fun _ => Wq G cy (va_A wc H.size) w1) (va_A wc H.size) a) (va_A wc H.size)) (hP : va_P G vwCl ws H) (hD : va_D A ws) (hS : va_S A H0 H locs) (hA : ∀ q, H0.size ≤ q → A q) (is : List Nat) (hC : is.map (fun i => ws[i]?) = wc.map some) (ir : List Nat) (n : Nat) (hC1 : is.map (fun i => w2[i]?) = w1.map some) (hR : ir.map (fun i => w2[i]?) = ir.map (fun i => ws[i]?)) (hn : w2.length = n) (hcov : (List.range n).all (fun i => is.contains i || ir.contains i) = true) (hf : w2.map (fun q => q.1) = ws.map (fun q => q.1))
    (kk : ∀ (H1 : Heap) (locs1 : List Loc), va_P G vwCl (w2) H1 → va_D A (w2) → va_S A H0 H1 locs1 → W p l e R s m args below meth c H1 locs1 cells slots Q (F0 m (pc + 3) ls (.long rv :: rest))) : W p l e R s m args below meth c H locs cells slots Q (F0 m pc ls st0) := by
  have hF := va_free (wc := wc) hD hS hA is hC
  refine va_calll hr hS (fun q _ h => hF q h) hF (fun r u t H1 locs1 ht hvm hw hB hz1 hk1 hS1 => ?_)
  obtain ⟨hP1, hK1, hD1⟩ := hB
  rw [ht] at hP1
  subst hw
  obtain ⟨hP2, hD2⟩ := u_join hP hD is ir n hC hC1 hR hn hcov hf hk1 hP1
  exact kk H1 locs1 hP2 hD2 hS1
theorem u_calllR {rv : Int64} (hr : va_Run p l e R s m args below meth c H locs cells slots 0 0 (F0 m pc ls st0) rest (va_Ql (fun r (_ : Unit) => r = rv) (fun _ => Wq G cy (va_A wc H.size) wc) (va_A wc H.size) a) (va_A wc H.size)) (hP : va_P G vwCl ws H) (hD : va_D A ws) (hS : va_S A H0 H locs) (hA : ∀ q, H0.size ≤ q → A q) (is : List Nat) (hC : is.map (fun i => ws[i]?) = wc.map some)
    (kk : ∀ (H1 : Heap) (locs1 : List Loc), va_P G vwCl (ws) H1 → va_S A H0 H1 locs1 → W p l e R s m args below meth c H1 locs1 cells slots Q (F0 m (pc + 3) ls (.long rv :: rest))) : W p l e R s m args below meth c H locs cells slots Q (F0 m pc ls st0) := by
  have hF := va_free (wc := wc) hD hS hA is hC
  refine va_calll hr hS (fun q _ h => hF q h) hF (fun r u t H1 locs1 ht hvm hw hB hz1 hk1 hS1 => ?_)
  obtain ⟨hP1, hK1, hD1⟩ := hB
  rw [ht] at hP1
  subst hw
  exact kk H1 locs1 (u_same0 hP hD is hC hk1 hP1) hS1
theorem u_callv (w2 : va_W) (hr : va_Run p l e R s m args below meth c H locs cells slots 0 0 (F0 m pc ls st0) rest (va_Qv (fun (_ : Unit) => True) (fun _ => Wq G cy (va_A wc H.size) w1) (va_A wc H.size) a) (va_A wc H.size)) (hP : va_P G vwCl ws H) (hD : va_D A ws) (hS : va_S A H0 H locs) (hA : ∀ q, H0.size ≤ q → A q) (is : List Nat) (hC : is.map (fun i => ws[i]?) = wc.map some) (ir : List Nat) (n : Nat) (hC1 : is.map (fun i => w2[i]?) = w1.map some) (hR : ir.map (fun i => w2[i]?) = ir.map (fun i => ws[i]?)) (hn : w2.length = n) (hcov : (List.range n).all (fun i => is.contains i || ir.contains i) = true) (hf : w2.map (fun q => q.1) = ws.map (fun q => q.1))
    (kk : ∀ (H1 : Heap) (locs1 : List Loc), va_P G vwCl (w2) H1 → va_D A (w2) → va_S A H0 H1 locs1 → W p l e R s m args below meth c H1 locs1 cells slots Q (F0 m (pc + 3) ls (rest))) : W p l e R s m args below meth c H locs cells slots Q (F0 m pc ls st0) := by
  have hF := va_free (wc := wc) hD hS hA is hC
  refine va_callv hr hS (fun q _ h => hF q h) hF (fun u t H1 locs1 ht hvm _ hB hz1 hk1 hS1 => ?_)
  obtain ⟨hP1, hK1, hD1⟩ := hB
  rw [ht] at hP1
  obtain ⟨hP2, hD2⟩ := u_join hP hD is ir n hC hC1 hR hn hcov hf hk1 hP1
  exact kk H1 locs1 hP2 hD2 hS1
theorem u_callvR (hr : va_Run p l e R s m args below meth c H locs cells slots 0 0 (F0 m pc ls st0) rest (va_Qv (fun (_ : Unit) => True) (fun _ => Wq G cy (va_A wc H.size) wc) (va_A wc H.size) a) (va_A wc H.size)) (hP : va_P G vwCl ws H) (hD : va_D A ws) (hS : va_S A H0 H locs) (hA : ∀ q, H0.size ≤ q → A q) (is : List Nat) (hC : is.map (fun i => ws[i]?) = wc.map some)
    (kk : ∀ (H1 : Heap) (locs1 : List Loc), va_P G vwCl (ws) H1 → va_S A H0 H1 locs1 → W p l e R s m args below meth c H1 locs1 cells slots Q (F0 m (pc + 3) ls (rest))) : W p l e R s m args below meth c H locs cells slots Q (F0 m pc ls st0) := by
  have hF := va_free (wc := wc) hD hS hA is hC
  refine va_callv hr hS (fun q _ h => hF q h) hF (fun u t H1 locs1 ht hvm _ hB hz1 hk1 hS1 => ?_)
  obtain ⟨hP1, hK1, hD1⟩ := hB
  rw [ht] at hP1
  exact kk H1 locs1 (u_same0 hP hD is hC hk1 hP1) hS1
theorem u_callrR {rv : Nat} (hr : va_Run p l e R s m args below meth c H locs cells slots 0 0 (F0 m pc ls st0) rest (va_Qr (fun (_ : Unit) => True) (fun _ b t => b = rv ∧ Wq G cy (va_A wc H.size) wc t) (va_A wc H.size) a) (va_A wc H.size)) (hP : va_P G vwCl ws H) (hD : va_D A ws) (hS : va_S A H0 H locs) (hA : ∀ q, H0.size ≤ q → A q) (is : List Nat) (hC : is.map (fun i => ws[i]?) = wc.map some)
    (kk : ∀ (H1 : Heap) (locs1 : List Loc), va_P G vwCl ws H1 → va_S A H0 H1 locs1 → W p l e R s m args below meth c H1 locs1 cells slots Q (F0 m (pc + 3) ls (.ref rv :: rest))) : W p l e R s m args below meth c H locs cells slots Q (F0 m pc ls st0) := by
  have hF := va_free (wc := wc) hD hS hA is hC
  refine va_callr hr hS (fun q _ h => hF q h) hF (fun u b t H1 locs1 ht hvm hw hB hz1 hk1 hS1 => ?_)
  obtain ⟨hb, hP1, hK1, hD1⟩ := hB
  rw [ht] at hP1
  subst hb
  exact kk H1 locs1 (u_same0 hP hD is hC hk1 hP1) hS1

end UC
-- ---- words of a call
section UW
variable {R : Room} {s : State} {args : Array Value} {own C : String} {index maxL n : Nat} {y : MethodName} {bytes : ByteArray} {ret : Option FieldType} {rm : Room}
theorem gAW {c1 : Cond} (h1 : c1 ∈ AW) : GoodIn AW (c1 :: AW) := fun w hw => by
  rcases List.mem_cons.mp hw with rfl | h
  · exact ⟨h1, good_of_word (List.mem_filter.mp h1).2⟩
  · exact ⟨h, good_of_word (List.mem_filter.mp h).2⟩
/-- what is known of a method that is called on an object -/
def PV (C : String) (y : MethodName) (bytes : ByteArray) (maxL : Nat) (ret : Option FieldType) (n : Nat) : Prop := Cond.instanceMethod y ∈ AW ∧ Cond.selects C y y ∈ AW ∧ Cond.initialized C ∈ AW ∧ Cond.code y bytes maxL ret ∈ AW ∧ y.cls = C ∧ y.cls ≠ "java/lang/invoke/MethodHandle" ∧ y.cls ≠ "java/lang/invoke/VarHandle" ∧ (parseMethodDescriptor y.desc).map (fun d => d.parameters.length) = some n
/-- what is known of a static method -/
def PS (y : MethodName) (bytes : ByteArray) (maxL : Nat) (ret : Option FieldType) (n : Nat) : Prop := Cond.static y ∈ AW ∧ Cond.initialized y.cls ∈ AW ∧ Cond.code y bytes maxL ret ∈ AW ∧ y.cls ≠ "java/lang/invoke/MethodHandle" ∧ y.cls ≠ "java/lang/invoke/VarHandle" ∧ (parseMethodDescriptor y.desc).map (fun d => d.parameters.length) = some n
theorem u_cwV (ht : ∀ w ∈ AW, w.before args s = true) (hl : Cond.methodLink own index y ∈ AW) (h : PV C y bytes maxL ret n) (hR : rm.frames + 1 ≤ R.frames ∧ 8 + (maxL + 11) + rm.locals ≤ R.locals) : CallW R s args own C index y bytes maxL ret (Cond.code y bytes maxL ret :: AW) rm rm.cells rm.slots n := by
  obtain ⟨h1, h2, h3, h4, h5, h6⟩ := h
  subst h5
  exact ⟨callB_of n ht (gAW h4) rfl rfl rfl (ht _ h3) (ht _ hl) h6 hR, ht _ h1, ht _ h2⟩
theorem u_cwS (ht : ∀ w ∈ AW, w.before args s = true) (hl : Cond.methodLink own index y ∈ AW) (h : PS y bytes maxL ret n) (hR : rm.frames + 1 ≤ R.frames ∧ 8 + (maxL + 11) + rm.locals ≤ R.locals) : CallB R s args own index y bytes maxL ret (Cond.code y bytes maxL ret :: AW) rm rm.cells rm.slots n ∧ (Cond.static y).before args s = true := by
  obtain ⟨h1, h2, h3, h4⟩ := h
  exact ⟨callB_of n ht (gAW h3) rfl rfl rfl (ht _ h2) (ht _ hl) h4 hR, ht _ h1⟩
theorem u_cnS {host : String} (ht : ∀ w ∈ AW, w.before args s = true) (hN : nz s) (hl : Cond.methodLinkNest own index y host ∈ nzL) (h : PS y bytes maxL ret n) (hR : rm.frames + 1 ≤ R.frames ∧ 8 + (maxL + 11) + rm.locals ≤ R.locals) : va_CN R s args own index y host bytes maxL ret (Cond.code y bytes maxL ret :: AW) rm rm.cells rm.slots n ∧ (Cond.static y).before args s = true ∧ True := by
  obtain ⟨h1, h2, h3, h4⟩ := h
  exact ⟨va_cnB n ht (gAW h3) rfl rfl rfl (hN _ hl) (ht _ h2) h4 hR, ht _ h1, trivial⟩
theorem u_link {ref name desc host : String} (hN : nz s) (hl : Cond.fieldLinkNest own index ref name desc host ∈ nzL) : (Cond.fieldLinkNest own index ref name desc host).before args s = true := va_Nw.use rfl (hN _ hl)
end UW
-- ---- System.arraycopy, looked at
def cpk {α : Type} (sp dp n : Int32) (a b : Nat) (k : Option α) : Option α := if ¬ sp < 0 ∧ ¬ dp < 0 ∧ ¬ n < 0 ∧ sp.toNatClampNeg + n.toNatClampNeg ≤ a ∧ dp.toNatClampNeg + n.toNatClampNeg ≤ b then k else none
theorem cpk_s {α : Type} {sp dp n : Int32} {a b : Nat} {k : Option α} {o : α} (h : cpk sp dp n a b k = some o) : (¬ sp < 0 ∧ ¬ dp < 0 ∧ ¬ n < 0 ∧ sp.toNatClampNeg + n.toNatClampNeg ≤ a ∧ dp.toNatClampNeg + n.toNatClampNeg ≤ b) ∧ k = some o := by
  unfold cpk at h
  split at h
  · next hn => exact ⟨hn, h⟩
  · cases h
-- ---- grids: an outer array of n rows at r 0, r 1 ..
def gO (n : Nat) (r : Nat → Nat) : Nat → Option Nat := fun i => if i < n then some (r i) else none
def gup {α : Type} (f : Nat → Nat → α) (t : Nat) (g : Nat → α) : Nat → Nat → α := fun i => if i = t then g else f i
theorem vin_lt {i : Int32} {n : Nat} (h : vp_in i n) : i.toNatClampNeg < n := Nat.not_le.mp fun q => h (Or.inr q)
section UG
variable {p : Program} {l : Launch} {e : Env} {R : Room} {s : State} {m : MethodId} {args : Array Value} {below : List Frame} {meth : Method} {c : Code} {H : Heap} {locs : List Loc} {cells slots : Nat} {Q : State → Prop}
variable {cc : ByteArray} {pc : Nat} {ls : Array Slot} {rest : List Value} {D : va_G} {cl : List vw_C} {A : Nat → Prop} {a : Nat} {tys : List (ClassId × FieldType)} {ws : va_W} {H0 : Heap}
theorem u_aald (hexec : p.tables.exec = Jvm.exec) (hb : c.code = cc) (hK : va_K D cl tys s) (hP : va_P D cl ws H) (q0 t0 : Nat) {cA : ClassId} {ty : FieldType} {n : Nat} {r : Nat → Nat} (ha : ws[q0]? = some (a, .inl (cA, n, .inr (.inr (.inr (.inr (gO n r))))))) (ht : tys[t0]? = some (cA, .array ty)) {i : Int32} (hin : vp_in i n) (hdg : decode cc pc = .ok (.aaload, 1))
    (kk : W p l e R s m args below meth c H locs cells slots Q (F0 m (pc + 1) ls (.ref (r i.toNatClampNeg) :: rest))) : W p l e R s m args below meth c H locs cells slots Q (F0 m pc ls (.int i :: .ref a :: rest)) := by
  have hlt : i.toNatClampNeg < n := vin_lt hin
  have e1 : va_rf (gO n r i.toNatClampNeg) = .ref (r i.toNatClampNeg) := by unfold gO; rw [if_pos hlt]; rfl
  rw [← e1] at kk
  exact W.aald (v := va_rf (gO n r i.toNatClampNeg)) (ty := .array ty) hexec hb (hP q0 _ ha) ((hK.2 t0 _ ht).1 n (fun j => va_rf (gO n r j))) rfl (fun q => by cases q) (by show ¬ (i < 0 ∨ (arrV _ _ _).slots.size ≤ _); rw [arrV_size]; exact hin) (by show (arrV _ _ _).slots[_]? = _; rw [arrV_read _ _ hlt]) rfl rfl hdg kk
end UG
