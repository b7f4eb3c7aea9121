-- ===== reading: bytes and words =====
def bt (t : Nat) (T : Nat → Int32) (s : Nat) : Int32 := if s < t then T s else -1
theorem bt_y {t : Nat} (T : Nat → Int32) {s : Nat} (h : s < t) : bt t T s = T s := if_pos h
theorem bt_n {t : Nat} (T : Nat → Int32) {s : Nat} (h : t ≤ s) : bt t T s = -1 := if_neg (by omega)
theorem bt_lt {t : Nat} {T : Nat → Int32} {s : Nat} {c : Int32} (h : bt t T s = c) (hc : 0 ≤ c.toInt) : s < t := by
  rcases Nat.lt_or_ge s t with l | l
  · exact l
  · rw [bt_n T l] at h; subst h; rw [tm1] at hc; omega
theorem byteAt_c {t s : Nat} (ht : t ≤ 100) (hs : s < 2 ^ 31) (T : Nat → Int32) : fX5_byteAt (nI s) (nI t) T = some (bt t T s) := by
  unfold fX5_byteAt
  rw [if_neg (fun q => by have := (nJ_lt (k := 0) hs (by omega)).mp q; omega)]
  rcases Nat.lt_or_ge s t with l | l
  · rw [if_neg (fun q => by have := (nJ_le (by omega) hs).mp q; omega), ck_nI (by omega) (by omega), nI_clamp hs, bt_y T l]
  · rw [if_pos ((nJ_le (by omega) hs).mpr l), bt_n T l]
theorem isAt_c {t s : Nat} (ht : t ≤ 100) (hs : s ≤ t) {T T' : Nat → Int32} (hT : ∀ j, j < t → T' j = T j) {p q : Int32} (hp : 0 ≤ p.toInt) : fX9_isAt p q (nI t) (nI s) T' = some (if p.toInt ≤ (bt t T s).toInt ∧ (bt t T s).toInt ≤ q.toInt then 1 else 0) := by
  unfold fX9_isAt
  rcases Nat.lt_or_ge s t with l | l
  · rw [if_neg (fun z => by have := (nJ_le (by omega) (by omega)).mp z; omega), ck_nI (by omega) (by omega), nI_clamp (by omega), hT s l, bt_y T l, in_eq (T s) p q rfl rfl]
    rcases isIn_c (T s) p q with ⟨e, e1, e2⟩ | ⟨e, e1⟩
    · rw [e, Option.bind_some, if_neg n10, if_pos ⟨e1, e2⟩]
    · rw [e, Option.bind_some, if_pos rfl, if_neg (by omega)]
  · rw [if_pos ((nJ_le (by omega) (by omega)).mpr l), bt_n T l, if_neg (by rw [tm1]; omega)]
theorem takeByte_c {t s : Nat} (ht : t ≤ 100) (hs : s < 2 ^ 31) (T : Nat → Int32) (c : Int32) : fX5_takeByte c (nI t) (nI s) T = some (if bt t T s = c then (1, nI (s + 1)) else (0, nI s)) := by
  unfold fX5_takeByte
  rw [byteAt_c ht hs, Option.bind_some]
  by_cases q : bt t T s = c
  · rw [if_pos q, if_pos q, nI_p]
  · rw [if_neg q, if_neg q]
/-- how many of a word's signs stand there -/
def al (t : Nat) (T : Nat → Int32) : List Int32 → Nat → Nat
  | [], _ => 0
  | c :: cs, x => if bt t T x = c then al t T cs (x + 1) + 1 else 0
theorem al_le (t : Nat) (T : Nat → Int32) : ∀ (cs : List Int32) (x : Nat), al t T cs x ≤ cs.length
  | [], _ => Nat.le_refl _
  | c :: cs, x => by
    rw [al]
    have := al_le t T cs (x + 1)
    by_cases h : bt t T x = c
    · rw [if_pos h, List.length_cons]; omega
    · rw [if_neg h]; omega
theorem al_in (t : Nat) (T : Nat → Int32) : ∀ (cs : List Int32) (x : Nat), (∀ c ∈ cs, 0 ≤ c.toInt) → x ≤ t → x + al t T cs x ≤ t
  | [], _, _, h => h
  | c :: cs, x, hc, h => by
    rw [al]
    by_cases q : bt t T x = c
    · have l := bt_lt q (hc c (List.mem_cons_self ..))
      have := al_in t T cs (x + 1) (fun c h => hc c (List.mem_cons_of_mem _ h)) (by omega)
      rw [if_pos q]; omega
    · rw [if_neg q]; omega
def wd (i : Nat) : List Int32 := bytJS.getD i []
theorem wd_pos : ∀ i, i < 5 → ∀ c ∈ wd i, 0 ≤ c.toInt := by decide
theorem wd_len : ∀ i, i < 5 → lenJS.getD i 0 = (wd i).length := by decide
theorem jlen {i : Nat} (h : i < 5) : fJ_length i = some (nI (wd i).length) := by unfold fJ_length; rw [if_pos (show i < nJS from h), wd_len i h]
theorem jchar {i k : Nat} (h : i < 5) (hk : k < (wd i).length) (h5 : (wd i).length ≤ 5) : fJ_charAt i (nI k) = some ((wd i).getD k 0) := by
  unfold fJ_charAt
  rw [if_pos (show i < nJS from h), wd_len i h, ck_nI hk (by omega), nI_clamp (by omega)]
  rfl
theorem wd5 : ∀ i, i < 5 → (wd i).length ≤ 5 := by decide
theorem drop_c {α : Type} {l : List α} {k : Nat} (d : α) (h : k < l.length) : l.drop k = l.getD k d :: l.drop (k + 1) := by
  rw [List.drop_eq_getElem_cons h]
  congr 1
  rw [List.getD_eq_getElem?_getD, List.getElem?_eq_getElem h]
  rfl
theorem tk_20 (n : Nat) {t s w : Nat} (ht : t ≤ 100) (hs : s ≤ t) (hw : w < 5) (T : Nat → Int32) (K : Int32 → Int32 → Int32 → Option (Int32 × Int32)) (f : Int32) : ∀ (d i k : Nat), i + d = (wd w).length → d < k → lX5_takeKind_20 n (nI t) T K k (nI s) (nI w) w (nI i) f = jX5_takeKind_52 n K (nI s) (nI w) w (nI (i + al t T ((wd w).drop i) (s + i))) f := by
  have h5 := wd5 w hw
  intro d
  induction d with
  | zero =>
    intro i k hi hk
    obtain ⟨k, rfl⟩ : ∃ q, k = q + 1 := ⟨k - 1, by omega⟩
    rw [lX5_takeKind_20, jlen hw, Option.bind_some, if_pos ((nJ_le (by omega) (by omega)).mpr (by omega)), List.drop_eq_nil_of_le (by omega)]
    rfl
  | succ d ih =>
    intro i k hi hk
    obtain ⟨k, rfl⟩ : ∃ q, k = q + 1 := ⟨k - 1, by omega⟩
    rw [lX5_takeKind_20, jlen hw, Option.bind_some, if_neg (fun q => by have := (nJ_le (by omega) (by omega)).mp q; omega), nI_add, byteAt_c ht (by omega), Option.bind_some, jchar hw (by omega) h5, Option.bind_some, drop_c 0 (show i < (wd w).length by omega), al, nI_p]
    by_cases q : bt t T (s + i) = (wd w).getD i 0
    · rw [if_pos q, if_pos q, ih (i + 1) k (by omega) (by omega), show i + (al t T (List.drop (i + 1) (wd w)) (s + i + 1) + 1) = i + 1 + al t T (List.drop (i + 1) (wd w)) (s + (i + 1)) by rw [show s + i + 1 = s + (i + 1) by omega]; omega]
    · rw [if_neg q, if_neg q, Nat.add_zero]
def as (t : Nat) (T : Nat → Int32) (s w : Nat) : Nat := al t T (wd w) s
theorem as_le {t s w : Nat} (T : Nat → Int32) (hw : w < 5) : as t T s w ≤ 5 := Nat.le_trans (al_le t T (wd w) s) (wd5 w hw)
theorem wordOf_X : ∀ w, w < 5 → fX5_wordOf (nI w) = some w := by decide
theorem wordOf_M : ∀ w, w < 5 → fX9_wordOf (nI w) = some w := by decide
theorem tk_7 (n : Nat) (hn : 100 ≤ n) {t s w m : Nat} (ht : t ≤ 100) (hs : s ≤ t) (hm : m ≤ 5) (hw : w < 5) (T : Nat → Int32) (k : Nat) : lX5_takeKind_7 n (nI t) T (k + 1) (nI s) (nI w) (nI (s + m)) = if as t T s w = (wd w).length then some (nI w, nI (s + max m (as t T s w))) else lX5_takeKind_7 n (nI t) T k (nI s) (nI (w + 1)) (nI (s + max m (as t T s w))) := by
  have h5 := wd5 w hw
  have ha : as t T s w ≤ 5 := as_le T hw
  rw [lX5_takeKind_7, if_neg (fun q => by have := (nJ_le (j := 5) (by omega) (by omega)).mp q; omega), wordOf_X w hw, Option.bind_some, show (0 : Int32) = nI 0 from rfl, tk_20 n ht hs hw T _ _ (wd w).length 0 n (by omega) (by omega), List.drop_zero, Nat.add_zero, Nat.zero_add]
  show jX5_takeKind_52 n _ _ _ _ (nI (as t T s w)) _ = _
  unfold jX5_takeKind_52
  rw [jlen hw, Option.bind_some, nI_add, nI_p]
  have e : (if nI (s + m) < nI (s + as t T s w) then nI (s + as t T s w) else nI (s + m)) = nI (s + max m (as t T s w)) := by
    by_cases q : m < as t T s w
    · rw [if_pos ((nJ_lt (by omega) (by omega)).mpr (by omega)), Nat.max_eq_right (by omega)]
    · rw [if_neg (fun z => by have := (nJ_lt (by omega) (by omega)).mp z; omega), Nat.max_eq_left (by omega)]
  rw [e]
  by_cases q : as t T s w = (wd w).length
  · rw [if_pos q, if_pos (by rw [q])]
  · rw [if_neg q, if_neg (fun z => q ((nJ_eq (by omega) (by omega)).mp z))]
theorem tk_end (n : Nat) {t : Nat} (T : Nat → Int32) (k : Nat) (s f : Int32) : lX5_takeKind_7 n (nI t) T (k + 1) s (nI 5) f = some (5, f) := by
  rw [lX5_takeKind_7, if_pos (by decide)]
/-- the class's search for a word, by how much of each stands there -/
def pk (a : Nat → Nat) : Nat → Nat → Nat → Nat × Nat
  | 0, _, m => (5, m)
  | k + 1, w, m => if a w = (wd w).length then (w, max m (a w)) else pk a k (w + 1) (max m (a w))
theorem takeKind_l (n : Nat) (hn : 100 ≤ n) {t s : Nat} (ht : t ≤ 100) (hs : s ≤ t) (T : Nat → Int32) : ∀ (d w m k : Nat), w + d = 5 → d < k → m ≤ 5 → lX5_takeKind_7 n (nI t) T k (nI s) (nI w) (nI (s + m)) = some (nI (pk (as t T s) d w m).1, nI (s + (pk (as t T s) d w m).2)) := by
  intro d
  induction d with
  | zero =>
    intro w m k hw hk _
    obtain ⟨k, rfl⟩ : ∃ q, k = q + 1 := ⟨k - 1, by omega⟩
    have : w = 5 := by omega
    subst this
    rw [tk_end]
    rfl
  | succ d ih =>
    intro w m k hw hk hm
    obtain ⟨k, rfl⟩ : ∃ q, k = q + 1 := ⟨k - 1, by omega⟩
    have ha : as t T s w ≤ 5 := as_le T (show w < 5 by omega)
    rw [tk_7 n hn ht hs hm (by omega) T k, pk]
    by_cases q : as t T s w = (wd w).length
    · rw [if_pos q, if_pos q]
    · rw [if_neg q, if_neg q]
      exact ih (w + 1) _ k (by omega) (by omega) (by omega)
theorem takeKind_c {n : Nat} (hn : 100 ≤ n) {t s : Nat} (ht : t ≤ 100) (hs : s ≤ t) (T : Nat → Int32) : fX5_takeKind n (nI t) (nI s) T = some (nI (pk (as t T s) 5 0 0).1, nI (s + (pk (as t T s) 5 0 0).2)) := takeKind_l n hn ht hs T 5 0 0 n (by omega) (by omega) (by omega)
theorem bg_7 (n : Nat) {t s w : Nat} (ht : t ≤ 100) (hs : s ≤ t) (hw : w < 5) {T T' : Nat → Int32} (hT : ∀ j, j < t → T' j = T j) : ∀ (d i k : Nat), i + d = (wd w).length → d < k → lX9_begun_7 n (nI t) (nI s) T' k w (nI i) = some (nI (i + al t T ((wd w).drop i) (s + i))) := by
  have h5 := wd5 w hw
  intro d
  induction d with
  | zero =>
    intro i k hi hk
    obtain ⟨k, rfl⟩ : ∃ q, k = q + 1 := ⟨k - 1, by omega⟩
    rw [lX9_begun_7, jlen hw, Option.bind_some, if_pos ((nJ_le (by omega) (by omega)).mpr (by omega)), List.drop_eq_nil_of_le (by omega)]
    rfl
  | succ d ih =>
    intro i k hi hk
    obtain ⟨k, rfl⟩ : ∃ q, k = q + 1 := ⟨k - 1, by omega⟩
    rw [lX9_begun_7, jlen hw, Option.bind_some, if_neg (fun q => by have := (nJ_le (by omega) (by omega)).mp q; omega), nI_add, drop_c 0 (show i < (wd w).length by omega), al, nI_p]
    rcases Nat.lt_or_ge (s + i) t with l | l
    · rw [if_neg (fun q => by have := (nJ_le (by omega) (by omega)).mp q; omega), ck_nI (by omega) (by omega), jchar hw (by omega) h5, Option.bind_some, nI_clamp (by omega), hT _ l, bt_y T l]
      by_cases q : T (s + i) = (wd w).getD i 0
      · rw [if_pos q, if_pos q, ih (i + 1) k (by omega) (by omega), show i + (al t T (List.drop (i + 1) (wd w)) (s + i + 1) + 1) = i + 1 + al t T (List.drop (i + 1) (wd w)) (s + (i + 1)) by rw [show s + i + 1 = s + (i + 1) by omega]; omega]
      · rw [if_neg q, if_neg q, Nat.add_zero]
    · rw [if_pos ((nJ_le (by omega) (by omega)).mpr l), bt_n T l]
      have hc : 0 ≤ ((wd w).getD i 0).toInt := by
        have := wd_pos w hw ((wd w).getD i 0) (by rw [List.getD_eq_getElem?_getD, List.getElem?_eq_getElem (show i < (wd w).length by omega)]; exact List.getElem_mem _)
        exact this
      rw [if_neg (fun z => by rw [← z, tm1] at hc; omega), Nat.add_zero]
theorem begun_c {n : Nat} (hn : 100 ≤ n) {t s w : Nat} (ht : t ≤ 100) (hs : s ≤ t) (hw : w < 5) {T T' : Nat → Int32} (hT : ∀ j, j < t → T' j = T j) : fX9_begun n (nI w) (nI t) (nI s) T' = some (nI (as t T s w)) := by
  unfold fX9_begun
  have h5 := wd5 w hw
  have e := bg_7 n ht hs hw hT (wd w).length 0 n (by omega) (by omega)
  rw [List.drop_zero, Nat.add_zero, Nat.zero_add] at e
  rw [wordOf_M w hw, Option.bind_some]
  exact e
/-- the reference's search -/
def pw (a : Nat → Nat) : Nat → Nat → Nat → Nat
  | 0, b, _ => b
  | k + 1, b, w => if a w ≤ a b then pw a k b (w + 1) else pw a k w (w + 1)
theorem pw_lt (a : Nat → Nat) : ∀ (k b w : Nat), b < 5 → w + k = 5 → pw a k b w < 5
  | 0, b, _, h, _ => h
  | k + 1, b, w, h, hw => by
    rw [pw]
    by_cases q : a w ≤ a b
    · rw [if_pos q]; exact pw_lt a k b (w + 1) h (by omega)
    · rw [if_neg q]; exact pw_lt a k w (w + 1) (by omega) (by omega)
theorem takesWord_l (n : Nat) (hn : 100 ≤ n) {t s c : Nat} (ht : t ≤ 100) (hs : s ≤ t) (hc : c < 12) {T T' : Nat → Int32} (hT : ∀ j, j < t → T' j = T j) (W : Nat → Int32) : ∀ (d w b k : Nat), w + d = 5 → b < 5 → d < k → lX9_takesWord_4 n (nI t) (nI c) T' k (nI b) (nI w) (nI s) W = some (if as t T s (pw (as t T s) d b w) = (wd (pw (as t T s) d b w)).length then 1 else 0, nI (s + as t T s (pw (as t T s) d b w)), upd W c (nI (pw (as t T s) d b w))) := by
  intro d
  induction d with
  | zero =>
    intro w b k hw hb hk
    obtain ⟨k, rfl⟩ : ∃ q, k = q + 1 := ⟨k - 1, by omega⟩
    have ha : as t T s b ≤ 5 := as_le T hb
    have h5 := wd5 b hb
    have : w = 5 := by omega
    subst this
    rw [lX9_takesWord_4, if_pos (by decide), ck_nI hc (by omega), begun_c hn ht hs hb hT, Option.bind_some, wordOf_M b hb, Option.bind_some, jlen hb, Option.bind_some, nI_add, nI_clamp (by omega)]
    show _ = some (if as t T s b = (wd b).length then 1 else 0, nI (s + as t T s b), upd W c (nI b))
    by_cases q : as t T s b = (wd b).length
    · rw [if_pos q, if_pos (by rw [q])]
    · rw [if_neg q, if_neg (fun z => q ((nJ_eq (by omega) (by omega)).mp z))]
  | succ d ih =>
    intro w b k hw hb hk
    obtain ⟨k, rfl⟩ : ∃ q, k = q + 1 := ⟨k - 1, by omega⟩
    have ha : as t T s b ≤ 5 := as_le T hb
    have hb2 : as t T s w ≤ 5 := as_le T (show w < 5 by omega)
    rw [lX9_takesWord_4, if_neg (fun q => by have := (nJ_le (j := 5) (by omega) (by omega)).mp q; omega), begun_c hn ht hs (show w < 5 by omega) hT, Option.bind_some, begun_c hn ht hs hb hT, Option.bind_some, nI_p, pw]
    by_cases q : as t T s w ≤ as t T s b
    · rw [if_pos q, if_pos ((nJ_le (by omega) (by omega)).mpr q)]
      exact ih (w + 1) b k (by omega) hb (by omega)
    · rw [if_neg q, if_neg (fun z => q ((nJ_le (by omega) (by omega)).mp z))]
      exact ih (w + 1) w k (by omega) (by omega) (by omega)
theorem takesWord_c {n : Nat} (hn : 100 ≤ n) {t s c : Nat} (ht : t ≤ 100) (hs : s ≤ t) (hc : c < 12) {T T' : Nat → Int32} (hT : ∀ j, j < t → T' j = T j) (W : Nat → Int32) : fX9_takesWord n (nI t) (nI s) (nI c) T' W = some (if as t T s (pw (as t T s) 4 0 1) = (wd (pw (as t T s) 4 0 1)).length then 1 else 0, nI (s + as t T s (pw (as t T s) 4 0 1)), upd W c (nI (pw (as t T s) 4 0 1))) := takesWord_l n hn ht hs hc hT W 4 1 0 n (by omega) (by omega) (by omega)
-- the two searches agree
def wA (a0 a1 a2 a3 a4 : Nat) (w : Nat) : Nat := [a0, a1, a2, a3, a4].getD w 0
def wOk (a0 a1 a2 a3 a4 : Nat) : Bool := (a0 == 0 || (a1 == 0 && a2 == 0 && a3 == 0 && a4 == 0)) && (a1 == 0 || (a0 == 0 && a2 == 0 && a3 == 0 && a4 == 0)) && (a3 == 0 || (a0 == 0 && a1 == 0 && a2 == 0 && a4 == 0)) && ((decide (a2 ≤ 1)) || (decide (a4 ≤ 1)))
def wSame (a : Nat → Nat) : Bool := ((pk a 5 0 0).2 == a (pw a 4 0 1)) && (if (pk a 5 0 0).1 = 5 then !(a (pw a 4 0 1) == (wd (pw a 4 0 1)).length) else ((pk a 5 0 0).1 == pw a 4 0 1 && (a (pw a 4 0 1) == (wd (pw a 4 0 1)).length)))
theorem wSame_all : ((List.range 6).all fun a0 => (List.range 3).all fun a1 => (List.range 5).all fun a2 => (List.range 5).all fun a3 => (List.range 5).all fun a4 => !wOk a0 a1 a2 a3 a4 || wSame (wA a0 a1 a2 a3 a4)) = true := by decide +kernel
theorem as_eq (t : Nat) (T : Nat → Int32) (s : Nat) : as t T s = wA (as t T s 0) (as t T s 1) (as t T s 2) (as t T s 3) (as t T s 4) := by
  funext w
  match w with
  | 0 => rfl
  | 1 => rfl
  | 2 => rfl
  | 3 => rfl
  | 4 => rfl
  | n + 5 => rfl
theorem al_0 {t x : Nat} {T : Nat → Int32} {c : Int32} (cs : List Int32) (h : bt t T x ≠ c) : al t T (c :: cs) x = 0 := if_neg h
theorem al_1 {t x : Nat} {T : Nat → Int32} {c d : Int32} (cs : List Int32) (h : bt t T (x + 1) ≠ d) : al t T (c :: d :: cs) x ≤ 1 := by
  rw [al, al_0 cs h]
  split <;> omega
theorem as_ok (t : Nat) (T : Nat → Int32) (s : Nat) : wOk (as t T s 0) (as t T s 1) (as t T s 2) (as t T s 3) (as t T s 4) = true := by
  have z0 : bt t T s ≠ 116 → as t T s 0 = 0 := fun h => al_0 [97, 98, 108, 101] h
  have z1 : bt t T s ≠ 97 → as t T s 1 = 0 := fun h => al_0 [116] h
  have z2 : bt t T s ≠ 119 → as t T s 2 = 0 := fun h => al_0 [111, 114, 100] h
  have z3 : bt t T s ≠ 110 → as t T s 3 = 0 := fun h => al_0 [111, 116, 101] h
  have z4 : bt t T s ≠ 119 → as t T s 4 = 0 := fun h => al_0 [105, 112, 101] h
  have y : as t T s 2 ≤ 1 ∨ as t T s 4 ≤ 1 := by
    by_cases h : bt t T (s + 1) = 111
    · exact Or.inr (al_1 (c := 119) [112, 101] (by rw [h]; decide))
    · exact Or.inl (al_1 (c := 119) [114, 100] h)
  unfold wOk
  by_cases h0 : bt t T s = 116
  · rw [z1 (by rw [h0]; decide), z2 (by rw [h0]; decide), z3 (by rw [h0]; decide), z4 (by rw [h0]; decide)]; simp
  · rw [z0 h0]
    by_cases h1 : bt t T s = 97
    · rw [z2 (by rw [h1]; decide), z3 (by rw [h1]; decide), z4 (by rw [h1]; decide)]; simp
    · rw [z1 h1]
      by_cases h3 : bt t T s = 110
      · rw [z2 (by rw [h3]; decide), z4 (by rw [h3]; decide)]; simp
      · rw [z3 h3]
        rcases y with y | y
        · rw [decide_eq_true y]; simp
        · rw [decide_eq_true y]; simp
theorem as_same (t : Nat) (T : Nat → Int32) (s : Nat) : wSame (as t T s) = true := by
  have h0 : as t T s 0 ≤ 5 := al_le t T (wd 0) s
  have h1 : as t T s 1 ≤ 2 := al_le t T (wd 1) s
  have h2 : as t T s 2 ≤ 4 := al_le t T (wd 2) s
  have h3 : as t T s 3 ≤ 4 := al_le t T (wd 3) s
  have h4 : as t T s 4 ≤ 4 := al_le t T (wd 4) s
  have h := all_range (all_range (all_range (all_range (all_range wSame_all (show as t T s 0 < 6 by omega)) (show as t T s 1 < 3 by omega)) (show as t T s 2 < 5 by omega)) (show as t T s 3 < 5 by omega)) (show as t T s 4 < 5 by omega)
  rw [as_ok t T s] at h
  rw [as_eq]
  exact h
theorem pkn_le (a : Nat → Nat) : ∀ (k w m : Nat), w + k = 5 → (pk a k w m).1 ≤ 5
  | 0, _, _, _ => Nat.le_refl _
  | k + 1, w, m, h => by
    rw [pk]
    by_cases q : a w = (wd w).length
    · rw [if_pos q]; show w ≤ 5; omega
    · rw [if_neg q]; exact pkn_le a k (w + 1) _ (by omega)
/-- both find the same word, or both none, and come as far -/
theorem rkind_c {n : Nat} (hn : 100 ≤ n) {t s c : Nat} (ht : t ≤ 100) (hs : s ≤ t) (hc : c < 12) {T T' : Nat → Int32} (hT : ∀ j, j < t → T' j = T j) (W : Nat → Int32) : ∃ k m b, k ≤ 5 ∧ s + m ≤ t ∧ b < 5 ∧ fX5_takeKind n (nI t) (nI s) T = some (nI k, nI (s + m)) ∧ fX9_takesWord n (nI t) (nI s) (nI c) T' W = some (if k = 5 then 0 else 1, nI (s + m), upd W c (nI b)) ∧ (k < 5 → b = k) := by
  have h := as_same t T s
  have hb := pw_lt (as t T s) 4 0 1 (by omega) (by omega)
  have hk := pkn_le (as t T s) 5 0 0 (by omega)
  have hm : s + as t T s (pw (as t T s) 4 0 1) ≤ t := al_in t T _ s (wd_pos _ hb) hs
  unfold wSame at h
  rw [Bool.and_eq_true, beq_iff_eq] at h
  refine ⟨(pk (as t T s) 5 0 0).1, (pk (as t T s) 5 0 0).2, pw (as t T s) 4 0 1, hk, by rw [h.1]; exact hm, hb, takeKind_c hn ht hs T, ?_, ?_⟩
  · rw [takesWord_c hn ht hs hc hT W, h.1]
    by_cases q : (pk (as t T s) 5 0 0).1 = 5
    · have h2 := h.2
      rw [if_pos q, Bool.not_eq_true', beq_eq_false_iff_ne] at h2
      rw [if_pos q, if_neg h2]
    · have h2 := h.2
      rw [if_neg q, Bool.and_eq_true, beq_iff_eq, beq_iff_eq] at h2
      rw [if_neg q, if_pos h2.2]
  · intro q
    have h2 := h.2
    rw [if_neg (by omega), Bool.and_eq_true, beq_iff_eq, beq_iff_eq] at h2
    exact h2.1.symm
