section JP
variable {G : jG} {X : jX} {μ : jM} {ws : va_W} {k n pc p2 : Nat} {lv : List (Nat × Value)} {st : List Value}
theorem J.topi {x y : Int32} (e : x = y) (h : J G X μ ws k n pc lv (.int y :: st)) : J G X μ ws k n pc lv (.int x :: st) := e ▸ h
theorem J.topl {x y : Int64} (e : x = y) (h : J G X μ ws k n pc lv (.long y :: st)) : J G X μ ws k n pc lv (.long x :: st) := e ▸ h
theorem J.world {w2 : va_W} (e : ws = w2) (h : J G X μ w2 k n pc lv st) : J G X μ ws k n pc lv st := e ▸ h
theorem J.lveq {l2 : List (Nat × Value)} (e : lv = l2) (h : J G X μ ws k n pc l2 st) : J G X μ ws k n pc lv st := e ▸ h
end JP
theorem jinc1 (a : Nat) : nI a + Int32.ofInt 1 = nI (a + 1) := nI_1 a
theorem jincn (a b : Nat) : nI a + Int32.ofInt (b : Int) = nI (a + b) := by
  rw [← nI_add]
  congr 1
theorem jdec1 (a : Nat) : nI (a + 1) + Int32.ofInt (-1) = nI a := pk_m1 a
theorem jc_eq_t {x y : Int64} (h : lg_cmp x y = 0) : x = y := (lg_cmp_eq x y).mp h
theorem jc_eq_f {x y : Int64} (h : ¬ lg_cmp x y = 0) : ¬ x = y := fun z => h ((lg_cmp_eq x y).mpr z)
theorem jc_ne_t {x y : Int64} (h : ¬ lg_cmp x y = 0) : ¬ x = y := fun z => h ((lg_cmp_eq x y).mpr z)
theorem jc_ne_f {x y : Int64} (h : lg_cmp x y = 0) : x = y := (lg_cmp_eq x y).mp h
theorem jc_lt_t {x y : Int64} (h : lg_cmp x y < 0) : x < y := (lg_cmp_lt x y).mp h
theorem jc_lt_f {x y : Int64} (h : ¬ lg_cmp x y < 0) : ¬ x < y := fun z => h ((lg_cmp_lt x y).mpr z)
theorem jc_ge_t {x y : Int64} (h : 0 ≤ lg_cmp x y) : y ≤ x := (lg_cmp_ge x y).mp h
theorem jc_ge_f {x y : Int64} (h : ¬ 0 ≤ lg_cmp x y) : ¬ y ≤ x := fun z => h ((lg_cmp_ge x y).mpr z)
theorem jc_gt_t {x y : Int64} (h : 0 < lg_cmp x y) : y < x := (lg_cmp_gt x y).mp h
theorem jc_gt_f {x y : Int64} (h : ¬ 0 < lg_cmp x y) : ¬ y < x := fun z => h ((lg_cmp_gt x y).mpr z)
theorem jc_le_t {x y : Int64} (h : lg_cmp x y ≤ 0) : x ≤ y := (lg_cmp_le x y).mp h
theorem jc_le_f {x y : Int64} (h : ¬ lg_cmp x y ≤ 0) : ¬ x ≤ y := fun z => h ((lg_cmp_le x y).mpr z)
/-- put into a row that is by size: what stands behind comes one place on -/
def insA (f : Nat → Int32) (v : Int32) : Nat → Nat → Int32
  | 0 => upd f 0 v
  | p + 1 => if f p ≤ v then upd f (p + 1) v else insA (upd f (p + 1) (f p)) v p
abbrev iA (G : jG) (a n : Nat) (f : Nat → Int32) : Nat × va_E := (a, .inl (G.2.1.1, n, .inl f))
abbrev zA (G : jG) (a n : Nat) (f : Nat → Int32) : Nat × va_E := (a, .inl (G.2.1.2.1, n, .inl f))
abbrev oX0 (a b : Nat) (sz : Int32) : Nat × va_E := (a, .inr (0, [.ref b, .int sz]))
abbrev oX1 (a t u : Nat) (sz : Int32) : Nat × va_E := (a, .inr (1, [.ref t, .ref u, .int sz]))
abbrev oX3 (a p q s : Nat) : Nat × va_E := (a, .inr (3, [.ref p, .ref q, .ref s]))
abbrev oX4 (a t : Nat) (sz : Int32) : Nat × va_E := (a, .inr (4, [.ref t, .int sz]))
abbrev oX5 (a : Nat) (w lo hi c : Int32) : Nat × va_E := (a, .inr (5, [.int w, .int lo, .int hi, .int c]))
