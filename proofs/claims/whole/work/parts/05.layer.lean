/-! THE JUDGEMENT J: at method μ, world ws, place pc, locals lv, stack st, the machine comes to its end -/
def cls9 : List vw_C := [(RX0, TX0, 2), (RX1, TX1, 3), (RX2, TX2, 9), (RX3, TX3, 3), (RX4, TX4, 2), (RX5, TX5, 4), (RX6, TX6, 4), (RX7, TX7, 17), (RX8, TX8, 26)]
def gt : List Cond := lw_tbl.filter goodWord
def jisN : Cond → Bool
  | .fieldLinkNest .. => true
  | .methodLinkNest .. => true
  | _ => false
def nt : List Cond := lw_tbl.filter jisN
theorem gt_of {w : Cond} (h : w ∈ lw_tbl) (g : goodWord w = true) : w ∈ gt := List.mem_filter.mpr ⟨h, g⟩
theorem nt_of {w : Cond} (h : w ∈ lw_tbl) (g : jisN w = true) : w ∈ nt := List.mem_filter.mpr ⟨h, g⟩
theorem gt_good : GoodIn gt gt := fun _ h => ⟨h, good_of_word (List.mem_filter.mp h).2⟩
abbrev jG : Type := va_G × (ClassId × ClassId × ClassId × ClassId) × Nat
def jtys (G : jG) : List (ClassId × FieldType) := [(G.2.1.1, .int), (G.2.1.2.1, .boolean), (G.2.1.2.2.1, .object RX6), (G.2.1.2.2.2, .object RX5)]
def jA (G : jG) : Nat → Prop := fun q => G.2.2 ≤ q
def jH (G : jG) (ws : va_W) (H : Heap) : Prop := va_P G.1 cls9 ws H ∧ va_D (jA G) ws
def jN (U : State) : Prop := (∀ w ∈ nt, va_Nw w U) ∧ va_AO RX6 U ∧ va_AO RX5 U
def jK (G : jG) (U : State) : Prop := va_K G.1 cls9 (jtys G) U ∧ jN U
theorem jN.warm {s U : State} (hW : s.WarmedH U.vm) (h : jN s) : jN U := by
  refine ⟨fun w hw => ?_, va_AO.moved hW.alike h.2.1, va_AO.moved hW.alike h.2.2⟩
  have h1 := h.1 w hw
  have h2 := (List.mem_filter.mp hw).2
  cases w <;> first | exact va_Nw.warmF hW h1 | exact va_Nw.warmM hW h1 | (simp [jisN] at h2)
theorem jK.warm {G : jG} {s U : State} (hW : s.WarmedH U.vm) (h : jK G s) : jK G U := ⟨va_K.moved hW.alike h.1, h.2.warm hW⟩
abbrev jX : Type := Program × Launch × Env × Room × State × MethodId × Array Value × List Frame × Method × Code × (State → Prop)
def jC (G : jG) (X : jX) (μ : jM) : Prop := match X, μ with
  | (p, _, _, _, s, m, args, _, meth, c, _), (own, cc, nL, ret) => p.tables.exec = Jvm.exec ∧ c.code = cc ∧ c.maxLocals = nL ∧ s.vm.findClass own = some m.cls ∧ (∀ w ∈ gt, w.before args s = true) ∧ jK G s ∧ meth.sig.returnType = ret ∧ meth.locks = false ∧ G.2.2 ≤ s.heap.size
def J (G : jG) (X : jX) (μ : jM) (ws : va_W) (k n pc : Nat) (lv : List (Nat × Value)) (st : List Value) : Prop := match X with
  | (p, l, e, R, s, m, args, below, meth, c, Q) => jC G X μ → ∀ (H : Heap) (locs : List Loc) (ls : Array Slot), jH G ws H → va_S (jA G) s.heap H locs → lv_has ls μ.2.2.1 lv → W p l e R s m args below meth c H locs k n Q (F0 m pc ls st)
section JR
variable {G : jG} {X : jX} {μ : jM} {ws : va_W} {k n pc p2 : Nat} {lv : List (Nat × Value)} {st : List Value}
theorem J.iadd {x y : Int32} (d : jd μ.2.1 pc .iadd 1 p2)  (h : J G X μ ws k n p2 lv (.int (x + y) :: st)) : J G X μ ws k n pc lv (.int y :: .int x :: st) := by
  obtain ⟨p, l, e, R, s, m, args, below, meth, c, Q⟩ := X
  obtain ⟨own, cc, nL, ret⟩ := μ
  obtain ⟨d, rfl⟩ := d
  intro C H locs ls hW hS hl
  exact lv_iadd C.1 C.2.1 d (h C H locs ls hW hS hl)
theorem J.isub {x y : Int32} (d : jd μ.2.1 pc .isub 1 p2)  (h : J G X μ ws k n p2 lv (.int (x - y) :: st)) : J G X μ ws k n pc lv (.int y :: .int x :: st) := by
  obtain ⟨p, l, e, R, s, m, args, below, meth, c, Q⟩ := X
  obtain ⟨own, cc, nL, ret⟩ := μ
  obtain ⟨d, rfl⟩ := d
  intro C H locs ls hW hS hl
  exact lv_isub C.1 C.2.1 d (h C H locs ls hW hS hl)
theorem J.imul {x y : Int32} (d : jd μ.2.1 pc .imul 1 p2)  (h : J G X μ ws k n p2 lv (.int (x * y) :: st)) : J G X μ ws k n pc lv (.int y :: .int x :: st) := by
  obtain ⟨p, l, e, R, s, m, args, below, meth, c, Q⟩ := X
  obtain ⟨own, cc, nL, ret⟩ := μ
  obtain ⟨d, rfl⟩ := d
  intro C H locs ls hW hS hl
  exact lv_imul C.1 C.2.1 d (h C H locs ls hW hS hl)
theorem J.iand {x y : Int32} (d : jd μ.2.1 pc .iand 1 p2)  (h : J G X μ ws k n p2 lv (.int (x &&& y) :: st)) : J G X μ ws k n pc lv (.int y :: .int x :: st) := by
  obtain ⟨p, l, e, R, s, m, args, below, meth, c, Q⟩ := X
  obtain ⟨own, cc, nL, ret⟩ := μ
  obtain ⟨d, rfl⟩ := d
  intro C H locs ls hW hS hl
  exact lv_iand C.1 C.2.1 d (h C H locs ls hW hS hl)
theorem J.ior {x y : Int32} (d : jd μ.2.1 pc .ior 1 p2)  (h : J G X μ ws k n p2 lv (.int (x ||| y) :: st)) : J G X μ ws k n pc lv (.int y :: .int x :: st) := by
  obtain ⟨p, l, e, R, s, m, args, below, meth, c, Q⟩ := X
  obtain ⟨own, cc, nL, ret⟩ := μ
  obtain ⟨d, rfl⟩ := d
  intro C H locs ls hW hS hl
  exact lv_ior C.1 C.2.1 d (h C H locs ls hW hS hl)
theorem J.ixor {x y : Int32} (d : jd μ.2.1 pc .ixor 1 p2)  (h : J G X μ ws k n p2 lv (.int (x ^^^ y) :: st)) : J G X μ ws k n pc lv (.int y :: .int x :: st) := by
  obtain ⟨p, l, e, R, s, m, args, below, meth, c, Q⟩ := X
  obtain ⟨own, cc, nL, ret⟩ := μ
  obtain ⟨d, rfl⟩ := d
  intro C H locs ls hW hS hl
  exact lv_ixor C.1 C.2.1 d (h C H locs ls hW hS hl)
theorem J.ishl {x y : Int32} (d : jd μ.2.1 pc .ishl 1 p2)  (h : J G X μ ws k n p2 lv (.int (x <<< (y &&& 31)) :: st)) : J G X μ ws k n pc lv (.int y :: .int x :: st) := by
  obtain ⟨p, l, e, R, s, m, args, below, meth, c, Q⟩ := X
  obtain ⟨own, cc, nL, ret⟩ := μ
  obtain ⟨d, rfl⟩ := d
  intro C H locs ls hW hS hl
  exact lv_ishl C.1 C.2.1 d (h C H locs ls hW hS hl)
theorem J.ladd {x y : Int64} (d : jd μ.2.1 pc .ladd 1 p2)  (h : J G X μ ws k n p2 lv (.long (x + y) :: st)) : J G X μ ws k n pc lv (.long y :: .long x :: st) := by
  obtain ⟨p, l, e, R, s, m, args, below, meth, c, Q⟩ := X
  obtain ⟨own, cc, nL, ret⟩ := μ
  obtain ⟨d, rfl⟩ := d
  intro C H locs ls hW hS hl
  exact lv_ladd C.1 C.2.1 d (h C H locs ls hW hS hl)
theorem J.lsub {x y : Int64} (d : jd μ.2.1 pc .lsub 1 p2)  (h : J G X μ ws k n p2 lv (.long (x - y) :: st)) : J G X μ ws k n pc lv (.long y :: .long x :: st) := by
  obtain ⟨p, l, e, R, s, m, args, below, meth, c, Q⟩ := X
  obtain ⟨own, cc, nL, ret⟩ := μ
  obtain ⟨d, rfl⟩ := d
  intro C H locs ls hW hS hl
  exact lv_lsub C.1 C.2.1 d (h C H locs ls hW hS hl)
theorem J.lmul {x y : Int64} (d : jd μ.2.1 pc .lmul 1 p2)  (h : J G X μ ws k n p2 lv (.long (x * y) :: st)) : J G X μ ws k n pc lv (.long y :: .long x :: st) := by
  obtain ⟨p, l, e, R, s, m, args, below, meth, c, Q⟩ := X
  obtain ⟨own, cc, nL, ret⟩ := μ
  obtain ⟨d, rfl⟩ := d
  intro C H locs ls hW hS hl
  exact lv_lmul C.1 C.2.1 d (h C H locs ls hW hS hl)
theorem J.idiv {x y : Int32} (d : jd μ.2.1 pc .idiv 1 p2) (hne : ¬ y = 0) (h : J G X μ ws k n p2 lv (.int (x / y) :: st)) : J G X μ ws k n pc lv (.int y :: .int x :: st) := by
  obtain ⟨p, l, e, R, s, m, args, below, meth, c, Q⟩ := X
  obtain ⟨own, cc, nL, ret⟩ := μ
  obtain ⟨d, rfl⟩ := d
  intro C H locs ls hW hS hl
  exact lv_idiv C.1 C.2.1 d hne (h C H locs ls hW hS hl)
theorem J.irem {x y : Int32} (d : jd μ.2.1 pc .irem 1 p2) (hne : ¬ y = 0) (h : J G X μ ws k n p2 lv (.int (x - x / y * y) :: st)) : J G X μ ws k n pc lv (.int y :: .int x :: st) := by
  obtain ⟨p, l, e, R, s, m, args, below, meth, c, Q⟩ := X
  obtain ⟨own, cc, nL, ret⟩ := μ
  obtain ⟨d, rfl⟩ := d
  intro C H locs ls hW hS hl
  exact lv_irem C.1 C.2.1 d hne (h C H locs ls hW hS hl)
theorem J.ldiv {x y : Int64} (d : jd μ.2.1 pc .ldiv 1 p2) (hne : ¬ y = 0) (h : J G X μ ws k n p2 lv (.long (x / y) :: st)) : J G X μ ws k n pc lv (.long y :: .long x :: st) := by
  obtain ⟨p, l, e, R, s, m, args, below, meth, c, Q⟩ := X
  obtain ⟨own, cc, nL, ret⟩ := μ
  obtain ⟨d, rfl⟩ := d
  intro C H locs ls hW hS hl
  exact lv_ldiv C.1 C.2.1 d hne (h C H locs ls hW hS hl)
theorem J.ineg {x : Int32} (d : jd μ.2.1 pc .ineg 1 p2)  (h : J G X μ ws k n p2 lv (.int (-x) :: st)) : J G X μ ws k n pc lv (.int x :: st) := by
  obtain ⟨p, l, e, R, s, m, args, below, meth, c, Q⟩ := X
  obtain ⟨own, cc, nL, ret⟩ := μ
  obtain ⟨d, rfl⟩ := d
  intro C H locs ls hW hS hl
  exact lv_ineg C.1 C.2.1 d (h C H locs ls hW hS hl)
theorem J.i2l {x : Int32} (d : jd μ.2.1 pc .i2l 1 p2)  (h : J G X μ ws k n p2 lv (.long x.toInt64 :: st)) : J G X μ ws k n pc lv (.int x :: st) := by
  obtain ⟨p, l, e, R, s, m, args, below, meth, c, Q⟩ := X
  obtain ⟨own, cc, nL, ret⟩ := μ
  obtain ⟨d, rfl⟩ := d
  intro C H locs ls hW hS hl
  exact lv_i2l C.1 C.2.1 d rfl (h C H locs ls hW hS hl)
theorem J.lcmp {x y : Int64} (d : jd μ.2.1 pc .lcmp 1 p2)  (h : J G X μ ws k n p2 lv (.int (lg_cmp x y) :: st)) : J G X μ ws k n pc lv (.long y :: .long x :: st) := by
  obtain ⟨p, l, e, R, s, m, args, below, meth, c, Q⟩ := X
  obtain ⟨own, cc, nL, ret⟩ := μ
  obtain ⟨d, rfl⟩ := d
  intro C H locs ls hW hS hl
  exact W.lcmp C.1 C.2.1 d (h C H locs ls hW hS hl)
theorem J.iconst {z : Int} (v : Int32) (d : jd μ.2.1 pc (.iconst z) 1 p2) (hv : Int32.ofInt z = v) (h : J G X μ ws k n p2 lv (.int v :: st)) : J G X μ ws k n pc lv (st) := by
  obtain ⟨p, l, e, R, s, m, args, below, meth, c, Q⟩ := X
  obtain ⟨own, cc, nL, ret⟩ := μ
  obtain ⟨d, rfl⟩ := d
  intro C H locs ls hW hS hl
  exact lv_iconst C.1 C.2.1 d hv (h C H locs ls hW hS hl)
theorem J.bipush {z : Int} (v : Int32) (d : jd μ.2.1 pc (.bipush z) 2 p2) (hv : (Int8.ofInt z).toInt32 = v) (h : J G X μ ws k n p2 lv (.int v :: st)) : J G X μ ws k n pc lv (st) := by
  obtain ⟨p, l, e, R, s, m, args, below, meth, c, Q⟩ := X
  obtain ⟨own, cc, nL, ret⟩ := μ
  obtain ⟨d, rfl⟩ := d
  intro C H locs ls hW hS hl
  exact lv_bipush C.1 C.2.1 d hv (h C H locs ls hW hS hl)
theorem J.sipush {z : Int} (v : Int32) (d : jd μ.2.1 pc (.sipush z) 3 p2) (hv : (Int16.ofInt z).toInt32 = v) (h : J G X μ ws k n p2 lv (.int v :: st)) : J G X μ ws k n pc lv (st) := by
  obtain ⟨p, l, e, R, s, m, args, below, meth, c, Q⟩ := X
  obtain ⟨own, cc, nL, ret⟩ := μ
  obtain ⟨d, rfl⟩ := d
  intro C H locs ls hW hS hl
  exact lv_sipush C.1 C.2.1 d hv (h C H locs ls hW hS hl)
theorem J.lconst {z : Fin 2} (v : Int64) (d : jd μ.2.1 pc (.lconst z) 1 p2) (hv : Int64.ofNat (z : Nat) = v) (h : J G X μ ws k n p2 lv (.long v :: st)) : J G X μ ws k n pc lv (st) := by
  obtain ⟨p, l, e, R, s, m, args, below, meth, c, Q⟩ := X
  obtain ⟨own, cc, nL, ret⟩ := μ
  obtain ⟨d, rfl⟩ := d
  intro C H locs ls hW hS hl
  exact lv_lconst C.1 C.2.1 d hv (h C H locs ls hW hS hl)
theorem J.ldc2 {ix : Nat} {v : Int64} (d : jd μ.2.1 pc (.ldc2_w ix) 3 p2) (hw : Cond.constantLong μ.1 ix v ∈ gt) (h : J G X μ ws k n p2 lv (.long v :: st)) : J G X μ ws k n pc lv (st) := by
  obtain ⟨p, l, e, R, s, m, args, below, meth, c, Q⟩ := X
  obtain ⟨own, cc, nL, ret⟩ := μ
  obtain ⟨d, rfl⟩ := d
  intro C H locs ls hW hS hl
  exact lv_ldc2 C.1 C.2.1 C.2.2.2.1 (C.2.2.2.2.1 _ hw) d (h C H locs ls hW hS hl)
theorem J.dup {v : Value} (d : jd μ.2.1 pc .dup 1 p2) (hc : v.category = 1) (h : J G X μ ws k n p2 lv (v :: v :: st)) : J G X μ ws k n pc lv (v :: st) := by
  obtain ⟨p, l, e, R, s, m, args, below, meth, c, Q⟩ := X
  obtain ⟨own, cc, nL, ret⟩ := μ
  obtain ⟨d, rfl⟩ := d
  intro C H locs ls hW hS hl
  exact lv_dup C.1 C.2.1 d hc (h C H locs ls hW hS hl)
theorem J.dup2 {v u : Value} (d : jd μ.2.1 pc .dup2 1 p2) (hc : v.category = 1) (hc2 : u.category = 1) (h : J G X μ ws k n p2 lv (v :: u :: v :: u :: st)) : J G X μ ws k n pc lv (v :: u :: st) := by
  obtain ⟨p, l, e, R, s, m, args, below, meth, c, Q⟩ := X
  obtain ⟨own, cc, nL, ret⟩ := μ
  obtain ⟨d, rfl⟩ := d
  intro C H locs ls hW hS hl
  exact lv_dup2_11 C.1 C.2.1 d hc hc2 (h C H locs ls hW hS hl)
theorem J.pop {v : Value} (d : jd μ.2.1 pc .pop 1 p2) (hc : v.category = 1) (h : J G X μ ws k n p2 lv (st)) : J G X μ ws k n pc lv (v :: st) := by
  obtain ⟨p, l, e, R, s, m, args, below, meth, c, Q⟩ := X
  obtain ⟨own, cc, nL, ret⟩ := μ
  obtain ⟨d, rfl⟩ := d
  intro C H locs ls hW hS hl
  exact lv_pop C.1 C.2.1 d hc (h C H locs ls hW hS hl)
theorem J.aconst_null  (d : jd μ.2.1 pc .aconst_null 1 p2)  (h : J G X μ ws k n p2 lv (.null :: st)) : J G X μ ws k n pc lv (st) := by
  obtain ⟨p, l, e, R, s, m, args, below, meth, c, Q⟩ := X
  obtain ⟨own, cc, nL, ret⟩ := μ
  obtain ⟨d, rfl⟩ := d
  intro C H locs ls hW hS hl
  exact lv_null C.1 C.2.1 d (h C H locs ls hW hS hl)
theorem J.iload_n (q : Nat) {f : Fin 4} {x : Int32} (d : jd μ.2.1 pc (.iload_n f) 1 p2) (hq : lv[q]? = some ((f : Nat), .int x)) (h : J G X μ ws k n p2 lv (.int x :: st)) : J G X μ ws k n pc lv (st) := by
  obtain ⟨p, l, e, R, s, m, args, below, meth, c, Q⟩ := X
  obtain ⟨own, cc, nL, ret⟩ := μ
  obtain ⟨d, rfl⟩ := d
  intro C H locs ls hW hS hl
  exact lv_iload_n C.1 C.2.1 d rfl (lv_at hl q hq) (h C H locs ls hW hS hl)
theorem J.iload (q : Nat) {i : Nat} {x : Int32} (d : jd μ.2.1 pc (.iload i) 2 p2) (hq : lv[q]? = some (i, .int x)) (h : J G X μ ws k n p2 lv (.int x :: st)) : J G X μ ws k n pc lv (st) := by
  obtain ⟨p, l, e, R, s, m, args, below, meth, c, Q⟩ := X
  obtain ⟨own, cc, nL, ret⟩ := μ
  obtain ⟨d, rfl⟩ := d
  intro C H locs ls hW hS hl
  exact lv_iload C.1 C.2.1 d (lv_at hl q hq) (h C H locs ls hW hS hl)
theorem J.lload_n (q : Nat) {f : Fin 4} {x : Int64} (d : jd μ.2.1 pc (.lload_n f) 1 p2) (hq : lv[q]? = some ((f : Nat), .long x)) (h : J G X μ ws k n p2 lv (.long x :: st)) : J G X μ ws k n pc lv (st) := by
  obtain ⟨p, l, e, R, s, m, args, below, meth, c, Q⟩ := X
  obtain ⟨own, cc, nL, ret⟩ := μ
  obtain ⟨d, rfl⟩ := d
  intro C H locs ls hW hS hl
  exact lv_lload_n C.1 C.2.1 d rfl (lv_at hl q hq) (h C H locs ls hW hS hl)
theorem J.lload (q : Nat) {i : Nat} {x : Int64} (d : jd μ.2.1 pc (.lload i) 2 p2) (hq : lv[q]? = some (i, .long x)) (h : J G X μ ws k n p2 lv (.long x :: st)) : J G X μ ws k n pc lv (st) := by
  obtain ⟨p, l, e, R, s, m, args, below, meth, c, Q⟩ := X
  obtain ⟨own, cc, nL, ret⟩ := μ
  obtain ⟨d, rfl⟩ := d
  intro C H locs ls hW hS hl
  exact lv_lload C.1 C.2.1 d (lv_at hl q hq) (h C H locs ls hW hS hl)
theorem J.aload_n (q : Nat) {f : Fin 4} {x : Nat} (d : jd μ.2.1 pc (.aload_n f) 1 p2) (hq : lv[q]? = some ((f : Nat), .ref x)) (h : J G X μ ws k n p2 lv (.ref x :: st)) : J G X μ ws k n pc lv (st) := by
  obtain ⟨p, l, e, R, s, m, args, below, meth, c, Q⟩ := X
  obtain ⟨own, cc, nL, ret⟩ := μ
  obtain ⟨d, rfl⟩ := d
  intro C H locs ls hW hS hl
  exact lv_aload_n C.1 C.2.1 d rfl (lv_at hl q hq) (h C H locs ls hW hS hl)
theorem J.aload (q : Nat) {i : Nat} {x : Nat} (d : jd μ.2.1 pc (.aload i) 2 p2) (hq : lv[q]? = some (i, .ref x)) (h : J G X μ ws k n p2 lv (.ref x :: st)) : J G X μ ws k n pc lv (st) := by
  obtain ⟨p, l, e, R, s, m, args, below, meth, c, Q⟩ := X
  obtain ⟨own, cc, nL, ret⟩ := μ
  obtain ⟨d, rfl⟩ := d
  intro C H locs ls hW hS hl
  exact lv_aload C.1 C.2.1 d (lv_at hl q hq) (h C H locs ls hW hS hl)
theorem J.aload_nN (q : Nat) {f : Fin 4} (d : jd μ.2.1 pc (.aload_n f) 1 p2) (hq : lv[q]? = some ((f : Nat), .null)) (h : J G X μ ws k n p2 lv (.null :: st)) : J G X μ ws k n pc lv (st) := by
  obtain ⟨p, l, e, R, s, m, args, below, meth, c, Q⟩ := X
  obtain ⟨own, cc, nL, ret⟩ := μ
  obtain ⟨d, rfl⟩ := d
  intro C H locs ls hW hS hl
  exact lv_aload_nN C.1 C.2.1 d rfl (lv_at hl q hq) (h C H locs ls hW hS hl)
theorem J.aloadN (q : Nat) {i : Nat} (d : jd μ.2.1 pc (.aload i) 2 p2) (hq : lv[q]? = some (i, .null)) (h : J G X μ ws k n p2 lv (.null :: st)) : J G X μ ws k n pc lv (st) := by
  obtain ⟨p, l, e, R, s, m, args, below, meth, c, Q⟩ := X
  obtain ⟨own, cc, nL, ret⟩ := μ
  obtain ⟨d, rfl⟩ := d
  intro C H locs ls hW hS hl
  exact lv_aloadN C.1 C.2.1 d (lv_at hl q hq) (h C H locs ls hW hS hl)
theorem J.istore_n (ks : List Nat) {f : Fin 4} {x : Int32} {lv' : List (Nat × Value)} (d : jd μ.2.1 pc (.istore_n f) 1 p2) (hn : Nat.ble ((f : Nat) + 1) μ.2.2.1 = true) (hv : lv_pick (((f : Nat), .int x) :: lv.filter (fun q => !(q.1 == (f : Nat)) && !(q.1 + 1 == (f : Nat) && q.2.category == 2))) ks = lv') (h : J G X μ ws k n p2 lv' st) : J G X μ ws k n pc lv (.int x :: st) := by
  obtain ⟨p, l, e, R, s, m, args, below, meth, c, Q⟩ := X
  obtain ⟨own, cc, nL, ret⟩ := μ
  obtain ⟨d, rfl⟩ := d
  intro C H locs ls hW hS hl
  exact lv_istore_n C.1 C.2.1 d rfl hl (Nat.le_of_ble_eq_true hn) rfl (fun ls' hl' => h C H locs ls' hW hS (lv_sub hl' ks hv))
theorem J.istore (ks : List Nat) {i : Nat} {x : Int32} {lv' : List (Nat × Value)} (d : jd μ.2.1 pc (.istore i) 2 p2) (hn : Nat.ble (i + 1) μ.2.2.1 = true) (hv : lv_pick ((i, .int x) :: lv.filter (fun q => !(q.1 == i) && !(q.1 + 1 == i && q.2.category == 2))) ks = lv') (h : J G X μ ws k n p2 lv' st) : J G X μ ws k n pc lv (.int x :: st) := by
  obtain ⟨p, l, e, R, s, m, args, below, meth, c, Q⟩ := X
  obtain ⟨own, cc, nL, ret⟩ := μ
  obtain ⟨d, rfl⟩ := d
  intro C H locs ls hW hS hl
  exact lv_istore C.1 C.2.1 d hl (Nat.le_of_ble_eq_true hn) rfl (fun ls' hl' => h C H locs ls' hW hS (lv_sub hl' ks hv))
theorem J.lstore_n (ks : List Nat) {f : Fin 4} {x : Int64} {lv' : List (Nat × Value)} (d : jd μ.2.1 pc (.lstore_n f) 1 p2) (hn : Nat.ble ((f : Nat) + 1 + 1) μ.2.2.1 = true) (hv : lv_pick (((f : Nat), .long x) :: lv.filter (fun q => !(q.1 == (f : Nat)) && (!(q.1 == (f : Nat) + 1) && !(q.1 + 1 == (f : Nat) && q.2.category == 2)))) ks = lv') (h : J G X μ ws k n p2 lv' st) : J G X μ ws k n pc lv (.long x :: st) := by
  obtain ⟨p, l, e, R, s, m, args, below, meth, c, Q⟩ := X
  obtain ⟨own, cc, nL, ret⟩ := μ
  obtain ⟨d, rfl⟩ := d
  intro C H locs ls hW hS hl
  exact lv_lstore_n C.1 C.2.1 d rfl hl (Nat.le_of_ble_eq_true hn) rfl (fun ls' hl' => h C H locs ls' hW hS (lv_sub hl' ks hv))
theorem J.lstore (ks : List Nat) {i : Nat} {x : Int64} {lv' : List (Nat × Value)} (d : jd μ.2.1 pc (.lstore i) 2 p2) (hn : Nat.ble (i + 1 + 1) μ.2.2.1 = true) (hv : lv_pick ((i, .long x) :: lv.filter (fun q => !(q.1 == i) && (!(q.1 == i + 1) && !(q.1 + 1 == i && q.2.category == 2)))) ks = lv') (h : J G X μ ws k n p2 lv' st) : J G X μ ws k n pc lv (.long x :: st) := by
  obtain ⟨p, l, e, R, s, m, args, below, meth, c, Q⟩ := X
  obtain ⟨own, cc, nL, ret⟩ := μ
  obtain ⟨d, rfl⟩ := d
  intro C H locs ls hW hS hl
  exact lv_lstore C.1 C.2.1 d hl (Nat.le_of_ble_eq_true hn) rfl (fun ls' hl' => h C H locs ls' hW hS (lv_sub hl' ks hv))
theorem J.astore_n (ks : List Nat) {f : Fin 4} {x : Nat} {lv' : List (Nat × Value)} (d : jd μ.2.1 pc (.astore_n f) 1 p2) (hn : Nat.ble ((f : Nat) + 1) μ.2.2.1 = true) (hv : lv_pick (((f : Nat), .ref x) :: lv.filter (fun q => !(q.1 == (f : Nat)) && !(q.1 + 1 == (f : Nat) && q.2.category == 2))) ks = lv') (h : J G X μ ws k n p2 lv' st) : J G X μ ws k n pc lv (.ref x :: st) := by
  obtain ⟨p, l, e, R, s, m, args, below, meth, c, Q⟩ := X
  obtain ⟨own, cc, nL, ret⟩ := μ
  obtain ⟨d, rfl⟩ := d
  intro C H locs ls hW hS hl
  exact lv_astore_n C.1 C.2.1 d rfl hl (Nat.le_of_ble_eq_true hn) rfl (fun ls' hl' => h C H locs ls' hW hS (lv_sub hl' ks hv))
theorem J.astore (ks : List Nat) {i : Nat} {x : Nat} {lv' : List (Nat × Value)} (d : jd μ.2.1 pc (.astore i) 2 p2) (hn : Nat.ble (i + 1) μ.2.2.1 = true) (hv : lv_pick ((i, .ref x) :: lv.filter (fun q => !(q.1 == i) && !(q.1 + 1 == i && q.2.category == 2))) ks = lv') (h : J G X μ ws k n p2 lv' st) : J G X μ ws k n pc lv (.ref x :: st) := by
  obtain ⟨p, l, e, R, s, m, args, below, meth, c, Q⟩ := X
  obtain ⟨own, cc, nL, ret⟩ := μ
  obtain ⟨d, rfl⟩ := d
  intro C H locs ls hW hS hl
  exact lv_astore C.1 C.2.1 d hl (Nat.le_of_ble_eq_true hn) rfl (fun ls' hl' => h C H locs ls' hW hS (lv_sub hl' ks hv))
theorem J.astore_nN (ks : List Nat) {f : Fin 4} {lv' : List (Nat × Value)} (d : jd μ.2.1 pc (.astore_n f) 1 p2) (hn : Nat.ble ((f : Nat) + 1) μ.2.2.1 = true) (hv : lv_pick (((f : Nat), .null) :: lv.filter (fun q => !(q.1 == (f : Nat)) && !(q.1 + 1 == (f : Nat) && q.2.category == 2))) ks = lv') (h : J G X μ ws k n p2 lv' st) : J G X μ ws k n pc lv (.null :: st) := by
  obtain ⟨p, l, e, R, s, m, args, below, meth, c, Q⟩ := X
  obtain ⟨own, cc, nL, ret⟩ := μ
  obtain ⟨d, rfl⟩ := d
  intro C H locs ls hW hS hl
  exact lv_astore_nN C.1 C.2.1 d rfl hl (Nat.le_of_ble_eq_true hn) rfl (fun ls' hl' => h C H locs ls' hW hS (lv_sub hl' ks hv))
theorem J.astoreN (ks : List Nat) {i : Nat} {lv' : List (Nat × Value)} (d : jd μ.2.1 pc (.astore i) 2 p2) (hn : Nat.ble (i + 1) μ.2.2.1 = true) (hv : lv_pick ((i, .null) :: lv.filter (fun q => !(q.1 == i) && !(q.1 + 1 == i && q.2.category == 2))) ks = lv') (h : J G X μ ws k n p2 lv' st) : J G X μ ws k n pc lv (.null :: st) := by
  obtain ⟨p, l, e, R, s, m, args, below, meth, c, Q⟩ := X
  obtain ⟨own, cc, nL, ret⟩ := μ
  obtain ⟨d, rfl⟩ := d
  intro C H locs ls hW hS hl
  exact lv_astoreN C.1 C.2.1 d hl (Nat.le_of_ble_eq_true hn) rfl (fun ls' hl' => h C H locs ls' hW hS (lv_sub hl' ks hv))
theorem J.iinc (q : Nat) (ks : List Nat) {i : Nat} {z : Int} {x v : Int32} {lv' : List (Nat × Value)} (d : jd μ.2.1 pc (.iinc i z) 3 p2) (hq : lv[q]? = some (i, .int x)) (he : x + Int32.ofInt z = v) (hn : Nat.ble (i + 1) μ.2.2.1 = true) (hv : lv_pick ((i, .int v) :: lv.filter (fun q => !(q.1 == i) && !(q.1 + 1 == i && q.2.category == 2))) ks = lv') (h : J G X μ ws k n p2 lv' st) : J G X μ ws k n pc lv st := by
  obtain ⟨p, l, e, R, s, m, args, below, meth, c, Q⟩ := X
  obtain ⟨own, cc, nL, ret⟩ := μ
  obtain ⟨d, rfl⟩ := d
  intro C H locs ls hW hS hl
  exact lv_iinc C.1 C.2.1 d hl hq he (Nat.le_of_ble_eq_true hn) rfl (fun ls' hl' => h C H locs ls' hW hS (lv_sub hl' ks hv))
theorem J.if_eq {x : Int32} {off : Int} {tgt : Nat} (d : jt μ.2.1 pc (.ifCond .eq off) off tgt p2) (ht : x = 0 → J G X μ ws k n tgt lv st) (hf : ¬ x = 0 → J G X μ ws k n p2 lv st) : J G X μ ws k n pc lv (.int x :: st) := by
  obtain ⟨p, l, e, R, s, m, args, below, meth, c, Q⟩ := X
  obtain ⟨own, cc, nL, ret⟩ := μ
  obtain ⟨d, d2, rfl⟩ := d
  intro C H locs ls hW hS hl
  exact lv_if_eq C.1 C.2.1 d d2 (fun z => ht z C H locs ls hW hS hl) (fun z => hf z C H locs ls hW hS hl)
theorem J.icmp_eq {x y : Int32} {off : Int} {tgt : Nat} (d : jt μ.2.1 pc (.if_icmp .eq off) off tgt p2) (ht : x = y → J G X μ ws k n tgt lv st) (hf : ¬ x = y → J G X μ ws k n p2 lv st) : J G X μ ws k n pc lv (.int y :: .int x :: st) := by
  obtain ⟨p, l, e, R, s, m, args, below, meth, c, Q⟩ := X
  obtain ⟨own, cc, nL, ret⟩ := μ
  obtain ⟨d, d2, rfl⟩ := d
  intro C H locs ls hW hS hl
  exact lv_icmp_eq C.1 C.2.1 d d2 (fun z => ht z C H locs ls hW hS hl) (fun z => hf z C H locs ls hW hS hl)
theorem J.if_ne {x : Int32} {off : Int} {tgt : Nat} (d : jt μ.2.1 pc (.ifCond .ne off) off tgt p2) (ht : ¬ x = 0 → J G X μ ws k n tgt lv st) (hf : x = 0 → J G X μ ws k n p2 lv st) : J G X μ ws k n pc lv (.int x :: st) := by
  obtain ⟨p, l, e, R, s, m, args, below, meth, c, Q⟩ := X
  obtain ⟨own, cc, nL, ret⟩ := μ
  obtain ⟨d, d2, rfl⟩ := d
  intro C H locs ls hW hS hl
  exact lv_if_ne C.1 C.2.1 d d2 (fun z => ht z C H locs ls hW hS hl) (fun z => hf z C H locs ls hW hS hl)
theorem J.icmp_ne {x y : Int32} {off : Int} {tgt : Nat} (d : jt μ.2.1 pc (.if_icmp .ne off) off tgt p2) (ht : ¬ x = y → J G X μ ws k n tgt lv st) (hf : x = y → J G X μ ws k n p2 lv st) : J G X μ ws k n pc lv (.int y :: .int x :: st) := by
  obtain ⟨p, l, e, R, s, m, args, below, meth, c, Q⟩ := X
  obtain ⟨own, cc, nL, ret⟩ := μ
  obtain ⟨d, d2, rfl⟩ := d
  intro C H locs ls hW hS hl
  exact lv_icmp_ne C.1 C.2.1 d d2 (fun z => ht z C H locs ls hW hS hl) (fun z => hf z C H locs ls hW hS hl)
theorem J.if_lt {x : Int32} {off : Int} {tgt : Nat} (d : jt μ.2.1 pc (.ifCond .lt off) off tgt p2) (ht : x < 0 → J G X μ ws k n tgt lv st) (hf : ¬ x < 0 → J G X μ ws k n p2 lv st) : J G X μ ws k n pc lv (.int x :: st) := by
  obtain ⟨p, l, e, R, s, m, args, below, meth, c, Q⟩ := X
  obtain ⟨own, cc, nL, ret⟩ := μ
  obtain ⟨d, d2, rfl⟩ := d
  intro C H locs ls hW hS hl
  exact lv_if_lt C.1 C.2.1 d d2 (fun z => ht z C H locs ls hW hS hl) (fun z => hf z C H locs ls hW hS hl)
theorem J.icmp_lt {x y : Int32} {off : Int} {tgt : Nat} (d : jt μ.2.1 pc (.if_icmp .lt off) off tgt p2) (ht : x < y → J G X μ ws k n tgt lv st) (hf : ¬ x < y → J G X μ ws k n p2 lv st) : J G X μ ws k n pc lv (.int y :: .int x :: st) := by
  obtain ⟨p, l, e, R, s, m, args, below, meth, c, Q⟩ := X
  obtain ⟨own, cc, nL, ret⟩ := μ
  obtain ⟨d, d2, rfl⟩ := d
  intro C H locs ls hW hS hl
  exact lv_icmp_lt C.1 C.2.1 d d2 (fun z => ht z C H locs ls hW hS hl) (fun z => hf z C H locs ls hW hS hl)
theorem J.if_ge {x : Int32} {off : Int} {tgt : Nat} (d : jt μ.2.1 pc (.ifCond .ge off) off tgt p2) (ht : 0 ≤ x → J G X μ ws k n tgt lv st) (hf : ¬ 0 ≤ x → J G X μ ws k n p2 lv st) : J G X μ ws k n pc lv (.int x :: st) := by
  obtain ⟨p, l, e, R, s, m, args, below, meth, c, Q⟩ := X
  obtain ⟨own, cc, nL, ret⟩ := μ
  obtain ⟨d, d2, rfl⟩ := d
  intro C H locs ls hW hS hl
  exact lv_if_ge C.1 C.2.1 d d2 (fun z => ht z C H locs ls hW hS hl) (fun z => hf z C H locs ls hW hS hl)
theorem J.icmp_ge {x y : Int32} {off : Int} {tgt : Nat} (d : jt μ.2.1 pc (.if_icmp .ge off) off tgt p2) (ht : y ≤ x → J G X μ ws k n tgt lv st) (hf : ¬ y ≤ x → J G X μ ws k n p2 lv st) : J G X μ ws k n pc lv (.int y :: .int x :: st) := by
  obtain ⟨p, l, e, R, s, m, args, below, meth, c, Q⟩ := X
  obtain ⟨own, cc, nL, ret⟩ := μ
  obtain ⟨d, d2, rfl⟩ := d
  intro C H locs ls hW hS hl
  exact lv_icmp_ge C.1 C.2.1 d d2 (fun z => ht z C H locs ls hW hS hl) (fun z => hf z C H locs ls hW hS hl)
theorem J.if_gt {x : Int32} {off : Int} {tgt : Nat} (d : jt μ.2.1 pc (.ifCond .gt off) off tgt p2) (ht : 0 < x → J G X μ ws k n tgt lv st) (hf : ¬ 0 < x → J G X μ ws k n p2 lv st) : J G X μ ws k n pc lv (.int x :: st) := by
  obtain ⟨p, l, e, R, s, m, args, below, meth, c, Q⟩ := X
  obtain ⟨own, cc, nL, ret⟩ := μ
  obtain ⟨d, d2, rfl⟩ := d
  intro C H locs ls hW hS hl
  exact lv_if_gt C.1 C.2.1 d d2 (fun z => ht z C H locs ls hW hS hl) (fun z => hf z C H locs ls hW hS hl)
theorem J.icmp_gt {x y : Int32} {off : Int} {tgt : Nat} (d : jt μ.2.1 pc (.if_icmp .gt off) off tgt p2) (ht : y < x → J G X μ ws k n tgt lv st) (hf : ¬ y < x → J G X μ ws k n p2 lv st) : J G X μ ws k n pc lv (.int y :: .int x :: st) := by
  obtain ⟨p, l, e, R, s, m, args, below, meth, c, Q⟩ := X
  obtain ⟨own, cc, nL, ret⟩ := μ
  obtain ⟨d, d2, rfl⟩ := d
  intro C H locs ls hW hS hl
  exact lv_icmp_gt C.1 C.2.1 d d2 (fun z => ht z C H locs ls hW hS hl) (fun z => hf z C H locs ls hW hS hl)
theorem J.if_le {x : Int32} {off : Int} {tgt : Nat} (d : jt μ.2.1 pc (.ifCond .le off) off tgt p2) (ht : x ≤ 0 → J G X μ ws k n tgt lv st) (hf : ¬ x ≤ 0 → J G X μ ws k n p2 lv st) : J G X μ ws k n pc lv (.int x :: st) := by
  obtain ⟨p, l, e, R, s, m, args, below, meth, c, Q⟩ := X
  obtain ⟨own, cc, nL, ret⟩ := μ
  obtain ⟨d, d2, rfl⟩ := d
  intro C H locs ls hW hS hl
  exact lv_if_le C.1 C.2.1 d d2 (fun z => ht z C H locs ls hW hS hl) (fun z => hf z C H locs ls hW hS hl)
theorem J.icmp_le {x y : Int32} {off : Int} {tgt : Nat} (d : jt μ.2.1 pc (.if_icmp .le off) off tgt p2) (ht : x ≤ y → J G X μ ws k n tgt lv st) (hf : ¬ x ≤ y → J G X μ ws k n p2 lv st) : J G X μ ws k n pc lv (.int y :: .int x :: st) := by
  obtain ⟨p, l, e, R, s, m, args, below, meth, c, Q⟩ := X
  obtain ⟨own, cc, nL, ret⟩ := μ
  obtain ⟨d, d2, rfl⟩ := d
  intro C H locs ls hW hS hl
  exact lv_icmp_le C.1 C.2.1 d d2 (fun z => ht z C H locs ls hW hS hl) (fun z => hf z C H locs ls hW hS hl)
theorem J.goto {off : Int} {tgt : Nat} (d : jt μ.2.1 pc (.goto off) off tgt p2) (h : J G X μ ws k n tgt lv st) : J G X μ ws k n pc lv st := by
  obtain ⟨p, l, e, R, s, m, args, below, meth, c, Q⟩ := X
  obtain ⟨own, cc, nL, ret⟩ := μ
  obtain ⟨d, d2, rfl⟩ := d
  intro C H locs ls hW hS hl
  exact lv_goto C.1 C.2.1 d d2 (h C H locs ls hW hS hl)
theorem J.ifnull {off : Int} {tgt x : Nat} (d : jt μ.2.1 pc (.ifnull off) off tgt p2) (h : J G X μ ws k n p2 lv st) : J G X μ ws k n pc lv (.ref x :: st) := by
  obtain ⟨p, l, e, R, s, m, args, below, meth, c, Q⟩ := X
  obtain ⟨own, cc, nL, ret⟩ := μ
  obtain ⟨d, d2, rfl⟩ := d
  intro C H locs ls hW hS hl
  exact lv_ifnull C.1 C.2.1 d (h C H locs ls hW hS hl)
theorem J.ifnullN {off : Int} {tgt : Nat} (d : jt μ.2.1 pc (.ifnull off) off tgt p2) (h : J G X μ ws k n tgt lv st) : J G X μ ws k n pc lv (.null :: st) := by
  obtain ⟨p, l, e, R, s, m, args, below, meth, c, Q⟩ := X
  obtain ⟨own, cc, nL, ret⟩ := μ
  obtain ⟨d, d2, rfl⟩ := d
  intro C H locs ls hW hS hl
  exact lv_ifnullN C.1 C.2.1 d d2 (h C H locs ls hW hS hl)
theorem J.ifnonnull {off : Int} {tgt x : Nat} (d : jt μ.2.1 pc (.ifnonnull off) off tgt p2) (h : J G X μ ws k n tgt lv st) : J G X μ ws k n pc lv (.ref x :: st) := by
  obtain ⟨p, l, e, R, s, m, args, below, meth, c, Q⟩ := X
  obtain ⟨own, cc, nL, ret⟩ := μ
  obtain ⟨d, d2, rfl⟩ := d
  intro C H locs ls hW hS hl
  exact lv_ifnonnull C.1 C.2.1 d d2 (h C H locs ls hW hS hl)
theorem J.ifnonnullN {off : Int} {tgt : Nat} (d : jt μ.2.1 pc (.ifnonnull off) off tgt p2) (h : J G X μ ws k n p2 lv st) : J G X μ ws k n pc lv (.null :: st) := by
  obtain ⟨p, l, e, R, s, m, args, below, meth, c, Q⟩ := X
  obtain ⟨own, cc, nL, ret⟩ := μ
  obtain ⟨d, d2, rfl⟩ := d
  intro C H locs ls hW hS hl
  exact lv_ifnonnullN C.1 C.2.1 d (h C H locs ls hW hS hl)
theorem J.tableOut {dflt lo hi : Int} {offs : Array Int} {len tgt : Nat} {x : Int32} (d : jd μ.2.1 pc (.tableswitch dflt lo hi offs) len p2) (hx : x.toInt < lo ∨ hi < x.toInt) (ht : (pc : Int) + dflt = (tgt : Int)) (h : J G X μ ws k n tgt lv st) : J G X μ ws k n pc lv (.int x :: st) := by
  obtain ⟨p, l, e, R, s, m, args, below, meth, c, Q⟩ := X
  obtain ⟨own, cc, nL, ret⟩ := μ
  obtain ⟨d, rfl⟩ := d
  intro C H locs ls hW hS hl
  exact lv_tableOut C.1 C.2.1 d hx ht (h C H locs ls hW hS hl)
theorem J.tableIn {dflt lo hi off : Int} {offs : Array Int} {len tgt : Nat} {x : Int32} (d : jd μ.2.1 pc (.tableswitch dflt lo hi offs) len p2) (h1 : ¬ x.toInt < lo) (h2 : ¬ hi < x.toInt) (ho : offs[(x.toInt - lo).toNat]? = some off) (ht : (pc : Int) + off = (tgt : Int)) (h : J G X μ ws k n tgt lv st) : J G X μ ws k n pc lv (.int x :: st) := by
  obtain ⟨p, l, e, R, s, m, args, below, meth, c, Q⟩ := X
  obtain ⟨own, cc, nL, ret⟩ := μ
  obtain ⟨d, rfl⟩ := d
  intro C H locs ls hW hS hl
  exact lv_tableIn C.1 C.2.1 d h1 h2 ho ht (h C H locs ls hW hS hl)
theorem J.lookup {dflt off : Int} {ps : Array (Int × Int)} {len tgt : Nat} {x : Int32} (d : jd μ.2.1 pc (.lookupswitch dflt ps) len p2) (hp : (ps.toList.zip (ps.toList.drop 1)).all (fun (a, next) => a.1 < next.1) = true) (ho : Op.lookupswitch.offset ps.toList dflt x.toInt = off) (ht : (pc : Int) + off = (tgt : Int)) (h : J G X μ ws k n tgt lv st) : J G X μ ws k n pc lv (.int x :: st) := by
  obtain ⟨p, l, e, R, s, m, args, below, meth, c, Q⟩ := X
  obtain ⟨own, cc, nL, ret⟩ := μ
  obtain ⟨d, rfl⟩ := d
  intro C H locs ls hW hS hl
  exact lv_lookup C.1 C.2.1 d hp ho ht (h C H locs ls hW hS hl)
/-- fewer locals, or in another order -/
theorem J.loc (ks : List Nat) {lv' : List (Nat × Value)} (hv : lv_pick lv ks = lv') (h : J G X μ ws k n pc lv' st) : J G X μ ws k n pc lv st := by
  obtain ⟨p, l, e, R, s, m, args, below, meth, c, Q⟩ := X
  intro C H locs ls hW hS hl
  exact h C H locs ls hW hS (lv_sub hl ks hv)
def jpick (ws : va_W) (is : List Nat) (m : Nat) : va_W := is.filterMap (fun i => ws[i]?) ++ ws.drop m
def jnd (is : List Nat) (m : Nat) : Bool := va_nd is && is.all (fun i => Nat.blt i m)
theorem jpick_map (ws : va_W) : ∀ is : List Nat, ∃ js : List Nat, js.map (fun i => ws[i]?) = (is.filterMap (fun i => ws[i]?)).map some ∧ (∀ j ∈ js, j ∈ is) ∧ (va_nd is = true → va_nd js = true)
  | [] => ⟨[], rfl, fun _ h => h, fun h => h⟩
  | i :: is => by
    obtain ⟨js, h1, h2, h3⟩ := jpick_map ws is
    rcases hi : ws[i]? with _ | q
    · refine ⟨js, by simp [hi, h1], fun j hj => List.mem_cons_of_mem _ (h2 j hj), fun h => h3 ?_⟩
      simp only [va_nd, Bool.and_eq_true] at h
      exact h.2
    · refine ⟨i :: js, by simp [hi, h1], fun j hj => ?_, fun h => ?_⟩
      · rcases List.mem_cons.mp hj with rfl | hj
        · exact List.mem_cons_self
        · exact List.mem_cons_of_mem _ (h2 j hj)
      · simp only [va_nd, Bool.and_eq_true, decide_eq_true_eq] at h ⊢
        exact ⟨fun hh => h.1 (h2 _ hh), h3 h.2⟩
end JR
