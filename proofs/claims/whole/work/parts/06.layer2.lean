theorem jH.re {G : jG} {ws : va_W} {H : Heap} (h : jH G ws H) {is : List Nat} {m : Nat} (hnd : jnd is m = true) : jH G (jpick ws is m) H := by
  simp only [jnd, Bool.and_eq_true, List.all_eq_true] at hnd
  obtain ⟨hn, hm⟩ := hnd
  have hm : ∀ i ∈ is, i < m := fun i hi => Nat.blt_eq.mp (hm i hi)
  obtain ⟨js, j1, j2, j3⟩ := jpick_map ws is
  refine ⟨fun k q hq => ?_, va_D.app (h.2.sub js (j3 hn) j1) ⟨fun i j p q hp hq e => ?_, fun k q hq => ?_⟩ (fun i j p q hp hq e => ?_)⟩
  · rcases List.mem_append.mp (List.mem_of_getElem? hq) with h1 | h1
    · obtain ⟨i, -, hi⟩ := List.mem_filterMap.mp h1
      exact h.1 i q hi
    · obtain ⟨i, hi⟩ := List.getElem?_of_mem (List.mem_of_mem_drop h1)
      exact h.1 i q hi
  · rw [List.getElem?_drop] at hp hq
    have := h.2.1 _ _ p q hp hq e
    omega
  · rw [List.getElem?_drop] at hq
    exact h.2.2 _ q hq
  · obtain ⟨i', hi', hp'⟩ := List.mem_filterMap.mp (List.mem_of_getElem? hp)
    rw [List.getElem?_drop] at hq
    have := h.2.1 _ _ p q hp' hq e
    have := hm i' hi'
    omega
theorem jH.perm {G : jG} {ws ws' : va_W} {H : Heap} (hp : ws.Perm ws') (h : jH G ws H) : jH G ws' H := by
  have hn : (ws.map Prod.fst).Nodup := by
    show List.Pairwise (· ≠ ·) _
    rw [List.pairwise_iff_getElem]
    intro i j hi hj hij e
    have hi' : i < ws.length := by simpa using hi
    have hj' : j < ws.length := by simpa using hj
    have := h.2.1 i j _ _ (List.getElem?_eq_getElem hi') (List.getElem?_eq_getElem hj') (by simpa using e)
    omega
  have hn' : (ws'.map Prod.fst).Nodup := (hp.map Prod.fst).nodup_iff.mp hn
  refine ⟨fun k q hq => ?_, fun i j p q hp1 hq1 e => ?_, fun k q hq => ?_⟩
  · obtain ⟨i, hi⟩ := List.getElem?_of_mem (hp.mem_iff.mpr (List.mem_of_getElem? hq))
    exact h.1 i q hi
  · have hi : i < (ws'.map Prod.fst).length := by rw [List.length_map]; exact (List.getElem?_eq_some_iff.mp hp1).1
    have hj : j < (ws'.map Prod.fst).length := by rw [List.length_map]; exact (List.getElem?_eq_some_iff.mp hq1).1
    refine (List.getElem?_inj hi hn').mp ?_
    rw [List.getElem?_map, List.getElem?_map, hp1, hq1]
    simp [e]
  · obtain ⟨i, hi⟩ := List.getElem?_of_mem (hp.mem_iff.mpr (List.mem_of_getElem? hq))
    exact h.2.2 i q hi
theorem jH.rot {G : jG} {ws : va_W} {x : Nat × va_E} {H : Heap} (h : jH G (ws ++ [x]) H) : jH G (x :: ws) H := h.perm (List.perm_append_comm)
section JR2
variable {G : jG} {X : jX} {μ : jM} {ws : va_W} {k n pc p2 : Nat} {lv : List (Nat × Value)} {st : List Value}
theorem J.re (is : List Nat) (m : Nat) {ws2 : va_W} (hp : jpick ws is m = ws2) (hn : jnd is m = true) (h : J G X μ ws2 k n pc lv st) : J G X μ ws k n pc lv st := by
  obtain ⟨p, l, e, R, s, m, args, below, meth, c, Q⟩ := X
  intro C H locs ls hW hS hl
  exact h C H locs ls (hp ▸ hW.re hn) hS hl
theorem J.to {ws2 : va_W} (hp : ∀ H, jH G ws H → jH G ws2 H) (h : J G X μ ws2 k n pc lv st) : J G X μ ws k n pc lv st := by
  obtain ⟨p, l, e, R, s, m, args, below, meth, c, Q⟩ := X
  intro C H locs ls hW hS hl
  exact h C H locs ls (hp H hW) hS hl
theorem J.perm {ws2 : va_W} (hp : ws.Perm ws2) (h : J G X μ ws2 k n pc lv st) : J G X μ ws k n pc lv st := J.to (fun _ => jH.perm hp) h
theorem J.wide {k' n' : Nat} (h1 : Nat.ble k k' = true) (h2 : Nat.ble n n' = true) (h : J G X μ ws k' n' pc lv st) : J G X μ ws k n pc lv st := by
  obtain ⟨p, l, e, R, s, m, args, below, meth, c, Q⟩ := X
  intro C H locs ls hW hS hl
  exact W.widen (Nat.le_of_ble_eq_true h1) (Nat.le_of_ble_eq_true h2) (h C H locs ls hW hS hl)
/-- what a place's field link says -/
def jlk (own : String) (ix : Nat) (q : String × String × String × Bool) : Prop := Cond.fieldLink own ix q.1 q.2.1 q.2.2.1 ∈ gt ∨ ∃ host, Cond.fieldLinkNest own ix q.1 q.2.1 q.2.2.1 host ∈ nt
def jcl (ci : Nat) (C : String) (T : u_T) (N : Nat) : Prop := cls9[ci]? = some (C, T, N) ∧ (∀ w ∈ u_ws C T N, w ∈ gt) ∧ (∃ ty0 : Nat → FieldType, ∀ j, j < N → parseFieldDescriptor (T j).2.2.1 = some (ty0 j)) ∧ (∀ a, a < N → ∀ b, b < N → a ≠ b → (T a).2.1 ≠ (T b).2.1)
def jfl (own : String) (ix ci j : Nat) : Prop := ∃ (C : String) (T : u_T) (N : Nat), jcl ci C T N ∧ j < N ∧ jlk own ix (T j)
def jfp (own : String) (ix ci j : Nat) (ty : FieldType) (fin : Bool) : Prop := ∃ (C : String) (T : u_T) (N : Nat), jcl ci C T N ∧ j < N ∧ jlk own ix (T j) ∧ (T j).2.2.2 = fin ∧ parseFieldDescriptor (T j).2.2.1 = some ty ∧ (fin = true → (T j).1 = own ∧ Cond.fieldLink own ix (T j).1 (T j).2.1 (T j).2.2.1 ∈ gt)
theorem J.get (q0 : Nat) {ix ci j a : Nat} {fs : List Value} {v : Value} (F : jfl μ.1 ix ci j) (d : jd μ.2.1 pc (.getfield ix) 3 p2) (he : ws[q0]? = some (a, .inr (ci, fs))) (hv : fs[j]? = some v) (h : J G X μ ws k n p2 lv (v :: st)) : J G X μ ws k n pc lv (.ref a :: st) := by
  obtain ⟨p, l, e, R, s, m, args, below, meth, c, Q⟩ := X
  obtain ⟨own, cc, nL, ret⟩ := μ
  obtain ⟨d, rfl⟩ := d
  obtain ⟨C0, T, N, ⟨hc, hin, -, -⟩, hk, hL⟩ := F
  intro C H locs ls hW hS hl
  rcases hL with hL | ⟨host, hL⟩
  · exact va_get (D := G.1) C.1 C.2.1 C.2.2.2.2.1 hin C.2.2.2.1 C.2.2.2.2.2.1.1 hW.1 q0 he hc j hk (C.2.2.2.2.1 _ hL) (fun _ h9 => h9) hv d (h C H locs ls hW hS hl)
  · exact va_getN (D := G.1) C.1 C.2.1 C.2.2.2.2.1 hin C.2.2.2.1 C.2.2.2.2.2.1.1 hW.1 q0 he hc j hk (va_Nw.use rfl (C.2.2.2.2.2.1.2.1 _ hL)) (fun _ h9 => h9) hv d (h C H locs ls hW hS hl)
theorem J.put (q0 : Nat) {ix ci j a : Nat} {fs : List Value} {v : Value} {ty : FieldType} {ws' : va_W} (F : jfp μ.1 ix ci j ty false) (d : jd μ.2.1 pc (.putfield ix) 3 p2) (he : ws[q0]? = some (a, .inr (ci, fs))) (hn : narrow ty v = v) (hf : fits ty v = true) (hlen : Nat.ble (j + 1) fs.length = true) (hw : ws.set q0 (a, .inr (ci, fs.set j v)) = ws') (h : J G X μ ws' k n p2 lv st) : J G X μ ws k n pc lv (v :: .ref a :: st) := by
  obtain ⟨p, l, e, R, s, m, args, below, meth, c, Q⟩ := X
  obtain ⟨own, cc, nL, ret⟩ := μ
  obtain ⟨d, rfl⟩ := d
  obtain ⟨C0, T, N, ⟨hc, hin, ⟨ty0, hty⟩, hnm⟩, hk, hL, hfin, hd, -⟩ := F
  subst hw
  intro C H locs ls hW hS hl
  rcases hL with hL | ⟨host, hL⟩
  · exact va_put (D := G.1) C.1 C.2.1 C.2.2.2.2.1 hin ty0 hty hnm C.2.2.2.1 C.2.2.2.2.2.1.1 hW.1 hW.2 hS q0 he hc j hk (C.2.2.2.2.1 _ hL) (fun _ h9 => h9) hfin hd hn hf (Nat.le_of_ble_eq_true hlen) d (fun H1 locs1 a1 a2 a3 => h C H1 locs1 ls ⟨a1, a2⟩ a3 hl)
  · exact va_putN (D := G.1) C.1 C.2.1 C.2.2.2.2.1 hin ty0 hty hnm C.2.2.2.1 C.2.2.2.2.2.1.1 hW.1 hW.2 hS q0 he hc j hk (va_Nw.use rfl (C.2.2.2.2.2.1.2.1 _ hL)) (fun _ h9 => h9) hfin hd hn hf (Nat.le_of_ble_eq_true hlen) d (fun H1 locs1 a1 a2 a3 => h C H1 locs1 ls ⟨a1, a2⟩ a3 hl)
/-- contracts -/
def jQ (G : jG) (post : Option Value → va_W → Prop) : Array Value → State → Outcome → State → Prop := fun _ st oc t => (∃ (v : Option Value) (ws' : va_W), oc = .returned v ∧ post v ws' ∧ jH G ws' t.heap) ∧ va_F (jA G) st t
def jP (G : jG) (av : List Value) (ws : va_W) : Array Value → State → Prop := va_Pc av (fun U => jH G ws U.heap ∧ jK G U ∧ G.2.2 ≤ U.heap.size)
def jWs (y : MethodName) (μ : jM) : List Cond := .code y μ.2.1 μ.2.2.1 μ.2.2.2 :: gt
def jRm (fr lo mc ms : Nat) : Room := { frames := fr, cells := mc, slots := ms, locals := lo }
def Mt (l : Launch) (G : jG) (y : MethodName) (μ : jM) (fr lo mc ms : Nat) (av : List Value) (ws : va_W) (post : Option Value → va_W → Prop) : Prop :=
  Met l y (jWs y μ) (jRm fr lo mc ms) (jP G av ws) (jQ G post) mc ms (jA G)
def jB (l : Launch) (G : jG) (X : jX) (fr lo mc ms : Nat) (post : Option Value → va_W → Prop) (nm : String) : Prop := match X with
  | (_, l', _, R, s, _, args, below, meth, _, Q) => l' = l ∧ R = jRm fr lo mc ms ∧ Q = MQ below (jQ G post) args s mc ms (jA G) ∧ meth.name = nm
theorem J.putF (q0 : Nat) {l : Launch} {fr lo mc ms : Nat} {post : Option Value → va_W → Prop} (B : jB l G X fr lo mc ms post "<init>") {ix ci j a : Nat} {fs : List Value} {v : Value} {ty : FieldType} {ws' : va_W} (F : jfp μ.1 ix ci j ty true) (d : jd μ.2.1 pc (.putfield ix) 3 p2) (he : ws[q0]? = some (a, .inr (ci, fs))) (hn : narrow ty v = v) (hf : fits ty v = true) (hlen : Nat.ble (j + 1) fs.length = true) (hw : ws.set q0 (a, .inr (ci, fs.set j v)) = ws') (h : J G X μ ws' k n p2 lv st) : J G X μ ws k n pc lv (v :: .ref a :: st) := by
  obtain ⟨p, l, e, R, s, m, args, below, meth, c, Q⟩ := X
  obtain ⟨own, cc, nL, ret⟩ := μ
  obtain ⟨d, rfl⟩ := d
  obtain ⟨C0, T, N, ⟨hc, hin, ⟨ty0, hty⟩, hnm⟩, hk, -, hfin, hd, hdecl⟩ := F
  subst hw
  obtain ⟨hdecl, hL⟩ := hdecl rfl
  intro C H locs ls hW hS hl
  exact va_putF (D := G.1) C.1 C.2.1 C.2.2.2.2.1 hin ty0 hty hnm C.2.2.2.1 C.2.2.2.2.2.1.1 hW.1 hW.2 hS q0 he hc j hk (C.2.2.2.2.1 _ hL) (fun _ h9 => h9) hfin B.2.2.2 hdecl hd hn hf (Nat.le_of_ble_eq_true hlen) d (fun H1 locs1 a1 a2 a3 => h C H1 locs1 ls ⟨a1, a2⟩ a3 hl)
theorem J.iald (q0 j : Nat) {a len : Nat} {f : Nat → Int32} {i : Int32} (d : jd μ.2.1 pc .iaload 1 p2) (he : ws[q0]? = some (a, .inl (G.2.1.1, len, .inl f))) (hi : i = nI j) (hj : j < len) (hb : len < 2 ^ 31) (h : J G X μ ws k n p2 lv (.int (f j) :: st)) : J G X μ ws k n pc lv (.int i :: .ref a :: st) := by
  obtain ⟨p, l, e, R, s, m, args, below, meth, c, Q⟩ := X
  obtain ⟨own, cc, nL, ret⟩ := μ
  obtain ⟨d, rfl⟩ := d
  subst hi
  intro C H locs ls hW hS hl
  refine va_iald (D := G.1) (tys := jtys G) C.1 C.2.1 C.2.2.2.2.2.1.1 hW.1 q0 0 he rfl (vp_in_nI hj hb) d ?_
  rw [nI_clamp (Nat.lt_trans hj hb)]
  exact h C H locs ls hW hS hl
theorem J.zald (q0 j : Nat) {a len : Nat} {f : Nat → Int32} {i : Int32} (d : jd μ.2.1 pc .baload 1 p2) (he : ws[q0]? = some (a, .inl (G.2.1.2.1, len, .inl f))) (hi : i = nI j) (hj : j < len) (hb : len < 2 ^ 31) (h : J G X μ ws k n p2 lv (.int (f j) :: st)) : J G X μ ws k n pc lv (.int i :: .ref a :: st) := by
  obtain ⟨p, l, e, R, s, m, args, below, meth, c, Q⟩ := X
  obtain ⟨own, cc, nL, ret⟩ := μ
  obtain ⟨d, rfl⟩ := d
  subst hi
  intro C H locs ls hW hS hl
  refine va_zald (D := G.1) (tys := jtys G) C.1 C.2.1 C.2.2.2.2.2.1.1 hW.1 q0 1 he rfl (vp_in_nI hj hb) d ?_
  rw [nI_clamp (Nat.lt_trans hj hb)]
  exact h C H locs ls hW hS hl
theorem J.iast (q0 j : Nat) {a len : Nat} {f : Nat → Int32} {i x : Int32} {ws' : va_W} (d : jd μ.2.1 pc .iastore 1 p2) (he : ws[q0]? = some (a, .inl (G.2.1.1, len, .inl f))) (hi : i = nI j) (hj : j < len) (hb : len < 2 ^ 31) (hw : ws.set q0 (a, .inl (G.2.1.1, len, .inl (upd f j x))) = ws') (h : J G X μ ws' k n p2 lv st) : J G X μ ws k n pc lv (.int x :: .int i :: .ref a :: st) := by
  obtain ⟨p, l, e, R, s, m, args, below, meth, c, Q⟩ := X
  obtain ⟨own, cc, nL, ret⟩ := μ
  obtain ⟨d, rfl⟩ := d
  subst hi
  subst hw
  intro C H locs ls hW hS hl
  refine va_iast (D := G.1) (tys := jtys G) C.1 C.2.1 C.2.2.2.2.2.1.1 hW.1 hW.2 hS q0 0 he rfl (vp_in_nI hj hb) d (fun H1 locs1 a1 a2 a3 => ?_)
  rw [nI_clamp (Nat.lt_trans hj hb)] at a1 a2
  exact h C H1 locs1 ls ⟨a1, a2⟩ a3 hl
theorem J.zast (q0 j : Nat) {a len : Nat} {f : Nat → Int32} {i x : Int32} {ws' : va_W} (d : jd μ.2.1 pc .bastore 1 p2) (he : ws[q0]? = some (a, .inl (G.2.1.2.1, len, .inl f))) (hi : i = nI j) (hj : j < len) (hb : len < 2 ^ 31) (hx : vp_nar .boolean x = x) (hw : ws.set q0 (a, .inl (G.2.1.2.1, len, .inl (upd f j x))) = ws') (h : J G X μ ws' k n p2 lv st) : J G X μ ws k n pc lv (.int x :: .int i :: .ref a :: st) := by
  obtain ⟨p, l, e, R, s, m, args, below, meth, c, Q⟩ := X
  obtain ⟨own, cc, nL, ret⟩ := μ
  obtain ⟨d, rfl⟩ := d
  subst hi
  subst hw
  intro C H locs ls hW hS hl
  refine va_zast (D := G.1) (tys := jtys G) C.1 C.2.1 C.2.2.2.2.2.1.1 hW.1 hW.2 hS q0 1 he rfl (vp_in_nI hj hb) d (fun H1 locs1 a1 a2 a3 => ?_)
  rw [nI_clamp (Nat.lt_trans hj hb), hx] at a1 a2
  exact h C H1 locs1 ls ⟨a1, a2⟩ a3 hl
theorem J.aald (q0 t0 j : Nat) {a len b : Nat} {C0 : String} {cA : ClassId} {f : Nat → Option Nat} {i : Int32} (d : jd μ.2.1 pc .aaload 1 p2) (ht : (jtys G)[t0]? = some (cA, .object C0)) (he : ws[q0]? = some (a, .inl (cA, len, .inr (.inr (.inr (.inr f)))))) (hi : i = nI j) (hj : j < len) (hb : len < 2 ^ 31) (hf : f j = some b) (h : J G X μ ws k n p2 lv (.ref b :: st)) : J G X μ ws k n pc lv (.int i :: .ref a :: st) := by
  obtain ⟨p, l, e, R, s, m, args, below, meth, c, Q⟩ := X
  obtain ⟨own, cc, nL, ret⟩ := μ
  obtain ⟨d, rfl⟩ := d
  subst hi
  intro C H locs ls hW hS hl
  refine va_aldq (D := G.1) (tys := jtys G) C.1 C.2.1 C.2.2.2.2.2.1.1 hW.1 q0 t0 he ht (vp_in_nI hj hb) d ?_
  rw [nI_clamp (Nat.lt_trans hj hb), hf]
  exact h C H locs ls hW hS hl
theorem J.aast (q0 t0 qk ci j : Nat) {a len v : Nat} {cA : ClassId} {r : vw_C} {vs : List Value} {f : Nat → Option Nat} {i : Int32} {ws' : va_W} (d : jd μ.2.1 pc .aastore 1 p2) (ht : (jtys G)[t0]? = some (cA, .object r.1)) (he : ws[q0]? = some (a, .inl (cA, len, .inr (.inr (.inr (.inr f)))))) (hv : ws[qk]? = some (v, .inr (ci, vs))) (hc : cls9[ci]? = some r) (hi : i = nI j) (hj : j < len) (hb : len < 2 ^ 31) (hw : ws.set q0 (a, .inl (cA, len, .inr (.inr (.inr (.inr (va_up f j (some v))))))) = ws') (h : J G X μ ws' k n p2 lv st) : J G X μ ws k n pc lv (.ref v :: .int i :: .ref a :: st) := by
  obtain ⟨p, l, e, R, s, m, args, below, meth, c, Q⟩ := X
  obtain ⟨own, cc, nL, ret⟩ := μ
  obtain ⟨d, rfl⟩ := d
  subst hi
  subst hw
  intro C H locs ls hW hS hl
  refine va_astq (D := G.1) (tys := jtys G) C.1 C.2.1 C.2.2.2.2.2.1.1 hW.1 hW.2 hS q0 t0 qk ci he ht hv hc (vp_in_nI hj hb) d (fun H1 locs1 a1 a2 a3 => ?_)
  rw [nI_clamp (Nat.lt_trans hj hb)] at a1 a2
  exact h C H1 locs1 ls ⟨a1, a2⟩ a3 hl
theorem J.alen (q0 t0 : Nat) {a : Nat} {cA : ClassId} {x : vp_A} {ty : FieldType} (v : Int32) (d : jd μ.2.1 pc .arraylength 1 p2) (ht : (jtys G)[t0]? = some (cA, ty)) (he : ws[q0]? = some (a, .inl (cA, x))) (hv : Int32.ofNat x.1 = v) (h : J G X μ ws k n p2 lv (.int v :: st)) : J G X μ ws k n pc lv (.ref a :: st) := by
  obtain ⟨p, l, e, R, s, m, args, below, meth, c, Q⟩ := X
  obtain ⟨own, cc, nL, ret⟩ := μ
  obtain ⟨d, rfl⟩ := d
  intro C H locs ls hW hS hl
  exact va_alen (D := G.1) (tys := jtys G) C.1 C.2.1 C.2.2.2.2.2.1.1 hW.1 q0 t0 he ht hv d (h C H locs ls hW hS hl)
theorem jA_old {G : jG} {X : jX} {μ : jM} (C : jC G X μ) : ∀ q, X.2.2.2.2.1.heap.size ≤ q → jA G q := by
  obtain ⟨p, l, e, R, s, m, args, below, meth, c, Q⟩ := X
  obtain ⟨own, cc, nL, ret⟩ := μ
  exact fun q h => Nat.le_trans C.2.2.2.2.2.2.2.2 h
variable {l : Launch} {fr lo mc ms : Nat} {post : Option Value → va_W → Prop} {nm : String}
theorem J.newi (N' : Nat) (B : jB l G X fr lo mc ms post nm) {i : Int32} (d : jd μ.2.1 pc (.newarray .int) 2 p2) (harr : Cond.arrayClass .int ∈ gt) (hi : i = nI N') (hN : Nat.ble N' 100000 = true) (hk : Nat.ble (k + 1) mc = true) (hn : Nat.ble (n + N') ms = true) (h : ∀ q : Nat, J G X μ ((q, .inl (G.2.1.1, N', .inl (fun _ => 0))) :: ws) (k + 1) (n + N') p2 lv (.ref q :: st)) : J G X μ ws k n pc lv (.int i :: st) := by
  obtain ⟨p, l, e, R, s, m, args, below, meth, c, Q⟩ := X
  obtain ⟨own, cc, nL, ret⟩ := μ
  obtain ⟨d, rfl⟩ := d
  subst hi
  have hN1 : N' ≤ 100000 := Nat.le_of_ble_eq_true hN
  obtain ⟨-, hR, -, -⟩ := B
  subst hR
  intro C H locs ls hW hS hl
  refine va_newa (D := G.1) (tys := jtys G) (atype := .int) (ty := .int) (a0 := (N', .inl (fun _ => 0))) C.1 C.2.1 (C.2.2.2.2.1 _ harr) rfl C.2.2.2.2.2.1.1 hW.1 hW.2 hS (jA_old C) (fun cA => rfl) (nI_pos (by omega)) (nI_clamp (by omega)) (by show N' * 4 ≤ _; omega) (Nat.le_of_ble_eq_true hk) (Nat.le_of_ble_eq_true hn) d (fun q cA H1 a0 a1 a2 a3 => ?_)
  have e : cA = G.2.1.1 := by
    have h1 := (a0.2 4 (cA, .int) rfl).2
    have h2 := (a0.2 0 (G.2.1.1, .int) rfl).2
    exact Option.some.inj (h1.symm.trans h2)
  subst e
  exact h q C H1 locs ls (jH.rot ⟨a1, a2⟩) a3 hl
theorem J.newz (N' : Nat) (B : jB l G X fr lo mc ms post nm) {i : Int32} (d : jd μ.2.1 pc (.newarray .boolean) 2 p2) (harr : Cond.arrayClass .boolean ∈ gt) (hi : i = nI N') (hN : Nat.ble N' 100000 = true) (hk : Nat.ble (k + 1) mc = true) (hn : Nat.ble (n + N') ms = true) (h : ∀ q : Nat, J G X μ ((q, .inl (G.2.1.2.1, N', .inl (fun _ => 0))) :: ws) (k + 1) (n + N') p2 lv (.ref q :: st)) : J G X μ ws k n pc lv (.int i :: st) := by
  obtain ⟨p, l, e, R, s, m, args, below, meth, c, Q⟩ := X
  obtain ⟨own, cc, nL, ret⟩ := μ
  obtain ⟨d, rfl⟩ := d
  subst hi
  have hN1 : N' ≤ 100000 := Nat.le_of_ble_eq_true hN
  obtain ⟨-, hR, -, -⟩ := B
  subst hR
  intro C H locs ls hW hS hl
  refine va_newa (D := G.1) (tys := jtys G) (atype := .boolean) (ty := .boolean) (a0 := (N', .inl (fun _ => 0))) C.1 C.2.1 (C.2.2.2.2.1 _ harr) rfl C.2.2.2.2.2.1.1 hW.1 hW.2 hS (jA_old C) (fun cA => rfl) (nI_pos (by omega)) (nI_clamp (by omega)) (by show N' * 1 ≤ _; omega) (Nat.le_of_ble_eq_true hk) (Nat.le_of_ble_eq_true hn) d (fun q cA H1 a0 a1 a2 a3 => ?_)
  have e : cA = G.2.1.2.1 := by
    have h1 := (a0.2 4 (cA, .boolean) rfl).2
    have h2 := (a0.2 1 (G.2.1.2.1, .boolean) rfl).2
    exact Option.some.inj (h1.symm.trans h2)
  subst e
  exact h q C H1 locs ls (jH.rot ⟨a1, a2⟩) a3 hl
theorem J.newq6 (N' : Nat) (B : jB l G X fr lo mc ms post nm) {ix : Nat} {i : Int32} (d : jd μ.2.1 pc (.anewarray ix) 3 p2) (hcl : Cond.classLink μ.1 ix RX6 ∈ gt) (hi : i = nI N') (hN : Nat.ble N' 100000 = true) (hk : Nat.ble (k + 1) mc = true) (hn : Nat.ble (n + N') ms = true) (h : ∀ q : Nat, J G X μ ((q, .inl (G.2.1.2.2.1, N', .inr (.inr (.inr (.inr (fun _ => none)))))) :: ws) (k + 1) (n + N') p2 lv (.ref q :: st)) : J G X μ ws k n pc lv (.int i :: st) := by
  obtain ⟨p, l, e, R, s, m, args, below, meth, c, Q⟩ := X
  obtain ⟨own, cc, nL, ret⟩ := μ
  obtain ⟨d, rfl⟩ := d
  subst hi
  have hN1 : N' ≤ 100000 := Nat.le_of_ble_eq_true hN
  obtain ⟨-, hR, -, -⟩ := B
  subst hR
  intro C H locs ls hW hS hl
  refine va_newq (D := G.1) (tys := jtys G) (C := RX6) C.1 C.2.1 C.2.2.2.1 (C.2.2.2.2.1 _ hcl) C.2.2.2.2.2.1.2.2.1 C.2.2.2.2.2.1.1 hW.1 hW.2 hS (jA_old C) (nI_pos (by omega)) (nI_clamp (by omega)) (by omega) (Nat.le_of_ble_eq_true hk) (Nat.le_of_ble_eq_true hn) d (fun q cA H1 a0 a1 a2 a3 => ?_)
  have e : cA = G.2.1.2.2.1 := by
    obtain ⟨_, _, -, -, -, h1⟩ := (a0.2 4 (cA, .object RX6) rfl).2
    obtain ⟨_, _, -, -, -, h2⟩ := (a0.2 2 (G.2.1.2.2.1, .object RX6) rfl).2
    exact Option.some.inj (h1.symm.trans h2)
  subst e
  exact h q C H1 locs ls (jH.rot ⟨a1, a2⟩) a3 hl
theorem J.newq5 (N' : Nat) (B : jB l G X fr lo mc ms post nm) {ix : Nat} {i : Int32} (d : jd μ.2.1 pc (.anewarray ix) 3 p2) (hcl : Cond.classLink μ.1 ix RX5 ∈ gt) (hi : i = nI N') (hN : Nat.ble N' 100000 = true) (hk : Nat.ble (k + 1) mc = true) (hn : Nat.ble (n + N') ms = true) (h : ∀ q : Nat, J G X μ ((q, .inl (G.2.1.2.2.2, N', .inr (.inr (.inr (.inr (fun _ => none)))))) :: ws) (k + 1) (n + N') p2 lv (.ref q :: st)) : J G X μ ws k n pc lv (.int i :: st) := by
  obtain ⟨p, l, e, R, s, m, args, below, meth, c, Q⟩ := X
  obtain ⟨own, cc, nL, ret⟩ := μ
  obtain ⟨d, rfl⟩ := d
  subst hi
  have hN1 : N' ≤ 100000 := Nat.le_of_ble_eq_true hN
  obtain ⟨-, hR, -, -⟩ := B
  subst hR
  intro C H locs ls hW hS hl
  refine va_newq (D := G.1) (tys := jtys G) (C := RX5) C.1 C.2.1 C.2.2.2.1 (C.2.2.2.2.1 _ hcl) C.2.2.2.2.2.1.2.2.2 C.2.2.2.2.2.1.1 hW.1 hW.2 hS (jA_old C) (nI_pos (by omega)) (nI_clamp (by omega)) (by omega) (Nat.le_of_ble_eq_true hk) (Nat.le_of_ble_eq_true hn) d (fun q cA H1 a0 a1 a2 a3 => ?_)
  have e : cA = G.2.1.2.2.2 := by
    obtain ⟨_, _, -, -, -, h1⟩ := (a0.2 4 (cA, .object RX5) rfl).2
    obtain ⟨_, _, -, -, -, h2⟩ := (a0.2 3 (G.2.1.2.2.2, .object RX5) rfl).2
    exact Option.some.inj (h1.symm.trans h2)
  subst e
  exact h q C H1 locs ls (jH.rot ⟨a1, a2⟩) a3 hl
def jdf (ty : Nat → FieldType) (fs : List Value) (N : Nat) : Prop := ∀ j, j < N → defaultValue (ty j) = vp_V fs j
theorem J.new (B : jB l G X fr lo mc ms post nm) {ix ci : Nat} {C0 : String} {T : u_T} {N : Nat} {ty : Nat → FieldType} {fs : List Value} (d : jd μ.2.1 pc (.new ix) 3 p2) (F : jcl ci C0 T N) (hty : ∀ j, j < N → parseFieldDescriptor (T j).2.2.1 = some (ty j)) (hcl : Cond.classLink μ.1 ix C0 ∈ gt) (hi : Cond.instantiable C0 N ∈ gt) (hini : Cond.initialized C0 ∈ gt) (hfs : jdf ty fs N) (hk : Nat.ble (k + 1) mc = true) (hn : Nat.ble (n + N) ms = true) (h : ∀ q : Nat, J G X μ ((q, .inr (ci, fs)) :: ws) (k + 1) (n + N) p2 lv (.ref q :: st)) : J G X μ ws k n pc lv st := by
  obtain ⟨p, l, e, R, s, m, args, below, meth, c, Q⟩ := X
  obtain ⟨own, cc, nL, ret⟩ := μ
  obtain ⟨d, rfl⟩ := d
  obtain ⟨-, hR, -, -⟩ := B
  subst hR
  obtain ⟨hc, hin, -, -⟩ := F
  intro C H locs ls hW hS hl
  exact va_new (D := G.1) (tys := jtys G) C.1 C.2.1 C.2.2.2.2.1 hin ty hty C.2.2.2.1 (C.2.2.2.2.1 _ hcl) (C.2.2.2.2.1 _ hi) (C.2.2.2.2.1 _ hini) C.2.2.2.2.2.1.1 hW.1 hW.2 hS (jA_old C) hc hfs (Nat.le_of_ble_eq_true hk) (Nat.le_of_ble_eq_true hn) d (fun q H1 a1 a2 a3 => h q C H1 locs ls (jH.rot ⟨a1, a2⟩) a3 hl)
/-- ends -/
theorem J.iret (B : jB l G X fr lo mc ms post nm) {v : Int32} (d : jd μ.2.1 pc .ireturn 1 p2) (hr : μ.2.2.2 = some .int) (hp : post (some (.int v)) ws) : J G X μ ws mc ms pc lv [.int v] := by
  obtain ⟨p, l, e, R, s, m, args, below, meth, c, Q⟩ := X
  obtain ⟨own, cc, nL, ret⟩ := μ
  obtain ⟨d, rfl⟩ := d
  obtain ⟨-, -, hQ, -⟩ := B
  subst hQ
  intro C H locs ls hW hS hl
  exact W.iret C.1 C.2.1 (C.2.2.2.2.2.2.1.trans hr) (fun t ht _ => ⟨⟨_, ws, rfl, hp, by rw [ht]; exact hW⟩, hS.F ht⟩) hS.2.2 d C.2.2.2.2.2.2.2.1
theorem J.zret (B : jB l G X fr lo mc ms post nm) {v : Int32} (d : jd μ.2.1 pc .ireturn 1 p2) (hr : μ.2.2.2 = some .boolean) (hv : v = 0 ∨ v = 1) (hp : post (some (.int v)) ws) : J G X μ ws mc ms pc lv [.int v] := by
  obtain ⟨p, l, e, R, s, m, args, below, meth, c, Q⟩ := X
  obtain ⟨own, cc, nL, ret⟩ := μ
  obtain ⟨d, rfl⟩ := d
  obtain ⟨-, -, hQ, -⟩ := B
  subst hQ
  intro C H locs ls hW hS hl
  exact W.zret C.1 C.2.1 (C.2.2.2.2.2.2.1.trans hr) (by rcases hv with rfl | rfl <;> rfl) (fun t ht _ => ⟨⟨_, ws, rfl, hp, by rw [ht]; exact hW⟩, hS.F ht⟩) hS.2.2 d C.2.2.2.2.2.2.2.1
theorem J.lret (B : jB l G X fr lo mc ms post nm) {v : Int64} (d : jd μ.2.1 pc .lreturn 1 p2) (hr : μ.2.2.2 = some .long) (hp : post (some (.long v)) ws) : J G X μ ws mc ms pc lv [.long v] := by
  obtain ⟨p, l, e, R, s, m, args, below, meth, c, Q⟩ := X
  obtain ⟨own, cc, nL, ret⟩ := μ
  obtain ⟨d, rfl⟩ := d
  obtain ⟨-, -, hQ, -⟩ := B
  subst hQ
  intro C H locs ls hW hS hl
  exact W.lret C.1 C.2.1 (C.2.2.2.2.2.2.1.trans hr) (fun t ht _ => ⟨⟨_, ws, rfl, hp, by rw [ht]; exact hW⟩, hS.F ht⟩) hS.2.2 d C.2.2.2.2.2.2.2.1
theorem J.vret (B : jB l G X fr lo mc ms post nm) (d : jd μ.2.1 pc .return_ 1 p2) (hr : μ.2.2.2 = none) (hp : post none ws) : J G X μ ws mc ms pc lv [] := by
  obtain ⟨p, l, e, R, s, m, args, below, meth, c, Q⟩ := X
  obtain ⟨own, cc, nL, ret⟩ := μ
  obtain ⟨d, rfl⟩ := d
  obtain ⟨-, -, hQ, -⟩ := B
  subst hQ
  intro C H locs ls hW hS hl
  exact W.vret C.1 C.2.1 (C.2.2.2.2.2.2.1.trans hr) (fun t ht _ => ⟨⟨_, ws, rfl, hp, by rw [ht]; exact hW⟩, hS.F ht⟩) hS.2.2 d C.2.2.2.2.2.2.2.1
theorem J.aret (B : jB l G X fr lo mc ms post nm) {v : Value} {cn : String} (d : jd μ.2.1 pc .areturn 1 p2) (hr : μ.2.2.2 = some (.object cn)) (hv : v = .null ∨ ∃ a, v = .ref a) (hp : post (some v) ws) : J G X μ ws mc ms pc lv [v] := by
  obtain ⟨p, l, e, R, s, m, args, below, meth, c, Q⟩ := X
  obtain ⟨own, cc, nL, ret⟩ := μ
  obtain ⟨d, rfl⟩ := d
  obtain ⟨-, -, hQ, -⟩ := B
  subst hQ
  intro C H locs ls hW hS hl
  exact W.aret C.1 C.2.1 (C.2.2.2.2.2.2.1.trans hr) (Or.inl ⟨_, rfl⟩) hv (fun t ht _ => ⟨⟨_, ws, rfl, hp, by rw [ht]; exact hW⟩, hS.F ht⟩) hS.2.2 d C.2.2.2.2.2.2.2.1
theorem Met.ofWF {l : Launch} {y : MethodName} {ws ws' : List Cond} {rm : Room} {Pc : Array Value → State → Prop} {Qc : Array Value → State → Outcome → State → Prop} {mc ms : Nat} {free : Addr → Prop} {cc : ByteArray} {maxL : Nat} {ret : Option FieldType}
    (hy : plainFor y = true) (hw : ws = Cond.code y cc maxL ret :: ws')
    (body : ∀ p e s m args below meth c s₁, BodyLoose p l y (headSpec ws rm) cc maxL ret e s m args below meth c s₁ → c.maxLocals = maxL → Pc args s →
      W p l e (headSpec ws rm).room s m args below meth c s.heap [] 0 0 (MQ below Qc args s mc ms free) (entryFrame m args maxL)) : Met l y ws rm Pc Qc mc ms free := by
  refine MetFree.of_bodyRF (code := cc) (maxLocals := maxL) (ret := ret) hy ?_ ?_
  · intro args s m h hn
    obtain ⟨meth, c, h1, h2, h3, h4, h5, h6, -, -⟩ := Cond.code_spec hn (atoms_spec (ws := ws) h _ (by rw [hw]; exact List.mem_cons_self))
    exact ⟨meth, c, h1, h2, h3, h4, h5, h6⟩
  · intro p e s m args below meth c s₁ B hml hP _ hsteps
    have hh0 : s₁.heap = s.heap := by rw [B.state]; rfl
    obtain ⟨t, a1, o, b1, b2, b3⟩ := body p e s m args below meth c s₁ B hml hP s₁ hh0 (Stand.of_body B)
    exact ⟨t, o, hsteps.trans a1, b1, b2, ⟨b3.1, b3.2⟩⟩
/-- a contract, out of a walk -/
theorem Mt.of {y : MethodName} {av : List Value} (hy : plainFor y = true) (hc : y.cls = μ.1) (hn : Nat.ble (lg_sl av).length μ.2.2.1 = true)
    (h : ∀ X : jX, jB l G X fr lo mc ms post y.name → J G X μ ws 0 0 0 (lv_args 0 av) []) : Mt l G y μ fr lo mc ms av ws post := by
  obtain ⟨own, cc, nL, ret⟩ := μ
  refine Met.ofWF (cc := cc) (maxL := nL) (ret := ret) hy rfl ?_
  intro p e s m args below meth c s₁ B hml hv
  obtain ⟨rfl, hW, hK, hz⟩ := hv
  have hts := atoms_spec (ws := jWs y (own, cc, nL, ret)) B.pre
  have hl := lv_entry av (n := nL) (Nat.le_of_ble_eq_true hn)
  rw [lg_entry_eq]
  exact h (p, l, e, jRm fr lo mc ms, s, m, av.toArray, below, meth, c, MQ below (jQ G post) av.toArray s mc ms (jA G)) ⟨rfl, rfl, rfl, (name_of_methodNamed B.named B.method).1⟩
    ⟨B.exec, B.bytes, hml, by rw [show own = y.cls from hc.symm]; exact findClass_of_methodNamed B.named, fun w hw => hts w (List.mem_cons_of_mem _ hw), hK, B.returns, B.notSynchronized, hz⟩ s.heap [] _ hW va_S.rf hl
theorem jK.calling {G : jG} {U : State} {g : JFrame} {mk : MethodId} {a : Array Value} (h : jK G U) : jK G (U.calling g mk a) := by
  refine ⟨va_K.moved (u := U) (U := U.calling g mk a) (Vm.Alike.refl U.vm) h.1, fun w hw => ?_, va_AO.moved (u := U) (U := U.calling g mk a) (Vm.Alike.refl U.vm) h.2.2.1, va_AO.moved (u := U) (U := U.calling g mk a) (Vm.Alike.refl U.vm) h.2.2.2⟩
  have h1 := h.2.1 w hw
  have h2 := (List.mem_filter.mp hw).2
  have h3 : w.onTables = true := by cases w <;> first | rfl | (simp [jisN] at h2)
  exact va_Nw.same (u := U) (U := U.calling g mk a) h3 rfl h1
theorem jP.blind {G : jG} {av : List Value} {ws : va_W} : FrameBlind (jP G av ws) := fun _ _ _ _ h => ⟨h.1, h.2.1, h.2.2.1.calling, h.2.2.2⟩
theorem jP.at {G : jG} {av : List Value} {ws : va_W} {s : State} {H : Heap} (hW : jH G ws H) (hK : jK G s) (hz : G.2.2 ≤ H.size) : ∀ U : State, U.heap = H → s.WarmedH U.vm → jP G av ws av.toArray U := fun U hU hw => ⟨rfl, by rw [hU]; exact hW, hK.warm hw, by rw [hU]; exact hz⟩
def jmf (y : MethodName) (μy : jM) (na : Nat) : Prop := Cond.code y μy.2.1 μy.2.2.1 μy.2.2.2 ∈ gt ∧ Cond.initialized y.cls ∈ gt ∧ y.cls ≠ "java/lang/invoke/MethodHandle" ∧ y.cls ≠ "java/lang/invoke/VarHandle" ∧ (parseMethodDescriptor y.desc).map (fun d => d.parameters.length) = some na
def jmi (y : MethodName) : Prop := Cond.instanceMethod y ∈ gt ∧ Cond.selects y.cls y y ∈ gt
def jml (own : String) (ix : Nat) (y : MethodName) : Prop := Cond.methodLink own ix y ∈ gt ∨ ∃ host, Cond.methodLinkNest own ix y host ∈ nt
theorem gt_in {y : MethodName} {μy : jM} {na : Nat} (F : jmf y μy na) : GoodIn gt (jWs y μy) := by
  intro w hw
  rcases List.mem_cons.mp hw with rfl | hw
  · exact gt_good _ F.1
  · exact gt_good _ hw
theorem jcall {p : Program} {l : Launch} {e : Env} {R : Room} {s : State} {m : MethodId} {args : Array Value} {below : List Frame} {meth : Method} {c : Code} {H : Heap} {locs : List Loc} {cells slots mc ms pc : Nat} {Q : State → Prop} {ls : Array Slot} {rest st0 : List Value} {a : Array Value} {G : jG} {post : Option Value → va_W → Prop}
    (hr : va_Run p l e R s m args below meth c H locs cells slots mc ms (F0 m pc ls st0) rest (jQ G post a) (jA G)) (hS : va_S (jA G) s.heap H locs)
    (kk : ∀ (v : Option Value) (ws' : va_W) (H1 : Heap) (locs1 : List Loc), post v ws' → jH G ws' H1 → va_S (jA G) s.heap H1 locs1 → W p l e R s m args below meth c H1 locs1 (cells + mc) (slots + ms) Q (F0 m (pc + 3) ls (v.toList ++ rest))) : W p l e R s m args below meth c H locs cells slots Q (F0 m pc ls st0) := by
  intro T hT X
  obtain ⟨v, st₀, t, T', L, h0, X', hL, e1, e2, ⟨⟨v', ws', hv, hp, hb⟩, hz, hk⟩, st⟩ := hr T hT X
  cases hv
  rw [h0] at hz hk
  obtain ⟨t2, a1, b1⟩ := kk v ws' T'.heap (locs ++ L) hp (by rw [e1]; exact hb)
    ⟨Nat.le_trans hS.1 (by rw [e1]; exact hz), fun q h1 h2 => by rw [e1, hk q (Nat.lt_of_lt_of_le h1 hS.1) h2]; exact hS.2.1 q h1 h2, fun q hq => by
      rcases List.mem_append.mp hq with h | h
      · exact hS.2.2 q h
      · exact hL q h⟩ T' rfl X'
  exact ⟨t2, st t2 a1, b1⟩
theorem jsz {G : jG} {X : jX} {μ : jM} {H : Heap} {locs : List Loc} (C : jC G X μ) (hS : va_S (jA G) X.2.2.2.2.1.heap H locs) : G.2.2 ≤ H.size := by
  obtain ⟨p, l, e, R, s, m, args, below, meth, c, Q⟩ := X
  obtain ⟨own, cc, nL, ret⟩ := μ
  exact Nat.le_trans C.2.2.2.2.2.2.2.2 hS.1
theorem J.callV (q0 : Nat) {b ci ix na fr1 lo1 mc1 ms1 : Nat} {y : MethodName} {μy : jM} {T : u_T} {N : Nat} {fs As stk : List Value} {po : Option Value → va_W → Prop} (B : jB l G X fr lo mc ms post nm) (M : Mt l G y μy fr1 lo1 mc1 ms1 (.ref b :: As) ws po) (L : jml μ.1 ix y) (F : jmf y μy na) (F2 : jmi y) (hc : cls9[ci]? = some (y.cls, T, N)) (d : jd μ.2.1 pc (.invokevirtual ix) 3 p2) (he : ws[q0]? = some (b, .inr (ci, fs))) (hstk : stk = As.reverse ++ .ref b :: st) (hna : As.length = na)
    (hr : (Nat.ble (fr1 + 1) fr && Nat.ble (8 + (μy.2.2.1 + 11) + lo1) lo && Nat.ble (k + mc1) mc && Nat.ble (n + ms1) ms && Nat.ble ((st.map fun v => v.category).sum) 8) = true)
    (h : ∀ (v : Option Value) (ws' : va_W), po v ws' → J G X μ ws' (k + mc1) (n + ms1) p2 lv (v.toList ++ st)) : J G X μ ws k n pc lv stk := by
  obtain ⟨p, l, e, R, s, m, args, below, meth, c, Q⟩ := X
  obtain ⟨own, cc, nL, ret⟩ := μ
  obtain ⟨own1, cc1, nL1, ret1⟩ := μy
  obtain ⟨d, rfl⟩ := d
  obtain ⟨rfl, hR, -, -⟩ := B
  subst hR
  simp only [Bool.and_eq_true] at hr
  obtain ⟨⟨⟨⟨h1, h2⟩, h3⟩, h4⟩, h5⟩ := hr
  intro C H locs ls hW hS hl
  obtain ⟨f1, f2, f3, f4, f5⟩ := F
  have hq := jP.at (G := G) (av := .ref b :: As) hW C.2.2.2.2.2.1 (jsz C hS)
  rcases L with L | ⟨host, L⟩
  · exact jcall (va_runV (As := As) (rest := st) ⟨C.1, C.2.1, C.2.2.1, C.2.2.2.1, C.2.2.2.2.1⟩ M ⟨callB_of na C.2.2.2.2.1 (gt_in ⟨f1, f2, f3, f4, f5⟩) rfl rfl rfl (C.2.2.2.2.1 _ f2) (C.2.2.2.2.1 _ L) ⟨f3, f4, f5⟩ ⟨Nat.le_of_ble_eq_true h1, Nat.le_of_ble_eq_true h2⟩, C.2.2.2.2.1 _ F2.1, C.2.2.2.2.1 _ F2.2⟩ ⟨jP.blind, va_recv C.2.2.2.2.2.1.1 hW.1 hc he, hq⟩ rfl hna hl.1 hstk (lv_room (Nat.le_of_ble_eq_true h5)) d ⟨Nat.le_of_ble_eq_true h3, Nat.le_of_ble_eq_true h4⟩) hS (fun v ws' H1 locs1 hp hw hs => h v ws' hp C H1 locs1 ls hw hs hl)
  · exact jcall (va_runVN (As := As) (rest := st) ⟨C.1, C.2.1, C.2.2.1, C.2.2.2.1, C.2.2.2.2.1⟩ M ⟨va_cnB na C.2.2.2.2.1 (gt_in ⟨f1, f2, f3, f4, f5⟩) rfl rfl rfl (C.2.2.2.2.2.1.2.1 _ L) (C.2.2.2.2.1 _ f2) ⟨f3, f4, f5⟩ ⟨Nat.le_of_ble_eq_true h1, Nat.le_of_ble_eq_true h2⟩, C.2.2.2.2.1 _ F2.1, C.2.2.2.2.1 _ F2.2⟩ ⟨jP.blind, va_recv C.2.2.2.2.2.1.1 hW.1 hc he, hq⟩ rfl hna hl.1 hstk (lv_room (Nat.le_of_ble_eq_true h5)) d ⟨Nat.le_of_ble_eq_true h3, Nat.le_of_ble_eq_true h4⟩) hS (fun v ws' H1 locs1 hp hw hs => h v ws' hp C H1 locs1 ls hw hs hl)
theorem J.callS {ix na fr1 lo1 mc1 ms1 : Nat} {y : MethodName} {μy : jM} {As stk : List Value} {po : Option Value → va_W → Prop} (B : jB l G X fr lo mc ms post nm) (M : Mt l G y μy fr1 lo1 mc1 ms1 As ws po) (L : jml μ.1 ix y) (F : jmf y μy na) (F2 : Cond.static y ∈ gt) (d : jd μ.2.1 pc (.invokestatic ix) 3 p2) (hstk : stk = As.reverse ++ st) (hna : As.length = na)
    (hr : (Nat.ble (fr1 + 1) fr && Nat.ble (8 + (μy.2.2.1 + 11) + lo1) lo && Nat.ble (k + mc1) mc && Nat.ble (n + ms1) ms && Nat.ble ((st.map fun v => v.category).sum) 8) = true)
    (h : ∀ (v : Option Value) (ws' : va_W), po v ws' → J G X μ ws' (k + mc1) (n + ms1) p2 lv (v.toList ++ st)) : J G X μ ws k n pc lv stk := by
  obtain ⟨p, l, e, R, s, m, args, below, meth, c, Q⟩ := X
  obtain ⟨own, cc, nL, ret⟩ := μ
  obtain ⟨own1, cc1, nL1, ret1⟩ := μy
  obtain ⟨d, rfl⟩ := d
  obtain ⟨rfl, hR, -, -⟩ := B
  subst hR
  simp only [Bool.and_eq_true] at hr
  obtain ⟨⟨⟨⟨h1, h2⟩, h3⟩, h4⟩, h5⟩ := hr
  intro C H locs ls hW hS hl
  obtain ⟨f1, f2, f3, f4, f5⟩ := F
  have hq := jP.at (G := G) (av := As) hW C.2.2.2.2.2.1 (jsz C hS)
  rcases L with L | ⟨host, L⟩
  · exact jcall (va_runS (As := As) (rest := st) ⟨C.1, C.2.1, C.2.2.1, C.2.2.2.1, C.2.2.2.2.1⟩ M ⟨callB_of na C.2.2.2.2.1 (gt_in ⟨f1, f2, f3, f4, f5⟩) rfl rfl rfl (C.2.2.2.2.1 _ f2) (C.2.2.2.2.1 _ L) ⟨f3, f4, f5⟩ ⟨Nat.le_of_ble_eq_true h1, Nat.le_of_ble_eq_true h2⟩, C.2.2.2.2.1 _ F2⟩ ⟨jP.blind, hq⟩ rfl hna hl.1 hstk (lv_room (Nat.le_of_ble_eq_true h5)) d ⟨Nat.le_of_ble_eq_true h3, Nat.le_of_ble_eq_true h4⟩) hS (fun v ws' H1 locs1 hp hw hs => h v ws' hp C H1 locs1 ls hw hs hl)
  · exact jcall (va_runSN (As := As) (rest := st) ⟨C.1, C.2.1, C.2.2.1, C.2.2.2.1, C.2.2.2.2.1⟩ M ⟨va_cnB na C.2.2.2.2.1 (gt_in ⟨f1, f2, f3, f4, f5⟩) rfl rfl rfl (C.2.2.2.2.2.1.2.1 _ L) (C.2.2.2.2.1 _ f2) ⟨f3, f4, f5⟩ ⟨Nat.le_of_ble_eq_true h1, Nat.le_of_ble_eq_true h2⟩, C.2.2.2.2.1 _ F2, trivial⟩ ⟨jP.blind, hq⟩ rfl hna hl.1 hstk (lv_room (Nat.le_of_ble_eq_true h5)) d ⟨Nat.le_of_ble_eq_true h3, Nat.le_of_ble_eq_true h4⟩) hS (fun v ws' H1 locs1 hp hw hs => h v ws' hp C H1 locs1 ls hw hs hl)
theorem J.callI {b ix na fr1 lo1 mc1 ms1 : Nat} {y : MethodName} {own1 : String} {cc1 : ByteArray} {nL1 : Nat} {As stk : List Value} {po : Option Value → va_W → Prop} (B : jB l G X fr lo mc ms post nm) (M : Mt l G y (own1, cc1, nL1, none) fr1 lo1 mc1 ms1 (.ref b :: As) ws po) (L : jml μ.1 ix y) (F : jmf y (own1, cc1, nL1, none) na) (F2 : Cond.instanceMethod y ∈ gt) (hy1 : y.name = "<init>") (d : jd μ.2.1 pc (.invokespecial ix) 3 p2) (hstk : stk = As.reverse ++ .ref b :: st) (hna : As.length = na)
    (hr : (Nat.ble (fr1 + 1) fr && Nat.ble (8 + (nL1 + 11) + lo1) lo && Nat.ble (k + mc1) mc && Nat.ble (n + ms1) ms && Nat.ble ((st.map fun v => v.category).sum) 8) = true)
    (h : ∀ (v : Option Value) (ws' : va_W), po v ws' → J G X μ ws' (k + mc1) (n + ms1) p2 lv (v.toList ++ st)) : J G X μ ws k n pc lv stk := by
  obtain ⟨p, l, e, R, s, m, args, below, meth, c, Q⟩ := X
  obtain ⟨own, cc, nL, ret⟩ := μ
  obtain ⟨d, rfl⟩ := d
  obtain ⟨rfl, hR, -, -⟩ := B
  subst hR
  simp only [Bool.and_eq_true] at hr
  obtain ⟨⟨⟨⟨h1, h2⟩, h3⟩, h4⟩, h5⟩ := hr
  intro C H locs ls hW hS hl
  obtain ⟨f1, f2, f3, f4, f5⟩ := F
  have hq := jP.at (G := G) (av := .ref b :: As) hW C.2.2.2.2.2.1 (jsz C hS)
  rcases L with L | ⟨host, L⟩
  · exact jcall (va_runI (As := As) (rest := st) ⟨C.1, C.2.1, C.2.2.1, C.2.2.2.1, C.2.2.2.2.1⟩ M ⟨callB_of na C.2.2.2.2.1 (gt_in ⟨f1, f2, f3, f4, f5⟩) rfl rfl rfl (C.2.2.2.2.1 _ f2) (C.2.2.2.2.1 _ L) ⟨f3, f4, f5⟩ ⟨Nat.le_of_ble_eq_true h1, Nat.le_of_ble_eq_true h2⟩, hy1, C.2.2.2.2.1 _ F2⟩ ⟨jP.blind, hq⟩ rfl hna hl.1 hstk (lv_room (Nat.le_of_ble_eq_true h5)) d ⟨Nat.le_of_ble_eq_true h3, Nat.le_of_ble_eq_true h4⟩) hS (fun v ws' H1 locs1 hp hw hs => h v ws' hp C H1 locs1 ls hw hs hl)
  · exact jcall (va_runIN (As := As) (rest := st) ⟨C.1, C.2.1, C.2.2.1, C.2.2.2.1, C.2.2.2.2.1⟩ M ⟨va_cnB na C.2.2.2.2.1 (gt_in ⟨f1, f2, f3, f4, f5⟩) rfl rfl rfl (C.2.2.2.2.2.1.2.1 _ L) (C.2.2.2.2.1 _ f2) ⟨f3, f4, f5⟩ ⟨Nat.le_of_ble_eq_true h1, Nat.le_of_ble_eq_true h2⟩, hy1, C.2.2.2.2.1 _ F2⟩ ⟨jP.blind, hq⟩ rfl hna hl.1 hstk (lv_room (Nat.le_of_ble_eq_true h5)) d ⟨Nat.le_of_ble_eq_true h3, Nat.le_of_ble_eq_true h4⟩) hS (fun v ws' H1 locs1 hp hw hs => h v ws' hp C H1 locs1 ls hw hs hl)
theorem J.objInit (B : jB l G X fr lo mc ms post nm) {ix a : Nat} (d : jd μ.2.1 pc (.invokespecial ix) 3 p2) (hL : Cond.methodLink μ.1 ix Lib.objectInit ∈ gt) (hI : Cond.instanceMethod Lib.objectInit ∈ gt) (hC : Cond.code Lib.objectInit ⟨#[0xb1]⟩ 1 none ∈ gt) (hr : (Nat.ble 1 fr && Nat.ble ((st.map fun v => v.category).sum + 12) lo) = true) (h : J G X μ ws k n p2 lv st) : J G X μ ws k n pc lv (.ref a :: st) := by
  obtain ⟨p, l, e, R, s, m, args, below, meth, c, Q⟩ := X
  obtain ⟨own, cc, nL, ret⟩ := μ
  obtain ⟨d, rfl⟩ := d
  obtain ⟨rfl, hR, -, -⟩ := B
  subst hR
  simp only [Bool.and_eq_true] at hr
  intro C H locs ls hW hS hl
  exact W.objInit C.1 C.2.1 C.2.2.2.1 (C.2.2.2.2.1 _ hL) (C.2.2.2.2.1 _ hI) (C.2.2.2.2.1 _ hC) rfl (hl.1.trans C.2.2.1.symm) rfl d (Nat.le_of_ble_eq_true hr.1) (by show 2 * 0 + _ + 12 ≤ _; have := Nat.le_of_ble_eq_true hr.2; simp only [Nat.mul_zero, Nat.zero_add]; exact this) (h C H locs ls hW hS hl)
end JR2
