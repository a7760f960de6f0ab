/-! THE LAW's own rows -/
abbrev mL : jM := (RL, cL_law, 4, some .boolean)
def jB0 (l : Launch) (X : jX) (fr lo mc ms : Nat) : Prop := match X with
  | (_, l', _, R, _, _, _, _, _, _, _) => l' = l ∧ R = jRm fr lo mc ms
section LW0
variable {G : jG} {X : jX} {μ : jM} {ws : va_W} {k n pc p2 : Nat} {lv : List (Nat × Value)} {st : List Value} {l : Launch} {fr lo mc ms : Nat}
theorem J.callV0 (q0 : Nat) {b ci ix na fr1 lo1 mc1 ms1 : Nat} {y : MethodName} {μy : jM} {T : u_T} {N : Nat} {fs As stk : List Value} {po : Option Value → va_W → Prop} (B : jB0 l X fr lo mc ms) (M : Mt l G y μy fr1 lo1 mc1 ms1 (.ref b :: As) ws po) (L : jml μ.1 ix y) (F : jmf y μy na) (F2 : jmi y) (hc : cls9[ci]? = some (y.cls, T, N)) (d : jd μ.2.1 pc (.invokevirtual ix) 3 p2) (he : ws[q0]? = some (b, .inr (ci, fs))) (hstk : stk = As.reverse ++ .ref b :: st) (hna : As.length = na)
    (hr : (Nat.ble (fr1 + 1) fr && Nat.ble (8 + (μy.2.2.1 + 11) + lo1) lo && Nat.ble ((st.map fun v => v.category).sum) 8) = true) (hkc : k + mc1 ≤ mc) (hnc : n + ms1 ≤ ms)
    (h : ∀ (v : Option Value) (ws' : va_W), po v ws' → J G X μ ws' (k + mc1) (n + ms1) p2 lv (v.toList ++ st)) : J G X μ ws k n pc lv stk := by
  obtain ⟨p, l, e, R, s, m, args, below, meth, c, Q⟩ := X
  obtain ⟨own, cc, nL, ret⟩ := μ
  obtain ⟨own1, cc1, nL1, ret1⟩ := μy
  obtain ⟨d, rfl⟩ := d
  obtain ⟨rfl, hR⟩ := B
  subst hR
  simp only [Bool.and_eq_true] at hr
  obtain ⟨⟨h1, h2⟩, h5⟩ := hr
  intro C H locs ls hW hS hl
  obtain ⟨f1, f2, f3, f4, f5⟩ := F
  have hq := jP.at (G := G) (av := .ref b :: As) hW C.2.2.2.2.2.1 (jsz C hS)
  rcases L with L | ⟨host, L⟩
  · exact jcall (va_runV (As := As) (rest := st) ⟨C.1, C.2.1, C.2.2.1, C.2.2.2.1, C.2.2.2.2.1⟩ M ⟨callB_of na C.2.2.2.2.1 (gt_in ⟨f1, f2, f3, f4, f5⟩) rfl rfl rfl (C.2.2.2.2.1 _ f2) (C.2.2.2.2.1 _ L) ⟨f3, f4, f5⟩ ⟨Nat.le_of_ble_eq_true h1, Nat.le_of_ble_eq_true h2⟩, C.2.2.2.2.1 _ F2.1, C.2.2.2.2.1 _ F2.2⟩ ⟨jP.blind, va_recv C.2.2.2.2.2.1.1 hW.1 hc he, hq⟩ rfl hna hl.1 hstk (lv_room (Nat.le_of_ble_eq_true h5)) d ⟨hkc, hnc⟩) hS (fun v ws' H1 locs1 hp hw hs => h v ws' hp C H1 locs1 ls hw hs hl)
  · exact jcall (va_runVN (As := As) (rest := st) ⟨C.1, C.2.1, C.2.2.1, C.2.2.2.1, C.2.2.2.2.1⟩ M ⟨va_cnB na C.2.2.2.2.1 (gt_in ⟨f1, f2, f3, f4, f5⟩) rfl rfl rfl (C.2.2.2.2.2.1.2.1 _ L) (C.2.2.2.2.1 _ f2) ⟨f3, f4, f5⟩ ⟨Nat.le_of_ble_eq_true h1, Nat.le_of_ble_eq_true h2⟩, C.2.2.2.2.1 _ F2.1, C.2.2.2.2.1 _ F2.2⟩ ⟨jP.blind, va_recv C.2.2.2.2.2.1.1 hW.1 hc he, hq⟩ rfl hna hl.1 hstk (lv_room (Nat.le_of_ble_eq_true h5)) d ⟨hkc, hnc⟩) hS (fun v ws' H1 locs1 hp hw hs => h v ws' hp C H1 locs1 ls hw hs hl)
theorem J.callI0 {b ix na fr1 lo1 mc1 ms1 : Nat} {y : MethodName} {own1 : String} {cc1 : ByteArray} {nL1 : Nat} {As stk : List Value} {po : Option Value → va_W → Prop} (B : jB0 l X fr lo mc ms) (M : Mt l G y (own1, cc1, nL1, none) fr1 lo1 mc1 ms1 (.ref b :: As) ws po) (L : jml μ.1 ix y) (F : jmf y (own1, cc1, nL1, none) na) (F2 : Cond.instanceMethod y ∈ gt) (hy1 : y.name = "<init>") (d : jd μ.2.1 pc (.invokespecial ix) 3 p2) (hstk : stk = As.reverse ++ .ref b :: st) (hna : As.length = na)
    (hr : (Nat.ble (fr1 + 1) fr && Nat.ble (8 + (nL1 + 11) + lo1) lo && Nat.ble ((st.map fun v => v.category).sum) 8) = true) (hkc : k + mc1 ≤ mc) (hnc : n + ms1 ≤ ms)
    (h : ∀ (v : Option Value) (ws' : va_W), po v ws' → J G X μ ws' (k + mc1) (n + ms1) p2 lv (v.toList ++ st)) : J G X μ ws k n pc lv stk := by
  obtain ⟨p, l, e, R, s, m, args, below, meth, c, Q⟩ := X
  obtain ⟨own, cc, nL, ret⟩ := μ
  obtain ⟨d, rfl⟩ := d
  obtain ⟨rfl, hR⟩ := B
  subst hR
  simp only [Bool.and_eq_true] at hr
  obtain ⟨⟨h1, h2⟩, h5⟩ := hr
  intro C H locs ls hW hS hl
  obtain ⟨f1, f2, f3, f4, f5⟩ := F
  have hq := jP.at (G := G) (av := .ref b :: As) hW C.2.2.2.2.2.1 (jsz C hS)
  rcases L with L | ⟨host, L⟩
  · exact jcall (va_runI (As := As) (rest := st) ⟨C.1, C.2.1, C.2.2.1, C.2.2.2.1, C.2.2.2.2.1⟩ M ⟨callB_of na C.2.2.2.2.1 (gt_in ⟨f1, f2, f3, f4, f5⟩) rfl rfl rfl (C.2.2.2.2.1 _ f2) (C.2.2.2.2.1 _ L) ⟨f3, f4, f5⟩ ⟨Nat.le_of_ble_eq_true h1, Nat.le_of_ble_eq_true h2⟩, hy1, C.2.2.2.2.1 _ F2⟩ ⟨jP.blind, hq⟩ rfl hna hl.1 hstk (lv_room (Nat.le_of_ble_eq_true h5)) d ⟨hkc, hnc⟩) hS (fun v ws' H1 locs1 hp hw hs => h v ws' hp C H1 locs1 ls hw hs hl)
  · exact jcall (va_runIN (As := As) (rest := st) ⟨C.1, C.2.1, C.2.2.1, C.2.2.2.1, C.2.2.2.2.1⟩ M ⟨va_cnB na C.2.2.2.2.1 (gt_in ⟨f1, f2, f3, f4, f5⟩) rfl rfl rfl (C.2.2.2.2.2.1.2.1 _ L) (C.2.2.2.2.1 _ f2) ⟨f3, f4, f5⟩ ⟨Nat.le_of_ble_eq_true h1, Nat.le_of_ble_eq_true h2⟩, hy1, C.2.2.2.2.1 _ F2⟩ ⟨jP.blind, hq⟩ rfl hna hl.1 hstk (lv_room (Nat.le_of_ble_eq_true h5)) d ⟨hkc, hnc⟩) hS (fun v ws' H1 locs1 hp hw hs => h v ws' hp C H1 locs1 ls hw hs hl)
theorem J.new0 (B : jB0 l X fr lo mc ms) {ix ci : Nat} {C0 : String} {T : u_T} {N : Nat} {ty : Nat → FieldType} {fs : List Value} (d : jd μ.2.1 pc (.new ix) 3 p2) (F : jcl ci C0 T N) (hty : ∀ j, j < N → parseFieldDescriptor (T j).2.2.1 = some (ty j)) (hcl : Cond.classLink μ.1 ix C0 ∈ gt) (hi : Cond.instantiable C0 N ∈ gt) (hini : Cond.initialized C0 ∈ gt) (hfs : jdf ty fs N) (hk : Nat.ble (k + 1) mc = true) (hn : Nat.ble (n + N) ms = true) (h : ∀ q : Nat, J G X μ ((q, .inr (ci, fs)) :: ws) (k + 1) (n + N) p2 lv (.ref q :: st)) : J G X μ ws k n pc lv st := by
  obtain ⟨p, l, e, R, s, m, args, below, meth, c, Q⟩ := X
  obtain ⟨own, cc, nL, ret⟩ := μ
  obtain ⟨d, rfl⟩ := d
  obtain ⟨-, hR⟩ := B
  subst hR
  obtain ⟨hc, hin, -, -⟩ := F
  intro C H locs ls hW hS hl
  exact va_new (D := G.1) (tys := jtys G) C.1 C.2.1 C.2.2.2.2.1 hin ty hty C.2.2.2.1 (C.2.2.2.2.1 _ hcl) (C.2.2.2.2.1 _ hi) (C.2.2.2.2.1 _ hini) C.2.2.2.2.2.1.1 hW.1 hW.2 hS (jA_old C) hc hfs (Nat.le_of_ble_eq_true hk) (Nat.le_of_ble_eq_true hn) d (fun q H1 a1 a2 a3 => h q C H1 locs ls (jH.rot ⟨a1, a2⟩) a3 hl)
theorem J.wideL {k' n' : Nat} (h1 : k ≤ k') (h2 : n ≤ n') (h : J G X μ ws k' n' pc lv st) : J G X μ ws k n pc lv st := by
  obtain ⟨p, l, e, R, s, m, args, below, meth, c, Q⟩ := X
  intro C H locs ls hW hS hl
  exact W.widen h1 h2 (h C H locs ls hW hS hl)
/-- the script -/
def jS (G : jG) (X : jX) (b N : Nat) (xs : Nat → Int32) : Prop := match X with
  | (_, _, _, _, s, _, _, _, _, _, _) => va_X b N xs s s.heap ∧ b < s.heap.size ∧ ¬ jA G b
theorem J.sld {b N j : Nat} {xs : Nat → Int32} {i y : Int32} (S : jS G X b N xs) (d : jd μ.2.1 pc .iaload 1 p2) (hi : i = nI j) (hj : j < N) (hN : N < 2 ^ 31) (hy : xs j = y) (h : J G X μ ws k n p2 lv (.int y :: st)) : J G X μ ws k n pc lv (.int i :: .ref b :: st) := by
  obtain ⟨p, l, e, R, s, m, args, below, meth, c, Q⟩ := X
  obtain ⟨own, cc, nL, ret⟩ := μ
  obtain ⟨d, rfl⟩ := d
  subst hi
  subst hy
  intro C H locs ls hW hS hl
  refine va_sld C.1 C.2.1 S.1 S.2.1 S.2.2 hS (vp_in_nI hj hN) d ?_
  rw [nI_clamp (Nat.lt_trans hj hN)]
  exact h C H locs ls hW hS hl
theorem J.slen {b N : Nat} {xs : Nat → Int32} (S : jS G X b N xs) (d : jd μ.2.1 pc .arraylength 1 p2) (h : J G X μ ws k n p2 lv (.int (nI N) :: st)) : J G X μ ws k n pc lv (.ref b :: st) := by
  obtain ⟨p, l, e, R, s, m, args, below, meth, c, Q⟩ := X
  obtain ⟨own, cc, nL, ret⟩ := μ
  obtain ⟨d, rfl⟩ := d
  intro C H locs ls hW hS hl
  exact va_slen C.1 C.2.1 S.1 S.2.1 S.2.2 hS d (h C H locs ls hW hS hl)
end LW0
theorem Mt.pm {l : Launch} {G : jG} {y : MethodName} {μ : jM} {fr lo mc ms : Nat} {av : List Value} {ws ws1 : va_W} {post : Option Value → va_W → Prop} (h : Mt l G y μ fr lo mc ms av ws1 post) (hp : ws.Perm ws1) : Mt l G y μ fr lo mc ms av ws post := h.conv (wle.pm hp) (fun _ w z => ⟨w, z, wle.rf⟩)
theorem Mt.re {l : Launch} {G : jG} {y : MethodName} {μ : jM} {fr lo mc ms : Nat} {av : List Value} {ws ws1 : va_W} {post : Option Value → va_W → Prop} (is : List Nat) (N : Nat) (h : Mt l G y μ fr lo mc ms av ws1 post) (hp : jpick ws is N = ws1) (hn : jnd is N = true) : Mt l G y μ fr lo mc ms av ws post := h.conv (fun H z => hp ▸ z.re hn) (fun _ w z => ⟨w, z, wle.rf⟩)
/-! worlds that say the same -/
def csim (G : jG) (p q : Nat × va_E) : Prop := p.1 = q.1 ∧ ∀ H, va_at G.1 cls9 p H → va_at G.1 cls9 q H
def wsim (G : jG) (a b : va_W) : Prop := a.length = b.length ∧ ∀ (k : Nat) (p q : Nat × va_E), a[k]? = some p → b[k]? = some q → csim G p q
theorem csim.rf {G : jG} {p : Nat × va_E} : csim G p p := ⟨rfl, fun _ h => h⟩
theorem wsim.rf {G : jG} {a : va_W} : wsim G a a := ⟨rfl, fun k p q h1 h2 => by
  rw [h1] at h2
  cases h2
  exact csim.rf⟩
theorem wsim.get {G : jG} {a b : va_W} (h : wsim G a b) {k : Nat} {q : Nat × va_E} (hq : b[k]? = some q) : ∃ p, a[k]? = some p ∧ csim G p q := by
  have hk : k < a.length := by
    rw [h.1]
    exact (List.getElem?_eq_some_iff.mp hq).1
  exact ⟨a[k], List.getElem?_eq_getElem hk, h.2 k _ q (List.getElem?_eq_getElem hk) hq⟩
theorem wsim.le {G : jG} {a b : va_W} (h : wsim G a b) : wle G a b := by
  intro H hH
  refine ⟨fun k q hq => ?_, fun i j p q hp hq e => ?_, fun k q hq => ?_⟩
  · obtain ⟨p, h1, h2⟩ := h.get hq
    exact h2.2 H (hH.1 k p h1)
  · obtain ⟨p1, g1, g2⟩ := h.get hp
    obtain ⟨q1, f1, f2⟩ := h.get hq
    exact hH.2.1 i j p1 q1 g1 f1 (by rw [g2.1, f2.1, e])
  · obtain ⟨p, h1, h2⟩ := h.get hq
    rw [← h2.1]
    exact hH.2.2 k p h1
theorem wsim.app {G : jG} {a b c d : va_W} (h : wsim G a b) (h2 : wsim G c d) : wsim G (a ++ c) (b ++ d) := by
  refine ⟨by rw [List.length_append, List.length_append, h.1, h2.1], fun k p q hp hq => ?_⟩
  by_cases hk : k < a.length
  · rw [List.getElem?_append_left hk] at hp
    rw [List.getElem?_append_left (by rw [← h.1]; exact hk)] at hq
    exact h.2 k p q hp hq
  · rw [List.getElem?_append_right (by omega)] at hp
    rw [List.getElem?_append_right (by rw [← h.1]; omega), ← h.1] at hq
    exact h2.2 _ p q hp hq
theorem wsim.two {G : jG} {p q p1 q1 : Nat × va_E} (h : csim G p p1) (h2 : csim G q q1) : wsim G [p, q] [p1, q1] := by
  refine ⟨rfl, fun k a b ha hb => ?_⟩
  match k, ha, hb with
  | 0, ha, hb => cases ha; cases hb; exact h
  | 1, ha, hb => cases ha; cases hb; exact h2
  | k + 2, ha, _ => cases ha
theorem arrV_eq {cI : ClassId} {N : Nat} {f g : Nat → Value} (h : ∀ j, j < N → f j = g j) : arrV cI N f = arrV cI N g := by
  unfold arrV
  have e : (fun j : Fin N => f j.val) = fun j => g j.val := funext fun j => h j.val j.isLt
  rw [e]
/-- STARS that say the same -/
def sqS (a b : sR) : Prop := a.1 = b.1 ∧ a.2.1 = b.2.1 ∧ (∀ j, j < 60 → a.2.2.1 j = b.2.2.1 j) ∧ a.2.2.2 = b.2.2.2
theorem sqS.rf (a : sR) : sqS a a := ⟨rfl, rfl, fun _ _ => rfl, rfl⟩
theorem sqS.of {a b : sR} (h : a = b) : sqS a b := h ▸ sqS.rf a
theorem stC_sim {G : jG} {ad : Nat × Nat} {a b : sR} (h : sqS a b) : wsim G (stC G (ad, a)) (stC G (ad, b)) := by
  obtain ⟨k1, r1, l1, c1⟩ := a
  obtain ⟨k2, r2, l2, c2⟩ := b
  obtain ⟨h1, h2, h3, h4⟩ := h
  have h1 : k1 = k2 := h1
  have h2 : r1 = r2 := h2
  have h4 : c1 = c2 := h4
  subst h1
  subst h2
  subst h4
  refine wsim.two csim.rf ⟨rfl, fun H hH => ?_⟩
  show H[ad.2]? = some (arrV G.2.1.1 60 (fun j => .int (l2 j)))
  have e : arrV G.2.1.1 60 (fun j => .int (l1 j)) = arrV G.2.1.1 60 (fun j => .int (l2 j)) := arrV_eq (fun j hj => congrArg Value.int (show l1 j = l2 j from h3 j hj))
  rw [← e]
  exact hH
theorem stP_sim {G : jG} : ∀ {a b : List tR}, a.length = b.length → (∀ k, k < a.length → (tD a k).1 = (tD b k).1 ∧ sqS (tD a k).2 (tD b k).2) → wsim G (stP G a) (stP G b)
  | [], [], _, _ => wsim.rf
  | [], _ :: _, h, _ => by cases h
  | _ :: _, [], h, _ => by cases h
  | x :: a, y :: b, h, h2 => by
    have e0 := h2 0 (Nat.zero_lt_succ _)
    have e1 : x.1 = y.1 := e0.1
    have e2 : sqS x.2 y.2 := e0.2
    obtain ⟨xa, xq⟩ := x
    obtain ⟨ya, yq⟩ := y
    have e1 : xa = ya := e1
    subst e1
    have h3 := stP_sim (G := G) (a := a) (b := b) (Nat.succ.inj h) (fun k hk => h2 (k + 1) (Nat.succ_lt_succ hk))
    exact wsim.app (stC_sim e2) h3
def tpN (TP : List tR) (q : Nat → sR) : List tR := TP.mapIdx (fun k t => (t.1, q k))
theorem tpN_len (TP : List tR) (q : Nat → sR) : (tpN TP q).length = TP.length := List.length_mapIdx
theorem tpN_at {TP : List tR} {q : Nat → sR} {k : Nat} (h : k < TP.length) : tD (tpN TP q) k = ((tD TP k).1, q k) := by
  unfold tD tpN
  rw [List.getD_eq_getElem?_getD, List.getD_eq_getElem?_getD, List.getElem?_mapIdx, List.getElem?_eq_getElem h]
  rfl
theorem saF_tpN (TP : List tR) (q : Nat → sR) : saF (tpN TP q) = saF TP := by
  funext k
  unfold saF tpN
  rw [List.getElem?_mapIdx, Option.map_map]
  rfl
theorem J.norm {G : jG} {X : jX} {μ : jM} {P R : va_W} {TP : List tR} {k n pc : Nat} {lv : List (Nat × Value)} {st : List Value} {q : Nat → sR} (h : ∀ j, j < TP.length → sqS (qF TP j) (q j)) (hJ : J G X μ (P ++ (stP G (tpN TP q) ++ R)) k n pc lv st) : J G X μ (P ++ (stP G TP ++ R)) k n pc lv st := by
  refine J.to (wsim.le (wsim.app wsim.rf (wsim.app (stP_sim (tpN_len TP q).symm (fun j hj => ?_)) wsim.rf))) hJ
  rw [tpN_at hj]
  exact ⟨rfl, h j hj⟩
theorem pool_swap2 {os P Q r : va_W} : (os ++ (P ++ (Q ++ r))).Perm (P ++ (Q ++ (os ++ r))) := by
  have h1 : (os ++ (P ++ (Q ++ r))).Perm (P ++ (os ++ (Q ++ r))) := pool_swap
  exact h1.trans (List.Perm.append_left P pool_swap)
/-! what holds between the class and the reference -/
def lgB (v : Int32) : Prop := v = -9 ∨ (0 ≤ v.toInt ∧ v.toInt ≤ 10000)
def lwW (ns nr : Nat) (TP : List tR) (RP : List uR) (sa ra : Nat → Option Nat) (kk rr ml F cls wh rlo rhi rcl : Nat → Int32) : Prop := TP.length = ns ∧ ns ≤ 12 ∧ RP.length = nr ∧ nr ≤ 10 ∧ RLok (RP.map Prod.snd) wh rlo rhi rcl ∧ saF TP = sa ∧ raF RP = ra ∧ (∀ k, k < ns → sqS (qF TP k) (mqF ns kk rr ml cls k)) ∧ (∀ k, ns ≤ k → k < 12 → rr k = 0 ∧ cls k = -9) ∧ (∀ j, j < 720 → lgB (ml j)) ∧ (∀ j, j < 60 → -10000 ≤ (F j).toInt ∧ (F j).toInt ≤ 10000)
def lwI (ns nr : Nat) (TP : List tR) (RP : List uR) (kk rr ml F cls wh rlo rhi rcl : Nat → Int32) : Prop := TP.length = ns ∧ ns ≤ 12 ∧ RP.length = nr ∧ nr ≤ 10 ∧ RLok (RP.map Prod.snd) wh rlo rhi rcl ∧ qF TP = mqF ns kk rr ml cls ∧ (∀ k, ns ≤ k → k < 12 → rr k = 0 ∧ cls k = -9) ∧ (∀ j, j < 720 → lgB (ml j)) ∧ (∀ j, j < 60 → -10000 ≤ (F j).toInt ∧ (F j).toInt ≤ 10000)
section LI
variable {ns nr : Nat} {TP : List tR} {RP : List uR} {sa ra : Nat → Option Nat} {kk rr ml F cls wh rlo rhi rcl : Nat → Int32}
theorem lwI.w (h : lwI ns nr TP RP kk rr ml F cls wh rlo rhi rcl) : lwW ns nr TP RP (saF TP) (raF RP) kk rr ml F cls wh rlo rhi rcl := by
  obtain ⟨h1, h2, h3, h4, h5, h6, h7⟩ := h
  exact ⟨h1, h2, h3, h4, h5, rfl, rfl, fun k _ => by rw [h6]; exact sqS.rf _, h7⟩
theorem lwW.i (h : lwW ns nr TP RP sa ra kk rr ml F cls wh rlo rhi rcl) : lwI ns nr (tpN TP (mqF ns kk rr ml cls)) RP kk rr ml F cls wh rlo rhi rcl := by
  obtain ⟨h1, h2, h3, h4, h5, -, -, -, h7⟩ := h
  refine ⟨by rw [tpN_len]; exact h1, h2, h3, h4, h5, ?_, h7⟩
  funext k
  by_cases hk : k < ns
  · unfold qF
    rw [tpN_at (by omega)]
  · unfold qF mqF
    rw [if_neg hk, tD, List.getD_eq_getElem?_getD, List.getElem?_eq_none (by rw [tpN_len]; omega)]
    rfl
theorem tD_yes (hq : qF TP = mqF ns kk rr ml cls) {k : Nat} (hk : k < ns) (hr : ¬ rr k = 0) : ∃ s la, tD TP k = ((s, la), kk k, true, rowM ml k, cls k) := by
  have h := congrFun hq k
  rw [mq_yes hk hr] at h
  exact ⟨(tD TP k).1.1, (tD TP k).1.2, Prod.ext rfl h⟩
theorem tD_no (hq : qF TP = mqF ns kk rr ml cls) {k : Nat} (hk : k < ns) (hr : rr k = 0) : ∃ s la, tD TP k = ((s, la), kk k, false, (fun _ => -9), cls k) := by
  have h := congrFun hq k
  rw [mq_no hk hr] at h
  exact ⟨(tD TP k).1.1, (tD TP k).1.2, Prod.ext rfl h⟩
theorem BD_of (hml : ∀ j, j < 720 → lgB (ml j)) (hF : ∀ j, j < 60 → -10000 ≤ (F j).toInt ∧ (F j).toInt ≤ 10000) {k : Nat} (hk : k < 12) : BD (rowM ml k) F := by
  intro j hj hn
  have h1 := hml (60 * k + j) (by omega)
  have h2 := hF j hj
  have hn : ¬ ml (60 * k + j) = -9 := hn
  have h3 := h1.resolve_left hn
  have e : (ltF (rowM ml k) F j).toInt = (ml (60 * k + j)).toInt - (F j).toInt := sub_bd (x := ml (60 * k + j)) (by omega) (by omega)
  rw [e]
  omega
theorem rul_ok (h : RLok (RP.map Prod.snd) wh rlo rhi rcl) : ∀ j, j < RP.length → (uD RP j).2.1 < 4 := by
  intro j hj
  have h1 := (h j (by rw [List.length_map]; exact hj)).2.2.2.2
  have e : rD (RP.map Prod.snd) j = (uD RP j).2 := by
    unfold rD uD
    rw [List.getD_eq_getElem?_getD, List.getD_eq_getElem?_getD, List.getElem?_map, List.getElem?_eq_getElem hj]
    rfl
  rw [e] at h1
  exact h1
end LI
/-- a number between two bounds -/
theorem inR_nat {a : Int32} {lo hi : Int} (h : inR a lo hi = true) (h0 : 0 ≤ lo) : ∃ k : Nat, a = nI k ∧ lo ≤ (k : Int) ∧ (k : Int) ≤ hi := by
  have h1 := inR_of h
  refine ⟨a.toInt.toNat, ?_, by omega, by omega⟩
  rw [nI_ofI, show ((a.toInt.toNat : Nat) : Int) = a.toInt by omega, fb_asI]
