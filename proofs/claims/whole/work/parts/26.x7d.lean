theorem J.acopy {G : jG} {X : jX} {μ : jM} {ws : va_W} {k n pc p2 : Nat} {lv : List (Nat × Value)} {st : List Value} {l : Launch} {fr lo mc ms : Nat} {post : Option Value → va_W → Prop} {nm : String} (q0 q1 : Nat) (B : jB l G X fr lo mc ms post nm) {a0 a ix i j c : Nat} {f g : Nat → Int32} {ws' : va_W} (d : jd μ.2.1 pc (.invokestatic ix) 3 p2) (hL : Cond.methodLink μ.1 ix arraycopyName ∈ gt)
    (he0 : ws[q0]? = some (a0, .inl (G.2.1.1, 60, .inl f))) (he1 : ws[q1]? = some (a, .inl (G.2.1.1, 60, .inl g))) (h1 : i + c ≤ 60) (h2 : j + c ≤ 60) (hr : (Nat.ble 1 fr && Nat.ble ((st.map fun v => v.category).sum + (nativeFrameWords "java/lang/System" "arraycopy" 5 + 11)) lo) = true)
    (hw : ws.set q1 (a, .inl (G.2.1.1, 60, .inl (va_cpy f g i j c))) = ws') (h : J G X μ ws' k n p2 lv st) : J G X μ ws k n pc lv (.int (nI c) :: .int (nI j) :: .ref a :: .int (nI i) :: .ref a0 :: st) := by
  obtain ⟨p, l', e, R, s, m, args, below, meth, cd, Q⟩ := X
  obtain ⟨own, cc, nL, ret⟩ := μ
  obtain ⟨d, rfl⟩ := d
  obtain ⟨rfl, hR, -, -⟩ := B
  subst hR
  subst hw
  simp only [Bool.and_eq_true] at hr
  intro C H locs ls hW hS hl
  have e1 : (nI i).toNatClampNeg = i := nI_clamp (by omega)
  have e2 : (nI j).toNatClampNeg = j := nI_clamp (by omega)
  have e3 : (nI c).toNatClampNeg = c := nI_clamp (by omega)
  refine va_copyi (D := G.1) (tys := jtys G) (ty := .int) C.1 C.2.1 (C.2.2.1.trans hl.1.symm) C.2.2.2.1 (C.2.2.2.2.1 _ hL) (C.2.2.2.2.1 _ wac_n) (C.2.2.2.2.1 _ wac_s) (C.2.2.2.2.1 _ wac_i) C.2.2.2.2.2.1.1 hW.1 hW.2 hS q0 q1 0 0 he0 he1 rfl rfl rfl (nI_pos (by omega)) (nI_pos (by omega)) (nI_pos (by omega)) (by rw [e1, e3]; exact h1) (by rw [e2, e3]; exact h2) (fun _ _ => rfl) (Nat.le_of_ble_eq_true hr.1) (Nat.le_of_ble_eq_true hr.2) d (fun H1 locs1 a1 a2 a3 => ?_)
  rw [e1, e2, e3] at a1 a2
  exact h C H1 locs1 ls ⟨a1, a2⟩ a3 hl
set_option maxHeartbeats 4000000 in
set_option maxRecDepth 100000 in
theorem i_is_bad (l : Launch) (G : jG) (r : va_W) {x : Nat} {A : Nat → Nat} {ns nr : Nat} {to : Int64} {al wa lf : Int32} {sa : Nat → Option Nat} {num : Int32} (hns : ns ≤ 12) (hnum : inR num 0 ((ns : Int) - 1) = false) {a : Int32} : Mt l G yX7_is mX7_is 1 21 0 0 [.ref x, .int num, .int a] ((x, .inr (7, [.ref (A 0), .int (nI ns), .ref (A 1), .int (nI nr), .ref (A 2), .ref (A 3), .ref (A 4), .ref (A 5), .ref (A 6), .ref (A 7), .ref (A 8), .ref (A 9), .long to, .int al, .int wa, .int lf, .ref (A 10)])) :: (A 0, .inl (G.2.1.2.2.1, 12, .inr (.inr (.inr (.inr sa))))) :: r) (fun v w => v = some (.int (-1 : Int32)) ∧ w = (x, .inr (7, [.ref (A 0), .int (nI ns), .ref (A 1), .int (nI nr), .ref (A 2), .ref (A 3), .ref (A 4), .ref (A 5), .ref (A 6), .ref (A 7), .ref (A 8), .ref (A 9), .long to, .int al, .int wa, .int lf, .ref (A 10)])) :: (A 0, .inl (G.2.1.2.2.1, 12, .inr (.inr (.inr (.inr sa))))) :: r) := by
  refine Mt.of (by decide +kernel) rfl rfl (fun X B => ?_)
  show J G X mX7_is ((x, .inr (7, [.ref (A 0), .int (nI ns), .ref (A 1), .int (nI nr), .ref (A 2), .ref (A 3), .ref (A 4), .ref (A 5), .ref (A 6), .ref (A 7), .ref (A 8), .ref (A 9), .long to, .int al, .int wa, .int lf, .ref (A 10)])) :: (A 0, .inl (G.2.1.2.2.1, 12, .inr (.inr (.inr (.inr sa))))) :: r) 0 0 0 [(0, .ref x), (1, .int num), (2, .int a)] []
  refine J.aload_n 0 dX7_is_0 rfl ?_
  refine J.iload_n 1 dX7_is_1 rfl ?_
  refine J.callV 0 (st := []) B (c_X7_starNumbered_bad l G _ hns hnum) ml_X7_80 mf_yX7_starNumbered mi_yX7_starNumbered rfl dX7_is_2 rfl rfl rfl rfl (fun v_1 w_2 hp_3 => ?_)
  obtain ⟨rfl, rfl⟩ := hp_3
  show J G X mX7_is _ _ _ 5 _ [.null]
  refine J.astore_nN [1, 2, 3, 0] (lv' := [(0, .ref x), (1, .int num), (2, .int a), (3, .null)]) dX7_is_5 rfl rfl ?_
  refine J.aload_nN 3 dX7_is_6 rfl ?_
  refine J.ifnullN dX7_is_7 ?_
  refine J.iconst (-1 : Int32) dX7_is_17 rfl ?_
  exact J.iret B dX7_is_18 rfl (⟨rfl, rfl⟩)
set_option maxHeartbeats 4000000 in
set_option maxRecDepth 100000 in
theorem i_is_kind (l : Launch) (G : jG) (r : va_W) {x : Nat} {A : Nat → Nat} {ns nr : Nat} {to : Int64} {al wa lf : Int32} {sa : Nat → Option Nat} {k s : Nat} (hk : k < ns) (hns : ns ≤ 12) (hsa : sa k = some s) {a : Int32} (ha : inR a 0 3 = false) : Mt l G yX7_is mX7_is 1 21 0 0 [.ref x, .int (nI k), .int a] ((x, .inr (7, [.ref (A 0), .int (nI ns), .ref (A 1), .int (nI nr), .ref (A 2), .ref (A 3), .ref (A 4), .ref (A 5), .ref (A 6), .ref (A 7), .ref (A 8), .ref (A 9), .long to, .int al, .int wa, .int lf, .ref (A 10)])) :: (A 0, .inl (G.2.1.2.2.1, 12, .inr (.inr (.inr (.inr sa))))) :: r) (fun v w => v = some (.int (-1 : Int32)) ∧ w = (x, .inr (7, [.ref (A 0), .int (nI ns), .ref (A 1), .int (nI nr), .ref (A 2), .ref (A 3), .ref (A 4), .ref (A 5), .ref (A 6), .ref (A 7), .ref (A 8), .ref (A 9), .long to, .int al, .int wa, .int lf, .ref (A 10)])) :: (A 0, .inl (G.2.1.2.2.1, 12, .inr (.inr (.inr (.inr sa))))) :: r) := by
  refine Mt.of (by decide +kernel) rfl rfl (fun X B => ?_)
  show J G X mX7_is ((x, .inr (7, [.ref (A 0), .int (nI ns), .ref (A 1), .int (nI nr), .ref (A 2), .ref (A 3), .ref (A 4), .ref (A 5), .ref (A 6), .ref (A 7), .ref (A 8), .ref (A 9), .long to, .int al, .int wa, .int lf, .ref (A 10)])) :: (A 0, .inl (G.2.1.2.2.1, 12, .inr (.inr (.inr (.inr sa))))) :: r) 0 0 0 [(0, .ref x), (1, .int (nI k)), (2, .int a)] []
  refine J.aload_n 0 dX7_is_0 rfl ?_
  refine J.iload_n 1 dX7_is_1 rfl ?_
  refine J.callV 0 (st := []) B (c_X7_starNumbered l G _ hk hns hsa) ml_X7_80 mf_yX7_starNumbered mi_yX7_starNumbered rfl dX7_is_2 rfl rfl rfl rfl (fun v_1 w_2 hp_3 => ?_)
  obtain ⟨rfl, rfl⟩ := hp_3
  show J G X mX7_is _ _ _ 5 _ [.ref s]
  refine J.astore_n [1, 2, 3, 0] (lv' := [(0, .ref x), (1, .int (nI k)), (2, .int a), (3, .ref s)]) dX7_is_5 rfl rfl ?_
  refine J.aload_n 3 dX7_is_6 rfl ?_
  refine J.ifnull dX7_is_7 ?_
  refine J.iload_n 2 dX7_is_10 rfl ?_
  refine J.callS (st := []) B (c_X7_isKind l G _ (k := a)) ml_X7_69 mf_yX7_isKind mS_yX7_isKind dX7_is_11 rfl rfl rfl (fun v_4 w_5 hp_6 => ?_)
  obtain ⟨rfl, rfl⟩ := hp_6
  show J G X mX7_is _ _ _ 14 _ [.int (b01 (inR a 0 3))]
  refine J.if_ne dX7_is_14 (fun z => absurd (by rw [ha]; rfl) z) (fun h9 => ?_)
  refine J.iconst (-1 : Int32) dX7_is_17 rfl ?_
  exact J.iret B dX7_is_18 rfl (⟨rfl, rfl⟩)
set_option maxHeartbeats 4000000 in
set_option maxRecDepth 100000 in
theorem i_is (l : Launch) (G : jG) (r : va_W) {x : Nat} {A : Nat → Nat} {ns nr : Nat} {to : Int64} {al wa lf : Int32} {sa : Nat → Option Nat} {la : Nat} {kd wc : Int32} {k s : Nat} (hk : k < ns) (hns : ns ≤ 12) (hsa : sa k = some s) {b : Bool} {a : Int32} (ha : inR a 0 3 = true) : Mt l G yX7_is mX7_is 1 21 0 0 [.ref x, .int (nI k), .int a] ((x, .inr (7, [.ref (A 0), .int (nI ns), .ref (A 1), .int (nI nr), .ref (A 2), .ref (A 3), .ref (A 4), .ref (A 5), .ref (A 6), .ref (A 7), .ref (A 8), .ref (A 9), .long to, .int al, .int wa, .int lf, .ref (A 10)])) :: (A 0, .inl (G.2.1.2.2.1, 12, .inr (.inr (.inr (.inr sa))))) :: (s, .inr (6, [.int kd, .ref la, .int (b01 b), .int wc])) :: r) (fun v w => v = some (.int (b01 (ofK kd a))) ∧ w = (x, .inr (7, [.ref (A 0), .int (nI ns), .ref (A 1), .int (nI nr), .ref (A 2), .ref (A 3), .ref (A 4), .ref (A 5), .ref (A 6), .ref (A 7), .ref (A 8), .ref (A 9), .long to, .int al, .int wa, .int lf, .ref (A 10)])) :: (A 0, .inl (G.2.1.2.2.1, 12, .inr (.inr (.inr (.inr sa))))) :: (s, .inr (6, [.int kd, .ref la, .int (b01 b), .int wc])) :: r) := by
  refine Mt.of (by decide +kernel) rfl rfl (fun X B => ?_)
  show J G X mX7_is ((x, .inr (7, [.ref (A 0), .int (nI ns), .ref (A 1), .int (nI nr), .ref (A 2), .ref (A 3), .ref (A 4), .ref (A 5), .ref (A 6), .ref (A 7), .ref (A 8), .ref (A 9), .long to, .int al, .int wa, .int lf, .ref (A 10)])) :: (A 0, .inl (G.2.1.2.2.1, 12, .inr (.inr (.inr (.inr sa))))) :: (s, .inr (6, [.int kd, .ref la, .int (b01 b), .int wc])) :: r) 0 0 0 [(0, .ref x), (1, .int (nI k)), (2, .int a)] []
  refine J.aload_n 0 dX7_is_0 rfl ?_
  refine J.iload_n 1 dX7_is_1 rfl ?_
  refine J.callV 0 (st := []) B (c_X7_starNumbered l G _ hk hns hsa) ml_X7_80 mf_yX7_starNumbered mi_yX7_starNumbered rfl dX7_is_2 rfl rfl rfl rfl (fun v_1 w_2 hp_3 => ?_)
  obtain ⟨rfl, rfl⟩ := hp_3
  show J G X mX7_is _ _ _ 5 _ [.ref s]
  refine J.astore_n [1, 2, 3, 0] (lv' := [(0, .ref x), (1, .int (nI k)), (2, .int a), (3, .ref s)]) dX7_is_5 rfl rfl ?_
  refine J.aload_n 3 dX7_is_6 rfl ?_
  refine J.ifnull dX7_is_7 ?_
  refine J.iload_n 2 dX7_is_10 rfl ?_
  refine J.callS (st := []) B (c_X7_isKind l G _ (k := a)) ml_X7_69 mf_yX7_isKind mS_yX7_isKind dX7_is_11 rfl rfl rfl (fun v_4 w_5 hp_6 => ?_)
  obtain ⟨rfl, rfl⟩ := hp_6
  show J G X mX7_is _ _ _ 14 _ [.int (b01 (inR a 0 3))]
  refine J.if_ne dX7_is_14 (fun h9 => ?_) (fun z => absurd z (by rw [ha]; decide))
  refine J.aload_n 3 dX7_is_19 rfl ?_
  refine J.iload_n 2 dX7_is_20 rfl ?_
  refine J.re [2, 0, 1] 3 (ws2 := (s, .inr (6, [.int kd, .ref la, .int (b01 b), .int wc])) :: (x, .inr (7, [.ref (A 0), .int (nI ns), .ref (A 1), .int (nI nr), .ref (A 2), .ref (A 3), .ref (A 4), .ref (A 5), .ref (A 6), .ref (A 7), .ref (A 8), .ref (A 9), .long to, .int al, .int wa, .int lf, .ref (A 10)])) :: (A 0, .inl (G.2.1.2.2.1, 12, .inr (.inr (.inr (.inr sa))))) :: r) rfl rfl ?_
  refine J.callV 0 (st := []) B (c_X6_isOfKind l G _ (a := a)) ml_X7_84 mf_yX6_isOfKind mi_yX6_isOfKind rfl dX7_is_21 rfl rfl rfl rfl (fun v_7 w_8 hp_9 => ?_)
  obtain ⟨rfl, rfl⟩ := hp_9
  refine J.re [1, 2, 0] 3 (ws2 := (x, .inr (7, [.ref (A 0), .int (nI ns), .ref (A 1), .int (nI nr), .ref (A 2), .ref (A 3), .ref (A 4), .ref (A 5), .ref (A 6), .ref (A 7), .ref (A 8), .ref (A 9), .long to, .int al, .int wa, .int lf, .ref (A 10)])) :: (A 0, .inl (G.2.1.2.2.1, 12, .inr (.inr (.inr (.inr sa))))) :: (s, .inr (6, [.int kd, .ref la, .int (b01 b), .int wc])) :: r) rfl rfl ?_
  show J G X mX7_is _ _ _ 24 _ [.int (b01 (ofK kd a))]
  refine J.if_eq dX7_is_24 (fun h8 => ?_) (fun h8 => ?_)
  · skip
    refine J.iconst (0 : Int32) dX7_is_31 rfl ?_
    exact J.iret B dX7_is_32 rfl (⟨by rw [b01_0 h8]; rfl, rfl⟩)
  · skip
    refine J.iconst (1 : Int32) dX7_is_27 rfl ?_
    refine J.goto dX7_is_28 ?_
    exact J.iret B dX7_is_32 rfl (⟨by rw [b01_1 h8]; rfl, rfl⟩)
set_option maxHeartbeats 4000000 in
set_option maxRecDepth 100000 in
theorem i_row_bad (l : Launch) (G : jG) (r : va_W) {x : Nat} {A : Nat → Nat} {ns nr : Nat} {to : Int64} {al wa lf : Int32} {sa : Nat → Option Nat} {num : Int32} (hns : ns ≤ 12) (hnum : inR num 0 ((ns : Int) - 1) = false) : Mt l G yX7_row mX7_row 2 44 0 0 [.ref x, .int num] ((x, .inr (7, [.ref (A 0), .int (nI ns), .ref (A 1), .int (nI nr), .ref (A 2), .ref (A 3), .ref (A 4), .ref (A 5), .ref (A 6), .ref (A 7), .ref (A 8), .ref (A 9), .long to, .int al, .int wa, .int lf, .ref (A 10)])) :: (A 0, .inl (G.2.1.2.2.1, 12, .inr (.inr (.inr (.inr sa))))) :: r) (fun v w => v = some (.int (-1 : Int32)) ∧ w = (x, .inr (7, [.ref (A 0), .int (nI ns), .ref (A 1), .int (nI nr), .ref (A 2), .ref (A 3), .ref (A 4), .ref (A 5), .ref (A 6), .ref (A 7), .ref (A 8), .ref (A 9), .long to, .int al, .int wa, .int lf, .ref (A 10)])) :: (A 0, .inl (G.2.1.2.2.1, 12, .inr (.inr (.inr (.inr sa))))) :: r) := by
  refine Mt.of (by decide +kernel) rfl rfl (fun X B => ?_)
  show J G X mX7_row ((x, .inr (7, [.ref (A 0), .int (nI ns), .ref (A 1), .int (nI nr), .ref (A 2), .ref (A 3), .ref (A 4), .ref (A 5), .ref (A 6), .ref (A 7), .ref (A 8), .ref (A 9), .long to, .int al, .int wa, .int lf, .ref (A 10)])) :: (A 0, .inl (G.2.1.2.2.1, 12, .inr (.inr (.inr (.inr sa))))) :: r) 0 0 0 [(0, .ref x), (1, .int num)] []
  refine J.aload_n 0 dX7_row_0 rfl ?_
  refine J.iload_n 1 dX7_row_1 rfl ?_
  refine J.callV 0 (st := []) B (c_X7_starNumbered_bad l G _ hns hnum) ml_X7_80 mf_yX7_starNumbered mi_yX7_starNumbered rfl dX7_row_2 rfl rfl rfl rfl (fun v_1 w_2 hp_3 => ?_)
  obtain ⟨rfl, rfl⟩ := hp_3
  show J G X mX7_row _ _ _ 5 _ [.null]
  refine J.astore_nN [1, 2, 0] (lv' := [(0, .ref x), (1, .int num), (2, .null)]) dX7_row_5 rfl rfl ?_
  refine J.aload_nN 2 dX7_row_6 rfl ?_
  refine J.ifnonnullN dX7_row_7 ?_
  refine J.iconst (-1 : Int32) dX7_row_10 rfl ?_
  exact J.iret B dX7_row_11 rfl (⟨rfl, rfl⟩)
set_option maxHeartbeats 4000000 in
set_option maxRecDepth 100000 in
theorem i_row (l : Launch) (G : jG) (r : va_W) {x : Nat} {A : Nat → Nat} {ns nr : Nat} {to : Int64} {al wa lf : Int32} {sa : Nat → Option Nat} {la : Nat} {kd wc : Int32} {k s : Nat} (hk : k < ns) (hns : ns ≤ 12) (hsa : sa k = some s) {b : Bool} {L : Nat → Int32} : Mt l G yX7_row mX7_row 2 44 0 0 [.ref x, .int (nI k)] ((x, .inr (7, [.ref (A 0), .int (nI ns), .ref (A 1), .int (nI nr), .ref (A 2), .ref (A 3), .ref (A 4), .ref (A 5), .ref (A 6), .ref (A 7), .ref (A 8), .ref (A 9), .long to, .int al, .int wa, .int lf, .ref (A 10)])) :: (A 0, .inl (G.2.1.2.2.1, 12, .inr (.inr (.inr (.inr sa))))) :: (s, .inr (6, [.int kd, .ref la, .int (b01 b), .int wc])) :: (la, .inl (G.2.1.1, 60, .inl L)) :: r) (fun v w => v = some (.int (b01 b)) ∧ w = (x, .inr (7, [.ref (A 0), .int (nI ns), .ref (A 1), .int (nI nr), .ref (A 2), .ref (A 3), .ref (A 4), .ref (A 5), .ref (A 6), .ref (A 7), .ref (A 8), .ref (A 9), .long to, .int al, .int wa, .int lf, .ref (A 10)])) :: (A 0, .inl (G.2.1.2.2.1, 12, .inr (.inr (.inr (.inr sa))))) :: (s, .inr (6, [.int kd, .ref la, .int (b01 true), .int wc])) :: (la, .inl (G.2.1.1, 60, .inl (flA L (-9) 60))) :: r) := by
  refine Mt.of (by decide +kernel) rfl rfl (fun X B => ?_)
  show J G X mX7_row ((x, .inr (7, [.ref (A 0), .int (nI ns), .ref (A 1), .int (nI nr), .ref (A 2), .ref (A 3), .ref (A 4), .ref (A 5), .ref (A 6), .ref (A 7), .ref (A 8), .ref (A 9), .long to, .int al, .int wa, .int lf, .ref (A 10)])) :: (A 0, .inl (G.2.1.2.2.1, 12, .inr (.inr (.inr (.inr sa))))) :: (s, .inr (6, [.int kd, .ref la, .int (b01 b), .int wc])) :: (la, .inl (G.2.1.1, 60, .inl L)) :: r) 0 0 0 [(0, .ref x), (1, .int (nI k))] []
  refine J.aload_n 0 dX7_row_0 rfl ?_
  refine J.iload_n 1 dX7_row_1 rfl ?_
  refine J.callV 0 (st := []) B (c_X7_starNumbered l G _ hk hns hsa) ml_X7_80 mf_yX7_starNumbered mi_yX7_starNumbered rfl dX7_row_2 rfl rfl rfl rfl (fun v_1 w_2 hp_3 => ?_)
  obtain ⟨rfl, rfl⟩ := hp_3
  show J G X mX7_row _ _ _ 5 _ [.ref s]
  refine J.astore_n [1, 2, 0] (lv' := [(0, .ref x), (1, .int (nI k)), (2, .ref s)]) dX7_row_5 rfl rfl ?_
  refine J.aload_n 2 dX7_row_6 rfl ?_
  refine J.ifnonnull dX7_row_7 ?_
  refine J.aload_n 2 dX7_row_12 rfl ?_
  refine J.get 2 fl_X7_100 dX7_row_13 rfl rfl ?_
  refine J.if_eq dX7_row_16 (fun h8 => ?_) (fun h8 => ?_)
  · skip
    refine J.iconst (0 : Int32) dX7_row_23 rfl ?_
    refine J.istore_n [1, 2, 3, 0] (lv' := [(0, .ref x), (1, .int (nI k)), (2, .ref s), (3, .int (0 : Int32))]) dX7_row_24 rfl rfl ?_
    refine J.aload_n 2 dX7_row_25 rfl ?_
    refine J.iconst (1 : Int32) dX7_row_26 rfl ?_
    refine J.re [2, 3, 0, 1] 4 (ws2 := (s, .inr (6, [.int kd, .ref la, .int (b01 b), .int wc])) :: (la, .inl (G.2.1.1, 60, .inl L)) :: (x, .inr (7, [.ref (A 0), .int (nI ns), .ref (A 1), .int (nI nr), .ref (A 2), .ref (A 3), .ref (A 4), .ref (A 5), .ref (A 6), .ref (A 7), .ref (A 8), .ref (A 9), .long to, .int al, .int wa, .int lf, .ref (A 10)])) :: (A 0, .inl (G.2.1.2.2.1, 12, .inr (.inr (.inr (.inr sa))))) :: r) rfl rfl ?_
    refine J.callV 0 (st := []) B (c_X6_emptyRow l G _ (b := true)) ml_X7_104 mf_yX6_emptyRow mi_yX6_emptyRow rfl dX7_row_27 rfl rfl rfl rfl (fun v_4 w_5 hp_6 => ?_)
    obtain ⟨rfl, rfl⟩ := hp_6
    refine J.re [2, 3, 0, 1] 4 (ws2 := (x, .inr (7, [.ref (A 0), .int (nI ns), .ref (A 1), .int (nI nr), .ref (A 2), .ref (A 3), .ref (A 4), .ref (A 5), .ref (A 6), .ref (A 7), .ref (A 8), .ref (A 9), .long to, .int al, .int wa, .int lf, .ref (A 10)])) :: (A 0, .inl (G.2.1.2.2.1, 12, .inr (.inr (.inr (.inr sa))))) :: (s, .inr (6, [.int kd, .ref la, .int (b01 true), .int wc])) :: (la, .inl (G.2.1.1, 60, .inl (flA L (-9) 60))) :: r) rfl rfl ?_
    show J G X mX7_row _ _ _ 30 _ []
    refine J.iload_n 3 dX7_row_30 rfl ?_
    exact J.iret B dX7_row_31 rfl (⟨by rw [b01_0 h8]; rfl, rfl⟩)
  · skip
    refine J.iconst (1 : Int32) dX7_row_19 rfl ?_
    refine J.goto dX7_row_20 ?_
    refine J.istore_n [1, 2, 3, 0] (lv' := [(0, .ref x), (1, .int (nI k)), (2, .ref s), (3, .int (1 : Int32))]) dX7_row_24 rfl rfl ?_
    refine J.aload_n 2 dX7_row_25 rfl ?_
    refine J.iconst (1 : Int32) dX7_row_26 rfl ?_
    refine J.re [2, 3, 0, 1] 4 (ws2 := (s, .inr (6, [.int kd, .ref la, .int (b01 b), .int wc])) :: (la, .inl (G.2.1.1, 60, .inl L)) :: (x, .inr (7, [.ref (A 0), .int (nI ns), .ref (A 1), .int (nI nr), .ref (A 2), .ref (A 3), .ref (A 4), .ref (A 5), .ref (A 6), .ref (A 7), .ref (A 8), .ref (A 9), .long to, .int al, .int wa, .int lf, .ref (A 10)])) :: (A 0, .inl (G.2.1.2.2.1, 12, .inr (.inr (.inr (.inr sa))))) :: r) rfl rfl ?_
    refine J.callV 0 (st := []) B (c_X6_emptyRow l G _ (b := true)) ml_X7_104 mf_yX6_emptyRow mi_yX6_emptyRow rfl dX7_row_27 rfl rfl rfl rfl (fun v_7 w_8 hp_9 => ?_)
    obtain ⟨rfl, rfl⟩ := hp_9
    refine J.re [2, 3, 0, 1] 4 (ws2 := (x, .inr (7, [.ref (A 0), .int (nI ns), .ref (A 1), .int (nI nr), .ref (A 2), .ref (A 3), .ref (A 4), .ref (A 5), .ref (A 6), .ref (A 7), .ref (A 8), .ref (A 9), .long to, .int al, .int wa, .int lf, .ref (A 10)])) :: (A 0, .inl (G.2.1.2.2.1, 12, .inr (.inr (.inr (.inr sa))))) :: (s, .inr (6, [.int kd, .ref la, .int (b01 true), .int wc])) :: (la, .inl (G.2.1.1, 60, .inl (flA L (-9) 60))) :: r) rfl rfl ?_
    show J G X mX7_row _ _ _ 30 _ []
    refine J.iload_n 3 dX7_row_30 rfl ?_
    exact J.iret B dX7_row_31 rfl (⟨by rw [b01_1 h8]; rfl, rfl⟩)
set_option maxHeartbeats 4000000 in
set_option maxRecDepth 100000 in
theorem i_tear_bad (l : Launch) (G : jG) (r : va_W) {x : Nat} {A : Nat → Nat} {ns nr : Nat} {to : Int64} {al wa lf : Int32} {sa : Nat → Option Nat} {num : Int32} (hns : ns ≤ 12) (hnum : inR num 0 ((ns : Int) - 1) = false) : Mt l G yX7_tear mX7_tear 2 44 0 0 [.ref x, .int num] ((x, .inr (7, [.ref (A 0), .int (nI ns), .ref (A 1), .int (nI nr), .ref (A 2), .ref (A 3), .ref (A 4), .ref (A 5), .ref (A 6), .ref (A 7), .ref (A 8), .ref (A 9), .long to, .int al, .int wa, .int lf, .ref (A 10)])) :: (A 0, .inl (G.2.1.2.2.1, 12, .inr (.inr (.inr (.inr sa))))) :: r) (fun v w => v = some (.int (-1 : Int32)) ∧ w = (x, .inr (7, [.ref (A 0), .int (nI ns), .ref (A 1), .int (nI nr), .ref (A 2), .ref (A 3), .ref (A 4), .ref (A 5), .ref (A 6), .ref (A 7), .ref (A 8), .ref (A 9), .long to, .int al, .int wa, .int lf, .ref (A 10)])) :: (A 0, .inl (G.2.1.2.2.1, 12, .inr (.inr (.inr (.inr sa))))) :: r) := by
  refine Mt.of (by decide +kernel) rfl rfl (fun X B => ?_)
  show J G X mX7_tear ((x, .inr (7, [.ref (A 0), .int (nI ns), .ref (A 1), .int (nI nr), .ref (A 2), .ref (A 3), .ref (A 4), .ref (A 5), .ref (A 6), .ref (A 7), .ref (A 8), .ref (A 9), .long to, .int al, .int wa, .int lf, .ref (A 10)])) :: (A 0, .inl (G.2.1.2.2.1, 12, .inr (.inr (.inr (.inr sa))))) :: r) 0 0 0 [(0, .ref x), (1, .int num)] []
  refine J.aload_n 0 dX7_tear_0 rfl ?_
  refine J.iload_n 1 dX7_tear_1 rfl ?_
  refine J.callV 0 (st := []) B (c_X7_lookAtRow_bad l G _ hns hnum) ml_X7_119 mf_yX7_lookAtRow mi_yX7_lookAtRow rfl dX7_tear_2 rfl rfl rfl rfl (fun v_1 w_2 hp_3 => ?_)
  obtain ⟨rfl, rfl⟩ := hp_3
  show J G X mX7_tear _ _ _ 5 _ [.int (-1 : Int32)]
  refine J.istore_n [1, 2, 0] (lv' := [(0, .ref x), (1, .int num), (2, .int (-1 : Int32))]) dX7_tear_5 rfl rfl ?_
  refine J.iload_n 2 dX7_tear_6 rfl ?_
  refine J.if_eq dX7_tear_7 (fun z => absurd z (by decide)) (fun _ => ?_)
  refine J.iload_n 2 dX7_tear_10 rfl ?_
  exact J.iret B dX7_tear_11 rfl (⟨rfl, rfl⟩)
set_option maxHeartbeats 4000000 in
set_option maxRecDepth 100000 in
theorem i_tear_no (l : Launch) (G : jG) (r : va_W) {x : Nat} {A : Nat → Nat} {ns nr : Nat} {to : Int64} {al wa lf : Int32} {sa : Nat → Option Nat} {la : Nat} {kd wc : Int32} {k s : Nat} (hk : k < ns) (hns : ns ≤ 12) (hsa : sa k = some s) {fc : Nat → Int32} : Mt l G yX7_tear mX7_tear 2 44 0 0 [.ref x, .int (nI k)] ((x, .inr (7, [.ref (A 0), .int (nI ns), .ref (A 1), .int (nI nr), .ref (A 2), .ref (A 3), .ref (A 4), .ref (A 5), .ref (A 6), .ref (A 7), .ref (A 8), .ref (A 9), .long to, .int al, .int wa, .int lf, .ref (A 10)])) :: (A 0, .inl (G.2.1.2.2.1, 12, .inr (.inr (.inr (.inr sa))))) :: (s, .inr (6, [.int kd, .ref la, .int (0 : Int32), .int wc])) :: (A 10, .inl (G.2.1.1, 6, .inl fc)) :: r) (fun v w => v = some (.int (-3 : Int32)) ∧ w = (x, .inr (7, [.ref (A 0), .int (nI ns), .ref (A 1), .int (nI nr), .ref (A 2), .ref (A 3), .ref (A 4), .ref (A 5), .ref (A 6), .ref (A 7), .ref (A 8), .ref (A 9), .long to, .int al, .int wa, .int (nI 1), .ref (A 10)])) :: (A 0, .inl (G.2.1.2.2.1, 12, .inr (.inr (.inr (.inr sa))))) :: (s, .inr (6, [.int kd, .ref la, .int (0 : Int32), .int wc])) :: (A 10, .inl (G.2.1.1, 6, .inl (upd fc 1 (fc 1 + 1)))) :: r) := by
  refine Mt.of (by decide +kernel) rfl rfl (fun X B => ?_)
  show J G X mX7_tear ((x, .inr (7, [.ref (A 0), .int (nI ns), .ref (A 1), .int (nI nr), .ref (A 2), .ref (A 3), .ref (A 4), .ref (A 5), .ref (A 6), .ref (A 7), .ref (A 8), .ref (A 9), .long to, .int al, .int wa, .int lf, .ref (A 10)])) :: (A 0, .inl (G.2.1.2.2.1, 12, .inr (.inr (.inr (.inr sa))))) :: (s, .inr (6, [.int kd, .ref la, .int (0 : Int32), .int wc])) :: (A 10, .inl (G.2.1.1, 6, .inl fc)) :: r) 0 0 0 [(0, .ref x), (1, .int (nI k))] []
  refine J.aload_n 0 dX7_tear_0 rfl ?_
  refine J.iload_n 1 dX7_tear_1 rfl ?_
  refine J.callV 0 (st := []) B (c_X7_lookAtRow_no l G _ hk hns hsa) ml_X7_119 mf_yX7_lookAtRow mi_yX7_lookAtRow rfl dX7_tear_2 rfl rfl rfl rfl (fun v_1 w_2 hp_3 => ?_)
  obtain ⟨rfl, rfl⟩ := hp_3
  show J G X mX7_tear _ _ _ 5 _ [.int (-3 : Int32)]
  refine J.istore_n [1, 2, 0] (lv' := [(0, .ref x), (1, .int (nI k)), (2, .int (-3 : Int32))]) dX7_tear_5 rfl rfl ?_
  refine J.iload_n 2 dX7_tear_6 rfl ?_
  refine J.if_eq dX7_tear_7 (fun z => absurd z (by decide)) (fun _ => ?_)
  refine J.iload_n 2 dX7_tear_10 rfl ?_
  exact J.iret B dX7_tear_11 rfl (⟨rfl, rfl⟩)
set_option maxHeartbeats 4000000 in
set_option maxRecDepth 100000 in
theorem i_tear (l : Launch) (G : jG) (r : va_W) {x : Nat} {A : Nat → Nat} {ns nr : Nat} {to : Int64} {al wa lf : Int32} {sa : Nat → Option Nat} {la : Nat} {kd wc : Int32} {k s : Nat} (hk : k < ns) (hns : ns ≤ 12) (hsa : sa k = some s) {L : Nat → Int32} : Mt l G yX7_tear mX7_tear 2 44 0 0 [.ref x, .int (nI k)] ((x, .inr (7, [.ref (A 0), .int (nI ns), .ref (A 1), .int (nI nr), .ref (A 2), .ref (A 3), .ref (A 4), .ref (A 5), .ref (A 6), .ref (A 7), .ref (A 8), .ref (A 9), .long to, .int al, .int wa, .int lf, .ref (A 10)])) :: (A 0, .inl (G.2.1.2.2.1, 12, .inr (.inr (.inr (.inr sa))))) :: (s, .inr (6, [.int kd, .ref la, .int (1 : Int32), .int wc])) :: (la, .inl (G.2.1.1, 60, .inl L)) :: r) (fun v w => v = some (.int (1 : Int32)) ∧ w = (x, .inr (7, [.ref (A 0), .int (nI ns), .ref (A 1), .int (nI nr), .ref (A 2), .ref (A 3), .ref (A 4), .ref (A 5), .ref (A 6), .ref (A 7), .ref (A 8), .ref (A 9), .long to, .int al, .int wa, .int lf, .ref (A 10)])) :: (A 0, .inl (G.2.1.2.2.1, 12, .inr (.inr (.inr (.inr sa))))) :: (s, .inr (6, [.int kd, .ref la, .int (b01 false), .int wc])) :: (la, .inl (G.2.1.1, 60, .inl (flA L (-9) 60))) :: r) := by
  refine Mt.of (by decide +kernel) rfl rfl (fun X B => ?_)
  show J G X mX7_tear ((x, .inr (7, [.ref (A 0), .int (nI ns), .ref (A 1), .int (nI nr), .ref (A 2), .ref (A 3), .ref (A 4), .ref (A 5), .ref (A 6), .ref (A 7), .ref (A 8), .ref (A 9), .long to, .int al, .int wa, .int lf, .ref (A 10)])) :: (A 0, .inl (G.2.1.2.2.1, 12, .inr (.inr (.inr (.inr sa))))) :: (s, .inr (6, [.int kd, .ref la, .int (1 : Int32), .int wc])) :: (la, .inl (G.2.1.1, 60, .inl L)) :: r) 0 0 0 [(0, .ref x), (1, .int (nI k))] []
  refine J.aload_n 0 dX7_tear_0 rfl ?_
  refine J.iload_n 1 dX7_tear_1 rfl ?_
  refine J.callV 0 (st := []) B (c_X7_lookAtRow l G _ hk hns hsa) ml_X7_119 mf_yX7_lookAtRow mi_yX7_lookAtRow rfl dX7_tear_2 rfl rfl rfl rfl (fun v_1 w_2 hp_3 => ?_)
  obtain ⟨rfl, rfl⟩ := hp_3
  show J G X mX7_tear _ _ _ 5 _ [.int (0 : Int32)]
  refine J.istore_n [1, 2, 0] (lv' := [(0, .ref x), (1, .int (nI k)), (2, .int (0 : Int32))]) dX7_tear_5 rfl rfl ?_
  refine J.iload_n 2 dX7_tear_6 rfl ?_
  refine J.if_eq dX7_tear_7 (fun _ => ?_) (fun z => absurd z (by decide))
  refine J.aload_n 0 dX7_tear_12 rfl ?_
  refine J.get 0 fl_X7_11 dX7_tear_13 rfl rfl ?_
  refine J.iload_n 1 dX7_tear_16 rfl ?_
  refine J.aald 1 2 (k) dX7_tear_17 rfl rfl (rfl) (by omega) (by decide) (hsa) ?_
  refine J.iconst (0 : Int32) dX7_tear_18 rfl ?_
  refine J.re [2, 3, 0, 1] 4 (ws2 := (s, .inr (6, [.int kd, .ref la, .int (1 : Int32), .int wc])) :: (la, .inl (G.2.1.1, 60, .inl L)) :: (x, .inr (7, [.ref (A 0), .int (nI ns), .ref (A 1), .int (nI nr), .ref (A 2), .ref (A 3), .ref (A 4), .ref (A 5), .ref (A 6), .ref (A 7), .ref (A 8), .ref (A 9), .long to, .int al, .int wa, .int lf, .ref (A 10)])) :: (A 0, .inl (G.2.1.2.2.1, 12, .inr (.inr (.inr (.inr sa))))) :: r) rfl rfl ?_
  refine J.callV 0 (st := []) B (c_X6_emptyRow l G _ (b := false)) ml_X7_104 mf_yX6_emptyRow mi_yX6_emptyRow rfl dX7_tear_19 rfl rfl rfl rfl (fun v_4 w_5 hp_6 => ?_)
  obtain ⟨rfl, rfl⟩ := hp_6
  refine J.re [2, 3, 0, 1] 4 (ws2 := (x, .inr (7, [.ref (A 0), .int (nI ns), .ref (A 1), .int (nI nr), .ref (A 2), .ref (A 3), .ref (A 4), .ref (A 5), .ref (A 6), .ref (A 7), .ref (A 8), .ref (A 9), .long to, .int al, .int wa, .int lf, .ref (A 10)])) :: (A 0, .inl (G.2.1.2.2.1, 12, .inr (.inr (.inr (.inr sa))))) :: (s, .inr (6, [.int kd, .ref la, .int (b01 false), .int wc])) :: (la, .inl (G.2.1.1, 60, .inl (flA L (-9) 60))) :: r) rfl rfl ?_
  show J G X mX7_tear _ _ _ 22 _ []
  refine J.iconst (1 : Int32) dX7_tear_22 rfl ?_
  exact J.iret B dX7_tear_23 rfl (⟨rfl, rfl⟩)
set_option maxHeartbeats 4000000 in
set_option maxRecDepth 100000 in
theorem i_lay_v (l : Launch) (G : jG) (r : va_W) {x : Nat} {A : Nat → Nat} {ns nr : Nat} {to : Int64} {al wa lf : Int32} {num nt v0 : Int32} (hv1 : ¬ v0 = -9) (hv2 : inR v0 0 10000 = false) : Mt l G yX7_lay mX7_lay 3 66 0 0 [.ref x, .int num, .int nt, .int v0] ((x, .inr (7, [.ref (A 0), .int (nI ns), .ref (A 1), .int (nI nr), .ref (A 2), .ref (A 3), .ref (A 4), .ref (A 5), .ref (A 6), .ref (A 7), .ref (A 8), .ref (A 9), .long to, .int al, .int wa, .int lf, .ref (A 10)])) :: r) (fun v w => v = some (.int (-1 : Int32)) ∧ w = (x, .inr (7, [.ref (A 0), .int (nI ns), .ref (A 1), .int (nI nr), .ref (A 2), .ref (A 3), .ref (A 4), .ref (A 5), .ref (A 6), .ref (A 7), .ref (A 8), .ref (A 9), .long to, .int al, .int wa, .int lf, .ref (A 10)])) :: r) := by
  refine Mt.of (by decide +kernel) rfl rfl (fun X B => ?_)
  show J G X mX7_lay ((x, .inr (7, [.ref (A 0), .int (nI ns), .ref (A 1), .int (nI nr), .ref (A 2), .ref (A 3), .ref (A 4), .ref (A 5), .ref (A 6), .ref (A 7), .ref (A 8), .ref (A 9), .long to, .int al, .int wa, .int lf, .ref (A 10)])) :: r) 0 0 0 [(0, .ref x), (1, .int num), (2, .int nt), (3, .int v0)] []
  have hv3 := inR_no hv2
  refine J.iload_n 3 dX7_lay_0 rfl ?_
  refine J.bipush (-9 : Int32) dX7_lay_1 rfl ?_
  refine J.icmp_eq dX7_lay_3 (fun z => absurd z (hv1)) (fun h9 => ?_)
  refine J.iload_n 3 dX7_lay_6 rfl ?_
  refine J.if_lt dX7_lay_7 (fun h8 => ?_) (fun h8 => ?_)
  · skip
    have h8 : v0.toInt < (0 : Int) := (fa_lt _ _).mp h8
    refine J.iconst (-1 : Int32) dX7_lay_17 rfl ?_
    exact J.iret B dX7_lay_18 rfl (⟨rfl, rfl⟩)
  · skip
    have h8 : ¬ v0.toInt < (0 : Int) := fun z => h8 ((fa_lt _ _).mpr z)
    refine J.iload_n 3 dX7_lay_10 rfl ?_
    refine J.sipush (10000 : Int32) dX7_lay_11 rfl ?_
    refine J.icmp_le dX7_lay_14 (fun h7 => ?_) (fun h7 => ?_)
    · skip
      have h7 : v0.toInt ≤ (10000 : Int) := (fa_le _ _).mp h7
      omega
    · skip
      have h7 : ¬ v0.toInt ≤ (10000 : Int) := fun z => h7 ((fa_le _ _).mpr z)
      refine J.iconst (-1 : Int32) dX7_lay_17 rfl ?_
      exact J.iret B dX7_lay_18 rfl (⟨rfl, rfl⟩)
set_option maxHeartbeats 4000000 in
set_option maxRecDepth 100000 in
theorem i_lay_bad (l : Launch) (G : jG) (r : va_W) {x : Nat} {A : Nat → Nat} {ns nr : Nat} {to : Int64} {al wa lf : Int32} {sa : Nat → Option Nat} {num : Int32} (hns : ns ≤ 12) (hnum : inR num 0 ((ns : Int) - 1) = false) {nt v0 : Int32} (hv : v0 = -9 ∨ inR v0 0 10000 = true) : Mt l G yX7_lay mX7_lay 3 66 0 0 [.ref x, .int num, .int nt, .int v0] ((x, .inr (7, [.ref (A 0), .int (nI ns), .ref (A 1), .int (nI nr), .ref (A 2), .ref (A 3), .ref (A 4), .ref (A 5), .ref (A 6), .ref (A 7), .ref (A 8), .ref (A 9), .long to, .int al, .int wa, .int lf, .ref (A 10)])) :: (A 0, .inl (G.2.1.2.2.1, 12, .inr (.inr (.inr (.inr sa))))) :: r) (fun v w => v = some (.int (-1 : Int32)) ∧ w = (x, .inr (7, [.ref (A 0), .int (nI ns), .ref (A 1), .int (nI nr), .ref (A 2), .ref (A 3), .ref (A 4), .ref (A 5), .ref (A 6), .ref (A 7), .ref (A 8), .ref (A 9), .long to, .int al, .int wa, .int lf, .ref (A 10)])) :: (A 0, .inl (G.2.1.2.2.1, 12, .inr (.inr (.inr (.inr sa))))) :: r) := by
  refine Mt.of (by decide +kernel) rfl rfl (fun X B => ?_)
  show J G X mX7_lay ((x, .inr (7, [.ref (A 0), .int (nI ns), .ref (A 1), .int (nI nr), .ref (A 2), .ref (A 3), .ref (A 4), .ref (A 5), .ref (A 6), .ref (A 7), .ref (A 8), .ref (A 9), .long to, .int al, .int wa, .int lf, .ref (A 10)])) :: (A 0, .inl (G.2.1.2.2.1, 12, .inr (.inr (.inr (.inr sa))))) :: r) 0 0 0 [(0, .ref x), (1, .int num), (2, .int nt), (3, .int v0)] []
  have hv2 : v0 = -9 ∨ (0 ≤ v0.toInt ∧ v0.toInt ≤ 10000) := hv.imp id inR_of
  refine J.iload_n 3 dX7_lay_0 rfl ?_
  refine J.bipush (-9 : Int32) dX7_lay_1 rfl ?_
  refine J.icmp_eq dX7_lay_3 (fun h9 => ?_) (fun h9 => ?_)
  · skip
    refine J.aload_n 0 dX7_lay_19 rfl ?_
    refine J.iload_n 1 dX7_lay_20 rfl ?_
    refine J.iload_n 2 dX7_lay_21 rfl ?_
    refine J.callV 0 (st := []) B (c_X7_lookAtNight_bad l G _ hns hnum) ml_X7_108 mf_yX7_lookAtNight mi_yX7_lookAtNight rfl dX7_lay_22 rfl rfl rfl rfl (fun v_1 w_2 hp_3 => ?_)
    obtain ⟨rfl, rfl⟩ := hp_3
    show J G X mX7_lay _ _ _ 25 _ [.int (-1 : Int32)]
    refine J.istore [1, 2, 3, 4, 0] (lv' := [(0, .ref x), (1, .int num), (2, .int nt), (3, .int v0), (4, .int (-1 : Int32))]) dX7_lay_25 rfl rfl ?_
    refine J.iload 4 dX7_lay_27 rfl ?_
    refine J.if_eq dX7_lay_29 (fun z => absurd z (by decide)) (fun _ => ?_)
    refine J.iload 4 dX7_lay_32 rfl ?_
    exact J.iret B dX7_lay_34 rfl (⟨rfl, rfl⟩)
  · skip
    refine J.iload_n 3 dX7_lay_6 rfl ?_
    refine J.if_lt dX7_lay_7 (fun h8 => ?_) (fun h8 => ?_)
    · skip
      have h8 : v0.toInt < (0 : Int) := (fa_lt _ _).mp h8
      exact absurd (hv2.resolve_left h9) (by omega)
    · skip
      have h8 : ¬ v0.toInt < (0 : Int) := fun z => h8 ((fa_lt _ _).mpr z)
      refine J.iload_n 3 dX7_lay_10 rfl ?_
      refine J.sipush (10000 : Int32) dX7_lay_11 rfl ?_
      refine J.icmp_le dX7_lay_14 (fun h7 => ?_) (fun h7 => ?_)
      · skip
        have h7 : v0.toInt ≤ (10000 : Int) := (fa_le _ _).mp h7
        refine J.aload_n 0 dX7_lay_19 rfl ?_
        refine J.iload_n 1 dX7_lay_20 rfl ?_
        refine J.iload_n 2 dX7_lay_21 rfl ?_
        refine J.callV 0 (st := []) B (c_X7_lookAtNight_bad l G _ hns hnum) ml_X7_108 mf_yX7_lookAtNight mi_yX7_lookAtNight rfl dX7_lay_22 rfl rfl rfl rfl (fun v_4 w_5 hp_6 => ?_)
        obtain ⟨rfl, rfl⟩ := hp_6
        show J G X mX7_lay _ _ _ 25 _ [.int (-1 : Int32)]
        refine J.istore [1, 2, 3, 4, 0] (lv' := [(0, .ref x), (1, .int num), (2, .int nt), (3, .int v0), (4, .int (-1 : Int32))]) dX7_lay_25 rfl rfl ?_
        refine J.iload 4 dX7_lay_27 rfl ?_
        refine J.if_eq dX7_lay_29 (fun z => absurd z (by decide)) (fun _ => ?_)
        refine J.iload 4 dX7_lay_32 rfl ?_
        exact J.iret B dX7_lay_34 rfl (⟨rfl, rfl⟩)
      · skip
        have h7 : ¬ v0.toInt ≤ (10000 : Int) := fun z => h7 ((fa_le _ _).mpr z)
        exact absurd (hv2.resolve_left h9) (by omega)
set_option maxHeartbeats 4000000 in
set_option maxRecDepth 100000 in
theorem i_lay_no (l : Launch) (G : jG) (r : va_W) {x : Nat} {A : Nat → Nat} {ns nr : Nat} {to : Int64} {al wa lf : Int32} {sa : Nat → Option Nat} {la : Nat} {kd wc : Int32} {k s : Nat} (hk : k < ns) (hns : ns ≤ 12) (hsa : sa k = some s) {fc : Nat → Int32} {nt v0 : Int32} (hv : v0 = -9 ∨ inR v0 0 10000 = true) : Mt l G yX7_lay mX7_lay 3 66 0 0 [.ref x, .int (nI k), .int nt, .int v0] ((x, .inr (7, [.ref (A 0), .int (nI ns), .ref (A 1), .int (nI nr), .ref (A 2), .ref (A 3), .ref (A 4), .ref (A 5), .ref (A 6), .ref (A 7), .ref (A 8), .ref (A 9), .long to, .int al, .int wa, .int lf, .ref (A 10)])) :: (A 0, .inl (G.2.1.2.2.1, 12, .inr (.inr (.inr (.inr sa))))) :: (s, .inr (6, [.int kd, .ref la, .int (0 : Int32), .int wc])) :: (A 10, .inl (G.2.1.1, 6, .inl fc)) :: r) (fun v w => v = some (.int (-3 : Int32)) ∧ w = (x, .inr (7, [.ref (A 0), .int (nI ns), .ref (A 1), .int (nI nr), .ref (A 2), .ref (A 3), .ref (A 4), .ref (A 5), .ref (A 6), .ref (A 7), .ref (A 8), .ref (A 9), .long to, .int al, .int wa, .int (nI 1), .ref (A 10)])) :: (A 0, .inl (G.2.1.2.2.1, 12, .inr (.inr (.inr (.inr sa))))) :: (s, .inr (6, [.int kd, .ref la, .int (0 : Int32), .int wc])) :: (A 10, .inl (G.2.1.1, 6, .inl (upd fc 1 (fc 1 + 1)))) :: r) := by
  refine Mt.of (by decide +kernel) rfl rfl (fun X B => ?_)
  show J G X mX7_lay ((x, .inr (7, [.ref (A 0), .int (nI ns), .ref (A 1), .int (nI nr), .ref (A 2), .ref (A 3), .ref (A 4), .ref (A 5), .ref (A 6), .ref (A 7), .ref (A 8), .ref (A 9), .long to, .int al, .int wa, .int lf, .ref (A 10)])) :: (A 0, .inl (G.2.1.2.2.1, 12, .inr (.inr (.inr (.inr sa))))) :: (s, .inr (6, [.int kd, .ref la, .int (0 : Int32), .int wc])) :: (A 10, .inl (G.2.1.1, 6, .inl fc)) :: r) 0 0 0 [(0, .ref x), (1, .int (nI k)), (2, .int nt), (3, .int v0)] []
  have hv2 : v0 = -9 ∨ (0 ≤ v0.toInt ∧ v0.toInt ≤ 10000) := hv.imp id inR_of
  refine J.iload_n 3 dX7_lay_0 rfl ?_
  refine J.bipush (-9 : Int32) dX7_lay_1 rfl ?_
  refine J.icmp_eq dX7_lay_3 (fun h9 => ?_) (fun h9 => ?_)
  · skip
    refine J.aload_n 0 dX7_lay_19 rfl ?_
    refine J.iload_n 1 dX7_lay_20 rfl ?_
    refine J.iload_n 2 dX7_lay_21 rfl ?_
    refine J.callV 0 (st := []) B (c_X7_lookAtNight_no l G _ hk hns hsa) ml_X7_108 mf_yX7_lookAtNight mi_yX7_lookAtNight rfl dX7_lay_22 rfl rfl rfl rfl (fun v_1 w_2 hp_3 => ?_)
    obtain ⟨rfl, rfl⟩ := hp_3
    show J G X mX7_lay _ _ _ 25 _ [.int (-3 : Int32)]
    refine J.istore [1, 2, 3, 4, 0] (lv' := [(0, .ref x), (1, .int (nI k)), (2, .int nt), (3, .int v0), (4, .int (-3 : Int32))]) dX7_lay_25 rfl rfl ?_
    refine J.iload 4 dX7_lay_27 rfl ?_
    refine J.if_eq dX7_lay_29 (fun z => absurd z (by decide)) (fun _ => ?_)
    refine J.iload 4 dX7_lay_32 rfl ?_
    exact J.iret B dX7_lay_34 rfl (⟨rfl, rfl⟩)
  · skip
    refine J.iload_n 3 dX7_lay_6 rfl ?_
    refine J.if_lt dX7_lay_7 (fun h8 => ?_) (fun h8 => ?_)
    · skip
      have h8 : v0.toInt < (0 : Int) := (fa_lt _ _).mp h8
      exact absurd (hv2.resolve_left h9) (by omega)
    · skip
      have h8 : ¬ v0.toInt < (0 : Int) := fun z => h8 ((fa_lt _ _).mpr z)
      refine J.iload_n 3 dX7_lay_10 rfl ?_
      refine J.sipush (10000 : Int32) dX7_lay_11 rfl ?_
      refine J.icmp_le dX7_lay_14 (fun h7 => ?_) (fun h7 => ?_)
      · skip
        have h7 : v0.toInt ≤ (10000 : Int) := (fa_le _ _).mp h7
        refine J.aload_n 0 dX7_lay_19 rfl ?_
        refine J.iload_n 1 dX7_lay_20 rfl ?_
        refine J.iload_n 2 dX7_lay_21 rfl ?_
        refine J.callV 0 (st := []) B (c_X7_lookAtNight_no l G _ hk hns hsa) ml_X7_108 mf_yX7_lookAtNight mi_yX7_lookAtNight rfl dX7_lay_22 rfl rfl rfl rfl (fun v_4 w_5 hp_6 => ?_)
        obtain ⟨rfl, rfl⟩ := hp_6
        show J G X mX7_lay _ _ _ 25 _ [.int (-3 : Int32)]
        refine J.istore [1, 2, 3, 4, 0] (lv' := [(0, .ref x), (1, .int (nI k)), (2, .int nt), (3, .int v0), (4, .int (-3 : Int32))]) dX7_lay_25 rfl rfl ?_
        refine J.iload 4 dX7_lay_27 rfl ?_
        refine J.if_eq dX7_lay_29 (fun z => absurd z (by decide)) (fun _ => ?_)
        refine J.iload 4 dX7_lay_32 rfl ?_
        exact J.iret B dX7_lay_34 rfl (⟨rfl, rfl⟩)
      · skip
        have h7 : ¬ v0.toInt ≤ (10000 : Int) := fun z => h7 ((fa_le _ _).mpr z)
        exact absurd (hv2.resolve_left h9) (by omega)
set_option maxHeartbeats 4000000 in
set_option maxRecDepth 100000 in
theorem i_lay_by (l : Launch) (G : jG) (r : va_W) {x : Nat} {A : Nat → Nat} {ns nr : Nat} {to : Int64} {al wa lf : Int32} {sa : Nat → Option Nat} {la : Nat} {kd wc : Int32} {k s : Nat} (hk : k < ns) (hns : ns ≤ 12) (hsa : sa k = some s) {fc : Nat → Int32} {nt v0 : Int32} (hv : v0 = -9 ∨ inR v0 0 10000 = true) (hnt : inR nt 0 59 = false) : Mt l G yX7_lay mX7_lay 3 66 0 0 [.ref x, .int (nI k), .int nt, .int v0] ((x, .inr (7, [.ref (A 0), .int (nI ns), .ref (A 1), .int (nI nr), .ref (A 2), .ref (A 3), .ref (A 4), .ref (A 5), .ref (A 6), .ref (A 7), .ref (A 8), .ref (A 9), .long to, .int al, .int wa, .int lf, .ref (A 10)])) :: (A 0, .inl (G.2.1.2.2.1, 12, .inr (.inr (.inr (.inr sa))))) :: (s, .inr (6, [.int kd, .ref la, .int (1 : Int32), .int wc])) :: (A 10, .inl (G.2.1.1, 6, .inl fc)) :: r) (fun v w => v = some (.int (-3 : Int32)) ∧ w = (x, .inr (7, [.ref (A 0), .int (nI ns), .ref (A 1), .int (nI nr), .ref (A 2), .ref (A 3), .ref (A 4), .ref (A 5), .ref (A 6), .ref (A 7), .ref (A 8), .ref (A 9), .long to, .int al, .int wa, .int (nI 2), .ref (A 10)])) :: (A 0, .inl (G.2.1.2.2.1, 12, .inr (.inr (.inr (.inr sa))))) :: (s, .inr (6, [.int kd, .ref la, .int (1 : Int32), .int wc])) :: (A 10, .inl (G.2.1.1, 6, .inl (upd fc 2 (fc 2 + 1)))) :: r) := by
  refine Mt.of (by decide +kernel) rfl rfl (fun X B => ?_)
  show J G X mX7_lay ((x, .inr (7, [.ref (A 0), .int (nI ns), .ref (A 1), .int (nI nr), .ref (A 2), .ref (A 3), .ref (A 4), .ref (A 5), .ref (A 6), .ref (A 7), .ref (A 8), .ref (A 9), .long to, .int al, .int wa, .int lf, .ref (A 10)])) :: (A 0, .inl (G.2.1.2.2.1, 12, .inr (.inr (.inr (.inr sa))))) :: (s, .inr (6, [.int kd, .ref la, .int (1 : Int32), .int wc])) :: (A 10, .inl (G.2.1.1, 6, .inl fc)) :: r) 0 0 0 [(0, .ref x), (1, .int (nI k)), (2, .int nt), (3, .int v0)] []
  have hv2 : v0 = -9 ∨ (0 ≤ v0.toInt ∧ v0.toInt ≤ 10000) := hv.imp id inR_of
  refine J.iload_n 3 dX7_lay_0 rfl ?_
  refine J.bipush (-9 : Int32) dX7_lay_1 rfl ?_
  refine J.icmp_eq dX7_lay_3 (fun h9 => ?_) (fun h9 => ?_)
  · skip
    refine J.aload_n 0 dX7_lay_19 rfl ?_
    refine J.iload_n 1 dX7_lay_20 rfl ?_
    refine J.iload_n 2 dX7_lay_21 rfl ?_
    refine J.callV 0 (st := []) B (c_X7_lookAtNight_by l G _ hk hns hsa hnt) ml_X7_108 mf_yX7_lookAtNight mi_yX7_lookAtNight rfl dX7_lay_22 rfl rfl rfl rfl (fun v_1 w_2 hp_3 => ?_)
    obtain ⟨rfl, rfl⟩ := hp_3
    show J G X mX7_lay _ _ _ 25 _ [.int (-3 : Int32)]
    refine J.istore [1, 2, 3, 4, 0] (lv' := [(0, .ref x), (1, .int (nI k)), (2, .int nt), (3, .int v0), (4, .int (-3 : Int32))]) dX7_lay_25 rfl rfl ?_
    refine J.iload 4 dX7_lay_27 rfl ?_
    refine J.if_eq dX7_lay_29 (fun z => absurd z (by decide)) (fun _ => ?_)
    refine J.iload 4 dX7_lay_32 rfl ?_
    exact J.iret B dX7_lay_34 rfl (⟨rfl, rfl⟩)
  · skip
    refine J.iload_n 3 dX7_lay_6 rfl ?_
    refine J.if_lt dX7_lay_7 (fun h8 => ?_) (fun h8 => ?_)
    · skip
      have h8 : v0.toInt < (0 : Int) := (fa_lt _ _).mp h8
      exact absurd (hv2.resolve_left h9) (by omega)
    · skip
      have h8 : ¬ v0.toInt < (0 : Int) := fun z => h8 ((fa_lt _ _).mpr z)
      refine J.iload_n 3 dX7_lay_10 rfl ?_
      refine J.sipush (10000 : Int32) dX7_lay_11 rfl ?_
      refine J.icmp_le dX7_lay_14 (fun h7 => ?_) (fun h7 => ?_)
      · skip
        have h7 : v0.toInt ≤ (10000 : Int) := (fa_le _ _).mp h7
        refine J.aload_n 0 dX7_lay_19 rfl ?_
        refine J.iload_n 1 dX7_lay_20 rfl ?_
        refine J.iload_n 2 dX7_lay_21 rfl ?_
        refine J.callV 0 (st := []) B (c_X7_lookAtNight_by l G _ hk hns hsa hnt) ml_X7_108 mf_yX7_lookAtNight mi_yX7_lookAtNight rfl dX7_lay_22 rfl rfl rfl rfl (fun v_4 w_5 hp_6 => ?_)
        obtain ⟨rfl, rfl⟩ := hp_6
        show J G X mX7_lay _ _ _ 25 _ [.int (-3 : Int32)]
        refine J.istore [1, 2, 3, 4, 0] (lv' := [(0, .ref x), (1, .int (nI k)), (2, .int nt), (3, .int v0), (4, .int (-3 : Int32))]) dX7_lay_25 rfl rfl ?_
        refine J.iload 4 dX7_lay_27 rfl ?_
        refine J.if_eq dX7_lay_29 (fun z => absurd z (by decide)) (fun _ => ?_)
        refine J.iload 4 dX7_lay_32 rfl ?_
        exact J.iret B dX7_lay_34 rfl (⟨rfl, rfl⟩)
      · skip
        have h7 : ¬ v0.toInt ≤ (10000 : Int) := fun z => h7 ((fa_le _ _).mpr z)
        exact absurd (hv2.resolve_left h9) (by omega)
set_option maxHeartbeats 4000000 in
set_option maxRecDepth 100000 in
theorem i_lay (l : Launch) (G : jG) (r : va_W) {x : Nat} {A : Nat → Nat} {ns nr : Nat} {to : Int64} {al wa lf : Int32} {sa : Nat → Option Nat} {la : Nat} {kd wc : Int32} {k s : Nat} (hk : k < ns) (hns : ns ≤ 12) (hsa : sa k = some s) {L : Nat → Int32} {v0 : Int32} {nt : Nat} (hv : v0 = -9 ∨ inR v0 0 10000 = true) (hn0 : nt < 60) : Mt l G yX7_lay mX7_lay 3 66 0 0 [.ref x, .int (nI k), .int (nI nt), .int v0] ((x, .inr (7, [.ref (A 0), .int (nI ns), .ref (A 1), .int (nI nr), .ref (A 2), .ref (A 3), .ref (A 4), .ref (A 5), .ref (A 6), .ref (A 7), .ref (A 8), .ref (A 9), .long to, .int al, .int wa, .int lf, .ref (A 10)])) :: (A 0, .inl (G.2.1.2.2.1, 12, .inr (.inr (.inr (.inr sa))))) :: (s, .inr (6, [.int kd, .ref la, .int (1 : Int32), .int wc])) :: (la, .inl (G.2.1.1, 60, .inl L)) :: r) (fun v w => v = some (.int (L nt)) ∧ w = (x, .inr (7, [.ref (A 0), .int (nI ns), .ref (A 1), .int (nI nr), .ref (A 2), .ref (A 3), .ref (A 4), .ref (A 5), .ref (A 6), .ref (A 7), .ref (A 8), .ref (A 9), .long to, .int al, .int wa, .int lf, .ref (A 10)])) :: (A 0, .inl (G.2.1.2.2.1, 12, .inr (.inr (.inr (.inr sa))))) :: (s, .inr (6, [.int kd, .ref la, .int (1 : Int32), .int wc])) :: (la, .inl (G.2.1.1, 60, .inl (upd L nt v0))) :: r) := by
  refine Mt.of (by decide +kernel) rfl rfl (fun X B => ?_)
  show J G X mX7_lay ((x, .inr (7, [.ref (A 0), .int (nI ns), .ref (A 1), .int (nI nr), .ref (A 2), .ref (A 3), .ref (A 4), .ref (A 5), .ref (A 6), .ref (A 7), .ref (A 8), .ref (A 9), .long to, .int al, .int wa, .int lf, .ref (A 10)])) :: (A 0, .inl (G.2.1.2.2.1, 12, .inr (.inr (.inr (.inr sa))))) :: (s, .inr (6, [.int kd, .ref la, .int (1 : Int32), .int wc])) :: (la, .inl (G.2.1.1, 60, .inl L)) :: r) 0 0 0 [(0, .ref x), (1, .int (nI k)), (2, .int (nI nt)), (3, .int v0)] []
  have hv2 : v0 = -9 ∨ (0 ≤ v0.toInt ∧ v0.toInt ≤ 10000) := hv.imp id inR_of
  have hnt : inR (nI nt) 0 59 = true := by rw [nI_inR (by omega)]; exact decide_eq_true ⟨by omega, by omega⟩
  refine J.iload_n 3 dX7_lay_0 rfl ?_
  refine J.bipush (-9 : Int32) dX7_lay_1 rfl ?_
  refine J.icmp_eq dX7_lay_3 (fun h9 => ?_) (fun h9 => ?_)
  · skip
    refine J.aload_n 0 dX7_lay_19 rfl ?_
    refine J.iload_n 1 dX7_lay_20 rfl ?_
    refine J.iload_n 2 dX7_lay_21 rfl ?_
    refine J.callV 0 (st := []) B (c_X7_lookAtNight l G _ hk hns hsa hnt) ml_X7_108 mf_yX7_lookAtNight mi_yX7_lookAtNight rfl dX7_lay_22 rfl rfl rfl rfl (fun v_1 w_2 hp_3 => ?_)
    obtain ⟨rfl, rfl⟩ := hp_3
    show J G X mX7_lay _ _ _ 25 _ [.int (0 : Int32)]
    refine J.istore [1, 2, 3, 4, 0] (lv' := [(0, .ref x), (1, .int (nI k)), (2, .int (nI nt)), (3, .int v0), (4, .int (0 : Int32))]) dX7_lay_25 rfl rfl ?_
    refine J.iload 4 dX7_lay_27 rfl ?_
    refine J.if_eq dX7_lay_29 (fun _ => ?_) (fun z => absurd z (by decide))
    refine J.aload_n 0 dX7_lay_35 rfl ?_
    refine J.get 0 fl_X7_11 dX7_lay_36 rfl rfl ?_
    refine J.iload_n 1 dX7_lay_39 rfl ?_
    refine J.aald 1 2 (k) dX7_lay_40 rfl rfl (rfl) (by omega) (by decide) (hsa) ?_
    refine J.get 2 fl_X7_112 dX7_lay_41 rfl rfl ?_
    refine J.iload_n 2 dX7_lay_44 rfl ?_
    refine J.iald 3 (nt) dX7_lay_45 rfl (rfl) (by omega) (by decide) ?_
    refine J.istore [1, 2, 3, 4, 5, 0] (lv' := [(0, .ref x), (1, .int (nI k)), (2, .int (nI nt)), (3, .int v0), (4, .int (0 : Int32)), (5, .int (L nt))]) dX7_lay_46 rfl rfl ?_
    refine J.aload_n 0 dX7_lay_48 rfl ?_
    refine J.get 0 fl_X7_11 dX7_lay_49 rfl rfl ?_
    refine J.iload_n 1 dX7_lay_52 rfl ?_
    refine J.aald 1 2 (k) dX7_lay_53 rfl rfl (rfl) (by omega) (by decide) (hsa) ?_
    refine J.get 2 fl_X7_112 dX7_lay_54 rfl rfl ?_
    refine J.iload_n 2 dX7_lay_57 rfl ?_
    refine J.iload_n 3 dX7_lay_58 rfl ?_
    refine J.iast 3 (nt) dX7_lay_59 rfl (rfl) (by omega) (by decide) (ws' := (x, .inr (7, [.ref (A 0), .int (nI ns), .ref (A 1), .int (nI nr), .ref (A 2), .ref (A 3), .ref (A 4), .ref (A 5), .ref (A 6), .ref (A 7), .ref (A 8), .ref (A 9), .long to, .int al, .int wa, .int lf, .ref (A 10)])) :: (A 0, .inl (G.2.1.2.2.1, 12, .inr (.inr (.inr (.inr sa))))) :: (s, .inr (6, [.int kd, .ref la, .int (1 : Int32), .int wc])) :: (la, .inl (G.2.1.1, 60, .inl (upd L nt v0))) :: r) rfl ?_
    refine J.iload 5 dX7_lay_60 rfl ?_
    exact J.iret B dX7_lay_62 rfl (⟨rfl, rfl⟩)
  · skip
    refine J.iload_n 3 dX7_lay_6 rfl ?_
    refine J.if_lt dX7_lay_7 (fun h8 => ?_) (fun h8 => ?_)
    · skip
      have h8 : v0.toInt < (0 : Int) := (fa_lt _ _).mp h8
      exact absurd (hv2.resolve_left h9) (by omega)
    · skip
      have h8 : ¬ v0.toInt < (0 : Int) := fun z => h8 ((fa_lt _ _).mpr z)
      refine J.iload_n 3 dX7_lay_10 rfl ?_
      refine J.sipush (10000 : Int32) dX7_lay_11 rfl ?_
      refine J.icmp_le dX7_lay_14 (fun h7 => ?_) (fun h7 => ?_)
      · skip
        have h7 : v0.toInt ≤ (10000 : Int) := (fa_le _ _).mp h7
        refine J.aload_n 0 dX7_lay_19 rfl ?_
        refine J.iload_n 1 dX7_lay_20 rfl ?_
        refine J.iload_n 2 dX7_lay_21 rfl ?_
        refine J.callV 0 (st := []) B (c_X7_lookAtNight l G _ hk hns hsa hnt) ml_X7_108 mf_yX7_lookAtNight mi_yX7_lookAtNight rfl dX7_lay_22 rfl rfl rfl rfl (fun v_4 w_5 hp_6 => ?_)
        obtain ⟨rfl, rfl⟩ := hp_6
        show J G X mX7_lay _ _ _ 25 _ [.int (0 : Int32)]
        refine J.istore [1, 2, 3, 4, 0] (lv' := [(0, .ref x), (1, .int (nI k)), (2, .int (nI nt)), (3, .int v0), (4, .int (0 : Int32))]) dX7_lay_25 rfl rfl ?_
        refine J.iload 4 dX7_lay_27 rfl ?_
        refine J.if_eq dX7_lay_29 (fun _ => ?_) (fun z => absurd z (by decide))
        refine J.aload_n 0 dX7_lay_35 rfl ?_
        refine J.get 0 fl_X7_11 dX7_lay_36 rfl rfl ?_
        refine J.iload_n 1 dX7_lay_39 rfl ?_
        refine J.aald 1 2 (k) dX7_lay_40 rfl rfl (rfl) (by omega) (by decide) (hsa) ?_
        refine J.get 2 fl_X7_112 dX7_lay_41 rfl rfl ?_
        refine J.iload_n 2 dX7_lay_44 rfl ?_
        refine J.iald 3 (nt) dX7_lay_45 rfl (rfl) (by omega) (by decide) ?_
        refine J.istore [1, 2, 3, 4, 5, 0] (lv' := [(0, .ref x), (1, .int (nI k)), (2, .int (nI nt)), (3, .int v0), (4, .int (0 : Int32)), (5, .int (L nt))]) dX7_lay_46 rfl rfl ?_
        refine J.aload_n 0 dX7_lay_48 rfl ?_
        refine J.get 0 fl_X7_11 dX7_lay_49 rfl rfl ?_
        refine J.iload_n 1 dX7_lay_52 rfl ?_
        refine J.aald 1 2 (k) dX7_lay_53 rfl rfl (rfl) (by omega) (by decide) (hsa) ?_
        refine J.get 2 fl_X7_112 dX7_lay_54 rfl rfl ?_
        refine J.iload_n 2 dX7_lay_57 rfl ?_
        refine J.iload_n 3 dX7_lay_58 rfl ?_
        refine J.iast 3 (nt) dX7_lay_59 rfl (rfl) (by omega) (by decide) (ws' := (x, .inr (7, [.ref (A 0), .int (nI ns), .ref (A 1), .int (nI nr), .ref (A 2), .ref (A 3), .ref (A 4), .ref (A 5), .ref (A 6), .ref (A 7), .ref (A 8), .ref (A 9), .long to, .int al, .int wa, .int lf, .ref (A 10)])) :: (A 0, .inl (G.2.1.2.2.1, 12, .inr (.inr (.inr (.inr sa))))) :: (s, .inr (6, [.int kd, .ref la, .int (1 : Int32), .int wc])) :: (la, .inl (G.2.1.1, 60, .inl (upd L nt v0))) :: r) rfl ?_
        refine J.iload 5 dX7_lay_60 rfl ?_
        exact J.iret B dX7_lay_62 rfl (⟨rfl, rfl⟩)
      · skip
        have h7 : ¬ v0.toInt ≤ (10000 : Int) := fun z => h7 ((fa_le _ _).mpr z)
        exact absurd (hv2.resolve_left h9) (by omega)
set_option maxHeartbeats 4000000 in
set_option maxRecDepth 100000 in
theorem i_at_bad (l : Launch) (G : jG) (r : va_W) {x : Nat} {A : Nat → Nat} {ns nr : Nat} {to : Int64} {al wa lf : Int32} {sa : Nat → Option Nat} {num : Int32} (hns : ns ≤ 12) (hnum : inR num 0 ((ns : Int) - 1) = false) {nt : Int32} : Mt l G yX7_at mX7_at 3 66 0 0 [.ref x, .int num, .int nt] ((x, .inr (7, [.ref (A 0), .int (nI ns), .ref (A 1), .int (nI nr), .ref (A 2), .ref (A 3), .ref (A 4), .ref (A 5), .ref (A 6), .ref (A 7), .ref (A 8), .ref (A 9), .long to, .int al, .int wa, .int lf, .ref (A 10)])) :: (A 0, .inl (G.2.1.2.2.1, 12, .inr (.inr (.inr (.inr sa))))) :: r) (fun v w => v = some (.int (-1 : Int32)) ∧ w = (x, .inr (7, [.ref (A 0), .int (nI ns), .ref (A 1), .int (nI nr), .ref (A 2), .ref (A 3), .ref (A 4), .ref (A 5), .ref (A 6), .ref (A 7), .ref (A 8), .ref (A 9), .long to, .int al, .int wa, .int lf, .ref (A 10)])) :: (A 0, .inl (G.2.1.2.2.1, 12, .inr (.inr (.inr (.inr sa))))) :: r) := by
  refine Mt.of (by decide +kernel) rfl rfl (fun X B => ?_)
  show J G X mX7_at ((x, .inr (7, [.ref (A 0), .int (nI ns), .ref (A 1), .int (nI nr), .ref (A 2), .ref (A 3), .ref (A 4), .ref (A 5), .ref (A 6), .ref (A 7), .ref (A 8), .ref (A 9), .long to, .int al, .int wa, .int lf, .ref (A 10)])) :: (A 0, .inl (G.2.1.2.2.1, 12, .inr (.inr (.inr (.inr sa))))) :: r) 0 0 0 [(0, .ref x), (1, .int num), (2, .int nt)] []
  refine J.aload_n 0 dX7_at_0 rfl ?_
  refine J.iload_n 1 dX7_at_1 rfl ?_
  refine J.iload_n 2 dX7_at_2 rfl ?_
  refine J.callV 0 (st := []) B (c_X7_lookAtNight_bad l G _ hns hnum) ml_X7_108 mf_yX7_lookAtNight mi_yX7_lookAtNight rfl dX7_at_3 rfl rfl rfl rfl (fun v_1 w_2 hp_3 => ?_)
  obtain ⟨rfl, rfl⟩ := hp_3
  show J G X mX7_at _ _ _ 6 _ [.int (-1 : Int32)]
  refine J.istore_n [1, 2, 3, 0] (lv' := [(0, .ref x), (1, .int num), (2, .int nt), (3, .int (-1 : Int32))]) dX7_at_6 rfl rfl ?_
  refine J.iload_n 3 dX7_at_7 rfl ?_
  refine J.if_ne dX7_at_8 (fun _ => ?_) (fun z => absurd z (by decide))
  refine J.iload_n 3 dX7_at_25 rfl ?_
  exact J.iret B dX7_at_26 rfl (⟨rfl, rfl⟩)
set_option maxHeartbeats 4000000 in
set_option maxRecDepth 100000 in
theorem i_at_no (l : Launch) (G : jG) (r : va_W) {x : Nat} {A : Nat → Nat} {ns nr : Nat} {to : Int64} {al wa lf : Int32} {sa : Nat → Option Nat} {la : Nat} {kd wc : Int32} {k s : Nat} (hk : k < ns) (hns : ns ≤ 12) (hsa : sa k = some s) {fc : Nat → Int32} {nt : Int32} : Mt l G yX7_at mX7_at 3 66 0 0 [.ref x, .int (nI k), .int nt] ((x, .inr (7, [.ref (A 0), .int (nI ns), .ref (A 1), .int (nI nr), .ref (A 2), .ref (A 3), .ref (A 4), .ref (A 5), .ref (A 6), .ref (A 7), .ref (A 8), .ref (A 9), .long to, .int al, .int wa, .int lf, .ref (A 10)])) :: (A 0, .inl (G.2.1.2.2.1, 12, .inr (.inr (.inr (.inr sa))))) :: (s, .inr (6, [.int kd, .ref la, .int (0 : Int32), .int wc])) :: (A 10, .inl (G.2.1.1, 6, .inl fc)) :: r) (fun v w => v = some (.int (-3 : Int32)) ∧ w = (x, .inr (7, [.ref (A 0), .int (nI ns), .ref (A 1), .int (nI nr), .ref (A 2), .ref (A 3), .ref (A 4), .ref (A 5), .ref (A 6), .ref (A 7), .ref (A 8), .ref (A 9), .long to, .int al, .int wa, .int (nI 1), .ref (A 10)])) :: (A 0, .inl (G.2.1.2.2.1, 12, .inr (.inr (.inr (.inr sa))))) :: (s, .inr (6, [.int kd, .ref la, .int (0 : Int32), .int wc])) :: (A 10, .inl (G.2.1.1, 6, .inl (upd fc 1 (fc 1 + 1)))) :: r) := by
  refine Mt.of (by decide +kernel) rfl rfl (fun X B => ?_)
  show J G X mX7_at ((x, .inr (7, [.ref (A 0), .int (nI ns), .ref (A 1), .int (nI nr), .ref (A 2), .ref (A 3), .ref (A 4), .ref (A 5), .ref (A 6), .ref (A 7), .ref (A 8), .ref (A 9), .long to, .int al, .int wa, .int lf, .ref (A 10)])) :: (A 0, .inl (G.2.1.2.2.1, 12, .inr (.inr (.inr (.inr sa))))) :: (s, .inr (6, [.int kd, .ref la, .int (0 : Int32), .int wc])) :: (A 10, .inl (G.2.1.1, 6, .inl fc)) :: r) 0 0 0 [(0, .ref x), (1, .int (nI k)), (2, .int nt)] []
  refine J.aload_n 0 dX7_at_0 rfl ?_
  refine J.iload_n 1 dX7_at_1 rfl ?_
  refine J.iload_n 2 dX7_at_2 rfl ?_
  refine J.callV 0 (st := []) B (c_X7_lookAtNight_no l G _ hk hns hsa) ml_X7_108 mf_yX7_lookAtNight mi_yX7_lookAtNight rfl dX7_at_3 rfl rfl rfl rfl (fun v_1 w_2 hp_3 => ?_)
  obtain ⟨rfl, rfl⟩ := hp_3
  show J G X mX7_at _ _ _ 6 _ [.int (-3 : Int32)]
  refine J.istore_n [1, 2, 3, 0] (lv' := [(0, .ref x), (1, .int (nI k)), (2, .int nt), (3, .int (-3 : Int32))]) dX7_at_6 rfl rfl ?_
  refine J.iload_n 3 dX7_at_7 rfl ?_
  refine J.if_ne dX7_at_8 (fun _ => ?_) (fun z => absurd z (by decide))
  refine J.iload_n 3 dX7_at_25 rfl ?_
  exact J.iret B dX7_at_26 rfl (⟨rfl, rfl⟩)
set_option maxHeartbeats 4000000 in
set_option maxRecDepth 100000 in
theorem i_at_by (l : Launch) (G : jG) (r : va_W) {x : Nat} {A : Nat → Nat} {ns nr : Nat} {to : Int64} {al wa lf : Int32} {sa : Nat → Option Nat} {la : Nat} {kd wc : Int32} {k s : Nat} (hk : k < ns) (hns : ns ≤ 12) (hsa : sa k = some s) {fc : Nat → Int32} {nt : Int32} (hnt : inR nt 0 59 = false) : Mt l G yX7_at mX7_at 3 66 0 0 [.ref x, .int (nI k), .int nt] ((x, .inr (7, [.ref (A 0), .int (nI ns), .ref (A 1), .int (nI nr), .ref (A 2), .ref (A 3), .ref (A 4), .ref (A 5), .ref (A 6), .ref (A 7), .ref (A 8), .ref (A 9), .long to, .int al, .int wa, .int lf, .ref (A 10)])) :: (A 0, .inl (G.2.1.2.2.1, 12, .inr (.inr (.inr (.inr sa))))) :: (s, .inr (6, [.int kd, .ref la, .int (1 : Int32), .int wc])) :: (A 10, .inl (G.2.1.1, 6, .inl fc)) :: r) (fun v w => v = some (.int (-3 : Int32)) ∧ w = (x, .inr (7, [.ref (A 0), .int (nI ns), .ref (A 1), .int (nI nr), .ref (A 2), .ref (A 3), .ref (A 4), .ref (A 5), .ref (A 6), .ref (A 7), .ref (A 8), .ref (A 9), .long to, .int al, .int wa, .int (nI 2), .ref (A 10)])) :: (A 0, .inl (G.2.1.2.2.1, 12, .inr (.inr (.inr (.inr sa))))) :: (s, .inr (6, [.int kd, .ref la, .int (1 : Int32), .int wc])) :: (A 10, .inl (G.2.1.1, 6, .inl (upd fc 2 (fc 2 + 1)))) :: r) := by
  refine Mt.of (by decide +kernel) rfl rfl (fun X B => ?_)
  show J G X mX7_at ((x, .inr (7, [.ref (A 0), .int (nI ns), .ref (A 1), .int (nI nr), .ref (A 2), .ref (A 3), .ref (A 4), .ref (A 5), .ref (A 6), .ref (A 7), .ref (A 8), .ref (A 9), .long to, .int al, .int wa, .int lf, .ref (A 10)])) :: (A 0, .inl (G.2.1.2.2.1, 12, .inr (.inr (.inr (.inr sa))))) :: (s, .inr (6, [.int kd, .ref la, .int (1 : Int32), .int wc])) :: (A 10, .inl (G.2.1.1, 6, .inl fc)) :: r) 0 0 0 [(0, .ref x), (1, .int (nI k)), (2, .int nt)] []
  refine J.aload_n 0 dX7_at_0 rfl ?_
  refine J.iload_n 1 dX7_at_1 rfl ?_
  refine J.iload_n 2 dX7_at_2 rfl ?_
  refine J.callV 0 (st := []) B (c_X7_lookAtNight_by l G _ hk hns hsa hnt) ml_X7_108 mf_yX7_lookAtNight mi_yX7_lookAtNight rfl dX7_at_3 rfl rfl rfl rfl (fun v_1 w_2 hp_3 => ?_)
  obtain ⟨rfl, rfl⟩ := hp_3
  show J G X mX7_at _ _ _ 6 _ [.int (-3 : Int32)]
  refine J.istore_n [1, 2, 3, 0] (lv' := [(0, .ref x), (1, .int (nI k)), (2, .int nt), (3, .int (-3 : Int32))]) dX7_at_6 rfl rfl ?_
  refine J.iload_n 3 dX7_at_7 rfl ?_
  refine J.if_ne dX7_at_8 (fun _ => ?_) (fun z => absurd z (by decide))
  refine J.iload_n 3 dX7_at_25 rfl ?_
  exact J.iret B dX7_at_26 rfl (⟨rfl, rfl⟩)
set_option maxHeartbeats 4000000 in
set_option maxRecDepth 100000 in
theorem i_at (l : Launch) (G : jG) (r : va_W) {x : Nat} {A : Nat → Nat} {ns nr : Nat} {to : Int64} {al wa lf : Int32} {sa : Nat → Option Nat} {la : Nat} {kd wc : Int32} {k s : Nat} (hk : k < ns) (hns : ns ≤ 12) (hsa : sa k = some s) {L : Nat → Int32} {nt : Nat} (hn0 : nt < 60) : Mt l G yX7_at mX7_at 3 66 0 0 [.ref x, .int (nI k), .int (nI nt)] ((x, .inr (7, [.ref (A 0), .int (nI ns), .ref (A 1), .int (nI nr), .ref (A 2), .ref (A 3), .ref (A 4), .ref (A 5), .ref (A 6), .ref (A 7), .ref (A 8), .ref (A 9), .long to, .int al, .int wa, .int lf, .ref (A 10)])) :: (A 0, .inl (G.2.1.2.2.1, 12, .inr (.inr (.inr (.inr sa))))) :: (s, .inr (6, [.int kd, .ref la, .int (1 : Int32), .int wc])) :: (la, .inl (G.2.1.1, 60, .inl L)) :: r) (fun v w => v = some (.int (L nt)) ∧ w = (x, .inr (7, [.ref (A 0), .int (nI ns), .ref (A 1), .int (nI nr), .ref (A 2), .ref (A 3), .ref (A 4), .ref (A 5), .ref (A 6), .ref (A 7), .ref (A 8), .ref (A 9), .long to, .int al, .int wa, .int lf, .ref (A 10)])) :: (A 0, .inl (G.2.1.2.2.1, 12, .inr (.inr (.inr (.inr sa))))) :: (s, .inr (6, [.int kd, .ref la, .int (1 : Int32), .int wc])) :: (la, .inl (G.2.1.1, 60, .inl L)) :: r) := by
  refine Mt.of (by decide +kernel) rfl rfl (fun X B => ?_)
  show J G X mX7_at ((x, .inr (7, [.ref (A 0), .int (nI ns), .ref (A 1), .int (nI nr), .ref (A 2), .ref (A 3), .ref (A 4), .ref (A 5), .ref (A 6), .ref (A 7), .ref (A 8), .ref (A 9), .long to, .int al, .int wa, .int lf, .ref (A 10)])) :: (A 0, .inl (G.2.1.2.2.1, 12, .inr (.inr (.inr (.inr sa))))) :: (s, .inr (6, [.int kd, .ref la, .int (1 : Int32), .int wc])) :: (la, .inl (G.2.1.1, 60, .inl L)) :: r) 0 0 0 [(0, .ref x), (1, .int (nI k)), (2, .int (nI nt))] []
  have hnt : inR (nI nt) 0 59 = true := by rw [nI_inR (by omega)]; exact decide_eq_true ⟨by omega, by omega⟩
  refine J.aload_n 0 dX7_at_0 rfl ?_
  refine J.iload_n 1 dX7_at_1 rfl ?_
  refine J.iload_n 2 dX7_at_2 rfl ?_
  refine J.callV 0 (st := []) B (c_X7_lookAtNight l G _ hk hns hsa hnt) ml_X7_108 mf_yX7_lookAtNight mi_yX7_lookAtNight rfl dX7_at_3 rfl rfl rfl rfl (fun v_1 w_2 hp_3 => ?_)
  obtain ⟨rfl, rfl⟩ := hp_3
  show J G X mX7_at _ _ _ 6 _ [.int (0 : Int32)]
  refine J.istore_n [1, 2, 3, 0] (lv' := [(0, .ref x), (1, .int (nI k)), (2, .int (nI nt)), (3, .int (0 : Int32))]) dX7_at_6 rfl rfl ?_
  refine J.iload_n 3 dX7_at_7 rfl ?_
  refine J.if_ne dX7_at_8 (fun z => absurd z (by decide)) (fun _ => ?_)
  refine J.aload_n 0 dX7_at_11 rfl ?_
  refine J.get 0 fl_X7_11 dX7_at_12 rfl rfl ?_
  refine J.iload_n 1 dX7_at_15 rfl ?_
  refine J.aald 1 2 (k) dX7_at_16 rfl rfl (rfl) (by omega) (by decide) (hsa) ?_
  refine J.get 2 fl_X7_112 dX7_at_17 rfl rfl ?_
  refine J.iload_n 2 dX7_at_20 rfl ?_
  refine J.iald 3 (nt) dX7_at_21 rfl (rfl) (by omega) (by decide) ?_
  refine J.goto dX7_at_22 ?_
  exact J.iret B dX7_at_26 rfl (⟨rfl, rfl⟩)
set_option maxHeartbeats 4000000 in
set_option maxRecDepth 100000 in
theorem i_light_bad (l : Launch) (G : jG) (r : va_W) {x : Nat} {A : Nat → Nat} {ns nr : Nat} {to : Int64} {al wa lf : Int32} {sa : Nat → Option Nat} {num : Int32} (hns : ns ≤ 12) (hnum : inR num 0 ((ns : Int) - 1) = false) {nt : Int32} : Mt l G yX7_light mX7_light 3 66 0 0 [.ref x, .int num, .int nt] ((x, .inr (7, [.ref (A 0), .int (nI ns), .ref (A 1), .int (nI nr), .ref (A 2), .ref (A 3), .ref (A 4), .ref (A 5), .ref (A 6), .ref (A 7), .ref (A 8), .ref (A 9), .long to, .int al, .int wa, .int lf, .ref (A 10)])) :: (A 0, .inl (G.2.1.2.2.1, 12, .inr (.inr (.inr (.inr sa))))) :: r) (fun v w => v = some (.int (-1 : Int32)) ∧ w = (x, .inr (7, [.ref (A 0), .int (nI ns), .ref (A 1), .int (nI nr), .ref (A 2), .ref (A 3), .ref (A 4), .ref (A 5), .ref (A 6), .ref (A 7), .ref (A 8), .ref (A 9), .long to, .int al, .int wa, .int lf, .ref (A 10)])) :: (A 0, .inl (G.2.1.2.2.1, 12, .inr (.inr (.inr (.inr sa))))) :: r) := by
  refine Mt.of (by decide +kernel) rfl rfl (fun X B => ?_)
  show J G X mX7_light ((x, .inr (7, [.ref (A 0), .int (nI ns), .ref (A 1), .int (nI nr), .ref (A 2), .ref (A 3), .ref (A 4), .ref (A 5), .ref (A 6), .ref (A 7), .ref (A 8), .ref (A 9), .long to, .int al, .int wa, .int lf, .ref (A 10)])) :: (A 0, .inl (G.2.1.2.2.1, 12, .inr (.inr (.inr (.inr sa))))) :: r) 0 0 0 [(0, .ref x), (1, .int num), (2, .int nt)] []
  refine J.aload_n 0 dX7_light_0 rfl ?_
  refine J.iload_n 1 dX7_light_1 rfl ?_
  refine J.iload_n 2 dX7_light_2 rfl ?_
  refine J.callV 0 (st := []) B (c_X7_lookAtNight_bad l G _ hns hnum) ml_X7_108 mf_yX7_lookAtNight mi_yX7_lookAtNight rfl dX7_light_3 rfl rfl rfl rfl (fun v_1 w_2 hp_3 => ?_)
  obtain ⟨rfl, rfl⟩ := hp_3
  show J G X mX7_light _ _ _ 6 _ [.int (-1 : Int32)]
  refine J.istore_n [1, 2, 3, 0] (lv' := [(0, .ref x), (1, .int num), (2, .int nt), (3, .int (-1 : Int32))]) dX7_light_6 rfl rfl ?_
  refine J.iload_n 3 dX7_light_7 rfl ?_
  refine J.if_eq dX7_light_8 (fun z => absurd z (by decide)) (fun _ => ?_)
  refine J.iload_n 3 dX7_light_11 rfl ?_
  exact J.iret B dX7_light_12 rfl (⟨rfl, rfl⟩)
set_option maxHeartbeats 4000000 in
set_option maxRecDepth 100000 in
theorem i_light_no (l : Launch) (G : jG) (r : va_W) {x : Nat} {A : Nat → Nat} {ns nr : Nat} {to : Int64} {al wa lf : Int32} {sa : Nat → Option Nat} {la : Nat} {kd wc : Int32} {k s : Nat} (hk : k < ns) (hns : ns ≤ 12) (hsa : sa k = some s) {fc : Nat → Int32} {nt : Int32} : Mt l G yX7_light mX7_light 3 66 0 0 [.ref x, .int (nI k), .int nt] ((x, .inr (7, [.ref (A 0), .int (nI ns), .ref (A 1), .int (nI nr), .ref (A 2), .ref (A 3), .ref (A 4), .ref (A 5), .ref (A 6), .ref (A 7), .ref (A 8), .ref (A 9), .long to, .int al, .int wa, .int lf, .ref (A 10)])) :: (A 0, .inl (G.2.1.2.2.1, 12, .inr (.inr (.inr (.inr sa))))) :: (s, .inr (6, [.int kd, .ref la, .int (0 : Int32), .int wc])) :: (A 10, .inl (G.2.1.1, 6, .inl fc)) :: r) (fun v w => v = some (.int (-3 : Int32)) ∧ w = (x, .inr (7, [.ref (A 0), .int (nI ns), .ref (A 1), .int (nI nr), .ref (A 2), .ref (A 3), .ref (A 4), .ref (A 5), .ref (A 6), .ref (A 7), .ref (A 8), .ref (A 9), .long to, .int al, .int wa, .int (nI 1), .ref (A 10)])) :: (A 0, .inl (G.2.1.2.2.1, 12, .inr (.inr (.inr (.inr sa))))) :: (s, .inr (6, [.int kd, .ref la, .int (0 : Int32), .int wc])) :: (A 10, .inl (G.2.1.1, 6, .inl (upd fc 1 (fc 1 + 1)))) :: r) := by
  refine Mt.of (by decide +kernel) rfl rfl (fun X B => ?_)
  show J G X mX7_light ((x, .inr (7, [.ref (A 0), .int (nI ns), .ref (A 1), .int (nI nr), .ref (A 2), .ref (A 3), .ref (A 4), .ref (A 5), .ref (A 6), .ref (A 7), .ref (A 8), .ref (A 9), .long to, .int al, .int wa, .int lf, .ref (A 10)])) :: (A 0, .inl (G.2.1.2.2.1, 12, .inr (.inr (.inr (.inr sa))))) :: (s, .inr (6, [.int kd, .ref la, .int (0 : Int32), .int wc])) :: (A 10, .inl (G.2.1.1, 6, .inl fc)) :: r) 0 0 0 [(0, .ref x), (1, .int (nI k)), (2, .int nt)] []
  refine J.aload_n 0 dX7_light_0 rfl ?_
  refine J.iload_n 1 dX7_light_1 rfl ?_
  refine J.iload_n 2 dX7_light_2 rfl ?_
  refine J.callV 0 (st := []) B (c_X7_lookAtNight_no l G _ hk hns hsa) ml_X7_108 mf_yX7_lookAtNight mi_yX7_lookAtNight rfl dX7_light_3 rfl rfl rfl rfl (fun v_1 w_2 hp_3 => ?_)
  obtain ⟨rfl, rfl⟩ := hp_3
  show J G X mX7_light _ _ _ 6 _ [.int (-3 : Int32)]
  refine J.istore_n [1, 2, 3, 0] (lv' := [(0, .ref x), (1, .int (nI k)), (2, .int nt), (3, .int (-3 : Int32))]) dX7_light_6 rfl rfl ?_
  refine J.iload_n 3 dX7_light_7 rfl ?_
  refine J.if_eq dX7_light_8 (fun z => absurd z (by decide)) (fun _ => ?_)
  refine J.iload_n 3 dX7_light_11 rfl ?_
  exact J.iret B dX7_light_12 rfl (⟨rfl, rfl⟩)
set_option maxHeartbeats 4000000 in
set_option maxRecDepth 100000 in
theorem i_light_by (l : Launch) (G : jG) (r : va_W) {x : Nat} {A : Nat → Nat} {ns nr : Nat} {to : Int64} {al wa lf : Int32} {sa : Nat → Option Nat} {la : Nat} {kd wc : Int32} {k s : Nat} (hk : k < ns) (hns : ns ≤ 12) (hsa : sa k = some s) {fc : Nat → Int32} {nt : Int32} (hnt : inR nt 0 59 = false) : Mt l G yX7_light mX7_light 3 66 0 0 [.ref x, .int (nI k), .int nt] ((x, .inr (7, [.ref (A 0), .int (nI ns), .ref (A 1), .int (nI nr), .ref (A 2), .ref (A 3), .ref (A 4), .ref (A 5), .ref (A 6), .ref (A 7), .ref (A 8), .ref (A 9), .long to, .int al, .int wa, .int lf, .ref (A 10)])) :: (A 0, .inl (G.2.1.2.2.1, 12, .inr (.inr (.inr (.inr sa))))) :: (s, .inr (6, [.int kd, .ref la, .int (1 : Int32), .int wc])) :: (A 10, .inl (G.2.1.1, 6, .inl fc)) :: r) (fun v w => v = some (.int (-3 : Int32)) ∧ w = (x, .inr (7, [.ref (A 0), .int (nI ns), .ref (A 1), .int (nI nr), .ref (A 2), .ref (A 3), .ref (A 4), .ref (A 5), .ref (A 6), .ref (A 7), .ref (A 8), .ref (A 9), .long to, .int al, .int wa, .int (nI 2), .ref (A 10)])) :: (A 0, .inl (G.2.1.2.2.1, 12, .inr (.inr (.inr (.inr sa))))) :: (s, .inr (6, [.int kd, .ref la, .int (1 : Int32), .int wc])) :: (A 10, .inl (G.2.1.1, 6, .inl (upd fc 2 (fc 2 + 1)))) :: r) := by
  refine Mt.of (by decide +kernel) rfl rfl (fun X B => ?_)
  show J G X mX7_light ((x, .inr (7, [.ref (A 0), .int (nI ns), .ref (A 1), .int (nI nr), .ref (A 2), .ref (A 3), .ref (A 4), .ref (A 5), .ref (A 6), .ref (A 7), .ref (A 8), .ref (A 9), .long to, .int al, .int wa, .int lf, .ref (A 10)])) :: (A 0, .inl (G.2.1.2.2.1, 12, .inr (.inr (.inr (.inr sa))))) :: (s, .inr (6, [.int kd, .ref la, .int (1 : Int32), .int wc])) :: (A 10, .inl (G.2.1.1, 6, .inl fc)) :: r) 0 0 0 [(0, .ref x), (1, .int (nI k)), (2, .int nt)] []
  refine J.aload_n 0 dX7_light_0 rfl ?_
  refine J.iload_n 1 dX7_light_1 rfl ?_
  refine J.iload_n 2 dX7_light_2 rfl ?_
  refine J.callV 0 (st := []) B (c_X7_lookAtNight_by l G _ hk hns hsa hnt) ml_X7_108 mf_yX7_lookAtNight mi_yX7_lookAtNight rfl dX7_light_3 rfl rfl rfl rfl (fun v_1 w_2 hp_3 => ?_)
  obtain ⟨rfl, rfl⟩ := hp_3
  show J G X mX7_light _ _ _ 6 _ [.int (-3 : Int32)]
  refine J.istore_n [1, 2, 3, 0] (lv' := [(0, .ref x), (1, .int (nI k)), (2, .int nt), (3, .int (-3 : Int32))]) dX7_light_6 rfl rfl ?_
  refine J.iload_n 3 dX7_light_7 rfl ?_
  refine J.if_eq dX7_light_8 (fun z => absurd z (by decide)) (fun _ => ?_)
  refine J.iload_n 3 dX7_light_11 rfl ?_
  exact J.iret B dX7_light_12 rfl (⟨rfl, rfl⟩)
set_option maxHeartbeats 4000000 in
set_option maxRecDepth 100000 in
theorem i_light_none (l : Launch) (G : jG) (r : va_W) {x : Nat} {A : Nat → Nat} {ns nr : Nat} {to : Int64} {al wa lf : Int32} {sa : Nat → Option Nat} {la : Nat} {kd wc : Int32} {k s : Nat} (hk : k < ns) (hns : ns ≤ 12) (hsa : sa k = some s) {L : Nat → Int32} {nt : Nat} (hn0 : nt < 60) (hl0 : L nt = -9) : Mt l G yX7_light mX7_light 3 66 0 0 [.ref x, .int (nI k), .int (nI nt)] ((x, .inr (7, [.ref (A 0), .int (nI ns), .ref (A 1), .int (nI nr), .ref (A 2), .ref (A 3), .ref (A 4), .ref (A 5), .ref (A 6), .ref (A 7), .ref (A 8), .ref (A 9), .long to, .int al, .int wa, .int lf, .ref (A 10)])) :: (A 0, .inl (G.2.1.2.2.1, 12, .inr (.inr (.inr (.inr sa))))) :: (s, .inr (6, [.int kd, .ref la, .int (1 : Int32), .int wc])) :: (la, .inl (G.2.1.1, 60, .inl L)) :: r) (fun v w => v = some (.int (-9 : Int32)) ∧ w = (x, .inr (7, [.ref (A 0), .int (nI ns), .ref (A 1), .int (nI nr), .ref (A 2), .ref (A 3), .ref (A 4), .ref (A 5), .ref (A 6), .ref (A 7), .ref (A 8), .ref (A 9), .long to, .int al, .int wa, .int lf, .ref (A 10)])) :: (A 0, .inl (G.2.1.2.2.1, 12, .inr (.inr (.inr (.inr sa))))) :: (s, .inr (6, [.int kd, .ref la, .int (1 : Int32), .int wc])) :: (la, .inl (G.2.1.1, 60, .inl L)) :: r) := by
  refine Mt.of (by decide +kernel) rfl rfl (fun X B => ?_)
  show J G X mX7_light ((x, .inr (7, [.ref (A 0), .int (nI ns), .ref (A 1), .int (nI nr), .ref (A 2), .ref (A 3), .ref (A 4), .ref (A 5), .ref (A 6), .ref (A 7), .ref (A 8), .ref (A 9), .long to, .int al, .int wa, .int lf, .ref (A 10)])) :: (A 0, .inl (G.2.1.2.2.1, 12, .inr (.inr (.inr (.inr sa))))) :: (s, .inr (6, [.int kd, .ref la, .int (1 : Int32), .int wc])) :: (la, .inl (G.2.1.1, 60, .inl L)) :: r) 0 0 0 [(0, .ref x), (1, .int (nI k)), (2, .int (nI nt))] []
  have hnt : inR (nI nt) 0 59 = true := by rw [nI_inR (by omega)]; exact decide_eq_true ⟨by omega, by omega⟩
  refine J.aload_n 0 dX7_light_0 rfl ?_
  refine J.iload_n 1 dX7_light_1 rfl ?_
  refine J.iload_n 2 dX7_light_2 rfl ?_
  refine J.callV 0 (st := []) B (c_X7_lookAtNight l G _ hk hns hsa hnt) ml_X7_108 mf_yX7_lookAtNight mi_yX7_lookAtNight rfl dX7_light_3 rfl rfl rfl rfl (fun v_1 w_2 hp_3 => ?_)
  obtain ⟨rfl, rfl⟩ := hp_3
  show J G X mX7_light _ _ _ 6 _ [.int (0 : Int32)]
  refine J.istore_n [1, 2, 3, 0] (lv' := [(0, .ref x), (1, .int (nI k)), (2, .int (nI nt)), (3, .int (0 : Int32))]) dX7_light_6 rfl rfl ?_
  refine J.iload_n 3 dX7_light_7 rfl ?_
  refine J.if_eq dX7_light_8 (fun _ => ?_) (fun z => absurd z (by decide))
  refine J.aload_n 0 dX7_light_13 rfl ?_
  refine J.get 0 fl_X7_11 dX7_light_14 rfl rfl ?_
  refine J.iload_n 1 dX7_light_17 rfl ?_
  refine J.aald 1 2 (k) dX7_light_18 rfl rfl (rfl) (by omega) (by decide) (hsa) ?_
  refine J.get 2 fl_X7_112 dX7_light_19 rfl rfl ?_
  refine J.iload_n 2 dX7_light_22 rfl ?_
  refine J.iald 3 (nt) dX7_light_23 rfl (rfl) (by omega) (by decide) ?_
  refine J.istore [1, 2, 3, 4, 0] (lv' := [(0, .ref x), (1, .int (nI k)), (2, .int (nI nt)), (3, .int (0 : Int32)), (4, .int (L nt))]) dX7_light_24 rfl rfl ?_
  refine J.iload 4 dX7_light_26 rfl ?_
  refine J.bipush (-9 : Int32) dX7_light_28 rfl ?_
  refine J.icmp_ne dX7_light_30 (fun z => absurd (hl0) z) (fun h9 => ?_)
  refine J.bipush (-9 : Int32) dX7_light_33 rfl ?_
  refine J.goto dX7_light_35 ?_
  exact J.iret B dX7_light_52 rfl (⟨rfl, rfl⟩)
set_option maxHeartbeats 4000000 in
set_option maxRecDepth 100000 in
theorem i_light (l : Launch) (G : jG) (r : va_W) {x : Nat} {A : Nat → Nat} {ns nr : Nat} {to : Int64} {al wa lf : Int32} {sa : Nat → Option Nat} {la : Nat} {kd wc : Int32} {k s : Nat} (hk : k < ns) (hns : ns ≤ 12) (hsa : sa k = some s) {L : Nat → Int32} {F : Nat → Int32} {nt : Nat} (hn0 : nt < 60) (hl0 : ¬ L nt = -9) : Mt l G yX7_light mX7_light 3 66 0 0 [.ref x, .int (nI k), .int (nI nt)] ((x, .inr (7, [.ref (A 0), .int (nI ns), .ref (A 1), .int (nI nr), .ref (A 2), .ref (A 3), .ref (A 4), .ref (A 5), .ref (A 6), .ref (A 7), .ref (A 8), .ref (A 9), .long to, .int al, .int wa, .int lf, .ref (A 10)])) :: (A 0, .inl (G.2.1.2.2.1, 12, .inr (.inr (.inr (.inr sa))))) :: (s, .inr (6, [.int kd, .ref la, .int (1 : Int32), .int wc])) :: (la, .inl (G.2.1.1, 60, .inl L)) :: (A 2, .inl (G.2.1.1, 60, .inl F)) :: r) (fun v w => v = some (.int (1 : Int32)) ∧ w = (x, .inr (7, [.ref (A 0), .int (nI ns), .ref (A 1), .int (nI nr), .ref (A 2), .ref (A 3), .ref (A 4), .ref (A 5), .ref (A 6), .ref (A 7), .ref (A 8), .ref (A 9), .long ((ltF L F nt).toInt64), .int al, .int wa, .int lf, .ref (A 10)])) :: (A 0, .inl (G.2.1.2.2.1, 12, .inr (.inr (.inr (.inr sa))))) :: (s, .inr (6, [.int kd, .ref la, .int (1 : Int32), .int wc])) :: (la, .inl (G.2.1.1, 60, .inl L)) :: (A 2, .inl (G.2.1.1, 60, .inl F)) :: r) := by
  refine Mt.of (by decide +kernel) rfl rfl (fun X B => ?_)
  show J G X mX7_light ((x, .inr (7, [.ref (A 0), .int (nI ns), .ref (A 1), .int (nI nr), .ref (A 2), .ref (A 3), .ref (A 4), .ref (A 5), .ref (A 6), .ref (A 7), .ref (A 8), .ref (A 9), .long to, .int al, .int wa, .int lf, .ref (A 10)])) :: (A 0, .inl (G.2.1.2.2.1, 12, .inr (.inr (.inr (.inr sa))))) :: (s, .inr (6, [.int kd, .ref la, .int (1 : Int32), .int wc])) :: (la, .inl (G.2.1.1, 60, .inl L)) :: (A 2, .inl (G.2.1.1, 60, .inl F)) :: r) 0 0 0 [(0, .ref x), (1, .int (nI k)), (2, .int (nI nt))] []
  have hnt : inR (nI nt) 0 59 = true := by rw [nI_inR (by omega)]; exact decide_eq_true ⟨by omega, by omega⟩
  refine J.aload_n 0 dX7_light_0 rfl ?_
  refine J.iload_n 1 dX7_light_1 rfl ?_
  refine J.iload_n 2 dX7_light_2 rfl ?_
  refine J.callV 0 (st := []) B (c_X7_lookAtNight l G _ hk hns hsa hnt) ml_X7_108 mf_yX7_lookAtNight mi_yX7_lookAtNight rfl dX7_light_3 rfl rfl rfl rfl (fun v_1 w_2 hp_3 => ?_)
  obtain ⟨rfl, rfl⟩ := hp_3
  show J G X mX7_light _ _ _ 6 _ [.int (0 : Int32)]
  refine J.istore_n [1, 2, 3, 0] (lv' := [(0, .ref x), (1, .int (nI k)), (2, .int (nI nt)), (3, .int (0 : Int32))]) dX7_light_6 rfl rfl ?_
  refine J.iload_n 3 dX7_light_7 rfl ?_
  refine J.if_eq dX7_light_8 (fun _ => ?_) (fun z => absurd z (by decide))
  refine J.aload_n 0 dX7_light_13 rfl ?_
  refine J.get 0 fl_X7_11 dX7_light_14 rfl rfl ?_
  refine J.iload_n 1 dX7_light_17 rfl ?_
  refine J.aald 1 2 (k) dX7_light_18 rfl rfl (rfl) (by omega) (by decide) (hsa) ?_
  refine J.get 2 fl_X7_112 dX7_light_19 rfl rfl ?_
  refine J.iload_n 2 dX7_light_22 rfl ?_
  refine J.iald 3 (nt) dX7_light_23 rfl (rfl) (by omega) (by decide) ?_
  refine J.istore [1, 2, 3, 4, 0] (lv' := [(0, .ref x), (1, .int (nI k)), (2, .int (nI nt)), (3, .int (0 : Int32)), (4, .int (L nt))]) dX7_light_24 rfl rfl ?_
  refine J.iload 4 dX7_light_26 rfl ?_
  refine J.bipush (-9 : Int32) dX7_light_28 rfl ?_
  refine J.icmp_ne dX7_light_30 (fun h9 => ?_) (fun z => absurd z (hl0))
  refine J.aload_n 0 dX7_light_38 rfl ?_
  refine J.iload 4 dX7_light_39 rfl ?_
  refine J.aload_n 0 dX7_light_41 rfl ?_
  refine J.get 0 fl_X7_21 dX7_light_42 rfl rfl ?_
  refine J.iload_n 2 dX7_light_45 rfl ?_
  refine J.iald 4 (nt) dX7_light_46 rfl (rfl) (by omega) (by decide) ?_
  refine J.isub dX7_light_47 ?_
  refine J.i2l dX7_light_48 ?_
  refine J.callV 0 (st := []) B (c_X7_tell l G _ (t0 := (ltF L F nt).toInt64)) ml_X7_115 mf_yX7_tell mi_yX7_tell rfl dX7_light_49 rfl rfl rfl rfl (fun v_4 w_5 hp_6 => ?_)
  obtain ⟨rfl, rfl⟩ := hp_6
  show J G X mX7_light _ _ _ 52 _ [.int (1 : Int32)]
  exact J.iret B dX7_light_52 rfl (⟨rfl, rfl⟩)
set_option maxHeartbeats 4000000 in
set_option maxRecDepth 100000 in
theorem i_foot_bad (l : Launch) (G : jG) (r : va_W) {x : Nat} {A : Nat → Nat} {ns nr : Nat} {to : Int64} {al wa lf : Int32} {nt v0 : Int32} (hb : (inR nt 0 59 && inR v0 (-10000) 10000) = false) : Mt l G yX7_foot mX7_foot 1 20 0 0 [.ref x, .int nt, .int v0] ((x, .inr (7, [.ref (A 0), .int (nI ns), .ref (A 1), .int (nI nr), .ref (A 2), .ref (A 3), .ref (A 4), .ref (A 5), .ref (A 6), .ref (A 7), .ref (A 8), .ref (A 9), .long to, .int al, .int wa, .int lf, .ref (A 10)])) :: r) (fun v w => v = some (.int (-1 : Int32)) ∧ w = (x, .inr (7, [.ref (A 0), .int (nI ns), .ref (A 1), .int (nI nr), .ref (A 2), .ref (A 3), .ref (A 4), .ref (A 5), .ref (A 6), .ref (A 7), .ref (A 8), .ref (A 9), .long to, .int al, .int wa, .int lf, .ref (A 10)])) :: r) := by
  refine Mt.of (by decide +kernel) rfl rfl (fun X B => ?_)
  show J G X mX7_foot ((x, .inr (7, [.ref (A 0), .int (nI ns), .ref (A 1), .int (nI nr), .ref (A 2), .ref (A 3), .ref (A 4), .ref (A 5), .ref (A 6), .ref (A 7), .ref (A 8), .ref (A 9), .long to, .int al, .int wa, .int lf, .ref (A 10)])) :: r) 0 0 0 [(0, .ref x), (1, .int nt), (2, .int v0)] []
  refine J.iload_n 1 dX7_foot_0 rfl ?_
  refine J.callS (st := []) B (c_X7_isNight l G _ (k := nt)) ml_X7_132 mf_yX7_isNight mS_yX7_isNight dX7_foot_1 rfl rfl rfl (fun v_1 w_2 hp_3 => ?_)
  obtain ⟨rfl, rfl⟩ := hp_3
  show J G X mX7_foot _ _ _ 4 _ [.int (b01 (inR nt 0 59))]
  refine J.if_eq dX7_foot_4 (fun h9 => ?_) (fun h9 => ?_)
  · skip
    refine J.iconst (-1 : Int32) dX7_foot_21 rfl ?_
    exact J.iret B dX7_foot_22 rfl (⟨rfl, rfl⟩)
  · skip
    refine J.iload_n 2 dX7_foot_7 rfl ?_
    refine J.sipush (-10000 : Int32) dX7_foot_8 rfl ?_
    refine J.icmp_lt dX7_foot_11 (fun h8 => ?_) (fun h8 => ?_)
    · skip
      have h8 : v0.toInt < (-10000 : Int) := (fa_lt _ _).mp h8
      refine J.iconst (-1 : Int32) dX7_foot_21 rfl ?_
      exact J.iret B dX7_foot_22 rfl (⟨rfl, rfl⟩)
    · skip
      have h8 : ¬ v0.toInt < (-10000 : Int) := fun z => h8 ((fa_lt _ _).mpr z)
      refine J.iload_n 2 dX7_foot_14 rfl ?_
      refine J.sipush (10000 : Int32) dX7_foot_15 rfl ?_
      refine J.icmp_le dX7_foot_18 (fun h7 => ?_) (fun h7 => ?_)
      · skip
        have h7 : v0.toInt ≤ (10000 : Int) := (fa_le _ _).mp h7
        exact absurd (by rw [b01_1 h9, inR_t ⟨by omega, by omega⟩]; rfl) (Bool.eq_false_iff.mp hb)
      · skip
        have h7 : ¬ v0.toInt ≤ (10000 : Int) := fun z => h7 ((fa_le _ _).mpr z)
        refine J.iconst (-1 : Int32) dX7_foot_21 rfl ?_
        exact J.iret B dX7_foot_22 rfl (⟨rfl, rfl⟩)
set_option maxHeartbeats 4000000 in
set_option maxRecDepth 100000 in
theorem i_foot (l : Launch) (G : jG) (r : va_W) {x : Nat} {A : Nat → Nat} {ns nr : Nat} {to : Int64} {al wa lf : Int32} {F : Nat → Int32} {v0 : Int32} {nt : Nat} (hn0 : nt < 60) (hv : inR v0 (-10000) 10000 = true) : Mt l G yX7_foot mX7_foot 1 20 0 0 [.ref x, .int (nI nt), .int v0] ((x, .inr (7, [.ref (A 0), .int (nI ns), .ref (A 1), .int (nI nr), .ref (A 2), .ref (A 3), .ref (A 4), .ref (A 5), .ref (A 6), .ref (A 7), .ref (A 8), .ref (A 9), .long to, .int al, .int wa, .int lf, .ref (A 10)])) :: (A 2, .inl (G.2.1.1, 60, .inl F)) :: r) (fun v w => v = some (.int (1 : Int32)) ∧ w = (x, .inr (7, [.ref (A 0), .int (nI ns), .ref (A 1), .int (nI nr), .ref (A 2), .ref (A 3), .ref (A 4), .ref (A 5), .ref (A 6), .ref (A 7), .ref (A 8), .ref (A 9), .long to, .int al, .int wa, .int lf, .ref (A 10)])) :: (A 2, .inl (G.2.1.1, 60, .inl (upd F nt v0))) :: r) := by
  refine Mt.of (by decide +kernel) rfl rfl (fun X B => ?_)
  show J G X mX7_foot ((x, .inr (7, [.ref (A 0), .int (nI ns), .ref (A 1), .int (nI nr), .ref (A 2), .ref (A 3), .ref (A 4), .ref (A 5), .ref (A 6), .ref (A 7), .ref (A 8), .ref (A 9), .long to, .int al, .int wa, .int lf, .ref (A 10)])) :: (A 2, .inl (G.2.1.1, 60, .inl F)) :: r) 0 0 0 [(0, .ref x), (1, .int (nI nt)), (2, .int v0)] []
  have hnt : inR (nI nt) 0 59 = true := by rw [nI_inR (by omega)]; exact decide_eq_true ⟨by omega, by omega⟩
  have hv2 := inR_of hv
  refine J.iload_n 1 dX7_foot_0 rfl ?_
  refine J.callS (st := []) B (c_X7_isNight l G _ (k := nI nt)) ml_X7_132 mf_yX7_isNight mS_yX7_isNight dX7_foot_1 rfl rfl rfl (fun v_1 w_2 hp_3 => ?_)
  obtain ⟨rfl, rfl⟩ := hp_3
  show J G X mX7_foot _ _ _ 4 _ [.int (b01 (inR (nI nt) 0 59))]
  refine J.if_eq dX7_foot_4 (fun z => absurd z (by rw [hnt]; decide)) (fun h9 => ?_)
  refine J.iload_n 2 dX7_foot_7 rfl ?_
  refine J.sipush (-10000 : Int32) dX7_foot_8 rfl ?_
  refine J.icmp_lt dX7_foot_11 (fun h8 => ?_) (fun h8 => ?_)
  · skip
    have h8 : v0.toInt < (-10000 : Int) := (fa_lt _ _).mp h8
    omega
  · skip
    have h8 : ¬ v0.toInt < (-10000 : Int) := fun z => h8 ((fa_lt _ _).mpr z)
    refine J.iload_n 2 dX7_foot_14 rfl ?_
    refine J.sipush (10000 : Int32) dX7_foot_15 rfl ?_
    refine J.icmp_le dX7_foot_18 (fun h7 => ?_) (fun h7 => ?_)
    · skip
      have h7 : v0.toInt ≤ (10000 : Int) := (fa_le _ _).mp h7
      refine J.aload_n 0 dX7_foot_23 rfl ?_
      refine J.get 0 fl_X7_21 dX7_foot_24 rfl rfl ?_
      refine J.iload_n 1 dX7_foot_27 rfl ?_
      refine J.iload_n 2 dX7_foot_28 rfl ?_
      refine J.iast 1 (nt) dX7_foot_29 rfl (rfl) (by omega) (by decide) (ws' := (x, .inr (7, [.ref (A 0), .int (nI ns), .ref (A 1), .int (nI nr), .ref (A 2), .ref (A 3), .ref (A 4), .ref (A 5), .ref (A 6), .ref (A 7), .ref (A 8), .ref (A 9), .long to, .int al, .int wa, .int lf, .ref (A 10)])) :: (A 2, .inl (G.2.1.1, 60, .inl (upd F nt v0))) :: r) rfl ?_
      refine J.iconst (1 : Int32) dX7_foot_30 rfl ?_
      exact J.iret B dX7_foot_31 rfl (⟨rfl, rfl⟩)
    · skip
      have h7 : ¬ v0.toInt ≤ (10000 : Int) := fun z => h7 ((fa_le _ _).mpr z)
      omega
set_option maxHeartbeats 4000000 in
set_option maxRecDepth 100000 in
theorem i_footing_bad (l : Launch) (G : jG) (r : va_W) {x : Nat} {A : Nat → Nat} {ns nr : Nat} {to : Int64} {al wa lf : Int32} {nt : Int32} (hnt : inR nt 0 59 = false) : Mt l G yX7_footing mX7_footing 1 22 0 0 [.ref x, .int nt] ((x, .inr (7, [.ref (A 0), .int (nI ns), .ref (A 1), .int (nI nr), .ref (A 2), .ref (A 3), .ref (A 4), .ref (A 5), .ref (A 6), .ref (A 7), .ref (A 8), .ref (A 9), .long to, .int al, .int wa, .int lf, .ref (A 10)])) :: r) (fun v w => v = some (.int (-1 : Int32)) ∧ w = (x, .inr (7, [.ref (A 0), .int (nI ns), .ref (A 1), .int (nI nr), .ref (A 2), .ref (A 3), .ref (A 4), .ref (A 5), .ref (A 6), .ref (A 7), .ref (A 8), .ref (A 9), .long to, .int al, .int wa, .int lf, .ref (A 10)])) :: r) := by
  refine Mt.of (by decide +kernel) rfl rfl (fun X B => ?_)
  show J G X mX7_footing ((x, .inr (7, [.ref (A 0), .int (nI ns), .ref (A 1), .int (nI nr), .ref (A 2), .ref (A 3), .ref (A 4), .ref (A 5), .ref (A 6), .ref (A 7), .ref (A 8), .ref (A 9), .long to, .int al, .int wa, .int lf, .ref (A 10)])) :: r) 0 0 0 [(0, .ref x), (1, .int nt)] []
  refine J.iload_n 1 dX7_footing_0 rfl ?_
  refine J.callS (st := []) B (c_X7_isNight l G _ (k := nt)) ml_X7_132 mf_yX7_isNight mS_yX7_isNight dX7_footing_1 rfl rfl rfl (fun v_1 w_2 hp_3 => ?_)
  obtain ⟨rfl, rfl⟩ := hp_3
  show J G X mX7_footing _ _ _ 4 _ [.int (b01 (inR nt 0 59))]
  refine J.if_eq dX7_footing_4 (fun h9 => ?_) (fun z => absurd (by rw [hnt]; rfl) z)
  refine J.iconst (-1 : Int32) dX7_footing_21 rfl ?_
  exact J.iret B dX7_footing_22 rfl (⟨rfl, rfl⟩)
set_option maxHeartbeats 4000000 in
set_option maxRecDepth 100000 in
theorem i_footing (l : Launch) (G : jG) (r : va_W) {x : Nat} {A : Nat → Nat} {ns nr : Nat} {to : Int64} {al wa lf : Int32} {F : Nat → Int32} {nt : Nat} (hn0 : nt < 60) : Mt l G yX7_footing mX7_footing 1 22 0 0 [.ref x, .int (nI nt)] ((x, .inr (7, [.ref (A 0), .int (nI ns), .ref (A 1), .int (nI nr), .ref (A 2), .ref (A 3), .ref (A 4), .ref (A 5), .ref (A 6), .ref (A 7), .ref (A 8), .ref (A 9), .long to, .int al, .int wa, .int lf, .ref (A 10)])) :: (A 2, .inl (G.2.1.1, 60, .inl F)) :: r) (fun v w => v = some (.int (1 : Int32)) ∧ w = (x, .inr (7, [.ref (A 0), .int (nI ns), .ref (A 1), .int (nI nr), .ref (A 2), .ref (A 3), .ref (A 4), .ref (A 5), .ref (A 6), .ref (A 7), .ref (A 8), .ref (A 9), .long ((F nt).toInt64), .int al, .int wa, .int lf, .ref (A 10)])) :: (A 2, .inl (G.2.1.1, 60, .inl F)) :: r) := by
  refine Mt.of (by decide +kernel) rfl rfl (fun X B => ?_)
  show J G X mX7_footing ((x, .inr (7, [.ref (A 0), .int (nI ns), .ref (A 1), .int (nI nr), .ref (A 2), .ref (A 3), .ref (A 4), .ref (A 5), .ref (A 6), .ref (A 7), .ref (A 8), .ref (A 9), .long to, .int al, .int wa, .int lf, .ref (A 10)])) :: (A 2, .inl (G.2.1.1, 60, .inl F)) :: r) 0 0 0 [(0, .ref x), (1, .int (nI nt))] []
  have hnt : inR (nI nt) 0 59 = true := by rw [nI_inR (by omega)]; exact decide_eq_true ⟨by omega, by omega⟩
  refine J.iload_n 1 dX7_footing_0 rfl ?_
  refine J.callS (st := []) B (c_X7_isNight l G _ (k := nI nt)) ml_X7_132 mf_yX7_isNight mS_yX7_isNight dX7_footing_1 rfl rfl rfl (fun v_1 w_2 hp_3 => ?_)
  obtain ⟨rfl, rfl⟩ := hp_3
  show J G X mX7_footing _ _ _ 4 _ [.int (b01 (inR (nI nt) 0 59))]
  refine J.if_eq dX7_footing_4 (fun z => absurd z (by rw [hnt]; decide)) (fun h9 => ?_)
  refine J.aload_n 0 dX7_footing_7 rfl ?_
  refine J.aload_n 0 dX7_footing_8 rfl ?_
  refine J.get 0 fl_X7_21 dX7_footing_9 rfl rfl ?_
  refine J.iload_n 1 dX7_footing_12 rfl ?_
  refine J.iald 1 (nt) dX7_footing_13 rfl (rfl) (by omega) (by decide) ?_
  refine J.i2l dX7_footing_14 ?_
  refine J.callV 0 (st := []) B (c_X7_tell l G _ (t0 := (F nt).toInt64)) ml_X7_115 mf_yX7_tell mi_yX7_tell rfl dX7_footing_15 rfl rfl rfl rfl (fun v_4 w_5 hp_6 => ?_)
  obtain ⟨rfl, rfl⟩ := hp_6
  show J G X mX7_footing _ _ _ 18 _ [.int (1 : Int32)]
  refine J.goto dX7_footing_18 ?_
  exact J.iret B dX7_footing_22 rfl (⟨rfl, rfl⟩)
set_option maxHeartbeats 4000000 in
set_option maxRecDepth 100000 in
theorem i_alarms (l : Launch) (G : jG) (r : va_W) {x : Nat} {A : Nat → Nat} {ns nr : Nat} {to : Int64} {al wa lf : Int32} : Mt l G yX7_alarms mX7_alarms 0 0 0 0 [.ref x] ((x, .inr (7, [.ref (A 0), .int (nI ns), .ref (A 1), .int (nI nr), .ref (A 2), .ref (A 3), .ref (A 4), .ref (A 5), .ref (A 6), .ref (A 7), .ref (A 8), .ref (A 9), .long to, .int al, .int wa, .int lf, .ref (A 10)])) :: r) (fun v w => v = some (.int al) ∧ w = (x, .inr (7, [.ref (A 0), .int (nI ns), .ref (A 1), .int (nI nr), .ref (A 2), .ref (A 3), .ref (A 4), .ref (A 5), .ref (A 6), .ref (A 7), .ref (A 8), .ref (A 9), .long to, .int al, .int wa, .int lf, .ref (A 10)])) :: r) := by
  refine Mt.of (by decide +kernel) rfl rfl (fun X B => ?_)
  show J G X mX7_alarms ((x, .inr (7, [.ref (A 0), .int (nI ns), .ref (A 1), .int (nI nr), .ref (A 2), .ref (A 3), .ref (A 4), .ref (A 5), .ref (A 6), .ref (A 7), .ref (A 8), .ref (A 9), .long to, .int al, .int wa, .int lf, .ref (A 10)])) :: r) 0 0 0 [(0, .ref x)] []
  refine J.aload_n 0 dX7_alarms_0 rfl ?_
  refine J.get 0 fl_X7_234 dX7_alarms_1 rfl rfl ?_
  exact J.iret B dX7_alarms_4 rfl (⟨rfl, rfl⟩)
set_option maxHeartbeats 4000000 in
set_option maxRecDepth 100000 in
theorem i_asked (l : Launch) (G : jG) (r : va_W) {x : Nat} {A : Nat → Nat} {ns nr : Nat} {to : Int64} {al wa lf : Int32} : Mt l G yX7_asked mX7_asked 0 0 0 0 [.ref x] ((x, .inr (7, [.ref (A 0), .int (nI ns), .ref (A 1), .int (nI nr), .ref (A 2), .ref (A 3), .ref (A 4), .ref (A 5), .ref (A 6), .ref (A 7), .ref (A 8), .ref (A 9), .long to, .int al, .int wa, .int lf, .ref (A 10)])) :: r) (fun v w => v = some (.long to) ∧ w = (x, .inr (7, [.ref (A 0), .int (nI ns), .ref (A 1), .int (nI nr), .ref (A 2), .ref (A 3), .ref (A 4), .ref (A 5), .ref (A 6), .ref (A 7), .ref (A 8), .ref (A 9), .long to, .int al, .int wa, .int lf, .ref (A 10)])) :: r) := by
  refine Mt.of (by decide +kernel) rfl rfl (fun X B => ?_)
  show J G X mX7_asked ((x, .inr (7, [.ref (A 0), .int (nI ns), .ref (A 1), .int (nI nr), .ref (A 2), .ref (A 3), .ref (A 4), .ref (A 5), .ref (A 6), .ref (A 7), .ref (A 8), .ref (A 9), .long to, .int al, .int wa, .int lf, .ref (A 10)])) :: r) 0 0 0 [(0, .ref x)] []
  refine J.aload_n 0 dX7_asked_0 rfl ?_
  refine J.get 0 fl_X7_244 dX7_asked_1 rfl rfl ?_
  exact J.lret B dX7_asked_4 rfl (⟨rfl, rfl⟩)
set_option maxHeartbeats 4000000 in
set_option maxRecDepth 100000 in
theorem i_finding (l : Launch) (G : jG) (r : va_W) {x : Nat} {A : Nat → Nat} {ns nr : Nat} {to : Int64} {al wa lf : Int32} : Mt l G yX7_finding mX7_finding 0 0 0 0 [.ref x] ((x, .inr (7, [.ref (A 0), .int (nI ns), .ref (A 1), .int (nI nr), .ref (A 2), .ref (A 3), .ref (A 4), .ref (A 5), .ref (A 6), .ref (A 7), .ref (A 8), .ref (A 9), .long to, .int al, .int wa, .int lf, .ref (A 10)])) :: r) (fun v w => v = some (.int lf) ∧ w = (x, .inr (7, [.ref (A 0), .int (nI ns), .ref (A 1), .int (nI nr), .ref (A 2), .ref (A 3), .ref (A 4), .ref (A 5), .ref (A 6), .ref (A 7), .ref (A 8), .ref (A 9), .long to, .int al, .int wa, .int lf, .ref (A 10)])) :: r) := by
  refine Mt.of (by decide +kernel) rfl rfl (fun X B => ?_)
  show J G X mX7_finding ((x, .inr (7, [.ref (A 0), .int (nI ns), .ref (A 1), .int (nI nr), .ref (A 2), .ref (A 3), .ref (A 4), .ref (A 5), .ref (A 6), .ref (A 7), .ref (A 8), .ref (A 9), .long to, .int al, .int wa, .int lf, .ref (A 10)])) :: r) 0 0 0 [(0, .ref x)] []
  refine J.aload_n 0 dX7_finding_0 rfl ?_
  refine J.get 0 fl_X7_254 dX7_finding_1 rfl rfl ?_
  exact J.iret B dX7_finding_4 rfl (⟨rfl, rfl⟩)
set_option maxHeartbeats 4000000 in
set_option maxRecDepth 100000 in
theorem i_findings_bad (l : Launch) (G : jG) (r : va_W) {x : Nat} {A : Nat → Nat} {ns nr : Nat} {to : Int64} {al wa lf : Int32} {f : Int32} (hf : inR f 1 5 = false) : Mt l G yX7_findings mX7_findings 0 0 0 0 [.ref x, .int f] ((x, .inr (7, [.ref (A 0), .int (nI ns), .ref (A 1), .int (nI nr), .ref (A 2), .ref (A 3), .ref (A 4), .ref (A 5), .ref (A 6), .ref (A 7), .ref (A 8), .ref (A 9), .long to, .int al, .int wa, .int lf, .ref (A 10)])) :: r) (fun v w => v = some (.int (-1 : Int32)) ∧ w = (x, .inr (7, [.ref (A 0), .int (nI ns), .ref (A 1), .int (nI nr), .ref (A 2), .ref (A 3), .ref (A 4), .ref (A 5), .ref (A 6), .ref (A 7), .ref (A 8), .ref (A 9), .long to, .int al, .int wa, .int lf, .ref (A 10)])) :: r) := by
  refine Mt.of (by decide +kernel) rfl rfl (fun X B => ?_)
  show J G X mX7_findings ((x, .inr (7, [.ref (A 0), .int (nI ns), .ref (A 1), .int (nI nr), .ref (A 2), .ref (A 3), .ref (A 4), .ref (A 5), .ref (A 6), .ref (A 7), .ref (A 8), .ref (A 9), .long to, .int al, .int wa, .int lf, .ref (A 10)])) :: r) 0 0 0 [(0, .ref x), (1, .int f)] []
  have hf2 := inR_no hf
  refine J.iload_n 1 dX7_findings_0 rfl ?_
  refine J.iconst (1 : Int32) dX7_findings_1 rfl ?_
  refine J.icmp_lt dX7_findings_2 (fun h9 => ?_) (fun h9 => ?_)
  · skip
    have h9 : f.toInt < (1 : Int) := (fa_lt _ _).mp h9
    refine J.iconst (-1 : Int32) dX7_findings_10 rfl ?_
    refine J.goto dX7_findings_11 ?_
    exact J.iret B dX7_findings_20 rfl (⟨rfl, rfl⟩)
  · skip
    have h9 : ¬ f.toInt < (1 : Int) := fun z => h9 ((fa_lt _ _).mpr z)
    refine J.iload_n 1 dX7_findings_5 rfl ?_
    refine J.iconst (5 : Int32) dX7_findings_6 rfl ?_
    refine J.icmp_le dX7_findings_7 (fun h8 => ?_) (fun h8 => ?_)
    · skip
      have h8 : f.toInt ≤ (5 : Int) := (fa_le _ _).mp h8
      omega
    · skip
      have h8 : ¬ f.toInt ≤ (5 : Int) := fun z => h8 ((fa_le _ _).mpr z)
      refine J.iconst (-1 : Int32) dX7_findings_10 rfl ?_
      refine J.goto dX7_findings_11 ?_
      exact J.iret B dX7_findings_20 rfl (⟨rfl, rfl⟩)
set_option maxHeartbeats 4000000 in
set_option maxRecDepth 100000 in
theorem i_findings (l : Launch) (G : jG) (r : va_W) {x : Nat} {A : Nat → Nat} {ns nr : Nat} {to : Int64} {al wa lf : Int32} {fc : Nat → Int32} {f : Nat} (h1 : 1 ≤ f) (h2 : f ≤ 5) : Mt l G yX7_findings mX7_findings 0 0 0 0 [.ref x, .int (nI f)] ((x, .inr (7, [.ref (A 0), .int (nI ns), .ref (A 1), .int (nI nr), .ref (A 2), .ref (A 3), .ref (A 4), .ref (A 5), .ref (A 6), .ref (A 7), .ref (A 8), .ref (A 9), .long to, .int al, .int wa, .int lf, .ref (A 10)])) :: (A 10, .inl (G.2.1.1, 6, .inl fc)) :: r) (fun v w => v = some (.int (fc f)) ∧ w = (x, .inr (7, [.ref (A 0), .int (nI ns), .ref (A 1), .int (nI nr), .ref (A 2), .ref (A 3), .ref (A 4), .ref (A 5), .ref (A 6), .ref (A 7), .ref (A 8), .ref (A 9), .long to, .int al, .int wa, .int lf, .ref (A 10)])) :: (A 10, .inl (G.2.1.1, 6, .inl fc)) :: r) := by
  refine Mt.of (by decide +kernel) rfl rfl (fun X B => ?_)
  show J G X mX7_findings ((x, .inr (7, [.ref (A 0), .int (nI ns), .ref (A 1), .int (nI nr), .ref (A 2), .ref (A 3), .ref (A 4), .ref (A 5), .ref (A 6), .ref (A 7), .ref (A 8), .ref (A 9), .long to, .int al, .int wa, .int lf, .ref (A 10)])) :: (A 10, .inl (G.2.1.1, 6, .inl fc)) :: r) 0 0 0 [(0, .ref x), (1, .int (nI f))] []
  refine J.iload_n 1 dX7_findings_0 rfl ?_
  refine J.iconst (1 : Int32) dX7_findings_1 rfl ?_
  refine J.icmp_lt dX7_findings_2 (fun h9 => ?_) (fun h9 => ?_)
  · skip
    have h9 : f < 1 := (nI_ltI (a := f) (b := 1) (by omega) (by omega)).mp h9
    omega
  · skip
    have h9 : ¬ f < 1 := fun z => h9 ((nI_ltI (a := f) (b := 1) (by omega) (by omega)).mpr z)
    refine J.iload_n 1 dX7_findings_5 rfl ?_
    refine J.iconst (5 : Int32) dX7_findings_6 rfl ?_
    refine J.icmp_le dX7_findings_7 (fun h8 => ?_) (fun h8 => ?_)
    · skip
      have h8 : f ≤ 5 := (nI_leI (a := f) (b := 5) (by omega) (by omega)).mp h8
      refine J.aload_n 0 dX7_findings_14 rfl ?_
      refine J.get 0 fl_X7_66 dX7_findings_15 rfl rfl ?_
      refine J.iload_n 1 dX7_findings_18 rfl ?_
      refine J.iald 1 (f) dX7_findings_19 rfl (rfl) (by omega) (by decide) ?_
      exact J.iret B dX7_findings_20 rfl (⟨rfl, rfl⟩)
    · skip
      have h8 : ¬ f ≤ 5 := fun z => h8 ((nI_leI (a := f) (b := 5) (by omega) (by omega)).mpr z)
      omega
set_option maxHeartbeats 4000000 in
set_option maxRecDepth 100000 in
theorem i_phase_bad (l : Launch) (G : jG) (r : va_W) {x : Nat} {A : Nat → Nat} {ns nr : Nat} {to : Int64} {al wa lf : Int32} {nt p q : Int32} (hb : (inR nt 0 59 && (inR p 1 600 && inR q 1 60)) = false) : Mt l G yX7_phase mX7_phase 1 22 0 0 [.ref x, .int nt, .int p, .int q] ((x, .inr (7, [.ref (A 0), .int (nI ns), .ref (A 1), .int (nI nr), .ref (A 2), .ref (A 3), .ref (A 4), .ref (A 5), .ref (A 6), .ref (A 7), .ref (A 8), .ref (A 9), .long to, .int al, .int wa, .int lf, .ref (A 10)])) :: r) (fun v w => v = some (.int (-1 : Int32)) ∧ w = (x, .inr (7, [.ref (A 0), .int (nI ns), .ref (A 1), .int (nI nr), .ref (A 2), .ref (A 3), .ref (A 4), .ref (A 5), .ref (A 6), .ref (A 7), .ref (A 8), .ref (A 9), .long to, .int al, .int wa, .int lf, .ref (A 10)])) :: r) := by
  refine Mt.of (by decide +kernel) rfl rfl (fun X B => ?_)
  show J G X mX7_phase ((x, .inr (7, [.ref (A 0), .int (nI ns), .ref (A 1), .int (nI nr), .ref (A 2), .ref (A 3), .ref (A 4), .ref (A 5), .ref (A 6), .ref (A 7), .ref (A 8), .ref (A 9), .long to, .int al, .int wa, .int lf, .ref (A 10)])) :: r) 0 0 0 [(0, .ref x), (1, .int nt), (2, .int p), (3, .int q)] []
  refine J.iload_n 1 dX7_phase_0 rfl ?_
  refine J.callS (st := []) B (c_X7_isNight l G _ (k := nt)) ml_X7_132 mf_yX7_isNight mS_yX7_isNight dX7_phase_1 rfl rfl rfl (fun v_1 w_2 hp_3 => ?_)
  obtain ⟨rfl, rfl⟩ := hp_3
  show J G X mX7_phase _ _ _ 4 _ [.int (b01 (inR nt 0 59))]
  refine J.if_eq dX7_phase_4 (fun h9 => ?_) (fun h9 => ?_)
  · skip
    refine J.iconst (-1 : Int32) dX7_phase_24 rfl ?_
    exact J.iret B dX7_phase_25 rfl (⟨rfl, rfl⟩)
  · skip
    refine J.iload_n 2 dX7_phase_7 rfl ?_
    refine J.iload_n 3 dX7_phase_8 rfl ?_
    refine J.callS (st := []) B (c_X7_isPeriod l G _ (p := p) (q := q)) ml_X7_153 mf_yX7_isPeriod mS_yX7_isPeriod dX7_phase_9 rfl rfl rfl (fun v_4 w_5 hp_6 => ?_)
    obtain ⟨rfl, rfl⟩ := hp_6
    show J G X mX7_phase _ _ _ 12 _ [.int (b01 (inR p 1 600 && inR q 1 60))]
    refine J.if_eq dX7_phase_12 (fun h8 => ?_) (fun h8 => ?_)
    · skip
      refine J.iconst (-1 : Int32) dX7_phase_24 rfl ?_
      exact J.iret B dX7_phase_25 rfl (⟨rfl, rfl⟩)
    · skip
      exact absurd (by rw [b01_1 h9, b01_1 h8]; rfl) (Bool.eq_false_iff.mp hb)
set_option maxHeartbeats 4000000 in
set_option maxRecDepth 100000 in
theorem i_phase (l : Launch) (G : jG) (r : va_W) {x : Nat} {A : Nat → Nat} {ns nr : Nat} {to : Int64} {al wa lf : Int32} {nt : Nat} (hn0 : nt < 60) {p q : Nat} (hp1 : 1 ≤ p) (hp2 : p ≤ 600) (hq1 : 1 ≤ q) (hq2 : q ≤ 60) : Mt l G yX7_phase mX7_phase 1 22 0 0 [.ref x, .int (nI nt), .int (nI p), .int (nI q)] ((x, .inr (7, [.ref (A 0), .int (nI ns), .ref (A 1), .int (nI nr), .ref (A 2), .ref (A 3), .ref (A 4), .ref (A 5), .ref (A 6), .ref (A 7), .ref (A 8), .ref (A 9), .long to, .int al, .int wa, .int lf, .ref (A 10)])) :: r) (fun v w => v = some (.int (nI (nt * q % p))) ∧ w = (x, .inr (7, [.ref (A 0), .int (nI ns), .ref (A 1), .int (nI nr), .ref (A 2), .ref (A 3), .ref (A 4), .ref (A 5), .ref (A 6), .ref (A 7), .ref (A 8), .ref (A 9), .long to, .int al, .int wa, .int lf, .ref (A 10)])) :: r) := by
  refine Mt.of (by decide +kernel) rfl rfl (fun X B => ?_)
  show J G X mX7_phase ((x, .inr (7, [.ref (A 0), .int (nI ns), .ref (A 1), .int (nI nr), .ref (A 2), .ref (A 3), .ref (A 4), .ref (A 5), .ref (A 6), .ref (A 7), .ref (A 8), .ref (A 9), .long to, .int al, .int wa, .int lf, .ref (A 10)])) :: r) 0 0 0 [(0, .ref x), (1, .int (nI nt)), (2, .int (nI p)), (3, .int (nI q))] []
  have hnt : inR (nI nt) 0 59 = true := by rw [nI_inR (by omega)]; exact decide_eq_true ⟨by omega, by omega⟩
  have hpq : (inR (nI p) 1 600 && inR (nI q) 1 60) = true := by
    rw [nI_inR (by omega), nI_inR (by omega), decide_eq_true (p := (1 : Int) ≤ (p : Int) ∧ (p : Int) ≤ 600) ⟨by omega, by omega⟩, decide_eq_true (p := (1 : Int) ≤ (q : Int) ∧ (q : Int) ≤ 60) ⟨by omega, by omega⟩]
    rfl
  refine J.iload_n 1 dX7_phase_0 rfl ?_
  refine J.callS (st := []) B (c_X7_isNight l G _ (k := nI nt)) ml_X7_132 mf_yX7_isNight mS_yX7_isNight dX7_phase_1 rfl rfl rfl (fun v_1 w_2 hp_3 => ?_)
  obtain ⟨rfl, rfl⟩ := hp_3
  show J G X mX7_phase _ _ _ 4 _ [.int (b01 (inR (nI nt) 0 59))]
  refine J.if_eq dX7_phase_4 (fun z => absurd z (by rw [hnt]; decide)) (fun h9 => ?_)
  refine J.iload_n 2 dX7_phase_7 rfl ?_
  refine J.iload_n 3 dX7_phase_8 rfl ?_
  refine J.callS (st := []) B (c_X7_isPeriod l G _ (p := nI p) (q := nI q)) ml_X7_153 mf_yX7_isPeriod mS_yX7_isPeriod dX7_phase_9 rfl rfl rfl (fun v_4 w_5 hp_6 => ?_)
  obtain ⟨rfl, rfl⟩ := hp_6
  show J G X mX7_phase _ _ _ 12 _ [.int (b01 (inR (nI p) 1 600 && inR (nI q) 1 60))]
  refine J.if_eq dX7_phase_12 (fun z => absurd z (by rw [hpq]; decide)) (fun h8 => ?_)
  refine J.iload_n 1 dX7_phase_15 rfl ?_
  refine J.iload_n 2 dX7_phase_16 rfl ?_
  refine J.iload_n 3 dX7_phase_17 rfl ?_
  refine J.callS (st := []) B (c_X7_phaseOfTime l G _ (k := nt) (p := p) (q := q) hp1 hp2 hn0 hq2) ml_X7_156 mf_yX7_phaseOfTime mS_yX7_phaseOfTime dX7_phase_18 rfl rfl rfl (fun v_7 w_8 hp_9 => ?_)
  obtain ⟨rfl, rfl⟩ := hp_9
  show J G X mX7_phase _ _ _ 21 _ [.int (nI (nt * q % p))]
  refine J.goto dX7_phase_21 ?_
  exact J.iret B dX7_phase_25 rfl (⟨rfl, rfl⟩)
