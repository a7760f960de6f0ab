set_option maxHeartbeats 4000000 in
set_option maxRecDepth 100000 in
theorem i_turn_clk (l : Launch) (G : jG) (r : va_W) {x : Nat} {A : Nat → Nat} {ns nr : Nat} {to : Int64} {al wa lf : Int32} {num d : Int32} {c p q : Int32} {i : Int32} (hc : (inR c 0 59 && (inR p 1 600 && inR q 1 60)) = false) : Mt l G yX7_turn mX7_turn 6 135 0 0 [.ref x, .int num, .int d, .int i, .int c, .int p, .int q] ((x, .inr (7, [.ref (A 0), .int (nI ns), .ref (A 1), .int (nI nr), .ref (A 2), .ref (A 3), .ref (A 4), .ref (A 5), .ref (A 6), .ref (A 7), .ref (A 8), .ref (A 9), .long to, .int al, .int wa, .int lf, .ref (A 10)])) :: r) (fun v w => v = some (.int (-1 : Int32)) ∧ w = (x, .inr (7, [.ref (A 0), .int (nI ns), .ref (A 1), .int (nI nr), .ref (A 2), .ref (A 3), .ref (A 4), .ref (A 5), .ref (A 6), .ref (A 7), .ref (A 8), .ref (A 9), .long to, .int al, .int wa, .int lf, .ref (A 10)])) :: r) := by
  refine Mt.of (by decide +kernel) rfl rfl (fun X B => ?_)
  show J G X mX7_turn ((x, .inr (7, [.ref (A 0), .int (nI ns), .ref (A 1), .int (nI nr), .ref (A 2), .ref (A 3), .ref (A 4), .ref (A 5), .ref (A 6), .ref (A 7), .ref (A 8), .ref (A 9), .long to, .int al, .int wa, .int lf, .ref (A 10)])) :: r) 0 0 0 [(0, .ref x), (1, .int num), (2, .int d), (3, .int i), (4, .int c), (5, .int p), (6, .int q)] []
  refine J.aload_n 0 dX7_turn_0 rfl ?_
  refine J.iload_n 1 dX7_turn_1 rfl ?_
  refine J.iload_n 2 dX7_turn_2 rfl ?_
  refine J.iload 4 dX7_turn_3 rfl ?_
  refine J.iload 5 dX7_turn_5 rfl ?_
  refine J.iload 6 dX7_turn_7 rfl ?_
  refine J.callV 0 (st := []) B (c_X7_glc_clk l G _ hc) ml_X7_212 mf_yX7_gatherLowsOnClock mi_yX7_gatherLowsOnClock rfl dX7_turn_9 rfl rfl rfl rfl (fun v_1 w_2 hp_3 => ?_)
  obtain ⟨rfl, rfl⟩ := hp_3
  show J G X mX7_turn _ _ _ 12 _ [.int (-1 : Int32)]
  refine J.istore [1, 2, 3, 4, 5, 6, 7, 0] (lv' := [(0, .ref x), (1, .int num), (2, .int d), (3, .int i), (4, .int c), (5, .int p), (6, .int q), (7, .int (-1 : Int32))]) dX7_turn_12 rfl rfl ?_
  refine J.iload 7 dX7_turn_14 rfl ?_
  refine J.if_eq dX7_turn_16 (fun z => absurd z (by decide)) (fun _ => ?_)
  refine J.iload 7 dX7_turn_19 rfl ?_
  exact J.iret B dX7_turn_21 rfl (⟨rfl, rfl⟩)
set_option maxHeartbeats 4000000 in
set_option maxRecDepth 100000 in
theorem i_turn_d (l : Launch) (G : jG) (r : va_W) {x : Nat} {A : Nat → Nat} {ns nr : Nat} {to : Int64} {al wa lf : Int32} {num d : Int32} {c p q : Int32} {i : Int32} (hc : (inR c 0 59 && (inR p 1 600 && inR q 1 60)) = true) (hd : inR d 1 10000 = false) : Mt l G yX7_turn mX7_turn 6 135 0 0 [.ref x, .int num, .int d, .int i, .int c, .int p, .int q] ((x, .inr (7, [.ref (A 0), .int (nI ns), .ref (A 1), .int (nI nr), .ref (A 2), .ref (A 3), .ref (A 4), .ref (A 5), .ref (A 6), .ref (A 7), .ref (A 8), .ref (A 9), .long to, .int al, .int wa, .int lf, .ref (A 10)])) :: r) (fun v w => v = some (.int (-1 : Int32)) ∧ w = (x, .inr (7, [.ref (A 0), .int (nI ns), .ref (A 1), .int (nI nr), .ref (A 2), .ref (A 3), .ref (A 4), .ref (A 5), .ref (A 6), .ref (A 7), .ref (A 8), .ref (A 9), .long to, .int al, .int wa, .int lf, .ref (A 10)])) :: r) := by
  refine Mt.of (by decide +kernel) rfl rfl (fun X B => ?_)
  show J G X mX7_turn ((x, .inr (7, [.ref (A 0), .int (nI ns), .ref (A 1), .int (nI nr), .ref (A 2), .ref (A 3), .ref (A 4), .ref (A 5), .ref (A 6), .ref (A 7), .ref (A 8), .ref (A 9), .long to, .int al, .int wa, .int lf, .ref (A 10)])) :: r) 0 0 0 [(0, .ref x), (1, .int num), (2, .int d), (3, .int i), (4, .int c), (5, .int p), (6, .int q)] []
  refine J.aload_n 0 dX7_turn_0 rfl ?_
  refine J.iload_n 1 dX7_turn_1 rfl ?_
  refine J.iload_n 2 dX7_turn_2 rfl ?_
  refine J.iload 4 dX7_turn_3 rfl ?_
  refine J.iload 5 dX7_turn_5 rfl ?_
  refine J.iload 6 dX7_turn_7 rfl ?_
  refine J.callV 0 (st := []) B (c_X7_glc_d l G _ hc hd) ml_X7_212 mf_yX7_gatherLowsOnClock mi_yX7_gatherLowsOnClock rfl dX7_turn_9 rfl rfl rfl rfl (fun v_1 w_2 hp_3 => ?_)
  obtain ⟨rfl, rfl⟩ := hp_3
  show J G X mX7_turn _ _ _ 12 _ [.int (-1 : Int32)]
  refine J.istore [1, 2, 3, 4, 5, 6, 7, 0] (lv' := [(0, .ref x), (1, .int num), (2, .int d), (3, .int i), (4, .int c), (5, .int p), (6, .int q), (7, .int (-1 : Int32))]) dX7_turn_12 rfl rfl ?_
  refine J.iload 7 dX7_turn_14 rfl ?_
  refine J.if_eq dX7_turn_16 (fun z => absurd z (by decide)) (fun _ => ?_)
  refine J.iload 7 dX7_turn_19 rfl ?_
  exact J.iret B dX7_turn_21 rfl (⟨rfl, rfl⟩)
set_option maxHeartbeats 4000000 in
set_option maxRecDepth 100000 in
theorem i_turn_bad (l : Launch) (G : jG) (r : va_W) {x : Nat} {A : Nat → Nat} {ns nr : Nat} {to : Int64} {al wa lf : Int32} {sa : Nat → Option Nat} {num : Int32} (hns : ns ≤ 12) (hnum : inR num 0 ((ns : Int) - 1) = false) {d : Int32} {c p q : Int32} {i : Int32} (hc : (inR c 0 59 && (inR p 1 600 && inR q 1 60)) = true) (hd : inR d 1 10000 = true) : Mt l G yX7_turn mX7_turn 6 135 0 0 [.ref x, .int num, .int d, .int i, .int c, .int p, .int q] ((x, .inr (7, [.ref (A 0), .int (nI ns), .ref (A 1), .int (nI nr), .ref (A 2), .ref (A 3), .ref (A 4), .ref (A 5), .ref (A 6), .ref (A 7), .ref (A 8), .ref (A 9), .long to, .int al, .int wa, .int lf, .ref (A 10)])) :: (A 0, .inl (G.2.1.2.2.1, 12, .inr (.inr (.inr (.inr sa))))) :: r) (fun v w => v = some (.int (-1 : Int32)) ∧ w = (x, .inr (7, [.ref (A 0), .int (nI ns), .ref (A 1), .int (nI nr), .ref (A 2), .ref (A 3), .ref (A 4), .ref (A 5), .ref (A 6), .ref (A 7), .ref (A 8), .ref (A 9), .long to, .int al, .int wa, .int lf, .ref (A 10)])) :: (A 0, .inl (G.2.1.2.2.1, 12, .inr (.inr (.inr (.inr sa))))) :: r) := by
  refine Mt.of (by decide +kernel) rfl rfl (fun X B => ?_)
  show J G X mX7_turn ((x, .inr (7, [.ref (A 0), .int (nI ns), .ref (A 1), .int (nI nr), .ref (A 2), .ref (A 3), .ref (A 4), .ref (A 5), .ref (A 6), .ref (A 7), .ref (A 8), .ref (A 9), .long to, .int al, .int wa, .int lf, .ref (A 10)])) :: (A 0, .inl (G.2.1.2.2.1, 12, .inr (.inr (.inr (.inr sa))))) :: r) 0 0 0 [(0, .ref x), (1, .int num), (2, .int d), (3, .int i), (4, .int c), (5, .int p), (6, .int q)] []
  refine J.aload_n 0 dX7_turn_0 rfl ?_
  refine J.iload_n 1 dX7_turn_1 rfl ?_
  refine J.iload_n 2 dX7_turn_2 rfl ?_
  refine J.iload 4 dX7_turn_3 rfl ?_
  refine J.iload 5 dX7_turn_5 rfl ?_
  refine J.iload 6 dX7_turn_7 rfl ?_
  refine J.callV 0 (st := []) B (c_X7_glc_bad l G _ hns hnum hc hd) ml_X7_212 mf_yX7_gatherLowsOnClock mi_yX7_gatherLowsOnClock rfl dX7_turn_9 rfl rfl rfl rfl (fun v_1 w_2 hp_3 => ?_)
  obtain ⟨rfl, rfl⟩ := hp_3
  show J G X mX7_turn _ _ _ 12 _ [.int (-1 : Int32)]
  refine J.istore [1, 2, 3, 4, 5, 6, 7, 0] (lv' := [(0, .ref x), (1, .int num), (2, .int d), (3, .int i), (4, .int c), (5, .int p), (6, .int q), (7, .int (-1 : Int32))]) dX7_turn_12 rfl rfl ?_
  refine J.iload 7 dX7_turn_14 rfl ?_
  refine J.if_eq dX7_turn_16 (fun z => absurd z (by decide)) (fun _ => ?_)
  refine J.iload 7 dX7_turn_19 rfl ?_
  exact J.iret B dX7_turn_21 rfl (⟨rfl, rfl⟩)
set_option maxHeartbeats 4000000 in
set_option maxRecDepth 100000 in
theorem i_turn_no (l : Launch) (G : jG) (r : va_W) {x : Nat} {A : Nat → Nat} {ns nr : Nat} {to : Int64} {al wa lf : Int32} {sa : Nat → Option Nat} {la : Nat} {kd wc : Int32} {k s : Nat} (hk : k < ns) (hns : ns ≤ 12) (hsa : sa k = some s) {d : Int32} {c p q : Int32} {i : Int32} {fc : Nat → Int32} (hc : (inR c 0 59 && (inR p 1 600 && inR q 1 60)) = true) (hd : inR d 1 10000 = true) : Mt l G yX7_turn mX7_turn 6 135 0 0 [.ref x, .int (nI k), .int d, .int i, .int c, .int p, .int q] ((x, .inr (7, [.ref (A 0), .int (nI ns), .ref (A 1), .int (nI nr), .ref (A 2), .ref (A 3), .ref (A 4), .ref (A 5), .ref (A 6), .ref (A 7), .ref (A 8), .ref (A 9), .long to, .int al, .int wa, .int lf, .ref (A 10)])) :: (A 0, .inl (G.2.1.2.2.1, 12, .inr (.inr (.inr (.inr sa))))) :: (s, .inr (6, [.int kd, .ref la, .int (0 : Int32), .int wc])) :: (A 10, .inl (G.2.1.1, 6, .inl fc)) :: r) (fun v w => v = some (.int (-3 : Int32)) ∧ w = (x, .inr (7, [.ref (A 0), .int (nI ns), .ref (A 1), .int (nI nr), .ref (A 2), .ref (A 3), .ref (A 4), .ref (A 5), .ref (A 6), .ref (A 7), .ref (A 8), .ref (A 9), .long to, .int al, .int wa, .int (nI 1), .ref (A 10)])) :: (A 0, .inl (G.2.1.2.2.1, 12, .inr (.inr (.inr (.inr sa))))) :: (s, .inr (6, [.int kd, .ref la, .int (0 : Int32), .int wc])) :: (A 10, .inl (G.2.1.1, 6, .inl (upd fc 1 (fc 1 + 1)))) :: r) := by
  refine Mt.of (by decide +kernel) rfl rfl (fun X B => ?_)
  show J G X mX7_turn ((x, .inr (7, [.ref (A 0), .int (nI ns), .ref (A 1), .int (nI nr), .ref (A 2), .ref (A 3), .ref (A 4), .ref (A 5), .ref (A 6), .ref (A 7), .ref (A 8), .ref (A 9), .long to, .int al, .int wa, .int lf, .ref (A 10)])) :: (A 0, .inl (G.2.1.2.2.1, 12, .inr (.inr (.inr (.inr sa))))) :: (s, .inr (6, [.int kd, .ref la, .int (0 : Int32), .int wc])) :: (A 10, .inl (G.2.1.1, 6, .inl fc)) :: r) 0 0 0 [(0, .ref x), (1, .int (nI k)), (2, .int d), (3, .int i), (4, .int c), (5, .int p), (6, .int q)] []
  refine J.aload_n 0 dX7_turn_0 rfl ?_
  refine J.iload_n 1 dX7_turn_1 rfl ?_
  refine J.iload_n 2 dX7_turn_2 rfl ?_
  refine J.iload 4 dX7_turn_3 rfl ?_
  refine J.iload 5 dX7_turn_5 rfl ?_
  refine J.iload 6 dX7_turn_7 rfl ?_
  refine J.callV 0 (st := []) B (c_X7_glc_no l G _ hk hns hsa hc hd) ml_X7_212 mf_yX7_gatherLowsOnClock mi_yX7_gatherLowsOnClock rfl dX7_turn_9 rfl rfl rfl rfl (fun v_1 w_2 hp_3 => ?_)
  obtain ⟨rfl, rfl⟩ := hp_3
  show J G X mX7_turn _ _ _ 12 _ [.int (-3 : Int32)]
  refine J.istore [1, 2, 3, 4, 5, 6, 7, 0] (lv' := [(0, .ref x), (1, .int (nI k)), (2, .int d), (3, .int i), (4, .int c), (5, .int p), (6, .int q), (7, .int (-3 : Int32))]) dX7_turn_12 rfl rfl ?_
  refine J.iload 7 dX7_turn_14 rfl ?_
  refine J.if_eq dX7_turn_16 (fun z => absurd z (by decide)) (fun _ => ?_)
  refine J.iload 7 dX7_turn_19 rfl ?_
  exact J.iret B dX7_turn_21 rfl (⟨rfl, rfl⟩)
set_option maxHeartbeats 4000000 in
set_option maxRecDepth 100000 in
theorem i_turn_nought (l : Launch) (G : jG) (r : va_W) {x : Nat} {A : Nat → Nat} {ns nr : Nat} {to : Int64} {al wa lf : Int32} {sa : Nat → Option Nat} {la : Nat} {kd wc : Int32} {k s : Nat} (hk : k < ns) (hns : ns ≤ 12) (hsa : sa k = some s) {d : Int32} {c p q : Int32} {i : Int32} {L F : Nat → Int32} {cz : Int32} {t u : Nat → Int32} {fc : Nat → Int32} (hc : (inR c 0 59 && (inR p 1 600 && inR q 1 60)) = true) (hd : inR d 1 10000 = true) (hL : nN L = 0) : Mt l G yX7_turn mX7_turn 6 135 0 0 [.ref x, .int (nI k), .int d, .int i, .int c, .int p, .int q] ((x, .inr (7, [.ref (A 0), .int (nI ns), .ref (A 1), .int (nI nr), .ref (A 2), .ref (A 3), .ref (A 4), .ref (A 5), .ref (A 6), .ref (A 7), .ref (A 8), .ref (A 9), .long to, .int al, .int wa, .int lf, .ref (A 10)])) :: (A 0, .inl (G.2.1.2.2.1, 12, .inr (.inr (.inr (.inr sa))))) :: (s, .inr (6, [.int kd, .ref la, .int (1 : Int32), .int wc])) :: (la, .inl (G.2.1.1, 60, .inl L)) :: (A 2, .inl (G.2.1.1, 60, .inl F)) :: (A 3, .inr (1, [.ref (A 11), .ref (A 12), .int cz])) :: (A 11, .inl (G.2.1.1, 60, .inl t)) :: (A 12, .inl (G.2.1.1, 60, .inl u)) :: (A 10, .inl (G.2.1.1, 6, .inl fc)) :: r) (fun v w => ∃ t1 u1, v = some (.int (-3)) ∧ w = (x, .inr (7, [.ref (A 0), .int (nI ns), .ref (A 1), .int (nI nr), .ref (A 2), .ref (A 3), .ref (A 4), .ref (A 5), .ref (A 6), .ref (A 7), .ref (A 8), .ref (A 9), .long to, .int al, .int wa, .int (nI 4), .ref (A 10)])) :: (A 0, .inl (G.2.1.2.2.1, 12, .inr (.inr (.inr (.inr sa))))) :: (s, .inr (6, [.int kd, .ref la, .int (1 : Int32), .int wc])) :: (la, .inl (G.2.1.1, 60, .inl L)) :: (A 2, .inl (G.2.1.1, 60, .inl F)) :: (A 3, .inr (1, [.ref (A 11), .ref (A 12), .int (nI (nN L))])) :: (A 11, .inl (G.2.1.1, 60, .inl t1)) :: (A 12, .inl (G.2.1.1, 60, .inl u1)) :: (A 10, .inl (G.2.1.1, 6, .inl (upd fc 4 (fc 4 + 1)))) :: r) := by
  refine Mt.of (by decide +kernel) rfl rfl (fun X B => ?_)
  show J G X mX7_turn ((x, .inr (7, [.ref (A 0), .int (nI ns), .ref (A 1), .int (nI nr), .ref (A 2), .ref (A 3), .ref (A 4), .ref (A 5), .ref (A 6), .ref (A 7), .ref (A 8), .ref (A 9), .long to, .int al, .int wa, .int lf, .ref (A 10)])) :: (A 0, .inl (G.2.1.2.2.1, 12, .inr (.inr (.inr (.inr sa))))) :: (s, .inr (6, [.int kd, .ref la, .int (1 : Int32), .int wc])) :: (la, .inl (G.2.1.1, 60, .inl L)) :: (A 2, .inl (G.2.1.1, 60, .inl F)) :: (A 3, .inr (1, [.ref (A 11), .ref (A 12), .int cz])) :: (A 11, .inl (G.2.1.1, 60, .inl t)) :: (A 12, .inl (G.2.1.1, 60, .inl u)) :: (A 10, .inl (G.2.1.1, 6, .inl fc)) :: r) 0 0 0 [(0, .ref x), (1, .int (nI k)), (2, .int d), (3, .int i), (4, .int c), (5, .int p), (6, .int q)] []
  refine J.aload_n 0 dX7_turn_0 rfl ?_
  refine J.iload_n 1 dX7_turn_1 rfl ?_
  refine J.iload_n 2 dX7_turn_2 rfl ?_
  refine J.iload 4 dX7_turn_3 rfl ?_
  refine J.iload 5 dX7_turn_5 rfl ?_
  refine J.iload 6 dX7_turn_7 rfl ?_
  refine J.callV 0 (st := []) B (c_X7_glc_nought l G _ hk hns hsa hc hd hL) ml_X7_212 mf_yX7_gatherLowsOnClock mi_yX7_gatherLowsOnClock rfl dX7_turn_9 rfl rfl rfl rfl (fun v_1 w_2 hp_3 => ?_)
  obtain ⟨t1, u1, rfl, rfl⟩ := hp_3
  show J G X mX7_turn _ _ _ 12 _ [.int (-3 : Int32)]
  refine J.istore [1, 2, 3, 4, 5, 6, 7, 0] (lv' := [(0, .ref x), (1, .int (nI k)), (2, .int d), (3, .int i), (4, .int c), (5, .int p), (6, .int q), (7, .int (-3 : Int32))]) dX7_turn_12 rfl rfl ?_
  refine J.iload 7 dX7_turn_14 rfl ?_
  refine J.if_eq dX7_turn_16 (fun z => absurd z (by decide)) (fun _ => ?_)
  refine J.iload 7 dX7_turn_19 rfl ?_
  exact J.iret B dX7_turn_21 rfl (⟨t1, u1, rfl, rfl⟩)
set_option maxHeartbeats 4000000 in
set_option maxRecDepth 100000 in
theorem i_turn_none (l : Launch) (G : jG) (r : va_W) {x : Nat} {A : Nat → Nat} {ns nr : Nat} {to : Int64} {al wa lf : Int32} {sa : Nat → Option Nat} {la : Nat} {kd wc : Int32} {k s : Nat} (hk : k < ns) (hns : ns ≤ 12) (hsa : sa k = some s) {d : Int32} {c p q : Int32} {i : Int32} {L F : Nat → Int32} {cz : Int32} {t u : Nat → Int32} {zs zl : Int32} {nu lti : Nat → Int32} (hc : (inR c 0 59 && (inR p 1 600 && inR q 1 60)) = true) (hd : inR d 1 10000 = true) (hL : 0 < nN L) (hi : ¬ (0 ≤ i ∧ i < nI (lowF (ltF L F) (midV (lits L F 60) - d) (nts L 60)).1.length)) : Mt l G yX7_turn mX7_turn 6 135 0 0 [.ref x, .int (nI k), .int d, .int i, .int c, .int p, .int q] ((x, .inr (7, [.ref (A 0), .int (nI ns), .ref (A 1), .int (nI nr), .ref (A 2), .ref (A 3), .ref (A 4), .ref (A 5), .ref (A 6), .ref (A 7), .ref (A 8), .ref (A 9), .long to, .int al, .int wa, .int lf, .ref (A 10)])) :: (A 0, .inl (G.2.1.2.2.1, 12, .inr (.inr (.inr (.inr sa))))) :: (s, .inr (6, [.int kd, .ref la, .int (1 : Int32), .int wc])) :: (la, .inl (G.2.1.1, 60, .inl L)) :: (A 2, .inl (G.2.1.1, 60, .inl F)) :: (A 3, .inr (1, [.ref (A 11), .ref (A 12), .int cz])) :: (A 11, .inl (G.2.1.1, 60, .inl t)) :: (A 12, .inl (G.2.1.1, 60, .inl u)) :: (A 4, .inr (0, [.ref (A 13), .int zs])) :: (A 13, .inl (G.2.1.1, 60, .inl nu)) :: (A 6, .inr (4, [.ref (A 17), .int zl])) :: (A 17, .inl (G.2.1.1, 60, .inl lti)) :: r) (fun v w => ∃ t1 u1 nu1 lt1, v = some (.int (-9)) ∧ w = (x, .inr (7, [.ref (A 0), .int (nI ns), .ref (A 1), .int (nI nr), .ref (A 2), .ref (A 3), .ref (A 4), .ref (A 5), .ref (A 6), .ref (A 7), .ref (A 8), .ref (A 9), .long to, .int al, .int wa, .int lf, .ref (A 10)])) :: (A 0, .inl (G.2.1.2.2.1, 12, .inr (.inr (.inr (.inr sa))))) :: (s, .inr (6, [.int kd, .ref la, .int (1 : Int32), .int wc])) :: (la, .inl (G.2.1.1, 60, .inl L)) :: (A 2, .inl (G.2.1.1, 60, .inl F)) :: (A 3, .inr (1, [.ref (A 11), .ref (A 12), .int (nI (nN L))])) :: (A 11, .inl (G.2.1.1, 60, .inl t1)) :: (A 12, .inl (G.2.1.1, 60, .inl u1)) :: (A 4, .inr (0, [.ref (A 13), .int (nI (nN L))])) :: (A 13, .inl (G.2.1.1, 60, .inl nu1)) :: (A 6, .inr (4, [.ref (A 17), .int (nI ((lowF (ltF L F) (midV (lits L F 60) - d) (nts L 60)).1.length))])) :: (A 17, .inl (G.2.1.1, 60, .inl lt1)) :: r) := by
  refine Mt.of (by decide +kernel) rfl rfl (fun X B => ?_)
  show J G X mX7_turn ((x, .inr (7, [.ref (A 0), .int (nI ns), .ref (A 1), .int (nI nr), .ref (A 2), .ref (A 3), .ref (A 4), .ref (A 5), .ref (A 6), .ref (A 7), .ref (A 8), .ref (A 9), .long to, .int al, .int wa, .int lf, .ref (A 10)])) :: (A 0, .inl (G.2.1.2.2.1, 12, .inr (.inr (.inr (.inr sa))))) :: (s, .inr (6, [.int kd, .ref la, .int (1 : Int32), .int wc])) :: (la, .inl (G.2.1.1, 60, .inl L)) :: (A 2, .inl (G.2.1.1, 60, .inl F)) :: (A 3, .inr (1, [.ref (A 11), .ref (A 12), .int cz])) :: (A 11, .inl (G.2.1.1, 60, .inl t)) :: (A 12, .inl (G.2.1.1, 60, .inl u)) :: (A 4, .inr (0, [.ref (A 13), .int zs])) :: (A 13, .inl (G.2.1.1, 60, .inl nu)) :: (A 6, .inr (4, [.ref (A 17), .int zl])) :: (A 17, .inl (G.2.1.1, 60, .inl lti)) :: r) 0 0 0 [(0, .ref x), (1, .int (nI k)), (2, .int d), (3, .int i), (4, .int c), (5, .int p), (6, .int q)] []
  have hll : (lowF (ltF L F) (midV (lits L F 60) - d) (nts L 60)).1.length ≤ 60 := Nat.le_trans (lowF_le _ _ _) (nN_le L)
  refine J.aload_n 0 dX7_turn_0 rfl ?_
  refine J.iload_n 1 dX7_turn_1 rfl ?_
  refine J.iload_n 2 dX7_turn_2 rfl ?_
  refine J.iload 4 dX7_turn_3 rfl ?_
  refine J.iload 5 dX7_turn_5 rfl ?_
  refine J.iload 6 dX7_turn_7 rfl ?_
  refine J.callV 0 (st := []) B (c_X7_glc l G _ hk hns hsa hc hd hL) ml_X7_212 mf_yX7_gatherLowsOnClock mi_yX7_gatherLowsOnClock rfl dX7_turn_9 rfl rfl rfl rfl (fun v_1 w_2 hp_3 => ?_)
  obtain ⟨t1, u1, nu1, lt1, hlt, rfl, rfl⟩ := hp_3
  show J G X mX7_turn _ _ _ 12 _ [.int (0 : Int32)]
  refine J.istore [1, 2, 3, 4, 5, 6, 7, 0] (lv' := [(0, .ref x), (1, .int (nI k)), (2, .int d), (3, .int i), (4, .int c), (5, .int p), (6, .int q), (7, .int (0 : Int32))]) dX7_turn_12 rfl rfl ?_
  refine J.iload 7 dX7_turn_14 rfl ?_
  refine J.if_eq dX7_turn_16 (fun _ => ?_) (fun z => absurd z (by decide))
  refine J.aload_n 0 dX7_turn_22 rfl ?_
  refine J.get 0 fl_X7_49 dX7_turn_23 rfl rfl ?_
  refine J.iload_n 3 dX7_turn_26 rfl ?_
  refine J.re [10, 0, 1, 2, 3, 4, 5, 6, 7, 8, 9, 11] 12 (ws2 := (A 6, .inr (4, [.ref (A 17), .int (nI ((lowF (ltF L F) (midV (lits L F 60) - d) (nts L 60)).1.length))])) :: (x, .inr (7, [.ref (A 0), .int (nI ns), .ref (A 1), .int (nI nr), .ref (A 2), .ref (A 3), .ref (A 4), .ref (A 5), .ref (A 6), .ref (A 7), .ref (A 8), .ref (A 9), .long to, .int al, .int wa, .int lf, .ref (A 10)])) :: (A 0, .inl (G.2.1.2.2.1, 12, .inr (.inr (.inr (.inr sa))))) :: (s, .inr (6, [.int kd, .ref la, .int (1 : Int32), .int wc])) :: (la, .inl (G.2.1.1, 60, .inl L)) :: (A 2, .inl (G.2.1.1, 60, .inl F)) :: (A 3, .inr (1, [.ref (A 11), .ref (A 12), .int (nI (nN L))])) :: (A 11, .inl (G.2.1.1, 60, .inl t1)) :: (A 12, .inl (G.2.1.1, 60, .inl u1)) :: (A 4, .inr (0, [.ref (A 13), .int (nI (nN L))])) :: (A 13, .inl (G.2.1.1, 60, .inl nu1)) :: (A 17, .inl (G.2.1.1, 60, .inl lt1)) :: r) rfl rfl ?_
  refine J.callV 0 (st := []) B (c_X4_has l G _ (sz := (lowF (ltF L F) (midV (lits L F 60) - d) (nts L 60)).1.length) (i := i) hll) ml_X7_208 mf_yX4_has mi_yX4_has rfl dX7_turn_27 rfl rfl rfl rfl (fun v_4 w_5 hp_6 => ?_)
  obtain ⟨rfl, rfl⟩ := hp_6
  refine J.re [1, 2, 3, 4, 5, 6, 7, 8, 9, 10, 0, 11] 12 (ws2 := (x, .inr (7, [.ref (A 0), .int (nI ns), .ref (A 1), .int (nI nr), .ref (A 2), .ref (A 3), .ref (A 4), .ref (A 5), .ref (A 6), .ref (A 7), .ref (A 8), .ref (A 9), .long to, .int al, .int wa, .int lf, .ref (A 10)])) :: (A 0, .inl (G.2.1.2.2.1, 12, .inr (.inr (.inr (.inr sa))))) :: (s, .inr (6, [.int kd, .ref la, .int (1 : Int32), .int wc])) :: (la, .inl (G.2.1.1, 60, .inl L)) :: (A 2, .inl (G.2.1.1, 60, .inl F)) :: (A 3, .inr (1, [.ref (A 11), .ref (A 12), .int (nI (nN L))])) :: (A 11, .inl (G.2.1.1, 60, .inl t1)) :: (A 12, .inl (G.2.1.1, 60, .inl u1)) :: (A 4, .inr (0, [.ref (A 13), .int (nI (nN L))])) :: (A 13, .inl (G.2.1.1, 60, .inl nu1)) :: (A 6, .inr (4, [.ref (A 17), .int (nI ((lowF (ltF L F) (midV (lits L F 60) - d) (nts L 60)).1.length))])) :: (A 17, .inl (G.2.1.1, 60, .inl lt1)) :: r) rfl rfl ?_
  show J G X mX7_turn _ _ _ 30 _ [.int (b01 (decide (0 ≤ i ∧ i < nI (lowF (ltF L F) (midV (lits L F 60) - d) (nts L 60)).1.length)))]
  refine J.if_eq dX7_turn_30 (fun h9 => ?_) (fun z => absurd (by rw [decide_eq_false hi]; rfl) z)
  refine J.bipush (-9 : Int32) dX7_turn_59 rfl ?_
  exact J.iret B dX7_turn_61 rfl (⟨t1, u1, nu1, lt1, rfl, rfl⟩)
set_option maxHeartbeats 4000000 in
set_option maxRecDepth 100000 in
theorem i_turn (l : Launch) (G : jG) (r : va_W) {x : Nat} {A : Nat → Nat} {ns nr : Nat} {to : Int64} {al wa lf : Int32} {sa : Nat → Option Nat} {la : Nat} {kd wc : Int32} {k s : Nat} (hk : k < ns) (hns : ns ≤ 12) (hsa : sa k = some s) {d : Int32} {L F : Nat → Int32} {cz : Int32} {t u : Nat → Int32} {zs zl : Int32} {nu lti : Nat → Int32} (hd : inR d 1 10000 = true) (hL : 0 < nN L) {i : Nat} (hi : i < (lowF (ltF L F) (midV (lits L F 60) - d) (nts L 60)).1.length) {c : Nat} (hc0 : c < 60) {p q : Nat} (hp1 : 1 ≤ p) (hp2 : p ≤ 600) (hq1 : 1 ≤ q) (hq2 : q ≤ 60) : Mt l G yX7_turn mX7_turn 6 135 0 0 [.ref x, .int (nI k), .int d, .int (nI i), .int (nI c), .int (nI p), .int (nI q)] ((x, .inr (7, [.ref (A 0), .int (nI ns), .ref (A 1), .int (nI nr), .ref (A 2), .ref (A 3), .ref (A 4), .ref (A 5), .ref (A 6), .ref (A 7), .ref (A 8), .ref (A 9), .long to, .int al, .int wa, .int lf, .ref (A 10)])) :: (A 0, .inl (G.2.1.2.2.1, 12, .inr (.inr (.inr (.inr sa))))) :: (s, .inr (6, [.int kd, .ref la, .int (1 : Int32), .int wc])) :: (la, .inl (G.2.1.1, 60, .inl L)) :: (A 2, .inl (G.2.1.1, 60, .inl F)) :: (A 3, .inr (1, [.ref (A 11), .ref (A 12), .int cz])) :: (A 11, .inl (G.2.1.1, 60, .inl t)) :: (A 12, .inl (G.2.1.1, 60, .inl u)) :: (A 4, .inr (0, [.ref (A 13), .int zs])) :: (A 13, .inl (G.2.1.1, 60, .inl nu)) :: (A 6, .inr (4, [.ref (A 17), .int zl])) :: (A 17, .inl (G.2.1.1, 60, .inl lti)) :: r) (fun v w => ∃ t1 u1 nu1 lt1, v = some (.int 1) ∧ w = (x, .inr (7, [.ref (A 0), .int (nI ns), .ref (A 1), .int (nI nr), .ref (A 2), .ref (A 3), .ref (A 4), .ref (A 5), .ref (A 6), .ref (A 7), .ref (A 8), .ref (A 9), .long (Int64.ofInt (tuI (rg (lowF (ltF L F) (midV (lits L F 60) - d) (nts L 60)).1 i) c p q)), .int al, .int wa, .int lf, .ref (A 10)])) :: (A 0, .inl (G.2.1.2.2.1, 12, .inr (.inr (.inr (.inr sa))))) :: (s, .inr (6, [.int kd, .ref la, .int (1 : Int32), .int wc])) :: (la, .inl (G.2.1.1, 60, .inl L)) :: (A 2, .inl (G.2.1.1, 60, .inl F)) :: (A 3, .inr (1, [.ref (A 11), .ref (A 12), .int (nI (nN L))])) :: (A 11, .inl (G.2.1.1, 60, .inl t1)) :: (A 12, .inl (G.2.1.1, 60, .inl u1)) :: (A 4, .inr (0, [.ref (A 13), .int (nI (nN L))])) :: (A 13, .inl (G.2.1.1, 60, .inl nu1)) :: (A 6, .inr (4, [.ref (A 17), .int (nI ((lowF (ltF L F) (midV (lits L F 60) - d) (nts L 60)).1.length))])) :: (A 17, .inl (G.2.1.1, 60, .inl lt1)) :: r) := by
  refine Mt.of (by decide +kernel) rfl rfl (fun X B => ?_)
  show J G X mX7_turn ((x, .inr (7, [.ref (A 0), .int (nI ns), .ref (A 1), .int (nI nr), .ref (A 2), .ref (A 3), .ref (A 4), .ref (A 5), .ref (A 6), .ref (A 7), .ref (A 8), .ref (A 9), .long to, .int al, .int wa, .int lf, .ref (A 10)])) :: (A 0, .inl (G.2.1.2.2.1, 12, .inr (.inr (.inr (.inr sa))))) :: (s, .inr (6, [.int kd, .ref la, .int (1 : Int32), .int wc])) :: (la, .inl (G.2.1.1, 60, .inl L)) :: (A 2, .inl (G.2.1.1, 60, .inl F)) :: (A 3, .inr (1, [.ref (A 11), .ref (A 12), .int cz])) :: (A 11, .inl (G.2.1.1, 60, .inl t)) :: (A 12, .inl (G.2.1.1, 60, .inl u)) :: (A 4, .inr (0, [.ref (A 13), .int zs])) :: (A 13, .inl (G.2.1.1, 60, .inl nu)) :: (A 6, .inr (4, [.ref (A 17), .int zl])) :: (A 17, .inl (G.2.1.1, 60, .inl lti)) :: r) 0 0 0 [(0, .ref x), (1, .int (nI k)), (2, .int d), (3, .int (nI i)), (4, .int (nI c)), (5, .int (nI p)), (6, .int (nI q))] []
  have hll : (lowF (ltF L F) (midV (lits L F 60) - d) (nts L 60)).1.length ≤ 60 := Nat.le_trans (lowF_le _ _ _) (nN_le L)
  have hi2 : (0 : Int32) ≤ nI i ∧ nI i < nI (lowF (ltF L F) (midV (lits L F 60) - d) (nts L 60)).1.length := ⟨nI_pos' (by omega), nI_lt hi (by omega)⟩
  have hlw : rg (lowF (ltF L F) (midV (lits L F 60) - d) (nts L 60)).1 i < 60 := (mem_nts.mp (lowF_mem (rg_mem hi))).1
  have hpq : (inR (nI p) 1 600 && inR (nI q) 1 60) = true := by
    rw [nI_inR (by omega), nI_inR (by omega), decide_eq_true (p := (1 : Int) ≤ (p : Int) ∧ (p : Int) ≤ 600) ⟨by omega, by omega⟩, decide_eq_true (p := (1 : Int) ≤ (q : Int) ∧ (q : Int) ≤ 60) ⟨by omega, by omega⟩]
    rfl
  have hc : (inR (nI c) 0 59 && (inR (nI p) 1 600 && inR (nI q) 1 60)) = true := by
    rw [hpq, nI_inR (by omega), decide_eq_true (p := (0 : Int) ≤ (c : Int) ∧ (c : Int) ≤ 59) ⟨by omega, by omega⟩]
    rfl
  have hbd := tu_bd hlw hc0 hq2 hp1 hp2
  refine J.aload_n 0 dX7_turn_0 rfl ?_
  refine J.iload_n 1 dX7_turn_1 rfl ?_
  refine J.iload_n 2 dX7_turn_2 rfl ?_
  refine J.iload 4 dX7_turn_3 rfl ?_
  refine J.iload 5 dX7_turn_5 rfl ?_
  refine J.iload 6 dX7_turn_7 rfl ?_
  refine J.callV 0 (st := []) B (c_X7_glc l G _ hk hns hsa hc hd hL) ml_X7_212 mf_yX7_gatherLowsOnClock mi_yX7_gatherLowsOnClock rfl dX7_turn_9 rfl rfl rfl rfl (fun v_1 w_2 hp_3 => ?_)
  obtain ⟨t1, u1, nu1, lt1, hlt, rfl, rfl⟩ := hp_3
  show J G X mX7_turn _ _ _ 12 _ [.int (0 : Int32)]
  refine J.istore [1, 2, 3, 4, 5, 6, 7, 0] (lv' := [(0, .ref x), (1, .int (nI k)), (2, .int d), (3, .int (nI i)), (4, .int (nI c)), (5, .int (nI p)), (6, .int (nI q)), (7, .int (0 : Int32))]) dX7_turn_12 rfl rfl ?_
  refine J.iload 7 dX7_turn_14 rfl ?_
  refine J.if_eq dX7_turn_16 (fun _ => ?_) (fun z => absurd z (by decide))
  refine J.aload_n 0 dX7_turn_22 rfl ?_
  refine J.get 0 fl_X7_49 dX7_turn_23 rfl rfl ?_
  refine J.iload_n 3 dX7_turn_26 rfl ?_
  refine J.re [10, 0, 1, 2, 3, 4, 5, 6, 7, 8, 9, 11] 12 (ws2 := (A 6, .inr (4, [.ref (A 17), .int (nI ((lowF (ltF L F) (midV (lits L F 60) - d) (nts L 60)).1.length))])) :: (x, .inr (7, [.ref (A 0), .int (nI ns), .ref (A 1), .int (nI nr), .ref (A 2), .ref (A 3), .ref (A 4), .ref (A 5), .ref (A 6), .ref (A 7), .ref (A 8), .ref (A 9), .long to, .int al, .int wa, .int lf, .ref (A 10)])) :: (A 0, .inl (G.2.1.2.2.1, 12, .inr (.inr (.inr (.inr sa))))) :: (s, .inr (6, [.int kd, .ref la, .int (1 : Int32), .int wc])) :: (la, .inl (G.2.1.1, 60, .inl L)) :: (A 2, .inl (G.2.1.1, 60, .inl F)) :: (A 3, .inr (1, [.ref (A 11), .ref (A 12), .int (nI (nN L))])) :: (A 11, .inl (G.2.1.1, 60, .inl t1)) :: (A 12, .inl (G.2.1.1, 60, .inl u1)) :: (A 4, .inr (0, [.ref (A 13), .int (nI (nN L))])) :: (A 13, .inl (G.2.1.1, 60, .inl nu1)) :: (A 17, .inl (G.2.1.1, 60, .inl lt1)) :: r) rfl rfl ?_
  refine J.callV 0 (st := []) B (c_X4_has l G _ (sz := (lowF (ltF L F) (midV (lits L F 60) - d) (nts L 60)).1.length) (i := nI i) hll) ml_X7_208 mf_yX4_has mi_yX4_has rfl dX7_turn_27 rfl rfl rfl rfl (fun v_4 w_5 hp_6 => ?_)
  obtain ⟨rfl, rfl⟩ := hp_6
  refine J.re [1, 2, 3, 4, 5, 6, 7, 8, 9, 10, 0, 11] 12 (ws2 := (x, .inr (7, [.ref (A 0), .int (nI ns), .ref (A 1), .int (nI nr), .ref (A 2), .ref (A 3), .ref (A 4), .ref (A 5), .ref (A 6), .ref (A 7), .ref (A 8), .ref (A 9), .long to, .int al, .int wa, .int lf, .ref (A 10)])) :: (A 0, .inl (G.2.1.2.2.1, 12, .inr (.inr (.inr (.inr sa))))) :: (s, .inr (6, [.int kd, .ref la, .int (1 : Int32), .int wc])) :: (la, .inl (G.2.1.1, 60, .inl L)) :: (A 2, .inl (G.2.1.1, 60, .inl F)) :: (A 3, .inr (1, [.ref (A 11), .ref (A 12), .int (nI (nN L))])) :: (A 11, .inl (G.2.1.1, 60, .inl t1)) :: (A 12, .inl (G.2.1.1, 60, .inl u1)) :: (A 4, .inr (0, [.ref (A 13), .int (nI (nN L))])) :: (A 13, .inl (G.2.1.1, 60, .inl nu1)) :: (A 6, .inr (4, [.ref (A 17), .int (nI ((lowF (ltF L F) (midV (lits L F 60) - d) (nts L 60)).1.length))])) :: (A 17, .inl (G.2.1.1, 60, .inl lt1)) :: r) rfl rfl ?_
  show J G X mX7_turn _ _ _ 30 _ [.int (b01 (decide (0 ≤ (nI i) ∧ (nI i) < nI (lowF (ltF L F) (midV (lits L F 60) - d) (nts L 60)).1.length)))]
  refine J.if_eq dX7_turn_30 (fun z => absurd z (by rw [decide_eq_true hi2]; decide)) (fun h9 => ?_)
  refine J.aload_n 0 dX7_turn_33 rfl ?_
  refine J.aload_n 0 dX7_turn_34 rfl ?_
  refine J.get 0 fl_X7_49 dX7_turn_35 rfl rfl ?_
  refine J.get 10 fl_X7_211 dX7_turn_38 rfl rfl ?_
  refine J.iload_n 3 dX7_turn_41 rfl ?_
  refine J.iald 11 (i) dX7_turn_42 rfl (rfl) (by omega) (by decide) ?_
  refine J.topi (y := nI (rg (lowF (ltF L F) (midV (lits L F 60) - d) (nts L 60)).1 i)) (AG_rg hlt (by omega)) ?_
  refine J.iload 4 dX7_turn_43 rfl ?_
  refine J.iload 5 dX7_turn_45 rfl ?_
  refine J.iload 6 dX7_turn_47 rfl ?_
  refine J.callS (st := [.ref x]) B (c_X7_turnOfTime l G _ hlw hc0 hp1 hp2 hq2) ml_X7_216 mf_yX7_turnOfTime mS_yX7_turnOfTime dX7_turn_49 rfl rfl rfl (fun v_7 w_8 hp_9 => ?_)
  obtain ⟨rfl, rfl⟩ := hp_9
  show J G X mX7_turn _ _ _ 52 _ [.int (Int32.ofInt (tuI (rg (lowF (ltF L F) (midV (lits L F 60) - d) (nts L 60)).1 i) c p q)), .ref x]
  refine J.i2l dX7_turn_52 ?_
  refine J.topl (y := Int64.ofInt (tuI (rg (lowF (ltF L F) (midV (lits L F 60) - d) (nts L 60)).1 i) c p q)) (wide_ofI (by omega) (by omega)) ?_
  refine J.callV 0 (st := []) B (c_X7_tell l G _ (t0 := Int64.ofInt (tuI (rg (lowF (ltF L F) (midV (lits L F 60) - d) (nts L 60)).1 i) c p q))) ml_X7_115 mf_yX7_tell mi_yX7_tell rfl dX7_turn_53 rfl rfl rfl rfl (fun v_10 w_11 hp_12 => ?_)
  obtain ⟨rfl, rfl⟩ := hp_12
  show J G X mX7_turn _ _ _ 56 _ [.int (1 : Int32)]
  refine J.goto dX7_turn_56 ?_
  exact J.iret B dX7_turn_61 rfl (⟨t1, u1, nu1, lt1, rfl, rfl⟩)
set_option maxHeartbeats 4000000 in
set_option maxRecDepth 100000 in
theorem i_late_clk (l : Launch) (G : jG) (r : va_W) {x : Nat} {A : Nat → Nat} {ns nr : Nat} {to : Int64} {al wa lf : Int32} {num d : Int32} {c p q : Int32} {i : Int32} (hc : (inR c 0 59 && (inR p 1 600 && inR q 1 60)) = false) : Mt l G yX7_late mX7_late 6 135 0 0 [.ref x, .int num, .int d, .int i, .int c, .int p, .int q] ((x, .inr (7, [.ref (A 0), .int (nI ns), .ref (A 1), .int (nI nr), .ref (A 2), .ref (A 3), .ref (A 4), .ref (A 5), .ref (A 6), .ref (A 7), .ref (A 8), .ref (A 9), .long to, .int al, .int wa, .int lf, .ref (A 10)])) :: r) (fun v w => v = some (.int (-1 : Int32)) ∧ w = (x, .inr (7, [.ref (A 0), .int (nI ns), .ref (A 1), .int (nI nr), .ref (A 2), .ref (A 3), .ref (A 4), .ref (A 5), .ref (A 6), .ref (A 7), .ref (A 8), .ref (A 9), .long to, .int al, .int wa, .int lf, .ref (A 10)])) :: r) := by
  refine Mt.of (by decide +kernel) rfl rfl (fun X B => ?_)
  show J G X mX7_late ((x, .inr (7, [.ref (A 0), .int (nI ns), .ref (A 1), .int (nI nr), .ref (A 2), .ref (A 3), .ref (A 4), .ref (A 5), .ref (A 6), .ref (A 7), .ref (A 8), .ref (A 9), .long to, .int al, .int wa, .int lf, .ref (A 10)])) :: r) 0 0 0 [(0, .ref x), (1, .int num), (2, .int d), (3, .int i), (4, .int c), (5, .int p), (6, .int q)] []
  refine J.aload_n 0 dX7_late_0 rfl ?_
  refine J.iload_n 1 dX7_late_1 rfl ?_
  refine J.iload_n 2 dX7_late_2 rfl ?_
  refine J.iload 4 dX7_late_3 rfl ?_
  refine J.iload 5 dX7_late_5 rfl ?_
  refine J.iload 6 dX7_late_7 rfl ?_
  refine J.callV 0 (st := []) B (c_X7_glc_clk l G _ hc) ml_X7_212 mf_yX7_gatherLowsOnClock mi_yX7_gatherLowsOnClock rfl dX7_late_9 rfl rfl rfl rfl (fun v_1 w_2 hp_3 => ?_)
  obtain ⟨rfl, rfl⟩ := hp_3
  show J G X mX7_late _ _ _ 12 _ [.int (-1 : Int32)]
  refine J.istore [1, 2, 3, 4, 5, 6, 7, 0] (lv' := [(0, .ref x), (1, .int num), (2, .int d), (3, .int i), (4, .int c), (5, .int p), (6, .int q), (7, .int (-1 : Int32))]) dX7_late_12 rfl rfl ?_
  refine J.iload 7 dX7_late_14 rfl ?_
  refine J.if_eq dX7_late_16 (fun z => absurd z (by decide)) (fun _ => ?_)
  refine J.iload 7 dX7_late_19 rfl ?_
  exact J.iret B dX7_late_21 rfl (⟨rfl, rfl⟩)
set_option maxHeartbeats 4000000 in
set_option maxRecDepth 100000 in
theorem i_late_d (l : Launch) (G : jG) (r : va_W) {x : Nat} {A : Nat → Nat} {ns nr : Nat} {to : Int64} {al wa lf : Int32} {num d : Int32} {c p q : Int32} {i : Int32} (hc : (inR c 0 59 && (inR p 1 600 && inR q 1 60)) = true) (hd : inR d 1 10000 = false) : Mt l G yX7_late mX7_late 6 135 0 0 [.ref x, .int num, .int d, .int i, .int c, .int p, .int q] ((x, .inr (7, [.ref (A 0), .int (nI ns), .ref (A 1), .int (nI nr), .ref (A 2), .ref (A 3), .ref (A 4), .ref (A 5), .ref (A 6), .ref (A 7), .ref (A 8), .ref (A 9), .long to, .int al, .int wa, .int lf, .ref (A 10)])) :: r) (fun v w => v = some (.int (-1 : Int32)) ∧ w = (x, .inr (7, [.ref (A 0), .int (nI ns), .ref (A 1), .int (nI nr), .ref (A 2), .ref (A 3), .ref (A 4), .ref (A 5), .ref (A 6), .ref (A 7), .ref (A 8), .ref (A 9), .long to, .int al, .int wa, .int lf, .ref (A 10)])) :: r) := by
  refine Mt.of (by decide +kernel) rfl rfl (fun X B => ?_)
  show J G X mX7_late ((x, .inr (7, [.ref (A 0), .int (nI ns), .ref (A 1), .int (nI nr), .ref (A 2), .ref (A 3), .ref (A 4), .ref (A 5), .ref (A 6), .ref (A 7), .ref (A 8), .ref (A 9), .long to, .int al, .int wa, .int lf, .ref (A 10)])) :: r) 0 0 0 [(0, .ref x), (1, .int num), (2, .int d), (3, .int i), (4, .int c), (5, .int p), (6, .int q)] []
  refine J.aload_n 0 dX7_late_0 rfl ?_
  refine J.iload_n 1 dX7_late_1 rfl ?_
  refine J.iload_n 2 dX7_late_2 rfl ?_
  refine J.iload 4 dX7_late_3 rfl ?_
  refine J.iload 5 dX7_late_5 rfl ?_
  refine J.iload 6 dX7_late_7 rfl ?_
  refine J.callV 0 (st := []) B (c_X7_glc_d l G _ hc hd) ml_X7_212 mf_yX7_gatherLowsOnClock mi_yX7_gatherLowsOnClock rfl dX7_late_9 rfl rfl rfl rfl (fun v_1 w_2 hp_3 => ?_)
  obtain ⟨rfl, rfl⟩ := hp_3
  show J G X mX7_late _ _ _ 12 _ [.int (-1 : Int32)]
  refine J.istore [1, 2, 3, 4, 5, 6, 7, 0] (lv' := [(0, .ref x), (1, .int num), (2, .int d), (3, .int i), (4, .int c), (5, .int p), (6, .int q), (7, .int (-1 : Int32))]) dX7_late_12 rfl rfl ?_
  refine J.iload 7 dX7_late_14 rfl ?_
  refine J.if_eq dX7_late_16 (fun z => absurd z (by decide)) (fun _ => ?_)
  refine J.iload 7 dX7_late_19 rfl ?_
  exact J.iret B dX7_late_21 rfl (⟨rfl, rfl⟩)
set_option maxHeartbeats 4000000 in
set_option maxRecDepth 100000 in
theorem i_late_bad (l : Launch) (G : jG) (r : va_W) {x : Nat} {A : Nat → Nat} {ns nr : Nat} {to : Int64} {al wa lf : Int32} {sa : Nat → Option Nat} {num : Int32} (hns : ns ≤ 12) (hnum : inR num 0 ((ns : Int) - 1) = false) {d : Int32} {c p q : Int32} {i : Int32} (hc : (inR c 0 59 && (inR p 1 600 && inR q 1 60)) = true) (hd : inR d 1 10000 = true) : Mt l G yX7_late mX7_late 6 135 0 0 [.ref x, .int num, .int d, .int i, .int c, .int p, .int q] ((x, .inr (7, [.ref (A 0), .int (nI ns), .ref (A 1), .int (nI nr), .ref (A 2), .ref (A 3), .ref (A 4), .ref (A 5), .ref (A 6), .ref (A 7), .ref (A 8), .ref (A 9), .long to, .int al, .int wa, .int lf, .ref (A 10)])) :: (A 0, .inl (G.2.1.2.2.1, 12, .inr (.inr (.inr (.inr sa))))) :: r) (fun v w => v = some (.int (-1 : Int32)) ∧ w = (x, .inr (7, [.ref (A 0), .int (nI ns), .ref (A 1), .int (nI nr), .ref (A 2), .ref (A 3), .ref (A 4), .ref (A 5), .ref (A 6), .ref (A 7), .ref (A 8), .ref (A 9), .long to, .int al, .int wa, .int lf, .ref (A 10)])) :: (A 0, .inl (G.2.1.2.2.1, 12, .inr (.inr (.inr (.inr sa))))) :: r) := by
  refine Mt.of (by decide +kernel) rfl rfl (fun X B => ?_)
  show J G X mX7_late ((x, .inr (7, [.ref (A 0), .int (nI ns), .ref (A 1), .int (nI nr), .ref (A 2), .ref (A 3), .ref (A 4), .ref (A 5), .ref (A 6), .ref (A 7), .ref (A 8), .ref (A 9), .long to, .int al, .int wa, .int lf, .ref (A 10)])) :: (A 0, .inl (G.2.1.2.2.1, 12, .inr (.inr (.inr (.inr sa))))) :: r) 0 0 0 [(0, .ref x), (1, .int num), (2, .int d), (3, .int i), (4, .int c), (5, .int p), (6, .int q)] []
  refine J.aload_n 0 dX7_late_0 rfl ?_
  refine J.iload_n 1 dX7_late_1 rfl ?_
  refine J.iload_n 2 dX7_late_2 rfl ?_
  refine J.iload 4 dX7_late_3 rfl ?_
  refine J.iload 5 dX7_late_5 rfl ?_
  refine J.iload 6 dX7_late_7 rfl ?_
  refine J.callV 0 (st := []) B (c_X7_glc_bad l G _ hns hnum hc hd) ml_X7_212 mf_yX7_gatherLowsOnClock mi_yX7_gatherLowsOnClock rfl dX7_late_9 rfl rfl rfl rfl (fun v_1 w_2 hp_3 => ?_)
  obtain ⟨rfl, rfl⟩ := hp_3
  show J G X mX7_late _ _ _ 12 _ [.int (-1 : Int32)]
  refine J.istore [1, 2, 3, 4, 5, 6, 7, 0] (lv' := [(0, .ref x), (1, .int num), (2, .int d), (3, .int i), (4, .int c), (5, .int p), (6, .int q), (7, .int (-1 : Int32))]) dX7_late_12 rfl rfl ?_
  refine J.iload 7 dX7_late_14 rfl ?_
  refine J.if_eq dX7_late_16 (fun z => absurd z (by decide)) (fun _ => ?_)
  refine J.iload 7 dX7_late_19 rfl ?_
  exact J.iret B dX7_late_21 rfl (⟨rfl, rfl⟩)
set_option maxHeartbeats 4000000 in
set_option maxRecDepth 100000 in
theorem i_late_no (l : Launch) (G : jG) (r : va_W) {x : Nat} {A : Nat → Nat} {ns nr : Nat} {to : Int64} {al wa lf : Int32} {sa : Nat → Option Nat} {la : Nat} {kd wc : Int32} {k s : Nat} (hk : k < ns) (hns : ns ≤ 12) (hsa : sa k = some s) {d : Int32} {c p q : Int32} {i : Int32} {fc : Nat → Int32} (hc : (inR c 0 59 && (inR p 1 600 && inR q 1 60)) = true) (hd : inR d 1 10000 = true) : Mt l G yX7_late mX7_late 6 135 0 0 [.ref x, .int (nI k), .int d, .int i, .int c, .int p, .int q] ((x, .inr (7, [.ref (A 0), .int (nI ns), .ref (A 1), .int (nI nr), .ref (A 2), .ref (A 3), .ref (A 4), .ref (A 5), .ref (A 6), .ref (A 7), .ref (A 8), .ref (A 9), .long to, .int al, .int wa, .int lf, .ref (A 10)])) :: (A 0, .inl (G.2.1.2.2.1, 12, .inr (.inr (.inr (.inr sa))))) :: (s, .inr (6, [.int kd, .ref la, .int (0 : Int32), .int wc])) :: (A 10, .inl (G.2.1.1, 6, .inl fc)) :: r) (fun v w => v = some (.int (-3 : Int32)) ∧ w = (x, .inr (7, [.ref (A 0), .int (nI ns), .ref (A 1), .int (nI nr), .ref (A 2), .ref (A 3), .ref (A 4), .ref (A 5), .ref (A 6), .ref (A 7), .ref (A 8), .ref (A 9), .long to, .int al, .int wa, .int (nI 1), .ref (A 10)])) :: (A 0, .inl (G.2.1.2.2.1, 12, .inr (.inr (.inr (.inr sa))))) :: (s, .inr (6, [.int kd, .ref la, .int (0 : Int32), .int wc])) :: (A 10, .inl (G.2.1.1, 6, .inl (upd fc 1 (fc 1 + 1)))) :: r) := by
  refine Mt.of (by decide +kernel) rfl rfl (fun X B => ?_)
  show J G X mX7_late ((x, .inr (7, [.ref (A 0), .int (nI ns), .ref (A 1), .int (nI nr), .ref (A 2), .ref (A 3), .ref (A 4), .ref (A 5), .ref (A 6), .ref (A 7), .ref (A 8), .ref (A 9), .long to, .int al, .int wa, .int lf, .ref (A 10)])) :: (A 0, .inl (G.2.1.2.2.1, 12, .inr (.inr (.inr (.inr sa))))) :: (s, .inr (6, [.int kd, .ref la, .int (0 : Int32), .int wc])) :: (A 10, .inl (G.2.1.1, 6, .inl fc)) :: r) 0 0 0 [(0, .ref x), (1, .int (nI k)), (2, .int d), (3, .int i), (4, .int c), (5, .int p), (6, .int q)] []
  refine J.aload_n 0 dX7_late_0 rfl ?_
  refine J.iload_n 1 dX7_late_1 rfl ?_
  refine J.iload_n 2 dX7_late_2 rfl ?_
  refine J.iload 4 dX7_late_3 rfl ?_
  refine J.iload 5 dX7_late_5 rfl ?_
  refine J.iload 6 dX7_late_7 rfl ?_
  refine J.callV 0 (st := []) B (c_X7_glc_no l G _ hk hns hsa hc hd) ml_X7_212 mf_yX7_gatherLowsOnClock mi_yX7_gatherLowsOnClock rfl dX7_late_9 rfl rfl rfl rfl (fun v_1 w_2 hp_3 => ?_)
  obtain ⟨rfl, rfl⟩ := hp_3
  show J G X mX7_late _ _ _ 12 _ [.int (-3 : Int32)]
  refine J.istore [1, 2, 3, 4, 5, 6, 7, 0] (lv' := [(0, .ref x), (1, .int (nI k)), (2, .int d), (3, .int i), (4, .int c), (5, .int p), (6, .int q), (7, .int (-3 : Int32))]) dX7_late_12 rfl rfl ?_
  refine J.iload 7 dX7_late_14 rfl ?_
  refine J.if_eq dX7_late_16 (fun z => absurd z (by decide)) (fun _ => ?_)
  refine J.iload 7 dX7_late_19 rfl ?_
  exact J.iret B dX7_late_21 rfl (⟨rfl, rfl⟩)
set_option maxHeartbeats 4000000 in
set_option maxRecDepth 100000 in
theorem i_late_nought (l : Launch) (G : jG) (r : va_W) {x : Nat} {A : Nat → Nat} {ns nr : Nat} {to : Int64} {al wa lf : Int32} {sa : Nat → Option Nat} {la : Nat} {kd wc : Int32} {k s : Nat} (hk : k < ns) (hns : ns ≤ 12) (hsa : sa k = some s) {d : Int32} {c p q : Int32} {i : Int32} {L F : Nat → Int32} {cz : Int32} {t u : Nat → Int32} {fc : Nat → Int32} (hc : (inR c 0 59 && (inR p 1 600 && inR q 1 60)) = true) (hd : inR d 1 10000 = true) (hL : nN L = 0) : Mt l G yX7_late mX7_late 6 135 0 0 [.ref x, .int (nI k), .int d, .int i, .int c, .int p, .int q] ((x, .inr (7, [.ref (A 0), .int (nI ns), .ref (A 1), .int (nI nr), .ref (A 2), .ref (A 3), .ref (A 4), .ref (A 5), .ref (A 6), .ref (A 7), .ref (A 8), .ref (A 9), .long to, .int al, .int wa, .int lf, .ref (A 10)])) :: (A 0, .inl (G.2.1.2.2.1, 12, .inr (.inr (.inr (.inr sa))))) :: (s, .inr (6, [.int kd, .ref la, .int (1 : Int32), .int wc])) :: (la, .inl (G.2.1.1, 60, .inl L)) :: (A 2, .inl (G.2.1.1, 60, .inl F)) :: (A 3, .inr (1, [.ref (A 11), .ref (A 12), .int cz])) :: (A 11, .inl (G.2.1.1, 60, .inl t)) :: (A 12, .inl (G.2.1.1, 60, .inl u)) :: (A 10, .inl (G.2.1.1, 6, .inl fc)) :: r) (fun v w => ∃ t1 u1, v = some (.int (-3)) ∧ w = (x, .inr (7, [.ref (A 0), .int (nI ns), .ref (A 1), .int (nI nr), .ref (A 2), .ref (A 3), .ref (A 4), .ref (A 5), .ref (A 6), .ref (A 7), .ref (A 8), .ref (A 9), .long to, .int al, .int wa, .int (nI 4), .ref (A 10)])) :: (A 0, .inl (G.2.1.2.2.1, 12, .inr (.inr (.inr (.inr sa))))) :: (s, .inr (6, [.int kd, .ref la, .int (1 : Int32), .int wc])) :: (la, .inl (G.2.1.1, 60, .inl L)) :: (A 2, .inl (G.2.1.1, 60, .inl F)) :: (A 3, .inr (1, [.ref (A 11), .ref (A 12), .int (nI (nN L))])) :: (A 11, .inl (G.2.1.1, 60, .inl t1)) :: (A 12, .inl (G.2.1.1, 60, .inl u1)) :: (A 10, .inl (G.2.1.1, 6, .inl (upd fc 4 (fc 4 + 1)))) :: r) := by
  refine Mt.of (by decide +kernel) rfl rfl (fun X B => ?_)
  show J G X mX7_late ((x, .inr (7, [.ref (A 0), .int (nI ns), .ref (A 1), .int (nI nr), .ref (A 2), .ref (A 3), .ref (A 4), .ref (A 5), .ref (A 6), .ref (A 7), .ref (A 8), .ref (A 9), .long to, .int al, .int wa, .int lf, .ref (A 10)])) :: (A 0, .inl (G.2.1.2.2.1, 12, .inr (.inr (.inr (.inr sa))))) :: (s, .inr (6, [.int kd, .ref la, .int (1 : Int32), .int wc])) :: (la, .inl (G.2.1.1, 60, .inl L)) :: (A 2, .inl (G.2.1.1, 60, .inl F)) :: (A 3, .inr (1, [.ref (A 11), .ref (A 12), .int cz])) :: (A 11, .inl (G.2.1.1, 60, .inl t)) :: (A 12, .inl (G.2.1.1, 60, .inl u)) :: (A 10, .inl (G.2.1.1, 6, .inl fc)) :: r) 0 0 0 [(0, .ref x), (1, .int (nI k)), (2, .int d), (3, .int i), (4, .int c), (5, .int p), (6, .int q)] []
  refine J.aload_n 0 dX7_late_0 rfl ?_
  refine J.iload_n 1 dX7_late_1 rfl ?_
  refine J.iload_n 2 dX7_late_2 rfl ?_
  refine J.iload 4 dX7_late_3 rfl ?_
  refine J.iload 5 dX7_late_5 rfl ?_
  refine J.iload 6 dX7_late_7 rfl ?_
  refine J.callV 0 (st := []) B (c_X7_glc_nought l G _ hk hns hsa hc hd hL) ml_X7_212 mf_yX7_gatherLowsOnClock mi_yX7_gatherLowsOnClock rfl dX7_late_9 rfl rfl rfl rfl (fun v_1 w_2 hp_3 => ?_)
  obtain ⟨t1, u1, rfl, rfl⟩ := hp_3
  show J G X mX7_late _ _ _ 12 _ [.int (-3 : Int32)]
  refine J.istore [1, 2, 3, 4, 5, 6, 7, 0] (lv' := [(0, .ref x), (1, .int (nI k)), (2, .int d), (3, .int i), (4, .int c), (5, .int p), (6, .int q), (7, .int (-3 : Int32))]) dX7_late_12 rfl rfl ?_
  refine J.iload 7 dX7_late_14 rfl ?_
  refine J.if_eq dX7_late_16 (fun z => absurd z (by decide)) (fun _ => ?_)
  refine J.iload 7 dX7_late_19 rfl ?_
  exact J.iret B dX7_late_21 rfl (⟨t1, u1, rfl, rfl⟩)
set_option maxHeartbeats 4000000 in
set_option maxRecDepth 100000 in
theorem i_late_none (l : Launch) (G : jG) (r : va_W) {x : Nat} {A : Nat → Nat} {ns nr : Nat} {to : Int64} {al wa lf : Int32} {sa : Nat → Option Nat} {la : Nat} {kd wc : Int32} {k s : Nat} (hk : k < ns) (hns : ns ≤ 12) (hsa : sa k = some s) {d : Int32} {c p q : Int32} {i : Int32} {L F : Nat → Int32} {cz : Int32} {t u : Nat → Int32} {zs zl : Int32} {nu lti : Nat → Int32} (hc : (inR c 0 59 && (inR p 1 600 && inR q 1 60)) = true) (hd : inR d 1 10000 = true) (hL : 0 < nN L) (hi : ¬ (0 ≤ i ∧ i < nI (lowF (ltF L F) (midV (lits L F 60) - d) (nts L 60)).1.length)) : Mt l G yX7_late mX7_late 6 135 0 0 [.ref x, .int (nI k), .int d, .int i, .int c, .int p, .int q] ((x, .inr (7, [.ref (A 0), .int (nI ns), .ref (A 1), .int (nI nr), .ref (A 2), .ref (A 3), .ref (A 4), .ref (A 5), .ref (A 6), .ref (A 7), .ref (A 8), .ref (A 9), .long to, .int al, .int wa, .int lf, .ref (A 10)])) :: (A 0, .inl (G.2.1.2.2.1, 12, .inr (.inr (.inr (.inr sa))))) :: (s, .inr (6, [.int kd, .ref la, .int (1 : Int32), .int wc])) :: (la, .inl (G.2.1.1, 60, .inl L)) :: (A 2, .inl (G.2.1.1, 60, .inl F)) :: (A 3, .inr (1, [.ref (A 11), .ref (A 12), .int cz])) :: (A 11, .inl (G.2.1.1, 60, .inl t)) :: (A 12, .inl (G.2.1.1, 60, .inl u)) :: (A 4, .inr (0, [.ref (A 13), .int zs])) :: (A 13, .inl (G.2.1.1, 60, .inl nu)) :: (A 6, .inr (4, [.ref (A 17), .int zl])) :: (A 17, .inl (G.2.1.1, 60, .inl lti)) :: r) (fun v w => ∃ t1 u1 nu1 lt1, v = some (.int (-9)) ∧ w = (x, .inr (7, [.ref (A 0), .int (nI ns), .ref (A 1), .int (nI nr), .ref (A 2), .ref (A 3), .ref (A 4), .ref (A 5), .ref (A 6), .ref (A 7), .ref (A 8), .ref (A 9), .long to, .int al, .int wa, .int lf, .ref (A 10)])) :: (A 0, .inl (G.2.1.2.2.1, 12, .inr (.inr (.inr (.inr sa))))) :: (s, .inr (6, [.int kd, .ref la, .int (1 : Int32), .int wc])) :: (la, .inl (G.2.1.1, 60, .inl L)) :: (A 2, .inl (G.2.1.1, 60, .inl F)) :: (A 3, .inr (1, [.ref (A 11), .ref (A 12), .int (nI (nN L))])) :: (A 11, .inl (G.2.1.1, 60, .inl t1)) :: (A 12, .inl (G.2.1.1, 60, .inl u1)) :: (A 4, .inr (0, [.ref (A 13), .int (nI (nN L))])) :: (A 13, .inl (G.2.1.1, 60, .inl nu1)) :: (A 6, .inr (4, [.ref (A 17), .int (nI ((lowF (ltF L F) (midV (lits L F 60) - d) (nts L 60)).1.length))])) :: (A 17, .inl (G.2.1.1, 60, .inl lt1)) :: r) := by
  refine Mt.of (by decide +kernel) rfl rfl (fun X B => ?_)
  show J G X mX7_late ((x, .inr (7, [.ref (A 0), .int (nI ns), .ref (A 1), .int (nI nr), .ref (A 2), .ref (A 3), .ref (A 4), .ref (A 5), .ref (A 6), .ref (A 7), .ref (A 8), .ref (A 9), .long to, .int al, .int wa, .int lf, .ref (A 10)])) :: (A 0, .inl (G.2.1.2.2.1, 12, .inr (.inr (.inr (.inr sa))))) :: (s, .inr (6, [.int kd, .ref la, .int (1 : Int32), .int wc])) :: (la, .inl (G.2.1.1, 60, .inl L)) :: (A 2, .inl (G.2.1.1, 60, .inl F)) :: (A 3, .inr (1, [.ref (A 11), .ref (A 12), .int cz])) :: (A 11, .inl (G.2.1.1, 60, .inl t)) :: (A 12, .inl (G.2.1.1, 60, .inl u)) :: (A 4, .inr (0, [.ref (A 13), .int zs])) :: (A 13, .inl (G.2.1.1, 60, .inl nu)) :: (A 6, .inr (4, [.ref (A 17), .int zl])) :: (A 17, .inl (G.2.1.1, 60, .inl lti)) :: r) 0 0 0 [(0, .ref x), (1, .int (nI k)), (2, .int d), (3, .int i), (4, .int c), (5, .int p), (6, .int q)] []
  have hll : (lowF (ltF L F) (midV (lits L F 60) - d) (nts L 60)).1.length ≤ 60 := Nat.le_trans (lowF_le _ _ _) (nN_le L)
  refine J.aload_n 0 dX7_late_0 rfl ?_
  refine J.iload_n 1 dX7_late_1 rfl ?_
  refine J.iload_n 2 dX7_late_2 rfl ?_
  refine J.iload 4 dX7_late_3 rfl ?_
  refine J.iload 5 dX7_late_5 rfl ?_
  refine J.iload 6 dX7_late_7 rfl ?_
  refine J.callV 0 (st := []) B (c_X7_glc l G _ hk hns hsa hc hd hL) ml_X7_212 mf_yX7_gatherLowsOnClock mi_yX7_gatherLowsOnClock rfl dX7_late_9 rfl rfl rfl rfl (fun v_1 w_2 hp_3 => ?_)
  obtain ⟨t1, u1, nu1, lt1, hlt, rfl, rfl⟩ := hp_3
  show J G X mX7_late _ _ _ 12 _ [.int (0 : Int32)]
  refine J.istore [1, 2, 3, 4, 5, 6, 7, 0] (lv' := [(0, .ref x), (1, .int (nI k)), (2, .int d), (3, .int i), (4, .int c), (5, .int p), (6, .int q), (7, .int (0 : Int32))]) dX7_late_12 rfl rfl ?_
  refine J.iload 7 dX7_late_14 rfl ?_
  refine J.if_eq dX7_late_16 (fun _ => ?_) (fun z => absurd z (by decide))
  refine J.aload_n 0 dX7_late_22 rfl ?_
  refine J.get 0 fl_X7_49 dX7_late_23 rfl rfl ?_
  refine J.iload_n 3 dX7_late_26 rfl ?_
  refine J.re [10, 0, 1, 2, 3, 4, 5, 6, 7, 8, 9, 11] 12 (ws2 := (A 6, .inr (4, [.ref (A 17), .int (nI ((lowF (ltF L F) (midV (lits L F 60) - d) (nts L 60)).1.length))])) :: (x, .inr (7, [.ref (A 0), .int (nI ns), .ref (A 1), .int (nI nr), .ref (A 2), .ref (A 3), .ref (A 4), .ref (A 5), .ref (A 6), .ref (A 7), .ref (A 8), .ref (A 9), .long to, .int al, .int wa, .int lf, .ref (A 10)])) :: (A 0, .inl (G.2.1.2.2.1, 12, .inr (.inr (.inr (.inr sa))))) :: (s, .inr (6, [.int kd, .ref la, .int (1 : Int32), .int wc])) :: (la, .inl (G.2.1.1, 60, .inl L)) :: (A 2, .inl (G.2.1.1, 60, .inl F)) :: (A 3, .inr (1, [.ref (A 11), .ref (A 12), .int (nI (nN L))])) :: (A 11, .inl (G.2.1.1, 60, .inl t1)) :: (A 12, .inl (G.2.1.1, 60, .inl u1)) :: (A 4, .inr (0, [.ref (A 13), .int (nI (nN L))])) :: (A 13, .inl (G.2.1.1, 60, .inl nu1)) :: (A 17, .inl (G.2.1.1, 60, .inl lt1)) :: r) rfl rfl ?_
  refine J.callV 0 (st := []) B (c_X4_has l G _ (sz := (lowF (ltF L F) (midV (lits L F 60) - d) (nts L 60)).1.length) (i := i) hll) ml_X7_208 mf_yX4_has mi_yX4_has rfl dX7_late_27 rfl rfl rfl rfl (fun v_4 w_5 hp_6 => ?_)
  obtain ⟨rfl, rfl⟩ := hp_6
  refine J.re [1, 2, 3, 4, 5, 6, 7, 8, 9, 10, 0, 11] 12 (ws2 := (x, .inr (7, [.ref (A 0), .int (nI ns), .ref (A 1), .int (nI nr), .ref (A 2), .ref (A 3), .ref (A 4), .ref (A 5), .ref (A 6), .ref (A 7), .ref (A 8), .ref (A 9), .long to, .int al, .int wa, .int lf, .ref (A 10)])) :: (A 0, .inl (G.2.1.2.2.1, 12, .inr (.inr (.inr (.inr sa))))) :: (s, .inr (6, [.int kd, .ref la, .int (1 : Int32), .int wc])) :: (la, .inl (G.2.1.1, 60, .inl L)) :: (A 2, .inl (G.2.1.1, 60, .inl F)) :: (A 3, .inr (1, [.ref (A 11), .ref (A 12), .int (nI (nN L))])) :: (A 11, .inl (G.2.1.1, 60, .inl t1)) :: (A 12, .inl (G.2.1.1, 60, .inl u1)) :: (A 4, .inr (0, [.ref (A 13), .int (nI (nN L))])) :: (A 13, .inl (G.2.1.1, 60, .inl nu1)) :: (A 6, .inr (4, [.ref (A 17), .int (nI ((lowF (ltF L F) (midV (lits L F 60) - d) (nts L 60)).1.length))])) :: (A 17, .inl (G.2.1.1, 60, .inl lt1)) :: r) rfl rfl ?_
  show J G X mX7_late _ _ _ 30 _ [.int (b01 (decide (0 ≤ i ∧ i < nI (lowF (ltF L F) (midV (lits L F 60) - d) (nts L 60)).1.length)))]
  refine J.if_eq dX7_late_30 (fun h9 => ?_) (fun z => absurd (by rw [decide_eq_false hi]; rfl) z)
  refine J.bipush (-9 : Int32) dX7_late_59 rfl ?_
  exact J.iret B dX7_late_61 rfl (⟨t1, u1, nu1, lt1, rfl, rfl⟩)
set_option maxHeartbeats 4000000 in
set_option maxRecDepth 100000 in
theorem i_late (l : Launch) (G : jG) (r : va_W) {x : Nat} {A : Nat → Nat} {ns nr : Nat} {to : Int64} {al wa lf : Int32} {sa : Nat → Option Nat} {la : Nat} {kd wc : Int32} {k s : Nat} (hk : k < ns) (hns : ns ≤ 12) (hsa : sa k = some s) {d : Int32} {L F : Nat → Int32} {cz : Int32} {t u : Nat → Int32} {zs zl : Int32} {nu lti : Nat → Int32} (hd : inR d 1 10000 = true) (hL : 0 < nN L) {i : Nat} (hi : i < (lowF (ltF L F) (midV (lits L F 60) - d) (nts L 60)).1.length) {c : Nat} (hc0 : c < 60) {p q : Nat} (hp1 : 1 ≤ p) (hp2 : p ≤ 600) (hq1 : 1 ≤ q) (hq2 : q ≤ 60) : Mt l G yX7_late mX7_late 6 135 0 0 [.ref x, .int (nI k), .int d, .int (nI i), .int (nI c), .int (nI p), .int (nI q)] ((x, .inr (7, [.ref (A 0), .int (nI ns), .ref (A 1), .int (nI nr), .ref (A 2), .ref (A 3), .ref (A 4), .ref (A 5), .ref (A 6), .ref (A 7), .ref (A 8), .ref (A 9), .long to, .int al, .int wa, .int lf, .ref (A 10)])) :: (A 0, .inl (G.2.1.2.2.1, 12, .inr (.inr (.inr (.inr sa))))) :: (s, .inr (6, [.int kd, .ref la, .int (1 : Int32), .int wc])) :: (la, .inl (G.2.1.1, 60, .inl L)) :: (A 2, .inl (G.2.1.1, 60, .inl F)) :: (A 3, .inr (1, [.ref (A 11), .ref (A 12), .int cz])) :: (A 11, .inl (G.2.1.1, 60, .inl t)) :: (A 12, .inl (G.2.1.1, 60, .inl u)) :: (A 4, .inr (0, [.ref (A 13), .int zs])) :: (A 13, .inl (G.2.1.1, 60, .inl nu)) :: (A 6, .inr (4, [.ref (A 17), .int zl])) :: (A 17, .inl (G.2.1.1, 60, .inl lti)) :: r) (fun v w => ∃ t1 u1 nu1 lt1, v = some (.int 1) ∧ w = (x, .inr (7, [.ref (A 0), .int (nI ns), .ref (A 1), .int (nI nr), .ref (A 2), .ref (A 3), .ref (A 4), .ref (A 5), .ref (A 6), .ref (A 7), .ref (A 8), .ref (A 9), .long (Int64.ofInt (laI (rg (lowF (ltF L F) (midV (lits L F 60) - d) (nts L 60)).1 i) c p q)), .int al, .int wa, .int lf, .ref (A 10)])) :: (A 0, .inl (G.2.1.2.2.1, 12, .inr (.inr (.inr (.inr sa))))) :: (s, .inr (6, [.int kd, .ref la, .int (1 : Int32), .int wc])) :: (la, .inl (G.2.1.1, 60, .inl L)) :: (A 2, .inl (G.2.1.1, 60, .inl F)) :: (A 3, .inr (1, [.ref (A 11), .ref (A 12), .int (nI (nN L))])) :: (A 11, .inl (G.2.1.1, 60, .inl t1)) :: (A 12, .inl (G.2.1.1, 60, .inl u1)) :: (A 4, .inr (0, [.ref (A 13), .int (nI (nN L))])) :: (A 13, .inl (G.2.1.1, 60, .inl nu1)) :: (A 6, .inr (4, [.ref (A 17), .int (nI ((lowF (ltF L F) (midV (lits L F 60) - d) (nts L 60)).1.length))])) :: (A 17, .inl (G.2.1.1, 60, .inl lt1)) :: r) := by
  refine Mt.of (by decide +kernel) rfl rfl (fun X B => ?_)
  show J G X mX7_late ((x, .inr (7, [.ref (A 0), .int (nI ns), .ref (A 1), .int (nI nr), .ref (A 2), .ref (A 3), .ref (A 4), .ref (A 5), .ref (A 6), .ref (A 7), .ref (A 8), .ref (A 9), .long to, .int al, .int wa, .int lf, .ref (A 10)])) :: (A 0, .inl (G.2.1.2.2.1, 12, .inr (.inr (.inr (.inr sa))))) :: (s, .inr (6, [.int kd, .ref la, .int (1 : Int32), .int wc])) :: (la, .inl (G.2.1.1, 60, .inl L)) :: (A 2, .inl (G.2.1.1, 60, .inl F)) :: (A 3, .inr (1, [.ref (A 11), .ref (A 12), .int cz])) :: (A 11, .inl (G.2.1.1, 60, .inl t)) :: (A 12, .inl (G.2.1.1, 60, .inl u)) :: (A 4, .inr (0, [.ref (A 13), .int zs])) :: (A 13, .inl (G.2.1.1, 60, .inl nu)) :: (A 6, .inr (4, [.ref (A 17), .int zl])) :: (A 17, .inl (G.2.1.1, 60, .inl lti)) :: r) 0 0 0 [(0, .ref x), (1, .int (nI k)), (2, .int d), (3, .int (nI i)), (4, .int (nI c)), (5, .int (nI p)), (6, .int (nI q))] []
  have hll : (lowF (ltF L F) (midV (lits L F 60) - d) (nts L 60)).1.length ≤ 60 := Nat.le_trans (lowF_le _ _ _) (nN_le L)
  have hi2 : (0 : Int32) ≤ nI i ∧ nI i < nI (lowF (ltF L F) (midV (lits L F 60) - d) (nts L 60)).1.length := ⟨nI_pos' (by omega), nI_lt hi (by omega)⟩
  have hlw : rg (lowF (ltF L F) (midV (lits L F 60) - d) (nts L 60)).1 i < 60 := (mem_nts.mp (lowF_mem (rg_mem hi))).1
  have hpq : (inR (nI p) 1 600 && inR (nI q) 1 60) = true := by
    rw [nI_inR (by omega), nI_inR (by omega), decide_eq_true (p := (1 : Int) ≤ (p : Int) ∧ (p : Int) ≤ 600) ⟨by omega, by omega⟩, decide_eq_true (p := (1 : Int) ≤ (q : Int) ∧ (q : Int) ≤ 60) ⟨by omega, by omega⟩]
    rfl
  have hc : (inR (nI c) 0 59 && (inR (nI p) 1 600 && inR (nI q) 1 60)) = true := by
    rw [hpq, nI_inR (by omega), decide_eq_true (p := (0 : Int) ≤ (c : Int) ∧ (c : Int) ≤ 59) ⟨by omega, by omega⟩]
    rfl
  have hbd := la_bd (k := rg (lowF (ltF L F) (midV (lits L F 60) - d) (nts L 60)).1 i) (c := c) (q := q) hp1 hp2
  refine J.aload_n 0 dX7_late_0 rfl ?_
  refine J.iload_n 1 dX7_late_1 rfl ?_
  refine J.iload_n 2 dX7_late_2 rfl ?_
  refine J.iload 4 dX7_late_3 rfl ?_
  refine J.iload 5 dX7_late_5 rfl ?_
  refine J.iload 6 dX7_late_7 rfl ?_
  refine J.callV 0 (st := []) B (c_X7_glc l G _ hk hns hsa hc hd hL) ml_X7_212 mf_yX7_gatherLowsOnClock mi_yX7_gatherLowsOnClock rfl dX7_late_9 rfl rfl rfl rfl (fun v_1 w_2 hp_3 => ?_)
  obtain ⟨t1, u1, nu1, lt1, hlt, rfl, rfl⟩ := hp_3
  show J G X mX7_late _ _ _ 12 _ [.int (0 : Int32)]
  refine J.istore [1, 2, 3, 4, 5, 6, 7, 0] (lv' := [(0, .ref x), (1, .int (nI k)), (2, .int d), (3, .int (nI i)), (4, .int (nI c)), (5, .int (nI p)), (6, .int (nI q)), (7, .int (0 : Int32))]) dX7_late_12 rfl rfl ?_
  refine J.iload 7 dX7_late_14 rfl ?_
  refine J.if_eq dX7_late_16 (fun _ => ?_) (fun z => absurd z (by decide))
  refine J.aload_n 0 dX7_late_22 rfl ?_
  refine J.get 0 fl_X7_49 dX7_late_23 rfl rfl ?_
  refine J.iload_n 3 dX7_late_26 rfl ?_
  refine J.re [10, 0, 1, 2, 3, 4, 5, 6, 7, 8, 9, 11] 12 (ws2 := (A 6, .inr (4, [.ref (A 17), .int (nI ((lowF (ltF L F) (midV (lits L F 60) - d) (nts L 60)).1.length))])) :: (x, .inr (7, [.ref (A 0), .int (nI ns), .ref (A 1), .int (nI nr), .ref (A 2), .ref (A 3), .ref (A 4), .ref (A 5), .ref (A 6), .ref (A 7), .ref (A 8), .ref (A 9), .long to, .int al, .int wa, .int lf, .ref (A 10)])) :: (A 0, .inl (G.2.1.2.2.1, 12, .inr (.inr (.inr (.inr sa))))) :: (s, .inr (6, [.int kd, .ref la, .int (1 : Int32), .int wc])) :: (la, .inl (G.2.1.1, 60, .inl L)) :: (A 2, .inl (G.2.1.1, 60, .inl F)) :: (A 3, .inr (1, [.ref (A 11), .ref (A 12), .int (nI (nN L))])) :: (A 11, .inl (G.2.1.1, 60, .inl t1)) :: (A 12, .inl (G.2.1.1, 60, .inl u1)) :: (A 4, .inr (0, [.ref (A 13), .int (nI (nN L))])) :: (A 13, .inl (G.2.1.1, 60, .inl nu1)) :: (A 17, .inl (G.2.1.1, 60, .inl lt1)) :: r) rfl rfl ?_
  refine J.callV 0 (st := []) B (c_X4_has l G _ (sz := (lowF (ltF L F) (midV (lits L F 60) - d) (nts L 60)).1.length) (i := nI i) hll) ml_X7_208 mf_yX4_has mi_yX4_has rfl dX7_late_27 rfl rfl rfl rfl (fun v_4 w_5 hp_6 => ?_)
  obtain ⟨rfl, rfl⟩ := hp_6
  refine J.re [1, 2, 3, 4, 5, 6, 7, 8, 9, 10, 0, 11] 12 (ws2 := (x, .inr (7, [.ref (A 0), .int (nI ns), .ref (A 1), .int (nI nr), .ref (A 2), .ref (A 3), .ref (A 4), .ref (A 5), .ref (A 6), .ref (A 7), .ref (A 8), .ref (A 9), .long to, .int al, .int wa, .int lf, .ref (A 10)])) :: (A 0, .inl (G.2.1.2.2.1, 12, .inr (.inr (.inr (.inr sa))))) :: (s, .inr (6, [.int kd, .ref la, .int (1 : Int32), .int wc])) :: (la, .inl (G.2.1.1, 60, .inl L)) :: (A 2, .inl (G.2.1.1, 60, .inl F)) :: (A 3, .inr (1, [.ref (A 11), .ref (A 12), .int (nI (nN L))])) :: (A 11, .inl (G.2.1.1, 60, .inl t1)) :: (A 12, .inl (G.2.1.1, 60, .inl u1)) :: (A 4, .inr (0, [.ref (A 13), .int (nI (nN L))])) :: (A 13, .inl (G.2.1.1, 60, .inl nu1)) :: (A 6, .inr (4, [.ref (A 17), .int (nI ((lowF (ltF L F) (midV (lits L F 60) - d) (nts L 60)).1.length))])) :: (A 17, .inl (G.2.1.1, 60, .inl lt1)) :: r) rfl rfl ?_
  show J G X mX7_late _ _ _ 30 _ [.int (b01 (decide (0 ≤ (nI i) ∧ (nI i) < nI (lowF (ltF L F) (midV (lits L F 60) - d) (nts L 60)).1.length)))]
  refine J.if_eq dX7_late_30 (fun z => absurd z (by rw [decide_eq_true hi2]; decide)) (fun h9 => ?_)
  refine J.aload_n 0 dX7_late_33 rfl ?_
  refine J.aload_n 0 dX7_late_34 rfl ?_
  refine J.get 0 fl_X7_49 dX7_late_35 rfl rfl ?_
  refine J.get 10 fl_X7_211 dX7_late_38 rfl rfl ?_
  refine J.iload_n 3 dX7_late_41 rfl ?_
  refine J.iald 11 (i) dX7_late_42 rfl (rfl) (by omega) (by decide) ?_
  refine J.topi (y := nI (rg (lowF (ltF L F) (midV (lits L F 60) - d) (nts L 60)).1 i)) (AG_rg hlt (by omega)) ?_
  refine J.iload 4 dX7_late_43 rfl ?_
  refine J.iload 5 dX7_late_45 rfl ?_
  refine J.iload 6 dX7_late_47 rfl ?_
  refine J.callS (st := [.ref x]) B (c_X7_lateOfTime l G _ hlw hc0 hp1 hp2 hq2) ml_X7_219 mf_yX7_lateOfTime mS_yX7_lateOfTime dX7_late_49 rfl rfl rfl (fun v_7 w_8 hp_9 => ?_)
  obtain ⟨rfl, rfl⟩ := hp_9
  show J G X mX7_late _ _ _ 52 _ [.int (Int32.ofInt (laI (rg (lowF (ltF L F) (midV (lits L F 60) - d) (nts L 60)).1 i) c p q)), .ref x]
  refine J.i2l dX7_late_52 ?_
  refine J.topl (y := Int64.ofInt (laI (rg (lowF (ltF L F) (midV (lits L F 60) - d) (nts L 60)).1 i) c p q)) (wide_ofI (by omega) (by omega)) ?_
  refine J.callV 0 (st := []) B (c_X7_tell l G _ (t0 := Int64.ofInt (laI (rg (lowF (ltF L F) (midV (lits L F 60) - d) (nts L 60)).1 i) c p q))) ml_X7_115 mf_yX7_tell mi_yX7_tell rfl dX7_late_53 rfl rfl rfl rfl (fun v_10 w_11 hp_12 => ?_)
  obtain ⟨rfl, rfl⟩ := hp_12
  show J G X mX7_late _ _ _ 56 _ [.int (1 : Int32)]
  refine J.goto dX7_late_56 ?_
  exact J.iret B dX7_late_61 rfl (⟨t1, u1, nu1, lt1, rfl, rfl⟩)
set_option maxHeartbeats 4000000 in
set_option maxRecDepth 100000 in
theorem i_bent_clk (l : Launch) (G : jG) (r : va_W) {x : Nat} {A : Nat → Nat} {ns nr : Nat} {to : Int64} {al wa lf : Int32} {num d : Int32} {c p q : Int32} {i : Int32} (hc : (inR c 0 59 && (inR p 1 600 && inR q 1 60)) = false) : Mt l G yX7_bent mX7_bent 6 135 0 0 [.ref x, .int num, .int d, .int i, .int c, .int p, .int q] ((x, .inr (7, [.ref (A 0), .int (nI ns), .ref (A 1), .int (nI nr), .ref (A 2), .ref (A 3), .ref (A 4), .ref (A 5), .ref (A 6), .ref (A 7), .ref (A 8), .ref (A 9), .long to, .int al, .int wa, .int lf, .ref (A 10)])) :: r) (fun v w => v = some (.int (-1 : Int32)) ∧ w = (x, .inr (7, [.ref (A 0), .int (nI ns), .ref (A 1), .int (nI nr), .ref (A 2), .ref (A 3), .ref (A 4), .ref (A 5), .ref (A 6), .ref (A 7), .ref (A 8), .ref (A 9), .long to, .int al, .int wa, .int lf, .ref (A 10)])) :: r) := by
  refine Mt.of (by decide +kernel) rfl rfl (fun X B => ?_)
  show J G X mX7_bent ((x, .inr (7, [.ref (A 0), .int (nI ns), .ref (A 1), .int (nI nr), .ref (A 2), .ref (A 3), .ref (A 4), .ref (A 5), .ref (A 6), .ref (A 7), .ref (A 8), .ref (A 9), .long to, .int al, .int wa, .int lf, .ref (A 10)])) :: r) 0 0 0 [(0, .ref x), (1, .int num), (2, .int d), (3, .int i), (4, .int c), (5, .int p), (6, .int q)] []
  refine J.aload_n 0 dX7_bent_0 rfl ?_
  refine J.iload_n 1 dX7_bent_1 rfl ?_
  refine J.iload_n 2 dX7_bent_2 rfl ?_
  refine J.iload 4 dX7_bent_3 rfl ?_
  refine J.iload 5 dX7_bent_5 rfl ?_
  refine J.iload 6 dX7_bent_7 rfl ?_
  refine J.callV 0 (st := []) B (c_X7_glc_clk l G _ hc) ml_X7_212 mf_yX7_gatherLowsOnClock mi_yX7_gatherLowsOnClock rfl dX7_bent_9 rfl rfl rfl rfl (fun v_1 w_2 hp_3 => ?_)
  obtain ⟨rfl, rfl⟩ := hp_3
  show J G X mX7_bent _ _ _ 12 _ [.int (-1 : Int32)]
  refine J.istore [1, 2, 3, 4, 5, 6, 7, 0] (lv' := [(0, .ref x), (1, .int num), (2, .int d), (3, .int i), (4, .int c), (5, .int p), (6, .int q), (7, .int (-1 : Int32))]) dX7_bent_12 rfl rfl ?_
  refine J.iload 7 dX7_bent_14 rfl ?_
  refine J.if_eq dX7_bent_16 (fun z => absurd z (by decide)) (fun _ => ?_)
  refine J.iload 7 dX7_bent_19 rfl ?_
  exact J.iret B dX7_bent_21 rfl (⟨rfl, rfl⟩)
set_option maxHeartbeats 4000000 in
set_option maxRecDepth 100000 in
theorem i_bent_d (l : Launch) (G : jG) (r : va_W) {x : Nat} {A : Nat → Nat} {ns nr : Nat} {to : Int64} {al wa lf : Int32} {num d : Int32} {c p q : Int32} {i : Int32} (hc : (inR c 0 59 && (inR p 1 600 && inR q 1 60)) = true) (hd : inR d 1 10000 = false) : Mt l G yX7_bent mX7_bent 6 135 0 0 [.ref x, .int num, .int d, .int i, .int c, .int p, .int q] ((x, .inr (7, [.ref (A 0), .int (nI ns), .ref (A 1), .int (nI nr), .ref (A 2), .ref (A 3), .ref (A 4), .ref (A 5), .ref (A 6), .ref (A 7), .ref (A 8), .ref (A 9), .long to, .int al, .int wa, .int lf, .ref (A 10)])) :: r) (fun v w => v = some (.int (-1 : Int32)) ∧ w = (x, .inr (7, [.ref (A 0), .int (nI ns), .ref (A 1), .int (nI nr), .ref (A 2), .ref (A 3), .ref (A 4), .ref (A 5), .ref (A 6), .ref (A 7), .ref (A 8), .ref (A 9), .long to, .int al, .int wa, .int lf, .ref (A 10)])) :: r) := by
  refine Mt.of (by decide +kernel) rfl rfl (fun X B => ?_)
  show J G X mX7_bent ((x, .inr (7, [.ref (A 0), .int (nI ns), .ref (A 1), .int (nI nr), .ref (A 2), .ref (A 3), .ref (A 4), .ref (A 5), .ref (A 6), .ref (A 7), .ref (A 8), .ref (A 9), .long to, .int al, .int wa, .int lf, .ref (A 10)])) :: r) 0 0 0 [(0, .ref x), (1, .int num), (2, .int d), (3, .int i), (4, .int c), (5, .int p), (6, .int q)] []
  refine J.aload_n 0 dX7_bent_0 rfl ?_
  refine J.iload_n 1 dX7_bent_1 rfl ?_
  refine J.iload_n 2 dX7_bent_2 rfl ?_
  refine J.iload 4 dX7_bent_3 rfl ?_
  refine J.iload 5 dX7_bent_5 rfl ?_
  refine J.iload 6 dX7_bent_7 rfl ?_
  refine J.callV 0 (st := []) B (c_X7_glc_d l G _ hc hd) ml_X7_212 mf_yX7_gatherLowsOnClock mi_yX7_gatherLowsOnClock rfl dX7_bent_9 rfl rfl rfl rfl (fun v_1 w_2 hp_3 => ?_)
  obtain ⟨rfl, rfl⟩ := hp_3
  show J G X mX7_bent _ _ _ 12 _ [.int (-1 : Int32)]
  refine J.istore [1, 2, 3, 4, 5, 6, 7, 0] (lv' := [(0, .ref x), (1, .int num), (2, .int d), (3, .int i), (4, .int c), (5, .int p), (6, .int q), (7, .int (-1 : Int32))]) dX7_bent_12 rfl rfl ?_
  refine J.iload 7 dX7_bent_14 rfl ?_
  refine J.if_eq dX7_bent_16 (fun z => absurd z (by decide)) (fun _ => ?_)
  refine J.iload 7 dX7_bent_19 rfl ?_
  exact J.iret B dX7_bent_21 rfl (⟨rfl, rfl⟩)
set_option maxHeartbeats 4000000 in
set_option maxRecDepth 100000 in
theorem i_bent_bad (l : Launch) (G : jG) (r : va_W) {x : Nat} {A : Nat → Nat} {ns nr : Nat} {to : Int64} {al wa lf : Int32} {sa : Nat → Option Nat} {num : Int32} (hns : ns ≤ 12) (hnum : inR num 0 ((ns : Int) - 1) = false) {d : Int32} {c p q : Int32} {i : Int32} (hc : (inR c 0 59 && (inR p 1 600 && inR q 1 60)) = true) (hd : inR d 1 10000 = true) : Mt l G yX7_bent mX7_bent 6 135 0 0 [.ref x, .int num, .int d, .int i, .int c, .int p, .int q] ((x, .inr (7, [.ref (A 0), .int (nI ns), .ref (A 1), .int (nI nr), .ref (A 2), .ref (A 3), .ref (A 4), .ref (A 5), .ref (A 6), .ref (A 7), .ref (A 8), .ref (A 9), .long to, .int al, .int wa, .int lf, .ref (A 10)])) :: (A 0, .inl (G.2.1.2.2.1, 12, .inr (.inr (.inr (.inr sa))))) :: r) (fun v w => v = some (.int (-1 : Int32)) ∧ w = (x, .inr (7, [.ref (A 0), .int (nI ns), .ref (A 1), .int (nI nr), .ref (A 2), .ref (A 3), .ref (A 4), .ref (A 5), .ref (A 6), .ref (A 7), .ref (A 8), .ref (A 9), .long to, .int al, .int wa, .int lf, .ref (A 10)])) :: (A 0, .inl (G.2.1.2.2.1, 12, .inr (.inr (.inr (.inr sa))))) :: r) := by
  refine Mt.of (by decide +kernel) rfl rfl (fun X B => ?_)
  show J G X mX7_bent ((x, .inr (7, [.ref (A 0), .int (nI ns), .ref (A 1), .int (nI nr), .ref (A 2), .ref (A 3), .ref (A 4), .ref (A 5), .ref (A 6), .ref (A 7), .ref (A 8), .ref (A 9), .long to, .int al, .int wa, .int lf, .ref (A 10)])) :: (A 0, .inl (G.2.1.2.2.1, 12, .inr (.inr (.inr (.inr sa))))) :: r) 0 0 0 [(0, .ref x), (1, .int num), (2, .int d), (3, .int i), (4, .int c), (5, .int p), (6, .int q)] []
  refine J.aload_n 0 dX7_bent_0 rfl ?_
  refine J.iload_n 1 dX7_bent_1 rfl ?_
  refine J.iload_n 2 dX7_bent_2 rfl ?_
  refine J.iload 4 dX7_bent_3 rfl ?_
  refine J.iload 5 dX7_bent_5 rfl ?_
  refine J.iload 6 dX7_bent_7 rfl ?_
  refine J.callV 0 (st := []) B (c_X7_glc_bad l G _ hns hnum hc hd) ml_X7_212 mf_yX7_gatherLowsOnClock mi_yX7_gatherLowsOnClock rfl dX7_bent_9 rfl rfl rfl rfl (fun v_1 w_2 hp_3 => ?_)
  obtain ⟨rfl, rfl⟩ := hp_3
  show J G X mX7_bent _ _ _ 12 _ [.int (-1 : Int32)]
  refine J.istore [1, 2, 3, 4, 5, 6, 7, 0] (lv' := [(0, .ref x), (1, .int num), (2, .int d), (3, .int i), (4, .int c), (5, .int p), (6, .int q), (7, .int (-1 : Int32))]) dX7_bent_12 rfl rfl ?_
  refine J.iload 7 dX7_bent_14 rfl ?_
  refine J.if_eq dX7_bent_16 (fun z => absurd z (by decide)) (fun _ => ?_)
  refine J.iload 7 dX7_bent_19 rfl ?_
  exact J.iret B dX7_bent_21 rfl (⟨rfl, rfl⟩)
set_option maxHeartbeats 4000000 in
set_option maxRecDepth 100000 in
theorem i_bent_no (l : Launch) (G : jG) (r : va_W) {x : Nat} {A : Nat → Nat} {ns nr : Nat} {to : Int64} {al wa lf : Int32} {sa : Nat → Option Nat} {la : Nat} {kd wc : Int32} {k s : Nat} (hk : k < ns) (hns : ns ≤ 12) (hsa : sa k = some s) {d : Int32} {c p q : Int32} {i : Int32} {fc : Nat → Int32} (hc : (inR c 0 59 && (inR p 1 600 && inR q 1 60)) = true) (hd : inR d 1 10000 = true) : Mt l G yX7_bent mX7_bent 6 135 0 0 [.ref x, .int (nI k), .int d, .int i, .int c, .int p, .int q] ((x, .inr (7, [.ref (A 0), .int (nI ns), .ref (A 1), .int (nI nr), .ref (A 2), .ref (A 3), .ref (A 4), .ref (A 5), .ref (A 6), .ref (A 7), .ref (A 8), .ref (A 9), .long to, .int al, .int wa, .int lf, .ref (A 10)])) :: (A 0, .inl (G.2.1.2.2.1, 12, .inr (.inr (.inr (.inr sa))))) :: (s, .inr (6, [.int kd, .ref la, .int (0 : Int32), .int wc])) :: (A 10, .inl (G.2.1.1, 6, .inl fc)) :: r) (fun v w => v = some (.int (-3 : Int32)) ∧ w = (x, .inr (7, [.ref (A 0), .int (nI ns), .ref (A 1), .int (nI nr), .ref (A 2), .ref (A 3), .ref (A 4), .ref (A 5), .ref (A 6), .ref (A 7), .ref (A 8), .ref (A 9), .long to, .int al, .int wa, .int (nI 1), .ref (A 10)])) :: (A 0, .inl (G.2.1.2.2.1, 12, .inr (.inr (.inr (.inr sa))))) :: (s, .inr (6, [.int kd, .ref la, .int (0 : Int32), .int wc])) :: (A 10, .inl (G.2.1.1, 6, .inl (upd fc 1 (fc 1 + 1)))) :: r) := by
  refine Mt.of (by decide +kernel) rfl rfl (fun X B => ?_)
  show J G X mX7_bent ((x, .inr (7, [.ref (A 0), .int (nI ns), .ref (A 1), .int (nI nr), .ref (A 2), .ref (A 3), .ref (A 4), .ref (A 5), .ref (A 6), .ref (A 7), .ref (A 8), .ref (A 9), .long to, .int al, .int wa, .int lf, .ref (A 10)])) :: (A 0, .inl (G.2.1.2.2.1, 12, .inr (.inr (.inr (.inr sa))))) :: (s, .inr (6, [.int kd, .ref la, .int (0 : Int32), .int wc])) :: (A 10, .inl (G.2.1.1, 6, .inl fc)) :: r) 0 0 0 [(0, .ref x), (1, .int (nI k)), (2, .int d), (3, .int i), (4, .int c), (5, .int p), (6, .int q)] []
  refine J.aload_n 0 dX7_bent_0 rfl ?_
  refine J.iload_n 1 dX7_bent_1 rfl ?_
  refine J.iload_n 2 dX7_bent_2 rfl ?_
  refine J.iload 4 dX7_bent_3 rfl ?_
  refine J.iload 5 dX7_bent_5 rfl ?_
  refine J.iload 6 dX7_bent_7 rfl ?_
  refine J.callV 0 (st := []) B (c_X7_glc_no l G _ hk hns hsa hc hd) ml_X7_212 mf_yX7_gatherLowsOnClock mi_yX7_gatherLowsOnClock rfl dX7_bent_9 rfl rfl rfl rfl (fun v_1 w_2 hp_3 => ?_)
  obtain ⟨rfl, rfl⟩ := hp_3
  show J G X mX7_bent _ _ _ 12 _ [.int (-3 : Int32)]
  refine J.istore [1, 2, 3, 4, 5, 6, 7, 0] (lv' := [(0, .ref x), (1, .int (nI k)), (2, .int d), (3, .int i), (4, .int c), (5, .int p), (6, .int q), (7, .int (-3 : Int32))]) dX7_bent_12 rfl rfl ?_
  refine J.iload 7 dX7_bent_14 rfl ?_
  refine J.if_eq dX7_bent_16 (fun z => absurd z (by decide)) (fun _ => ?_)
  refine J.iload 7 dX7_bent_19 rfl ?_
  exact J.iret B dX7_bent_21 rfl (⟨rfl, rfl⟩)
set_option maxHeartbeats 4000000 in
set_option maxRecDepth 100000 in
theorem i_bent_nought (l : Launch) (G : jG) (r : va_W) {x : Nat} {A : Nat → Nat} {ns nr : Nat} {to : Int64} {al wa lf : Int32} {sa : Nat → Option Nat} {la : Nat} {kd wc : Int32} {k s : Nat} (hk : k < ns) (hns : ns ≤ 12) (hsa : sa k = some s) {d : Int32} {c p q : Int32} {i : Int32} {L F : Nat → Int32} {cz : Int32} {t u : Nat → Int32} {fc : Nat → Int32} (hc : (inR c 0 59 && (inR p 1 600 && inR q 1 60)) = true) (hd : inR d 1 10000 = true) (hL : nN L = 0) : Mt l G yX7_bent mX7_bent 6 135 0 0 [.ref x, .int (nI k), .int d, .int i, .int c, .int p, .int q] ((x, .inr (7, [.ref (A 0), .int (nI ns), .ref (A 1), .int (nI nr), .ref (A 2), .ref (A 3), .ref (A 4), .ref (A 5), .ref (A 6), .ref (A 7), .ref (A 8), .ref (A 9), .long to, .int al, .int wa, .int lf, .ref (A 10)])) :: (A 0, .inl (G.2.1.2.2.1, 12, .inr (.inr (.inr (.inr sa))))) :: (s, .inr (6, [.int kd, .ref la, .int (1 : Int32), .int wc])) :: (la, .inl (G.2.1.1, 60, .inl L)) :: (A 2, .inl (G.2.1.1, 60, .inl F)) :: (A 3, .inr (1, [.ref (A 11), .ref (A 12), .int cz])) :: (A 11, .inl (G.2.1.1, 60, .inl t)) :: (A 12, .inl (G.2.1.1, 60, .inl u)) :: (A 10, .inl (G.2.1.1, 6, .inl fc)) :: r) (fun v w => ∃ t1 u1, v = some (.int (-3)) ∧ w = (x, .inr (7, [.ref (A 0), .int (nI ns), .ref (A 1), .int (nI nr), .ref (A 2), .ref (A 3), .ref (A 4), .ref (A 5), .ref (A 6), .ref (A 7), .ref (A 8), .ref (A 9), .long to, .int al, .int wa, .int (nI 4), .ref (A 10)])) :: (A 0, .inl (G.2.1.2.2.1, 12, .inr (.inr (.inr (.inr sa))))) :: (s, .inr (6, [.int kd, .ref la, .int (1 : Int32), .int wc])) :: (la, .inl (G.2.1.1, 60, .inl L)) :: (A 2, .inl (G.2.1.1, 60, .inl F)) :: (A 3, .inr (1, [.ref (A 11), .ref (A 12), .int (nI (nN L))])) :: (A 11, .inl (G.2.1.1, 60, .inl t1)) :: (A 12, .inl (G.2.1.1, 60, .inl u1)) :: (A 10, .inl (G.2.1.1, 6, .inl (upd fc 4 (fc 4 + 1)))) :: r) := by
  refine Mt.of (by decide +kernel) rfl rfl (fun X B => ?_)
  show J G X mX7_bent ((x, .inr (7, [.ref (A 0), .int (nI ns), .ref (A 1), .int (nI nr), .ref (A 2), .ref (A 3), .ref (A 4), .ref (A 5), .ref (A 6), .ref (A 7), .ref (A 8), .ref (A 9), .long to, .int al, .int wa, .int lf, .ref (A 10)])) :: (A 0, .inl (G.2.1.2.2.1, 12, .inr (.inr (.inr (.inr sa))))) :: (s, .inr (6, [.int kd, .ref la, .int (1 : Int32), .int wc])) :: (la, .inl (G.2.1.1, 60, .inl L)) :: (A 2, .inl (G.2.1.1, 60, .inl F)) :: (A 3, .inr (1, [.ref (A 11), .ref (A 12), .int cz])) :: (A 11, .inl (G.2.1.1, 60, .inl t)) :: (A 12, .inl (G.2.1.1, 60, .inl u)) :: (A 10, .inl (G.2.1.1, 6, .inl fc)) :: r) 0 0 0 [(0, .ref x), (1, .int (nI k)), (2, .int d), (3, .int i), (4, .int c), (5, .int p), (6, .int q)] []
  refine J.aload_n 0 dX7_bent_0 rfl ?_
  refine J.iload_n 1 dX7_bent_1 rfl ?_
  refine J.iload_n 2 dX7_bent_2 rfl ?_
  refine J.iload 4 dX7_bent_3 rfl ?_
  refine J.iload 5 dX7_bent_5 rfl ?_
  refine J.iload 6 dX7_bent_7 rfl ?_
  refine J.callV 0 (st := []) B (c_X7_glc_nought l G _ hk hns hsa hc hd hL) ml_X7_212 mf_yX7_gatherLowsOnClock mi_yX7_gatherLowsOnClock rfl dX7_bent_9 rfl rfl rfl rfl (fun v_1 w_2 hp_3 => ?_)
  obtain ⟨t1, u1, rfl, rfl⟩ := hp_3
  show J G X mX7_bent _ _ _ 12 _ [.int (-3 : Int32)]
  refine J.istore [1, 2, 3, 4, 5, 6, 7, 0] (lv' := [(0, .ref x), (1, .int (nI k)), (2, .int d), (3, .int i), (4, .int c), (5, .int p), (6, .int q), (7, .int (-3 : Int32))]) dX7_bent_12 rfl rfl ?_
  refine J.iload 7 dX7_bent_14 rfl ?_
  refine J.if_eq dX7_bent_16 (fun z => absurd z (by decide)) (fun _ => ?_)
  refine J.iload 7 dX7_bent_19 rfl ?_
  exact J.iret B dX7_bent_21 rfl (⟨t1, u1, rfl, rfl⟩)
set_option maxHeartbeats 4000000 in
set_option maxRecDepth 100000 in
theorem i_bent_none1 (l : Launch) (G : jG) (r : va_W) {x : Nat} {A : Nat → Nat} {ns nr : Nat} {to : Int64} {al wa lf : Int32} {sa : Nat → Option Nat} {la : Nat} {kd wc : Int32} {k s : Nat} (hk : k < ns) (hns : ns ≤ 12) (hsa : sa k = some s) {d : Int32} {c p q : Int32} {i : Int32} {L F : Nat → Int32} {cz : Int32} {t u : Nat → Int32} {zs zl : Int32} {nu lti : Nat → Int32} (hc : (inR c 0 59 && (inR p 1 600 && inR q 1 60)) = true) (hd : inR d 1 10000 = true) (hL : 0 < nN L) (hi : ¬ (0 ≤ i ∧ i < nI (lowF (ltF L F) (midV (lits L F 60) - d) (nts L 60)).1.length)) : Mt l G yX7_bent mX7_bent 6 135 0 0 [.ref x, .int (nI k), .int d, .int i, .int c, .int p, .int q] ((x, .inr (7, [.ref (A 0), .int (nI ns), .ref (A 1), .int (nI nr), .ref (A 2), .ref (A 3), .ref (A 4), .ref (A 5), .ref (A 6), .ref (A 7), .ref (A 8), .ref (A 9), .long to, .int al, .int wa, .int lf, .ref (A 10)])) :: (A 0, .inl (G.2.1.2.2.1, 12, .inr (.inr (.inr (.inr sa))))) :: (s, .inr (6, [.int kd, .ref la, .int (1 : Int32), .int wc])) :: (la, .inl (G.2.1.1, 60, .inl L)) :: (A 2, .inl (G.2.1.1, 60, .inl F)) :: (A 3, .inr (1, [.ref (A 11), .ref (A 12), .int cz])) :: (A 11, .inl (G.2.1.1, 60, .inl t)) :: (A 12, .inl (G.2.1.1, 60, .inl u)) :: (A 4, .inr (0, [.ref (A 13), .int zs])) :: (A 13, .inl (G.2.1.1, 60, .inl nu)) :: (A 6, .inr (4, [.ref (A 17), .int zl])) :: (A 17, .inl (G.2.1.1, 60, .inl lti)) :: r) (fun v w => ∃ t1 u1 nu1 lt1, v = some (.int (-9)) ∧ w = (x, .inr (7, [.ref (A 0), .int (nI ns), .ref (A 1), .int (nI nr), .ref (A 2), .ref (A 3), .ref (A 4), .ref (A 5), .ref (A 6), .ref (A 7), .ref (A 8), .ref (A 9), .long to, .int al, .int wa, .int lf, .ref (A 10)])) :: (A 0, .inl (G.2.1.2.2.1, 12, .inr (.inr (.inr (.inr sa))))) :: (s, .inr (6, [.int kd, .ref la, .int (1 : Int32), .int wc])) :: (la, .inl (G.2.1.1, 60, .inl L)) :: (A 2, .inl (G.2.1.1, 60, .inl F)) :: (A 3, .inr (1, [.ref (A 11), .ref (A 12), .int (nI (nN L))])) :: (A 11, .inl (G.2.1.1, 60, .inl t1)) :: (A 12, .inl (G.2.1.1, 60, .inl u1)) :: (A 4, .inr (0, [.ref (A 13), .int (nI (nN L))])) :: (A 13, .inl (G.2.1.1, 60, .inl nu1)) :: (A 6, .inr (4, [.ref (A 17), .int (nI ((lowF (ltF L F) (midV (lits L F 60) - d) (nts L 60)).1.length))])) :: (A 17, .inl (G.2.1.1, 60, .inl lt1)) :: r) := by
  refine Mt.of (by decide +kernel) rfl rfl (fun X B => ?_)
  show J G X mX7_bent ((x, .inr (7, [.ref (A 0), .int (nI ns), .ref (A 1), .int (nI nr), .ref (A 2), .ref (A 3), .ref (A 4), .ref (A 5), .ref (A 6), .ref (A 7), .ref (A 8), .ref (A 9), .long to, .int al, .int wa, .int lf, .ref (A 10)])) :: (A 0, .inl (G.2.1.2.2.1, 12, .inr (.inr (.inr (.inr sa))))) :: (s, .inr (6, [.int kd, .ref la, .int (1 : Int32), .int wc])) :: (la, .inl (G.2.1.1, 60, .inl L)) :: (A 2, .inl (G.2.1.1, 60, .inl F)) :: (A 3, .inr (1, [.ref (A 11), .ref (A 12), .int cz])) :: (A 11, .inl (G.2.1.1, 60, .inl t)) :: (A 12, .inl (G.2.1.1, 60, .inl u)) :: (A 4, .inr (0, [.ref (A 13), .int zs])) :: (A 13, .inl (G.2.1.1, 60, .inl nu)) :: (A 6, .inr (4, [.ref (A 17), .int zl])) :: (A 17, .inl (G.2.1.1, 60, .inl lti)) :: r) 0 0 0 [(0, .ref x), (1, .int (nI k)), (2, .int d), (3, .int i), (4, .int c), (5, .int p), (6, .int q)] []
  have hll : (lowF (ltF L F) (midV (lits L F 60) - d) (nts L 60)).1.length ≤ 60 := Nat.le_trans (lowF_le _ _ _) (nN_le L)
  refine J.aload_n 0 dX7_bent_0 rfl ?_
  refine J.iload_n 1 dX7_bent_1 rfl ?_
  refine J.iload_n 2 dX7_bent_2 rfl ?_
  refine J.iload 4 dX7_bent_3 rfl ?_
  refine J.iload 5 dX7_bent_5 rfl ?_
  refine J.iload 6 dX7_bent_7 rfl ?_
  refine J.callV 0 (st := []) B (c_X7_glc l G _ hk hns hsa hc hd hL) ml_X7_212 mf_yX7_gatherLowsOnClock mi_yX7_gatherLowsOnClock rfl dX7_bent_9 rfl rfl rfl rfl (fun v_1 w_2 hp_3 => ?_)
  obtain ⟨t1, u1, nu1, lt1, hlt, rfl, rfl⟩ := hp_3
  show J G X mX7_bent _ _ _ 12 _ [.int (0 : Int32)]
  refine J.istore [1, 2, 3, 4, 5, 6, 7, 0] (lv' := [(0, .ref x), (1, .int (nI k)), (2, .int d), (3, .int i), (4, .int c), (5, .int p), (6, .int q), (7, .int (0 : Int32))]) dX7_bent_12 rfl rfl ?_
  refine J.iload 7 dX7_bent_14 rfl ?_
  refine J.if_eq dX7_bent_16 (fun _ => ?_) (fun z => absurd z (by decide))
  refine J.aload_n 0 dX7_bent_22 rfl ?_
  refine J.get 0 fl_X7_49 dX7_bent_23 rfl rfl ?_
  refine J.iload_n 3 dX7_bent_26 rfl ?_
  refine J.re [10, 0, 1, 2, 3, 4, 5, 6, 7, 8, 9, 11] 12 (ws2 := (A 6, .inr (4, [.ref (A 17), .int (nI ((lowF (ltF L F) (midV (lits L F 60) - d) (nts L 60)).1.length))])) :: (x, .inr (7, [.ref (A 0), .int (nI ns), .ref (A 1), .int (nI nr), .ref (A 2), .ref (A 3), .ref (A 4), .ref (A 5), .ref (A 6), .ref (A 7), .ref (A 8), .ref (A 9), .long to, .int al, .int wa, .int lf, .ref (A 10)])) :: (A 0, .inl (G.2.1.2.2.1, 12, .inr (.inr (.inr (.inr sa))))) :: (s, .inr (6, [.int kd, .ref la, .int (1 : Int32), .int wc])) :: (la, .inl (G.2.1.1, 60, .inl L)) :: (A 2, .inl (G.2.1.1, 60, .inl F)) :: (A 3, .inr (1, [.ref (A 11), .ref (A 12), .int (nI (nN L))])) :: (A 11, .inl (G.2.1.1, 60, .inl t1)) :: (A 12, .inl (G.2.1.1, 60, .inl u1)) :: (A 4, .inr (0, [.ref (A 13), .int (nI (nN L))])) :: (A 13, .inl (G.2.1.1, 60, .inl nu1)) :: (A 17, .inl (G.2.1.1, 60, .inl lt1)) :: r) rfl rfl ?_
  refine J.callV 0 (st := []) B (c_X4_has l G _ (sz := (lowF (ltF L F) (midV (lits L F 60) - d) (nts L 60)).1.length) (i := i) hll) ml_X7_208 mf_yX4_has mi_yX4_has rfl dX7_bent_27 rfl rfl rfl rfl (fun v_4 w_5 hp_6 => ?_)
  obtain ⟨rfl, rfl⟩ := hp_6
  refine J.re [1, 2, 3, 4, 5, 6, 7, 8, 9, 10, 0, 11] 12 (ws2 := (x, .inr (7, [.ref (A 0), .int (nI ns), .ref (A 1), .int (nI nr), .ref (A 2), .ref (A 3), .ref (A 4), .ref (A 5), .ref (A 6), .ref (A 7), .ref (A 8), .ref (A 9), .long to, .int al, .int wa, .int lf, .ref (A 10)])) :: (A 0, .inl (G.2.1.2.2.1, 12, .inr (.inr (.inr (.inr sa))))) :: (s, .inr (6, [.int kd, .ref la, .int (1 : Int32), .int wc])) :: (la, .inl (G.2.1.1, 60, .inl L)) :: (A 2, .inl (G.2.1.1, 60, .inl F)) :: (A 3, .inr (1, [.ref (A 11), .ref (A 12), .int (nI (nN L))])) :: (A 11, .inl (G.2.1.1, 60, .inl t1)) :: (A 12, .inl (G.2.1.1, 60, .inl u1)) :: (A 4, .inr (0, [.ref (A 13), .int (nI (nN L))])) :: (A 13, .inl (G.2.1.1, 60, .inl nu1)) :: (A 6, .inr (4, [.ref (A 17), .int (nI ((lowF (ltF L F) (midV (lits L F 60) - d) (nts L 60)).1.length))])) :: (A 17, .inl (G.2.1.1, 60, .inl lt1)) :: r) rfl rfl ?_
  show J G X mX7_bent _ _ _ 30 _ [.int (b01 (decide (0 ≤ i ∧ i < nI (lowF (ltF L F) (midV (lits L F 60) - d) (nts L 60)).1.length)))]
  refine J.if_eq dX7_bent_30 (fun h9 => ?_) (fun z => absurd (by rw [decide_eq_false hi]; rfl) z)
  refine J.bipush (-9 : Int32) dX7_bent_46 rfl ?_
  exact J.iret B dX7_bent_48 rfl (⟨t1, u1, nu1, lt1, rfl, rfl⟩)
set_option maxHeartbeats 4000000 in
set_option maxRecDepth 100000 in
theorem i_bent_none2 (l : Launch) (G : jG) (r : va_W) {x : Nat} {A : Nat → Nat} {ns nr : Nat} {to : Int64} {al wa lf : Int32} {sa : Nat → Option Nat} {la : Nat} {kd wc : Int32} {k s : Nat} (hk : k < ns) (hns : ns ≤ 12) (hsa : sa k = some s) {d : Int32} {L F : Nat → Int32} {cz : Int32} {t u : Nat → Int32} {zs zl : Int32} {nu lti : Nat → Int32} (hd : inR d 1 10000 = true) (hL : 0 < nN L) {i : Nat} (hi : i < (lowF (ltF L F) (midV (lits L F 60) - d) (nts L 60)).1.length) (hi9 : (lowF (ltF L F) (midV (lits L F 60) - d) (nts L 60)).1.length ≤ i + 2) {c : Nat} (hc0 : c < 60) {p q : Nat} (hp1 : 1 ≤ p) (hp2 : p ≤ 600) (hq1 : 1 ≤ q) (hq2 : q ≤ 60) : Mt l G yX7_bent mX7_bent 6 135 0 0 [.ref x, .int (nI k), .int d, .int (nI i), .int (nI c), .int (nI p), .int (nI q)] ((x, .inr (7, [.ref (A 0), .int (nI ns), .ref (A 1), .int (nI nr), .ref (A 2), .ref (A 3), .ref (A 4), .ref (A 5), .ref (A 6), .ref (A 7), .ref (A 8), .ref (A 9), .long to, .int al, .int wa, .int lf, .ref (A 10)])) :: (A 0, .inl (G.2.1.2.2.1, 12, .inr (.inr (.inr (.inr sa))))) :: (s, .inr (6, [.int kd, .ref la, .int (1 : Int32), .int wc])) :: (la, .inl (G.2.1.1, 60, .inl L)) :: (A 2, .inl (G.2.1.1, 60, .inl F)) :: (A 3, .inr (1, [.ref (A 11), .ref (A 12), .int cz])) :: (A 11, .inl (G.2.1.1, 60, .inl t)) :: (A 12, .inl (G.2.1.1, 60, .inl u)) :: (A 4, .inr (0, [.ref (A 13), .int zs])) :: (A 13, .inl (G.2.1.1, 60, .inl nu)) :: (A 6, .inr (4, [.ref (A 17), .int zl])) :: (A 17, .inl (G.2.1.1, 60, .inl lti)) :: r) (fun v w => ∃ t1 u1 nu1 lt1, v = some (.int (-9)) ∧ w = (x, .inr (7, [.ref (A 0), .int (nI ns), .ref (A 1), .int (nI nr), .ref (A 2), .ref (A 3), .ref (A 4), .ref (A 5), .ref (A 6), .ref (A 7), .ref (A 8), .ref (A 9), .long to, .int al, .int wa, .int lf, .ref (A 10)])) :: (A 0, .inl (G.2.1.2.2.1, 12, .inr (.inr (.inr (.inr sa))))) :: (s, .inr (6, [.int kd, .ref la, .int (1 : Int32), .int wc])) :: (la, .inl (G.2.1.1, 60, .inl L)) :: (A 2, .inl (G.2.1.1, 60, .inl F)) :: (A 3, .inr (1, [.ref (A 11), .ref (A 12), .int (nI (nN L))])) :: (A 11, .inl (G.2.1.1, 60, .inl t1)) :: (A 12, .inl (G.2.1.1, 60, .inl u1)) :: (A 4, .inr (0, [.ref (A 13), .int (nI (nN L))])) :: (A 13, .inl (G.2.1.1, 60, .inl nu1)) :: (A 6, .inr (4, [.ref (A 17), .int (nI ((lowF (ltF L F) (midV (lits L F 60) - d) (nts L 60)).1.length))])) :: (A 17, .inl (G.2.1.1, 60, .inl lt1)) :: r) := by
  refine Mt.of (by decide +kernel) rfl rfl (fun X B => ?_)
  show J G X mX7_bent ((x, .inr (7, [.ref (A 0), .int (nI ns), .ref (A 1), .int (nI nr), .ref (A 2), .ref (A 3), .ref (A 4), .ref (A 5), .ref (A 6), .ref (A 7), .ref (A 8), .ref (A 9), .long to, .int al, .int wa, .int lf, .ref (A 10)])) :: (A 0, .inl (G.2.1.2.2.1, 12, .inr (.inr (.inr (.inr sa))))) :: (s, .inr (6, [.int kd, .ref la, .int (1 : Int32), .int wc])) :: (la, .inl (G.2.1.1, 60, .inl L)) :: (A 2, .inl (G.2.1.1, 60, .inl F)) :: (A 3, .inr (1, [.ref (A 11), .ref (A 12), .int cz])) :: (A 11, .inl (G.2.1.1, 60, .inl t)) :: (A 12, .inl (G.2.1.1, 60, .inl u)) :: (A 4, .inr (0, [.ref (A 13), .int zs])) :: (A 13, .inl (G.2.1.1, 60, .inl nu)) :: (A 6, .inr (4, [.ref (A 17), .int zl])) :: (A 17, .inl (G.2.1.1, 60, .inl lti)) :: r) 0 0 0 [(0, .ref x), (1, .int (nI k)), (2, .int d), (3, .int (nI i)), (4, .int (nI c)), (5, .int (nI p)), (6, .int (nI q))] []
  have hll : (lowF (ltF L F) (midV (lits L F 60) - d) (nts L 60)).1.length ≤ 60 := Nat.le_trans (lowF_le _ _ _) (nN_le L)
  have hi2 : (0 : Int32) ≤ nI i ∧ nI i < nI (lowF (ltF L F) (midV (lits L F 60) - d) (nts L 60)).1.length := ⟨nI_pos' (by omega), nI_lt hi (by omega)⟩
  have hlw : rg (lowF (ltF L F) (midV (lits L F 60) - d) (nts L 60)).1 i < 60 := (mem_nts.mp (lowF_mem (rg_mem hi))).1
  have hpq : (inR (nI p) 1 600 && inR (nI q) 1 60) = true := by
    rw [nI_inR (by omega), nI_inR (by omega), decide_eq_true (p := (1 : Int) ≤ (p : Int) ∧ (p : Int) ≤ 600) ⟨by omega, by omega⟩, decide_eq_true (p := (1 : Int) ≤ (q : Int) ∧ (q : Int) ≤ 60) ⟨by omega, by omega⟩]
    rfl
  have hc : (inR (nI c) 0 59 && (inR (nI p) 1 600 && inR (nI q) 1 60)) = true := by
    rw [hpq, nI_inR (by omega), decide_eq_true (p := (0 : Int) ≤ (c : Int) ∧ (c : Int) ≤ 59) ⟨by omega, by omega⟩]
    rfl
  refine J.aload_n 0 dX7_bent_0 rfl ?_
  refine J.iload_n 1 dX7_bent_1 rfl ?_
  refine J.iload_n 2 dX7_bent_2 rfl ?_
  refine J.iload 4 dX7_bent_3 rfl ?_
  refine J.iload 5 dX7_bent_5 rfl ?_
  refine J.iload 6 dX7_bent_7 rfl ?_
  refine J.callV 0 (st := []) B (c_X7_glc l G _ hk hns hsa hc hd hL) ml_X7_212 mf_yX7_gatherLowsOnClock mi_yX7_gatherLowsOnClock rfl dX7_bent_9 rfl rfl rfl rfl (fun v_1 w_2 hp_3 => ?_)
  obtain ⟨t1, u1, nu1, lt1, hlt, rfl, rfl⟩ := hp_3
  show J G X mX7_bent _ _ _ 12 _ [.int (0 : Int32)]
  refine J.istore [1, 2, 3, 4, 5, 6, 7, 0] (lv' := [(0, .ref x), (1, .int (nI k)), (2, .int d), (3, .int (nI i)), (4, .int (nI c)), (5, .int (nI p)), (6, .int (nI q)), (7, .int (0 : Int32))]) dX7_bent_12 rfl rfl ?_
  refine J.iload 7 dX7_bent_14 rfl ?_
  refine J.if_eq dX7_bent_16 (fun _ => ?_) (fun z => absurd z (by decide))
  refine J.aload_n 0 dX7_bent_22 rfl ?_
  refine J.get 0 fl_X7_49 dX7_bent_23 rfl rfl ?_
  refine J.iload_n 3 dX7_bent_26 rfl ?_
  refine J.re [10, 0, 1, 2, 3, 4, 5, 6, 7, 8, 9, 11] 12 (ws2 := (A 6, .inr (4, [.ref (A 17), .int (nI ((lowF (ltF L F) (midV (lits L F 60) - d) (nts L 60)).1.length))])) :: (x, .inr (7, [.ref (A 0), .int (nI ns), .ref (A 1), .int (nI nr), .ref (A 2), .ref (A 3), .ref (A 4), .ref (A 5), .ref (A 6), .ref (A 7), .ref (A 8), .ref (A 9), .long to, .int al, .int wa, .int lf, .ref (A 10)])) :: (A 0, .inl (G.2.1.2.2.1, 12, .inr (.inr (.inr (.inr sa))))) :: (s, .inr (6, [.int kd, .ref la, .int (1 : Int32), .int wc])) :: (la, .inl (G.2.1.1, 60, .inl L)) :: (A 2, .inl (G.2.1.1, 60, .inl F)) :: (A 3, .inr (1, [.ref (A 11), .ref (A 12), .int (nI (nN L))])) :: (A 11, .inl (G.2.1.1, 60, .inl t1)) :: (A 12, .inl (G.2.1.1, 60, .inl u1)) :: (A 4, .inr (0, [.ref (A 13), .int (nI (nN L))])) :: (A 13, .inl (G.2.1.1, 60, .inl nu1)) :: (A 17, .inl (G.2.1.1, 60, .inl lt1)) :: r) rfl rfl ?_
  refine J.callV 0 (st := []) B (c_X4_has l G _ (sz := (lowF (ltF L F) (midV (lits L F 60) - d) (nts L 60)).1.length) (i := nI i) hll) ml_X7_208 mf_yX4_has mi_yX4_has rfl dX7_bent_27 rfl rfl rfl rfl (fun v_4 w_5 hp_6 => ?_)
  obtain ⟨rfl, rfl⟩ := hp_6
  refine J.re [1, 2, 3, 4, 5, 6, 7, 8, 9, 10, 0, 11] 12 (ws2 := (x, .inr (7, [.ref (A 0), .int (nI ns), .ref (A 1), .int (nI nr), .ref (A 2), .ref (A 3), .ref (A 4), .ref (A 5), .ref (A 6), .ref (A 7), .ref (A 8), .ref (A 9), .long to, .int al, .int wa, .int lf, .ref (A 10)])) :: (A 0, .inl (G.2.1.2.2.1, 12, .inr (.inr (.inr (.inr sa))))) :: (s, .inr (6, [.int kd, .ref la, .int (1 : Int32), .int wc])) :: (la, .inl (G.2.1.1, 60, .inl L)) :: (A 2, .inl (G.2.1.1, 60, .inl F)) :: (A 3, .inr (1, [.ref (A 11), .ref (A 12), .int (nI (nN L))])) :: (A 11, .inl (G.2.1.1, 60, .inl t1)) :: (A 12, .inl (G.2.1.1, 60, .inl u1)) :: (A 4, .inr (0, [.ref (A 13), .int (nI (nN L))])) :: (A 13, .inl (G.2.1.1, 60, .inl nu1)) :: (A 6, .inr (4, [.ref (A 17), .int (nI ((lowF (ltF L F) (midV (lits L F 60) - d) (nts L 60)).1.length))])) :: (A 17, .inl (G.2.1.1, 60, .inl lt1)) :: r) rfl rfl ?_
  show J G X mX7_bent _ _ _ 30 _ [.int (b01 (decide (0 ≤ (nI i) ∧ (nI i) < nI (lowF (ltF L F) (midV (lits L F 60) - d) (nts L 60)).1.length)))]
  refine J.if_eq dX7_bent_30 (fun z => absurd z (by rw [decide_eq_true hi2]; decide)) (fun h9 => ?_)
  refine J.aload_n 0 dX7_bent_33 rfl ?_
  refine J.get 0 fl_X7_49 dX7_bent_34 rfl rfl ?_
  refine J.iload_n 3 dX7_bent_37 rfl ?_
  refine J.iconst (2 : Int32) dX7_bent_38 rfl ?_
  refine J.iadd dX7_bent_39 ?_
  refine J.topi (y := nI (i + 2)) (nI_add i 2) ?_
  refine J.re [10, 0, 1, 2, 3, 4, 5, 6, 7, 8, 9, 11] 12 (ws2 := (A 6, .inr (4, [.ref (A 17), .int (nI ((lowF (ltF L F) (midV (lits L F 60) - d) (nts L 60)).1.length))])) :: (x, .inr (7, [.ref (A 0), .int (nI ns), .ref (A 1), .int (nI nr), .ref (A 2), .ref (A 3), .ref (A 4), .ref (A 5), .ref (A 6), .ref (A 7), .ref (A 8), .ref (A 9), .long to, .int al, .int wa, .int lf, .ref (A 10)])) :: (A 0, .inl (G.2.1.2.2.1, 12, .inr (.inr (.inr (.inr sa))))) :: (s, .inr (6, [.int kd, .ref la, .int (1 : Int32), .int wc])) :: (la, .inl (G.2.1.1, 60, .inl L)) :: (A 2, .inl (G.2.1.1, 60, .inl F)) :: (A 3, .inr (1, [.ref (A 11), .ref (A 12), .int (nI (nN L))])) :: (A 11, .inl (G.2.1.1, 60, .inl t1)) :: (A 12, .inl (G.2.1.1, 60, .inl u1)) :: (A 4, .inr (0, [.ref (A 13), .int (nI (nN L))])) :: (A 13, .inl (G.2.1.1, 60, .inl nu1)) :: (A 17, .inl (G.2.1.1, 60, .inl lt1)) :: r) rfl rfl ?_
  refine J.callV 0 (st := []) B (c_X4_has l G _ (sz := (lowF (ltF L F) (midV (lits L F 60) - d) (nts L 60)).1.length) (i := nI (i + 2)) hll) ml_X7_208 mf_yX4_has mi_yX4_has rfl dX7_bent_40 rfl rfl rfl rfl (fun v_7 w_8 hp_9 => ?_)
  obtain ⟨rfl, rfl⟩ := hp_9
  refine J.re [1, 2, 3, 4, 5, 6, 7, 8, 9, 10, 0, 11] 12 (ws2 := (x, .inr (7, [.ref (A 0), .int (nI ns), .ref (A 1), .int (nI nr), .ref (A 2), .ref (A 3), .ref (A 4), .ref (A 5), .ref (A 6), .ref (A 7), .ref (A 8), .ref (A 9), .long to, .int al, .int wa, .int lf, .ref (A 10)])) :: (A 0, .inl (G.2.1.2.2.1, 12, .inr (.inr (.inr (.inr sa))))) :: (s, .inr (6, [.int kd, .ref la, .int (1 : Int32), .int wc])) :: (la, .inl (G.2.1.1, 60, .inl L)) :: (A 2, .inl (G.2.1.1, 60, .inl F)) :: (A 3, .inr (1, [.ref (A 11), .ref (A 12), .int (nI (nN L))])) :: (A 11, .inl (G.2.1.1, 60, .inl t1)) :: (A 12, .inl (G.2.1.1, 60, .inl u1)) :: (A 4, .inr (0, [.ref (A 13), .int (nI (nN L))])) :: (A 13, .inl (G.2.1.1, 60, .inl nu1)) :: (A 6, .inr (4, [.ref (A 17), .int (nI ((lowF (ltF L F) (midV (lits L F 60) - d) (nts L 60)).1.length))])) :: (A 17, .inl (G.2.1.1, 60, .inl lt1)) :: r) rfl rfl ?_
  show J G X mX7_bent _ _ _ 43 _ [.int (b01 (decide (0 ≤ (nI (i + 2)) ∧ (nI (i + 2)) < nI (lowF (ltF L F) (midV (lits L F 60) - d) (nts L 60)).1.length)))]
  refine J.if_ne dX7_bent_43 (fun z => absurd (by rw [decide_eq_false (fun z => nI_nlt hi9 (by omega) z.2)]; rfl) z) (fun h8 => ?_)
  refine J.bipush (-9 : Int32) dX7_bent_46 rfl ?_
  exact J.iret B dX7_bent_48 rfl (⟨t1, u1, nu1, lt1, rfl, rfl⟩)
set_option maxHeartbeats 4000000 in
set_option maxRecDepth 100000 in
theorem i_bent (l : Launch) (G : jG) (r : va_W) {x : Nat} {A : Nat → Nat} {ns nr : Nat} {to : Int64} {al wa lf : Int32} {sa : Nat → Option Nat} {la : Nat} {kd wc : Int32} {k s : Nat} (hk : k < ns) (hns : ns ≤ 12) (hsa : sa k = some s) {d : Int32} {L F : Nat → Int32} {cz : Int32} {t u : Nat → Int32} {zs zl : Int32} {nu lti : Nat → Int32} (hd : inR d 1 10000 = true) (hL : 0 < nN L) {i : Nat} (hi3 : i + 2 < (lowF (ltF L F) (midV (lits L F 60) - d) (nts L 60)).1.length) {c : Nat} (hc0 : c < 60) {p q : Nat} (hp1 : 1 ≤ p) (hp2 : p ≤ 600) (hq1 : 1 ≤ q) (hq2 : q ≤ 60) : Mt l G yX7_bent mX7_bent 6 135 0 0 [.ref x, .int (nI k), .int d, .int (nI i), .int (nI c), .int (nI p), .int (nI q)] ((x, .inr (7, [.ref (A 0), .int (nI ns), .ref (A 1), .int (nI nr), .ref (A 2), .ref (A 3), .ref (A 4), .ref (A 5), .ref (A 6), .ref (A 7), .ref (A 8), .ref (A 9), .long to, .int al, .int wa, .int lf, .ref (A 10)])) :: (A 0, .inl (G.2.1.2.2.1, 12, .inr (.inr (.inr (.inr sa))))) :: (s, .inr (6, [.int kd, .ref la, .int (1 : Int32), .int wc])) :: (la, .inl (G.2.1.1, 60, .inl L)) :: (A 2, .inl (G.2.1.1, 60, .inl F)) :: (A 3, .inr (1, [.ref (A 11), .ref (A 12), .int cz])) :: (A 11, .inl (G.2.1.1, 60, .inl t)) :: (A 12, .inl (G.2.1.1, 60, .inl u)) :: (A 4, .inr (0, [.ref (A 13), .int zs])) :: (A 13, .inl (G.2.1.1, 60, .inl nu)) :: (A 6, .inr (4, [.ref (A 17), .int zl])) :: (A 17, .inl (G.2.1.1, 60, .inl lti)) :: r) (fun v w => ∃ t1 u1 nu1 lt1, v = some (.int 1) ∧ w = (x, .inr (7, [.ref (A 0), .int (nI ns), .ref (A 1), .int (nI nr), .ref (A 2), .ref (A 3), .ref (A 4), .ref (A 5), .ref (A 6), .ref (A 7), .ref (A 8), .ref (A 9), .long (Int64.ofInt (laI (rg (lowF (ltF L F) (midV (lits L F 60) - d) (nts L 60)).1 i) c p q - 2 * laI (rg (lowF (ltF L F) (midV (lits L F 60) - d) (nts L 60)).1 (i + 1)) c p q + laI (rg (lowF (ltF L F) (midV (lits L F 60) - d) (nts L 60)).1 (i + 2)) c p q)), .int al, .int wa, .int lf, .ref (A 10)])) :: (A 0, .inl (G.2.1.2.2.1, 12, .inr (.inr (.inr (.inr sa))))) :: (s, .inr (6, [.int kd, .ref la, .int (1 : Int32), .int wc])) :: (la, .inl (G.2.1.1, 60, .inl L)) :: (A 2, .inl (G.2.1.1, 60, .inl F)) :: (A 3, .inr (1, [.ref (A 11), .ref (A 12), .int (nI (nN L))])) :: (A 11, .inl (G.2.1.1, 60, .inl t1)) :: (A 12, .inl (G.2.1.1, 60, .inl u1)) :: (A 4, .inr (0, [.ref (A 13), .int (nI (nN L))])) :: (A 13, .inl (G.2.1.1, 60, .inl nu1)) :: (A 6, .inr (4, [.ref (A 17), .int (nI ((lowF (ltF L F) (midV (lits L F 60) - d) (nts L 60)).1.length))])) :: (A 17, .inl (G.2.1.1, 60, .inl lt1)) :: r) := by
  refine Mt.of (by decide +kernel) rfl rfl (fun X B => ?_)
  show J G X mX7_bent ((x, .inr (7, [.ref (A 0), .int (nI ns), .ref (A 1), .int (nI nr), .ref (A 2), .ref (A 3), .ref (A 4), .ref (A 5), .ref (A 6), .ref (A 7), .ref (A 8), .ref (A 9), .long to, .int al, .int wa, .int lf, .ref (A 10)])) :: (A 0, .inl (G.2.1.2.2.1, 12, .inr (.inr (.inr (.inr sa))))) :: (s, .inr (6, [.int kd, .ref la, .int (1 : Int32), .int wc])) :: (la, .inl (G.2.1.1, 60, .inl L)) :: (A 2, .inl (G.2.1.1, 60, .inl F)) :: (A 3, .inr (1, [.ref (A 11), .ref (A 12), .int cz])) :: (A 11, .inl (G.2.1.1, 60, .inl t)) :: (A 12, .inl (G.2.1.1, 60, .inl u)) :: (A 4, .inr (0, [.ref (A 13), .int zs])) :: (A 13, .inl (G.2.1.1, 60, .inl nu)) :: (A 6, .inr (4, [.ref (A 17), .int zl])) :: (A 17, .inl (G.2.1.1, 60, .inl lti)) :: r) 0 0 0 [(0, .ref x), (1, .int (nI k)), (2, .int d), (3, .int (nI i)), (4, .int (nI c)), (5, .int (nI p)), (6, .int (nI q))] []
  have hi : i < (lowF (ltF L F) (midV (lits L F 60) - d) (nts L 60)).1.length := by omega
  have hll : (lowF (ltF L F) (midV (lits L F 60) - d) (nts L 60)).1.length ≤ 60 := Nat.le_trans (lowF_le _ _ _) (nN_le L)
  have hi2 : (0 : Int32) ≤ nI i ∧ nI i < nI (lowF (ltF L F) (midV (lits L F 60) - d) (nts L 60)).1.length := ⟨nI_pos' (by omega), nI_lt hi (by omega)⟩
  have hlw : rg (lowF (ltF L F) (midV (lits L F 60) - d) (nts L 60)).1 i < 60 := (mem_nts.mp (lowF_mem (rg_mem hi))).1
  have hlw0 : rg (lowF (ltF L F) (midV (lits L F 60) - d) (nts L 60)).1 i < 60 := (mem_nts.mp (lowF_mem (rg_mem (by omega)))).1
  have hbd0 := la_bd (k := rg (lowF (ltF L F) (midV (lits L F 60) - d) (nts L 60)).1 i) (c := c) (q := q) hp1 hp2
  have hlw1 : rg (lowF (ltF L F) (midV (lits L F 60) - d) (nts L 60)).1 (i + 1) < 60 := (mem_nts.mp (lowF_mem (rg_mem (by omega)))).1
  have hbd1 := la_bd (k := rg (lowF (ltF L F) (midV (lits L F 60) - d) (nts L 60)).1 (i + 1)) (c := c) (q := q) hp1 hp2
  have hlw2 : rg (lowF (ltF L F) (midV (lits L F 60) - d) (nts L 60)).1 (i + 2) < 60 := (mem_nts.mp (lowF_mem (rg_mem (by omega)))).1
  have hbd2 := la_bd (k := rg (lowF (ltF L F) (midV (lits L F 60) - d) (nts L 60)).1 (i + 2)) (c := c) (q := q) hp1 hp2
  have hpq : (inR (nI p) 1 600 && inR (nI q) 1 60) = true := by
    rw [nI_inR (by omega), nI_inR (by omega), decide_eq_true (p := (1 : Int) ≤ (p : Int) ∧ (p : Int) ≤ 600) ⟨by omega, by omega⟩, decide_eq_true (p := (1 : Int) ≤ (q : Int) ∧ (q : Int) ≤ 60) ⟨by omega, by omega⟩]
    rfl
  have hc : (inR (nI c) 0 59 && (inR (nI p) 1 600 && inR (nI q) 1 60)) = true := by
    rw [hpq, nI_inR (by omega), decide_eq_true (p := (0 : Int) ≤ (c : Int) ∧ (c : Int) ≤ 59) ⟨by omega, by omega⟩]
    rfl
  refine J.aload_n 0 dX7_bent_0 rfl ?_
  refine J.iload_n 1 dX7_bent_1 rfl ?_
  refine J.iload_n 2 dX7_bent_2 rfl ?_
  refine J.iload 4 dX7_bent_3 rfl ?_
  refine J.iload 5 dX7_bent_5 rfl ?_
  refine J.iload 6 dX7_bent_7 rfl ?_
  refine J.callV 0 (st := []) B (c_X7_glc l G _ hk hns hsa hc hd hL) ml_X7_212 mf_yX7_gatherLowsOnClock mi_yX7_gatherLowsOnClock rfl dX7_bent_9 rfl rfl rfl rfl (fun v_1 w_2 hp_3 => ?_)
  obtain ⟨t1, u1, nu1, lt1, hlt, rfl, rfl⟩ := hp_3
  show J G X mX7_bent _ _ _ 12 _ [.int (0 : Int32)]
  refine J.istore [1, 2, 3, 4, 5, 6, 7, 0] (lv' := [(0, .ref x), (1, .int (nI k)), (2, .int d), (3, .int (nI i)), (4, .int (nI c)), (5, .int (nI p)), (6, .int (nI q)), (7, .int (0 : Int32))]) dX7_bent_12 rfl rfl ?_
  refine J.iload 7 dX7_bent_14 rfl ?_
  refine J.if_eq dX7_bent_16 (fun _ => ?_) (fun z => absurd z (by decide))
  refine J.aload_n 0 dX7_bent_22 rfl ?_
  refine J.get 0 fl_X7_49 dX7_bent_23 rfl rfl ?_
  refine J.iload_n 3 dX7_bent_26 rfl ?_
  refine J.re [10, 0, 1, 2, 3, 4, 5, 6, 7, 8, 9, 11] 12 (ws2 := (A 6, .inr (4, [.ref (A 17), .int (nI ((lowF (ltF L F) (midV (lits L F 60) - d) (nts L 60)).1.length))])) :: (x, .inr (7, [.ref (A 0), .int (nI ns), .ref (A 1), .int (nI nr), .ref (A 2), .ref (A 3), .ref (A 4), .ref (A 5), .ref (A 6), .ref (A 7), .ref (A 8), .ref (A 9), .long to, .int al, .int wa, .int lf, .ref (A 10)])) :: (A 0, .inl (G.2.1.2.2.1, 12, .inr (.inr (.inr (.inr sa))))) :: (s, .inr (6, [.int kd, .ref la, .int (1 : Int32), .int wc])) :: (la, .inl (G.2.1.1, 60, .inl L)) :: (A 2, .inl (G.2.1.1, 60, .inl F)) :: (A 3, .inr (1, [.ref (A 11), .ref (A 12), .int (nI (nN L))])) :: (A 11, .inl (G.2.1.1, 60, .inl t1)) :: (A 12, .inl (G.2.1.1, 60, .inl u1)) :: (A 4, .inr (0, [.ref (A 13), .int (nI (nN L))])) :: (A 13, .inl (G.2.1.1, 60, .inl nu1)) :: (A 17, .inl (G.2.1.1, 60, .inl lt1)) :: r) rfl rfl ?_
  refine J.callV 0 (st := []) B (c_X4_has l G _ (sz := (lowF (ltF L F) (midV (lits L F 60) - d) (nts L 60)).1.length) (i := nI i) hll) ml_X7_208 mf_yX4_has mi_yX4_has rfl dX7_bent_27 rfl rfl rfl rfl (fun v_4 w_5 hp_6 => ?_)
  obtain ⟨rfl, rfl⟩ := hp_6
  refine J.re [1, 2, 3, 4, 5, 6, 7, 8, 9, 10, 0, 11] 12 (ws2 := (x, .inr (7, [.ref (A 0), .int (nI ns), .ref (A 1), .int (nI nr), .ref (A 2), .ref (A 3), .ref (A 4), .ref (A 5), .ref (A 6), .ref (A 7), .ref (A 8), .ref (A 9), .long to, .int al, .int wa, .int lf, .ref (A 10)])) :: (A 0, .inl (G.2.1.2.2.1, 12, .inr (.inr (.inr (.inr sa))))) :: (s, .inr (6, [.int kd, .ref la, .int (1 : Int32), .int wc])) :: (la, .inl (G.2.1.1, 60, .inl L)) :: (A 2, .inl (G.2.1.1, 60, .inl F)) :: (A 3, .inr (1, [.ref (A 11), .ref (A 12), .int (nI (nN L))])) :: (A 11, .inl (G.2.1.1, 60, .inl t1)) :: (A 12, .inl (G.2.1.1, 60, .inl u1)) :: (A 4, .inr (0, [.ref (A 13), .int (nI (nN L))])) :: (A 13, .inl (G.2.1.1, 60, .inl nu1)) :: (A 6, .inr (4, [.ref (A 17), .int (nI ((lowF (ltF L F) (midV (lits L F 60) - d) (nts L 60)).1.length))])) :: (A 17, .inl (G.2.1.1, 60, .inl lt1)) :: r) rfl rfl ?_
  show J G X mX7_bent _ _ _ 30 _ [.int (b01 (decide (0 ≤ (nI i) ∧ (nI i) < nI (lowF (ltF L F) (midV (lits L F 60) - d) (nts L 60)).1.length)))]
  refine J.if_eq dX7_bent_30 (fun z => absurd z (by rw [decide_eq_true hi2]; decide)) (fun h9 => ?_)
  refine J.aload_n 0 dX7_bent_33 rfl ?_
  refine J.get 0 fl_X7_49 dX7_bent_34 rfl rfl ?_
  refine J.iload_n 3 dX7_bent_37 rfl ?_
  refine J.iconst (2 : Int32) dX7_bent_38 rfl ?_
  refine J.iadd dX7_bent_39 ?_
  refine J.topi (y := nI (i + 2)) (nI_add i 2) ?_
  refine J.re [10, 0, 1, 2, 3, 4, 5, 6, 7, 8, 9, 11] 12 (ws2 := (A 6, .inr (4, [.ref (A 17), .int (nI ((lowF (ltF L F) (midV (lits L F 60) - d) (nts L 60)).1.length))])) :: (x, .inr (7, [.ref (A 0), .int (nI ns), .ref (A 1), .int (nI nr), .ref (A 2), .ref (A 3), .ref (A 4), .ref (A 5), .ref (A 6), .ref (A 7), .ref (A 8), .ref (A 9), .long to, .int al, .int wa, .int lf, .ref (A 10)])) :: (A 0, .inl (G.2.1.2.2.1, 12, .inr (.inr (.inr (.inr sa))))) :: (s, .inr (6, [.int kd, .ref la, .int (1 : Int32), .int wc])) :: (la, .inl (G.2.1.1, 60, .inl L)) :: (A 2, .inl (G.2.1.1, 60, .inl F)) :: (A 3, .inr (1, [.ref (A 11), .ref (A 12), .int (nI (nN L))])) :: (A 11, .inl (G.2.1.1, 60, .inl t1)) :: (A 12, .inl (G.2.1.1, 60, .inl u1)) :: (A 4, .inr (0, [.ref (A 13), .int (nI (nN L))])) :: (A 13, .inl (G.2.1.1, 60, .inl nu1)) :: (A 17, .inl (G.2.1.1, 60, .inl lt1)) :: r) rfl rfl ?_
  refine J.callV 0 (st := []) B (c_X4_has l G _ (sz := (lowF (ltF L F) (midV (lits L F 60) - d) (nts L 60)).1.length) (i := nI (i + 2)) hll) ml_X7_208 mf_yX4_has mi_yX4_has rfl dX7_bent_40 rfl rfl rfl rfl (fun v_7 w_8 hp_9 => ?_)
  obtain ⟨rfl, rfl⟩ := hp_9
  refine J.re [1, 2, 3, 4, 5, 6, 7, 8, 9, 10, 0, 11] 12 (ws2 := (x, .inr (7, [.ref (A 0), .int (nI ns), .ref (A 1), .int (nI nr), .ref (A 2), .ref (A 3), .ref (A 4), .ref (A 5), .ref (A 6), .ref (A 7), .ref (A 8), .ref (A 9), .long to, .int al, .int wa, .int lf, .ref (A 10)])) :: (A 0, .inl (G.2.1.2.2.1, 12, .inr (.inr (.inr (.inr sa))))) :: (s, .inr (6, [.int kd, .ref la, .int (1 : Int32), .int wc])) :: (la, .inl (G.2.1.1, 60, .inl L)) :: (A 2, .inl (G.2.1.1, 60, .inl F)) :: (A 3, .inr (1, [.ref (A 11), .ref (A 12), .int (nI (nN L))])) :: (A 11, .inl (G.2.1.1, 60, .inl t1)) :: (A 12, .inl (G.2.1.1, 60, .inl u1)) :: (A 4, .inr (0, [.ref (A 13), .int (nI (nN L))])) :: (A 13, .inl (G.2.1.1, 60, .inl nu1)) :: (A 6, .inr (4, [.ref (A 17), .int (nI ((lowF (ltF L F) (midV (lits L F 60) - d) (nts L 60)).1.length))])) :: (A 17, .inl (G.2.1.1, 60, .inl lt1)) :: r) rfl rfl ?_
  show J G X mX7_bent _ _ _ 43 _ [.int (b01 (decide (0 ≤ (nI (i + 2)) ∧ (nI (i + 2)) < nI (lowF (ltF L F) (midV (lits L F 60) - d) (nts L 60)).1.length)))]
  refine J.if_ne dX7_bent_43 (fun h8 => ?_) (fun z => absurd z (by rw [decide_eq_true ⟨nI_pos' (by omega), nI_lt hi3 (by omega)⟩]; decide))
  refine J.aload_n 0 dX7_bent_49 rfl ?_
  refine J.get 0 fl_X7_49 dX7_bent_50 rfl rfl ?_
  refine J.get 10 fl_X7_211 dX7_bent_53 rfl rfl ?_
  refine J.iload_n 3 dX7_bent_56 rfl ?_
  refine J.iald 11 (i) dX7_bent_57 rfl (rfl) (by omega) (by decide) ?_
  refine J.topi (y := nI (rg (lowF (ltF L F) (midV (lits L F 60) - d) (nts L 60)).1 i)) (AG_rg hlt (by omega)) ?_
  refine J.iload 4 dX7_bent_58 rfl ?_
  refine J.iload 5 dX7_bent_60 rfl ?_
  refine J.iload 6 dX7_bent_62 rfl ?_
  refine J.callS (st := []) B (c_X7_lateOfTime l G _ hlw0 hc0 hp1 hp2 hq2) ml_X7_219 mf_yX7_lateOfTime mS_yX7_lateOfTime dX7_bent_64 rfl rfl rfl (fun v_10 w_11 hp_12 => ?_)
  obtain ⟨rfl, rfl⟩ := hp_12
  show J G X mX7_bent _ _ _ 67 _ [.int (Int32.ofInt (laI (rg (lowF (ltF L F) (midV (lits L F 60) - d) (nts L 60)).1 i) c p q))]
  refine J.istore [1, 2, 3, 4, 5, 6, 7, 8, 0] (lv' := [(0, .ref x), (1, .int (nI k)), (2, .int d), (3, .int (nI i)), (4, .int (nI c)), (5, .int (nI p)), (6, .int (nI q)), (7, .int (0 : Int32)), (8, .int (Int32.ofInt (laI (rg (lowF (ltF L F) (midV (lits L F 60) - d) (nts L 60)).1 i) c p q)))]) dX7_bent_67 rfl rfl ?_
  refine J.aload_n 0 dX7_bent_69 rfl ?_
  refine J.get 0 fl_X7_49 dX7_bent_70 rfl rfl ?_
  refine J.get 10 fl_X7_211 dX7_bent_73 rfl rfl ?_
  refine J.iload_n 3 dX7_bent_76 rfl ?_
  refine J.iconst (1 : Int32) dX7_bent_77 rfl ?_
  refine J.iadd dX7_bent_78 ?_
  refine J.topi (y := nI (i + 1)) (nI_add i 1) ?_
  refine J.iald 11 (i + 1) dX7_bent_79 rfl (rfl) (by omega) (by decide) ?_
  refine J.topi (y := nI (rg (lowF (ltF L F) (midV (lits L F 60) - d) (nts L 60)).1 (i + 1))) (AG_rg hlt (by omega)) ?_
  refine J.iload 4 dX7_bent_80 rfl ?_
  refine J.iload 5 dX7_bent_82 rfl ?_
  refine J.iload 6 dX7_bent_84 rfl ?_
  refine J.callS (st := []) B (c_X7_lateOfTime l G _ hlw1 hc0 hp1 hp2 hq2) ml_X7_219 mf_yX7_lateOfTime mS_yX7_lateOfTime dX7_bent_86 rfl rfl rfl (fun v_13 w_14 hp_15 => ?_)
  obtain ⟨rfl, rfl⟩ := hp_15
  show J G X mX7_bent _ _ _ 89 _ [.int (Int32.ofInt (laI (rg (lowF (ltF L F) (midV (lits L F 60) - d) (nts L 60)).1 (i + 1)) c p q))]
  refine J.istore [1, 2, 3, 4, 5, 6, 7, 8, 9, 0] (lv' := [(0, .ref x), (1, .int (nI k)), (2, .int d), (3, .int (nI i)), (4, .int (nI c)), (5, .int (nI p)), (6, .int (nI q)), (7, .int (0 : Int32)), (8, .int (Int32.ofInt (laI (rg (lowF (ltF L F) (midV (lits L F 60) - d) (nts L 60)).1 i) c p q))), (9, .int (Int32.ofInt (laI (rg (lowF (ltF L F) (midV (lits L F 60) - d) (nts L 60)).1 (i + 1)) c p q)))]) dX7_bent_89 rfl rfl ?_
  refine J.aload_n 0 dX7_bent_91 rfl ?_
  refine J.get 0 fl_X7_49 dX7_bent_92 rfl rfl ?_
  refine J.get 10 fl_X7_211 dX7_bent_95 rfl rfl ?_
  refine J.iload_n 3 dX7_bent_98 rfl ?_
  refine J.iconst (2 : Int32) dX7_bent_99 rfl ?_
  refine J.iadd dX7_bent_100 ?_
  refine J.topi (y := nI (i + 2)) (nI_add i 2) ?_
  refine J.iald 11 (i + 2) dX7_bent_101 rfl (rfl) (by omega) (by decide) ?_
  refine J.topi (y := nI (rg (lowF (ltF L F) (midV (lits L F 60) - d) (nts L 60)).1 (i + 2))) (AG_rg hlt (by omega)) ?_
  refine J.iload 4 dX7_bent_102 rfl ?_
  refine J.iload 5 dX7_bent_104 rfl ?_
  refine J.iload 6 dX7_bent_106 rfl ?_
  refine J.callS (st := []) B (c_X7_lateOfTime l G _ hlw2 hc0 hp1 hp2 hq2) ml_X7_219 mf_yX7_lateOfTime mS_yX7_lateOfTime dX7_bent_108 rfl rfl rfl (fun v_16 w_17 hp_18 => ?_)
  obtain ⟨rfl, rfl⟩ := hp_18
  show J G X mX7_bent _ _ _ 111 _ [.int (Int32.ofInt (laI (rg (lowF (ltF L F) (midV (lits L F 60) - d) (nts L 60)).1 (i + 2)) c p q))]
  refine J.istore [1, 2, 3, 4, 5, 6, 7, 8, 9, 10, 0] (lv' := [(0, .ref x), (1, .int (nI k)), (2, .int d), (3, .int (nI i)), (4, .int (nI c)), (5, .int (nI p)), (6, .int (nI q)), (7, .int (0 : Int32)), (8, .int (Int32.ofInt (laI (rg (lowF (ltF L F) (midV (lits L F 60) - d) (nts L 60)).1 i) c p q))), (9, .int (Int32.ofInt (laI (rg (lowF (ltF L F) (midV (lits L F 60) - d) (nts L 60)).1 (i + 1)) c p q))), (10, .int (Int32.ofInt (laI (rg (lowF (ltF L F) (midV (lits L F 60) - d) (nts L 60)).1 (i + 2)) c p q)))]) dX7_bent_111 rfl rfl ?_
  refine J.aload_n 0 dX7_bent_113 rfl ?_
  refine J.iload 8 dX7_bent_114 rfl ?_
  refine J.iconst (2 : Int32) dX7_bent_116 rfl ?_
  refine J.iload 9 dX7_bent_117 rfl ?_
  refine J.imul dX7_bent_119 ?_
  refine J.isub dX7_bent_120 ?_
  refine J.iload 10 dX7_bent_121 rfl ?_
  refine J.iadd dX7_bent_123 ?_
  rw [show Int32.ofInt (laI (rg (lowF (ltF L F) (midV (lits L F 60) - d) (nts L 60)).1 i) c p q) - 2 * Int32.ofInt (laI (rg (lowF (ltF L F) (midV (lits L F 60) - d) (nts L 60)).1 (i + 1)) c p q) + Int32.ofInt (laI (rg (lowF (ltF L F) (midV (lits L F 60) - d) (nts L 60)).1 (i + 2)) c p q) = Int32.ofInt (laI (rg (lowF (ltF L F) (midV (lits L F 60) - d) (nts L 60)).1 i) c p q - 2 * laI (rg (lowF (ltF L F) (midV (lits L F 60) - d) (nts L 60)).1 (i + 1)) c p q + laI (rg (lowF (ltF L F) (midV (lits L F 60) - d) (nts L 60)).1 (i + 2)) c p q) by rw [show (2 : Int32) = Int32.ofInt 2 from rfl, ← Int32.ofInt_mul, ← Int32.ofInt_sub, ← Int32.ofInt_add]]
  refine J.i2l dX7_bent_124 ?_
  refine J.topl (y := Int64.ofInt (laI (rg (lowF (ltF L F) (midV (lits L F 60) - d) (nts L 60)).1 i) c p q - 2 * laI (rg (lowF (ltF L F) (midV (lits L F 60) - d) (nts L 60)).1 (i + 1)) c p q + laI (rg (lowF (ltF L F) (midV (lits L F 60) - d) (nts L 60)).1 (i + 2)) c p q)) (wide_ofI (by omega) (by omega)) ?_
  refine J.callV 0 (st := []) B (c_X7_tell l G _ (t0 := Int64.ofInt (laI (rg (lowF (ltF L F) (midV (lits L F 60) - d) (nts L 60)).1 i) c p q - 2 * laI (rg (lowF (ltF L F) (midV (lits L F 60) - d) (nts L 60)).1 (i + 1)) c p q + laI (rg (lowF (ltF L F) (midV (lits L F 60) - d) (nts L 60)).1 (i + 2)) c p q))) ml_X7_115 mf_yX7_tell mi_yX7_tell rfl dX7_bent_125 rfl rfl rfl rfl (fun v_19 w_20 hp_21 => ?_)
  obtain ⟨rfl, rfl⟩ := hp_21
  show J G X mX7_bent _ _ _ 128 _ [.int (1 : Int32)]
  exact J.iret B dX7_bent_128 rfl (⟨t1, u1, nu1, lt1, rfl, rfl⟩)
set_option maxHeartbeats 4000000 in
set_option maxRecDepth 100000 in
theorem i_dipOf_bad (l : Launch) (G : jG) (r : va_W) {x : Nat} {A : Nat → Nat} {ns nr : Nat} {to : Int64} {al wa lf : Int32} {a : Int32} (ha : inR a 0 2 = false) : Mt l G yX7_dipOf mX7_dipOf 0 0 0 0 [.ref x, .int a] ((x, .inr (7, [.ref (A 0), .int (nI ns), .ref (A 1), .int (nI nr), .ref (A 2), .ref (A 3), .ref (A 4), .ref (A 5), .ref (A 6), .ref (A 7), .ref (A 8), .ref (A 9), .long to, .int al, .int wa, .int lf, .ref (A 10)])) :: r) (fun v w => v = some (.int (-1 : Int32)) ∧ w = (x, .inr (7, [.ref (A 0), .int (nI ns), .ref (A 1), .int (nI nr), .ref (A 2), .ref (A 3), .ref (A 4), .ref (A 5), .ref (A 6), .ref (A 7), .ref (A 8), .ref (A 9), .long to, .int al, .int wa, .int lf, .ref (A 10)])) :: r) := by
  refine Mt.of (by decide +kernel) rfl rfl (fun X B => ?_)
  show J G X mX7_dipOf ((x, .inr (7, [.ref (A 0), .int (nI ns), .ref (A 1), .int (nI nr), .ref (A 2), .ref (A 3), .ref (A 4), .ref (A 5), .ref (A 6), .ref (A 7), .ref (A 8), .ref (A 9), .long to, .int al, .int wa, .int lf, .ref (A 10)])) :: r) 0 0 0 [(0, .ref x), (1, .int a)] []
  refine J.iload_n 1 dX7_dipOf_0 rfl ?_
  refine J.tableOut dX7_dipOf_1 (by have := inR_no ha; omega) (tgt := 52) rfl ?_
  refine J.iconst (-1 : Int32) dX7_dipOf_52 rfl ?_
  exact J.iret B dX7_dipOf_53 rfl ⟨rfl, rfl⟩
set_option maxHeartbeats 4000000 in
set_option maxRecDepth 100000 in
theorem i_dipOf0 (l : Launch) (G : jG) (r : va_W) {x : Nat} {A : Nat → Nat} {ns nr : Nat} {to : Int64} {al wa lf : Int32} {da dn dl dp dc : Int32} : Mt l G yX7_dipOf mX7_dipOf 0 0 0 0 [.ref x, .int (0 : Int32)] ((x, .inr (7, [.ref (A 0), .int (nI ns), .ref (A 1), .int (nI nr), .ref (A 2), .ref (A 3), .ref (A 4), .ref (A 5), .ref (A 6), .ref (A 7), .ref (A 8), .ref (A 9), .long to, .int al, .int wa, .int lf, .ref (A 10)])) :: (A 7, .inr (2, [.ref (A 18), .ref (A 19), .ref (A 20), .ref (A 21), .int da, .int dn, .int dl, .int dp, .int dc])) :: r) (fun v w => v = some (.int dl) ∧ w = (x, .inr (7, [.ref (A 0), .int (nI ns), .ref (A 1), .int (nI nr), .ref (A 2), .ref (A 3), .ref (A 4), .ref (A 5), .ref (A 6), .ref (A 7), .ref (A 8), .ref (A 9), .long to, .int al, .int wa, .int lf, .ref (A 10)])) :: (A 7, .inr (2, [.ref (A 18), .ref (A 19), .ref (A 20), .ref (A 21), .int da, .int dn, .int dl, .int dp, .int dc])) :: r) := by
  refine Mt.of (by decide +kernel) rfl rfl (fun X B => ?_)
  show J G X mX7_dipOf ((x, .inr (7, [.ref (A 0), .int (nI ns), .ref (A 1), .int (nI nr), .ref (A 2), .ref (A 3), .ref (A 4), .ref (A 5), .ref (A 6), .ref (A 7), .ref (A 8), .ref (A 9), .long to, .int al, .int wa, .int lf, .ref (A 10)])) :: (A 7, .inr (2, [.ref (A 18), .ref (A 19), .ref (A 20), .ref (A 21), .int da, .int dn, .int dl, .int dp, .int dc])) :: r) 0 0 0 [(0, .ref x), (1, .int (0 : Int32))] []
  refine J.iload_n 1 dX7_dipOf_0 rfl ?_
  refine J.tableIn dX7_dipOf_1 (by decide) (by decide) (off := 27) rfl (tgt := 28) rfl ?_
  refine J.aload_n 0 dX7_dipOf_28 rfl ?_
  refine J.get 0 fl_X7_56 dX7_dipOf_29 rfl rfl ?_
  refine J.get 1 fl_X7_195 dX7_dipOf_32 rfl rfl ?_
  exact J.iret B dX7_dipOf_35 rfl (⟨rfl, rfl⟩)
set_option maxHeartbeats 4000000 in
set_option maxRecDepth 100000 in
theorem i_dipOf1 (l : Launch) (G : jG) (r : va_W) {x : Nat} {A : Nat → Nat} {ns nr : Nat} {to : Int64} {al wa lf : Int32} {da dn dl dp dc : Int32} : Mt l G yX7_dipOf mX7_dipOf 0 0 0 0 [.ref x, .int (1 : Int32)] ((x, .inr (7, [.ref (A 0), .int (nI ns), .ref (A 1), .int (nI nr), .ref (A 2), .ref (A 3), .ref (A 4), .ref (A 5), .ref (A 6), .ref (A 7), .ref (A 8), .ref (A 9), .long to, .int al, .int wa, .int lf, .ref (A 10)])) :: (A 7, .inr (2, [.ref (A 18), .ref (A 19), .ref (A 20), .ref (A 21), .int da, .int dn, .int dl, .int dp, .int dc])) :: r) (fun v w => v = some (.int dp) ∧ w = (x, .inr (7, [.ref (A 0), .int (nI ns), .ref (A 1), .int (nI nr), .ref (A 2), .ref (A 3), .ref (A 4), .ref (A 5), .ref (A 6), .ref (A 7), .ref (A 8), .ref (A 9), .long to, .int al, .int wa, .int lf, .ref (A 10)])) :: (A 7, .inr (2, [.ref (A 18), .ref (A 19), .ref (A 20), .ref (A 21), .int da, .int dn, .int dl, .int dp, .int dc])) :: r) := by
  refine Mt.of (by decide +kernel) rfl rfl (fun X B => ?_)
  show J G X mX7_dipOf ((x, .inr (7, [.ref (A 0), .int (nI ns), .ref (A 1), .int (nI nr), .ref (A 2), .ref (A 3), .ref (A 4), .ref (A 5), .ref (A 6), .ref (A 7), .ref (A 8), .ref (A 9), .long to, .int al, .int wa, .int lf, .ref (A 10)])) :: (A 7, .inr (2, [.ref (A 18), .ref (A 19), .ref (A 20), .ref (A 21), .int da, .int dn, .int dl, .int dp, .int dc])) :: r) 0 0 0 [(0, .ref x), (1, .int (1 : Int32))] []
  refine J.iload_n 1 dX7_dipOf_0 rfl ?_
  refine J.tableIn dX7_dipOf_1 (by decide) (by decide) (off := 35) rfl (tgt := 36) rfl ?_
  refine J.aload_n 0 dX7_dipOf_36 rfl ?_
  refine J.get 0 fl_X7_56 dX7_dipOf_37 rfl rfl ?_
  refine J.get 1 fl_X7_198 dX7_dipOf_40 rfl rfl ?_
  exact J.iret B dX7_dipOf_43 rfl (⟨rfl, rfl⟩)
set_option maxHeartbeats 4000000 in
set_option maxRecDepth 100000 in
theorem i_dipOf2 (l : Launch) (G : jG) (r : va_W) {x : Nat} {A : Nat → Nat} {ns nr : Nat} {to : Int64} {al wa lf : Int32} {da dn dl dp dc : Int32} : Mt l G yX7_dipOf mX7_dipOf 0 0 0 0 [.ref x, .int (2 : Int32)] ((x, .inr (7, [.ref (A 0), .int (nI ns), .ref (A 1), .int (nI nr), .ref (A 2), .ref (A 3), .ref (A 4), .ref (A 5), .ref (A 6), .ref (A 7), .ref (A 8), .ref (A 9), .long to, .int al, .int wa, .int lf, .ref (A 10)])) :: (A 7, .inr (2, [.ref (A 18), .ref (A 19), .ref (A 20), .ref (A 21), .int da, .int dn, .int dl, .int dp, .int dc])) :: r) (fun v w => v = some (.int dc) ∧ w = (x, .inr (7, [.ref (A 0), .int (nI ns), .ref (A 1), .int (nI nr), .ref (A 2), .ref (A 3), .ref (A 4), .ref (A 5), .ref (A 6), .ref (A 7), .ref (A 8), .ref (A 9), .long to, .int al, .int wa, .int lf, .ref (A 10)])) :: (A 7, .inr (2, [.ref (A 18), .ref (A 19), .ref (A 20), .ref (A 21), .int da, .int dn, .int dl, .int dp, .int dc])) :: r) := by
  refine Mt.of (by decide +kernel) rfl rfl (fun X B => ?_)
  show J G X mX7_dipOf ((x, .inr (7, [.ref (A 0), .int (nI ns), .ref (A 1), .int (nI nr), .ref (A 2), .ref (A 3), .ref (A 4), .ref (A 5), .ref (A 6), .ref (A 7), .ref (A 8), .ref (A 9), .long to, .int al, .int wa, .int lf, .ref (A 10)])) :: (A 7, .inr (2, [.ref (A 18), .ref (A 19), .ref (A 20), .ref (A 21), .int da, .int dn, .int dl, .int dp, .int dc])) :: r) 0 0 0 [(0, .ref x), (1, .int (2 : Int32))] []
  refine J.iload_n 1 dX7_dipOf_0 rfl ?_
  refine J.tableIn dX7_dipOf_1 (by decide) (by decide) (off := 43) rfl (tgt := 44) rfl ?_
  refine J.aload_n 0 dX7_dipOf_44 rfl ?_
  refine J.get 0 fl_X7_56 dX7_dipOf_45 rfl rfl ?_
  refine J.get 1 fl_X7_201 dX7_dipOf_48 rfl rfl ?_
  exact J.iret B dX7_dipOf_51 rfl (⟨rfl, rfl⟩)
set_option maxHeartbeats 4000000 in
set_option maxRecDepth 100000 in
theorem i_count_bad (l : Launch) (G : jG) (r : va_W) {x : Nat} {A : Nat → Nat} {ns nr : Nat} {to : Int64} {al wa lf : Int32} {a : Int32} (ha : inR a 0 4 = false) : Mt l G yX7_count mX7_count 1 23 0 0 [.ref x, .int a] ((x, .inr (7, [.ref (A 0), .int (nI ns), .ref (A 1), .int (nI nr), .ref (A 2), .ref (A 3), .ref (A 4), .ref (A 5), .ref (A 6), .ref (A 7), .ref (A 8), .ref (A 9), .long to, .int al, .int wa, .int lf, .ref (A 10)])) :: r) (fun v w => v = some (.int (-1 : Int32)) ∧ w = (x, .inr (7, [.ref (A 0), .int (nI ns), .ref (A 1), .int (nI nr), .ref (A 2), .ref (A 3), .ref (A 4), .ref (A 5), .ref (A 6), .ref (A 7), .ref (A 8), .ref (A 9), .long to, .int al, .int wa, .int lf, .ref (A 10)])) :: r) := by
  refine Mt.of (by decide +kernel) rfl rfl (fun X B => ?_)
  show J G X mX7_count ((x, .inr (7, [.ref (A 0), .int (nI ns), .ref (A 1), .int (nI nr), .ref (A 2), .ref (A 3), .ref (A 4), .ref (A 5), .ref (A 6), .ref (A 7), .ref (A 8), .ref (A 9), .long to, .int al, .int wa, .int lf, .ref (A 10)])) :: r) 0 0 0 [(0, .ref x), (1, .int a)] []
  refine J.iload_n 1 dX7_count_0 rfl ?_
  refine J.tableOut dX7_count_1 (by have := inR_no ha; omega) (tgt := 61) rfl ?_
  refine J.iconst (-1 : Int32) dX7_count_61 rfl ?_
  exact J.iret B dX7_count_62 rfl ⟨rfl, rfl⟩
set_option maxHeartbeats 4000000 in
set_option maxRecDepth 100000 in
theorem i_count0 (l : Launch) (G : jG) (r : va_W) {x : Nat} {A : Nat → Nat} {ns nr : Nat} {to : Int64} {al wa lf : Int32} : Mt l G yX7_count mX7_count 1 23 0 0 [.ref x, .int (0 : Int32)] ((x, .inr (7, [.ref (A 0), .int (nI ns), .ref (A 1), .int (nI nr), .ref (A 2), .ref (A 3), .ref (A 4), .ref (A 5), .ref (A 6), .ref (A 7), .ref (A 8), .ref (A 9), .long to, .int al, .int wa, .int lf, .ref (A 10)])) :: r) (fun v w => v = some (.int (nI ns)) ∧ w = (x, .inr (7, [.ref (A 0), .int (nI ns), .ref (A 1), .int (nI nr), .ref (A 2), .ref (A 3), .ref (A 4), .ref (A 5), .ref (A 6), .ref (A 7), .ref (A 8), .ref (A 9), .long to, .int al, .int wa, .int lf, .ref (A 10)])) :: r) := by
  refine Mt.of (by decide +kernel) rfl rfl (fun X B => ?_)
  show J G X mX7_count ((x, .inr (7, [.ref (A 0), .int (nI ns), .ref (A 1), .int (nI nr), .ref (A 2), .ref (A 3), .ref (A 4), .ref (A 5), .ref (A 6), .ref (A 7), .ref (A 8), .ref (A 9), .long to, .int al, .int wa, .int lf, .ref (A 10)])) :: r) 0 0 0 [(0, .ref x), (1, .int (0 : Int32))] []
  refine J.iload_n 1 dX7_count_0 rfl ?_
  refine J.tableIn dX7_count_1 (by decide) (by decide) (off := 35) rfl (tgt := 36) rfl ?_
  refine J.aload_n 0 dX7_count_36 rfl ?_
  refine J.get 0 fl_X7_73 dX7_count_37 rfl rfl ?_
  exact J.iret B dX7_count_40 rfl (⟨rfl, rfl⟩)
set_option maxHeartbeats 4000000 in
set_option maxRecDepth 100000 in
theorem i_count3 (l : Launch) (G : jG) (r : va_W) {x : Nat} {A : Nat → Nat} {ns nr : Nat} {to : Int64} {al wa lf : Int32} : Mt l G yX7_count mX7_count 1 23 0 0 [.ref x, .int (3 : Int32)] ((x, .inr (7, [.ref (A 0), .int (nI ns), .ref (A 1), .int (nI nr), .ref (A 2), .ref (A 3), .ref (A 4), .ref (A 5), .ref (A 6), .ref (A 7), .ref (A 8), .ref (A 9), .long to, .int al, .int wa, .int lf, .ref (A 10)])) :: r) (fun v w => v = some (.int (nI nr)) ∧ w = (x, .inr (7, [.ref (A 0), .int (nI ns), .ref (A 1), .int (nI nr), .ref (A 2), .ref (A 3), .ref (A 4), .ref (A 5), .ref (A 6), .ref (A 7), .ref (A 8), .ref (A 9), .long to, .int al, .int wa, .int lf, .ref (A 10)])) :: r) := by
  refine Mt.of (by decide +kernel) rfl rfl (fun X B => ?_)
  show J G X mX7_count ((x, .inr (7, [.ref (A 0), .int (nI ns), .ref (A 1), .int (nI nr), .ref (A 2), .ref (A 3), .ref (A 4), .ref (A 5), .ref (A 6), .ref (A 7), .ref (A 8), .ref (A 9), .long to, .int al, .int wa, .int lf, .ref (A 10)])) :: r) 0 0 0 [(0, .ref x), (1, .int (3 : Int32))] []
  refine J.iload_n 1 dX7_count_0 rfl ?_
  refine J.tableIn dX7_count_1 (by decide) (by decide) (off := 50) rfl (tgt := 51) rfl ?_
  refine J.aload_n 0 dX7_count_51 rfl ?_
  refine J.get 0 fl_X7_222 dX7_count_52 rfl rfl ?_
  exact J.iret B dX7_count_55 rfl (⟨rfl, rfl⟩)
set_option maxHeartbeats 4000000 in
set_option maxRecDepth 100000 in
theorem i_count4 (l : Launch) (G : jG) (r : va_W) {x : Nat} {A : Nat → Nat} {ns nr : Nat} {to : Int64} {al wa lf : Int32} : Mt l G yX7_count mX7_count 1 23 0 0 [.ref x, .int (4 : Int32)] ((x, .inr (7, [.ref (A 0), .int (nI ns), .ref (A 1), .int (nI nr), .ref (A 2), .ref (A 3), .ref (A 4), .ref (A 5), .ref (A 6), .ref (A 7), .ref (A 8), .ref (A 9), .long to, .int al, .int wa, .int lf, .ref (A 10)])) :: r) (fun v w => v = some (.int wa) ∧ w = (x, .inr (7, [.ref (A 0), .int (nI ns), .ref (A 1), .int (nI nr), .ref (A 2), .ref (A 3), .ref (A 4), .ref (A 5), .ref (A 6), .ref (A 7), .ref (A 8), .ref (A 9), .long to, .int al, .int wa, .int lf, .ref (A 10)])) :: r) := by
  refine Mt.of (by decide +kernel) rfl rfl (fun X B => ?_)
  show J G X mX7_count ((x, .inr (7, [.ref (A 0), .int (nI ns), .ref (A 1), .int (nI nr), .ref (A 2), .ref (A 3), .ref (A 4), .ref (A 5), .ref (A 6), .ref (A 7), .ref (A 8), .ref (A 9), .long to, .int al, .int wa, .int lf, .ref (A 10)])) :: r) 0 0 0 [(0, .ref x), (1, .int (4 : Int32))] []
  refine J.iload_n 1 dX7_count_0 rfl ?_
  refine J.tableIn dX7_count_1 (by decide) (by decide) (off := 55) rfl (tgt := 56) rfl ?_
  refine J.aload_n 0 dX7_count_56 rfl ?_
  refine J.get 0 fl_X7_231 dX7_count_57 rfl rfl ?_
  exact J.iret B dX7_count_60 rfl (⟨rfl, rfl⟩)
