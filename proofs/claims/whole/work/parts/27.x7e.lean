set_option maxHeartbeats 4000000 in
set_option maxRecDepth 100000 in
theorem i_levelOf_bad (l : Launch) (G : jG) (r : va_W) {x : Nat} {A : Nat → Nat} {ns nr : Nat} {to : Int64} {al wa lf : Int32} {sa : Nat → Option Nat} {num : Int32} (hns : ns ≤ 12) (hnum : inR num 0 ((ns : Int) - 1) = false) : Mt l G yX7_levelOf mX7_levelOf 4 87 0 0 [.ref x, .int num] ((x, .inr (7, [.ref (A 0), .int (nI ns), .ref (A 1), .int (nI nr), .ref (A 2), .ref (A 3), .ref (A 4), .ref (A 5), .ref (A 6), .ref (A 7), .ref (A 8), .ref (A 9), .long to, .int al, .int wa, .int lf, .ref (A 10)])) :: (A 0, .inl (G.2.1.2.2.1, 12, .inr (.inr (.inr (.inr sa))))) :: r) (fun v w => v = some (.int (-1 : Int32)) ∧ w = (x, .inr (7, [.ref (A 0), .int (nI ns), .ref (A 1), .int (nI nr), .ref (A 2), .ref (A 3), .ref (A 4), .ref (A 5), .ref (A 6), .ref (A 7), .ref (A 8), .ref (A 9), .long to, .int al, .int wa, .int lf, .ref (A 10)])) :: (A 0, .inl (G.2.1.2.2.1, 12, .inr (.inr (.inr (.inr sa))))) :: r) := by
  refine Mt.of (by decide +kernel) rfl rfl (fun X B => ?_)
  show J G X mX7_levelOf ((x, .inr (7, [.ref (A 0), .int (nI ns), .ref (A 1), .int (nI nr), .ref (A 2), .ref (A 3), .ref (A 4), .ref (A 5), .ref (A 6), .ref (A 7), .ref (A 8), .ref (A 9), .long to, .int al, .int wa, .int lf, .ref (A 10)])) :: (A 0, .inl (G.2.1.2.2.1, 12, .inr (.inr (.inr (.inr sa))))) :: r) 0 0 0 [(0, .ref x), (1, .int num)] []
  refine J.aload_n 0 dX7_levelOf_0 rfl ?_
  refine J.iload_n 1 dX7_levelOf_1 rfl ?_
  refine J.callV 0 (st := []) B (c_X7_gatherLights_bad l G _ hns hnum) ml_X7_142 mf_yX7_gatherLights mi_yX7_gatherLights rfl dX7_levelOf_2 rfl rfl rfl rfl (fun v_1 w_2 hp_3 => ?_)
  obtain ⟨rfl, rfl⟩ := hp_3
  show J G X mX7_levelOf _ _ _ 5 _ [.int (-1 : Int32)]
  refine J.istore_n [1, 2, 0] (lv' := [(0, .ref x), (1, .int num), (2, .int (-1 : Int32))]) dX7_levelOf_5 rfl rfl ?_
  refine J.iload_n 2 dX7_levelOf_6 rfl ?_
  refine J.if_ne dX7_levelOf_7 (fun _ => ?_) (fun z => absurd z (by decide))
  refine J.iload_n 2 dX7_levelOf_22 rfl ?_
  exact J.iret B dX7_levelOf_23 rfl (⟨rfl, rfl⟩)
set_option maxHeartbeats 4000000 in
set_option maxRecDepth 100000 in
theorem i_levelOf_no (l : Launch) (G : jG) (r : va_W) {x : Nat} {A : Nat → Nat} {ns nr : Nat} {to : Int64} {al wa lf : Int32} {sa : Nat → Option Nat} {la : Nat} {kd wc : Int32} {k s : Nat} (hk : k < ns) (hns : ns ≤ 12) (hsa : sa k = some s) {fc : Nat → Int32} : Mt l G yX7_levelOf mX7_levelOf 4 87 0 0 [.ref x, .int (nI k)] ((x, .inr (7, [.ref (A 0), .int (nI ns), .ref (A 1), .int (nI nr), .ref (A 2), .ref (A 3), .ref (A 4), .ref (A 5), .ref (A 6), .ref (A 7), .ref (A 8), .ref (A 9), .long to, .int al, .int wa, .int lf, .ref (A 10)])) :: (A 0, .inl (G.2.1.2.2.1, 12, .inr (.inr (.inr (.inr sa))))) :: (s, .inr (6, [.int kd, .ref la, .int (0 : Int32), .int wc])) :: (A 10, .inl (G.2.1.1, 6, .inl fc)) :: r) (fun v w => v = some (.int (-3 : Int32)) ∧ w = (x, .inr (7, [.ref (A 0), .int (nI ns), .ref (A 1), .int (nI nr), .ref (A 2), .ref (A 3), .ref (A 4), .ref (A 5), .ref (A 6), .ref (A 7), .ref (A 8), .ref (A 9), .long to, .int al, .int wa, .int (nI 1), .ref (A 10)])) :: (A 0, .inl (G.2.1.2.2.1, 12, .inr (.inr (.inr (.inr sa))))) :: (s, .inr (6, [.int kd, .ref la, .int (0 : Int32), .int wc])) :: (A 10, .inl (G.2.1.1, 6, .inl (upd fc 1 (fc 1 + 1)))) :: r) := by
  refine Mt.of (by decide +kernel) rfl rfl (fun X B => ?_)
  show J G X mX7_levelOf ((x, .inr (7, [.ref (A 0), .int (nI ns), .ref (A 1), .int (nI nr), .ref (A 2), .ref (A 3), .ref (A 4), .ref (A 5), .ref (A 6), .ref (A 7), .ref (A 8), .ref (A 9), .long to, .int al, .int wa, .int lf, .ref (A 10)])) :: (A 0, .inl (G.2.1.2.2.1, 12, .inr (.inr (.inr (.inr sa))))) :: (s, .inr (6, [.int kd, .ref la, .int (0 : Int32), .int wc])) :: (A 10, .inl (G.2.1.1, 6, .inl fc)) :: r) 0 0 0 [(0, .ref x), (1, .int (nI k))] []
  refine J.aload_n 0 dX7_levelOf_0 rfl ?_
  refine J.iload_n 1 dX7_levelOf_1 rfl ?_
  refine J.callV 0 (st := []) B (c_X7_gatherLights_no l G _ hk hns hsa) ml_X7_142 mf_yX7_gatherLights mi_yX7_gatherLights rfl dX7_levelOf_2 rfl rfl rfl rfl (fun v_1 w_2 hp_3 => ?_)
  obtain ⟨rfl, rfl⟩ := hp_3
  show J G X mX7_levelOf _ _ _ 5 _ [.int (-3 : Int32)]
  refine J.istore_n [1, 2, 0] (lv' := [(0, .ref x), (1, .int (nI k)), (2, .int (-3 : Int32))]) dX7_levelOf_5 rfl rfl ?_
  refine J.iload_n 2 dX7_levelOf_6 rfl ?_
  refine J.if_ne dX7_levelOf_7 (fun _ => ?_) (fun z => absurd z (by decide))
  refine J.iload_n 2 dX7_levelOf_22 rfl ?_
  exact J.iret B dX7_levelOf_23 rfl (⟨rfl, rfl⟩)
set_option maxHeartbeats 4000000 in
set_option maxRecDepth 100000 in
theorem i_levelOf_nought (l : Launch) (G : jG) (r : va_W) {x : Nat} {A : Nat → Nat} {ns nr : Nat} {to : Int64} {al wa lf : Int32} {sa : Nat → Option Nat} {la : Nat} {kd wc : Int32} {k s : Nat} (hk : k < ns) (hns : ns ≤ 12) (hsa : sa k = some s) {L F : Nat → Int32} {cz : Int32} {t u : Nat → Int32} {fc : Nat → Int32} (hL : nN L = 0) : Mt l G yX7_levelOf mX7_levelOf 4 87 0 0 [.ref x, .int (nI k)] ((x, .inr (7, [.ref (A 0), .int (nI ns), .ref (A 1), .int (nI nr), .ref (A 2), .ref (A 3), .ref (A 4), .ref (A 5), .ref (A 6), .ref (A 7), .ref (A 8), .ref (A 9), .long to, .int al, .int wa, .int lf, .ref (A 10)])) :: (A 0, .inl (G.2.1.2.2.1, 12, .inr (.inr (.inr (.inr sa))))) :: (s, .inr (6, [.int kd, .ref la, .int (1 : Int32), .int wc])) :: (la, .inl (G.2.1.1, 60, .inl L)) :: (A 2, .inl (G.2.1.1, 60, .inl F)) :: (A 3, .inr (1, [.ref (A 11), .ref (A 12), .int cz])) :: (A 11, .inl (G.2.1.1, 60, .inl t)) :: (A 12, .inl (G.2.1.1, 60, .inl u)) :: (A 10, .inl (G.2.1.1, 6, .inl fc)) :: r) (fun v w => ∃ t1 u1, v = some (.int (-3)) ∧ w = (x, .inr (7, [.ref (A 0), .int (nI ns), .ref (A 1), .int (nI nr), .ref (A 2), .ref (A 3), .ref (A 4), .ref (A 5), .ref (A 6), .ref (A 7), .ref (A 8), .ref (A 9), .long to, .int al, .int wa, .int (nI 4), .ref (A 10)])) :: (A 0, .inl (G.2.1.2.2.1, 12, .inr (.inr (.inr (.inr sa))))) :: (s, .inr (6, [.int kd, .ref la, .int (1 : Int32), .int wc])) :: (la, .inl (G.2.1.1, 60, .inl L)) :: (A 2, .inl (G.2.1.1, 60, .inl F)) :: (A 3, .inr (1, [.ref (A 11), .ref (A 12), .int (nI (nN L))])) :: (A 11, .inl (G.2.1.1, 60, .inl t1)) :: (A 12, .inl (G.2.1.1, 60, .inl u1)) :: (A 10, .inl (G.2.1.1, 6, .inl (upd fc 4 (fc 4 + 1)))) :: r) := by
  refine Mt.of (by decide +kernel) rfl rfl (fun X B => ?_)
  show J G X mX7_levelOf ((x, .inr (7, [.ref (A 0), .int (nI ns), .ref (A 1), .int (nI nr), .ref (A 2), .ref (A 3), .ref (A 4), .ref (A 5), .ref (A 6), .ref (A 7), .ref (A 8), .ref (A 9), .long to, .int al, .int wa, .int lf, .ref (A 10)])) :: (A 0, .inl (G.2.1.2.2.1, 12, .inr (.inr (.inr (.inr sa))))) :: (s, .inr (6, [.int kd, .ref la, .int (1 : Int32), .int wc])) :: (la, .inl (G.2.1.1, 60, .inl L)) :: (A 2, .inl (G.2.1.1, 60, .inl F)) :: (A 3, .inr (1, [.ref (A 11), .ref (A 12), .int cz])) :: (A 11, .inl (G.2.1.1, 60, .inl t)) :: (A 12, .inl (G.2.1.1, 60, .inl u)) :: (A 10, .inl (G.2.1.1, 6, .inl fc)) :: r) 0 0 0 [(0, .ref x), (1, .int (nI k))] []
  refine J.aload_n 0 dX7_levelOf_0 rfl ?_
  refine J.iload_n 1 dX7_levelOf_1 rfl ?_
  refine J.callV 0 (st := []) B (c_X7_gatherLights_nought l G _ hk hns hsa hL) ml_X7_142 mf_yX7_gatherLights mi_yX7_gatherLights rfl dX7_levelOf_2 rfl rfl rfl rfl (fun v_1 w_2 hp_3 => ?_)
  obtain ⟨t1, u1, rfl, rfl⟩ := hp_3
  show J G X mX7_levelOf _ _ _ 5 _ [.int (-3 : Int32)]
  refine J.istore_n [1, 2, 0] (lv' := [(0, .ref x), (1, .int (nI k)), (2, .int (-3 : Int32))]) dX7_levelOf_5 rfl rfl ?_
  refine J.iload_n 2 dX7_levelOf_6 rfl ?_
  refine J.if_ne dX7_levelOf_7 (fun _ => ?_) (fun z => absurd z (by decide))
  refine J.iload_n 2 dX7_levelOf_22 rfl ?_
  exact J.iret B dX7_levelOf_23 rfl (⟨t1, u1, rfl, rfl⟩)
set_option maxHeartbeats 4000000 in
set_option maxRecDepth 100000 in
theorem i_levelOf (l : Launch) (G : jG) (r : va_W) {x : Nat} {A : Nat → Nat} {ns nr : Nat} {to : Int64} {al wa lf : Int32} {sa : Nat → Option Nat} {la : Nat} {kd wc : Int32} {k s : Nat} (hk : k < ns) (hns : ns ≤ 12) (hsa : sa k = some s) {L F : Nat → Int32} {cz : Int32} {t u : Nat → Int32} {zs : Int32} {nu : Nat → Int32} (hL : 0 < nN L) : Mt l G yX7_levelOf mX7_levelOf 4 87 0 0 [.ref x, .int (nI k)] ((x, .inr (7, [.ref (A 0), .int (nI ns), .ref (A 1), .int (nI nr), .ref (A 2), .ref (A 3), .ref (A 4), .ref (A 5), .ref (A 6), .ref (A 7), .ref (A 8), .ref (A 9), .long to, .int al, .int wa, .int lf, .ref (A 10)])) :: (A 0, .inl (G.2.1.2.2.1, 12, .inr (.inr (.inr (.inr sa))))) :: (s, .inr (6, [.int kd, .ref la, .int (1 : Int32), .int wc])) :: (la, .inl (G.2.1.1, 60, .inl L)) :: (A 2, .inl (G.2.1.1, 60, .inl F)) :: (A 3, .inr (1, [.ref (A 11), .ref (A 12), .int cz])) :: (A 11, .inl (G.2.1.1, 60, .inl t)) :: (A 12, .inl (G.2.1.1, 60, .inl u)) :: (A 4, .inr (0, [.ref (A 13), .int zs])) :: (A 13, .inl (G.2.1.1, 60, .inl nu)) :: r) (fun v w => ∃ t1 u1 nu1, v = some (.int 1) ∧ w = (x, .inr (7, [.ref (A 0), .int (nI ns), .ref (A 1), .int (nI nr), .ref (A 2), .ref (A 3), .ref (A 4), .ref (A 5), .ref (A 6), .ref (A 7), .ref (A 8), .ref (A 9), .long ((midV (lits L F 60)).toInt64), .int al, .int wa, .int lf, .ref (A 10)])) :: (A 0, .inl (G.2.1.2.2.1, 12, .inr (.inr (.inr (.inr sa))))) :: (s, .inr (6, [.int kd, .ref la, .int (1 : Int32), .int wc])) :: (la, .inl (G.2.1.1, 60, .inl L)) :: (A 2, .inl (G.2.1.1, 60, .inl F)) :: (A 3, .inr (1, [.ref (A 11), .ref (A 12), .int (nI (nN L))])) :: (A 11, .inl (G.2.1.1, 60, .inl t1)) :: (A 12, .inl (G.2.1.1, 60, .inl u1)) :: (A 4, .inr (0, [.ref (A 13), .int (nI (nN L))])) :: (A 13, .inl (G.2.1.1, 60, .inl nu1)) :: r) := by
  refine Mt.of (by decide +kernel) rfl rfl (fun X B => ?_)
  show J G X mX7_levelOf ((x, .inr (7, [.ref (A 0), .int (nI ns), .ref (A 1), .int (nI nr), .ref (A 2), .ref (A 3), .ref (A 4), .ref (A 5), .ref (A 6), .ref (A 7), .ref (A 8), .ref (A 9), .long to, .int al, .int wa, .int lf, .ref (A 10)])) :: (A 0, .inl (G.2.1.2.2.1, 12, .inr (.inr (.inr (.inr sa))))) :: (s, .inr (6, [.int kd, .ref la, .int (1 : Int32), .int wc])) :: (la, .inl (G.2.1.1, 60, .inl L)) :: (A 2, .inl (G.2.1.1, 60, .inl F)) :: (A 3, .inr (1, [.ref (A 11), .ref (A 12), .int cz])) :: (A 11, .inl (G.2.1.1, 60, .inl t)) :: (A 12, .inl (G.2.1.1, 60, .inl u)) :: (A 4, .inr (0, [.ref (A 13), .int zs])) :: (A 13, .inl (G.2.1.1, 60, .inl nu)) :: r) 0 0 0 [(0, .ref x), (1, .int (nI k))] []
  refine J.aload_n 0 dX7_levelOf_0 rfl ?_
  refine J.iload_n 1 dX7_levelOf_1 rfl ?_
  refine J.callV 0 (st := []) B (c_X7_gatherLights l G _ hk hns hsa hL) ml_X7_142 mf_yX7_gatherLights mi_yX7_gatherLights rfl dX7_levelOf_2 rfl rfl rfl rfl (fun v_1 w_2 hp_3 => ?_)
  obtain ⟨t1, u1, hcv, rfl, rfl⟩ := hp_3
  show J G X mX7_levelOf _ _ _ 5 _ [.int (0 : Int32)]
  refine J.istore_n [1, 2, 0] (lv' := [(0, .ref x), (1, .int (nI k)), (2, .int (0 : Int32))]) dX7_levelOf_5 rfl rfl ?_
  refine J.iload_n 2 dX7_levelOf_6 rfl ?_
  refine J.if_ne dX7_levelOf_7 (fun z => absurd z (by decide)) (fun _ => ?_)
  refine J.aload_n 0 dX7_levelOf_10 rfl ?_
  refine J.aload_n 0 dX7_levelOf_11 rfl ?_
  refine J.re [0, 5, 7, 8, 9, 1, 2, 3, 4, 6] 10 (ws2 := (x, .inr (7, [.ref (A 0), .int (nI ns), .ref (A 1), .int (nI nr), .ref (A 2), .ref (A 3), .ref (A 4), .ref (A 5), .ref (A 6), .ref (A 7), .ref (A 8), .ref (A 9), .long to, .int al, .int wa, .int lf, .ref (A 10)])) :: (A 3, .inr (1, [.ref (A 11), .ref (A 12), .int (nI (nN L))])) :: (A 12, .inl (G.2.1.1, 60, .inl u1)) :: (A 4, .inr (0, [.ref (A 13), .int zs])) :: (A 13, .inl (G.2.1.1, 60, .inl nu)) :: (A 0, .inl (G.2.1.2.2.1, 12, .inr (.inr (.inr (.inr sa))))) :: (s, .inr (6, [.int kd, .ref la, .int (1 : Int32), .int wc])) :: (la, .inl (G.2.1.1, 60, .inl L)) :: (A 2, .inl (G.2.1.1, 60, .inl F)) :: (A 11, .inl (G.2.1.1, 60, .inl t1)) :: r) rfl rfl ?_
  refine J.callV 0 (st := [.ref x]) B (c_X7_levelOfCurve l G _ hcv) ml_X7_145 mf_yX7_levelOfCurve mi_yX7_levelOfCurve rfl dX7_levelOf_12 rfl rfl rfl rfl (fun v_4 w_5 hp_6 => ?_)
  obtain ⟨nu1, hA, rfl, rfl⟩ := hp_6
  refine J.re [0, 5, 6, 7, 8, 1, 9, 2, 3, 4] 10 (ws2 := (x, .inr (7, [.ref (A 0), .int (nI ns), .ref (A 1), .int (nI nr), .ref (A 2), .ref (A 3), .ref (A 4), .ref (A 5), .ref (A 6), .ref (A 7), .ref (A 8), .ref (A 9), .long to, .int al, .int wa, .int lf, .ref (A 10)])) :: (A 0, .inl (G.2.1.2.2.1, 12, .inr (.inr (.inr (.inr sa))))) :: (s, .inr (6, [.int kd, .ref la, .int (1 : Int32), .int wc])) :: (la, .inl (G.2.1.1, 60, .inl L)) :: (A 2, .inl (G.2.1.1, 60, .inl F)) :: (A 3, .inr (1, [.ref (A 11), .ref (A 12), .int (nI (nN L))])) :: (A 11, .inl (G.2.1.1, 60, .inl t1)) :: (A 12, .inl (G.2.1.1, 60, .inl u1)) :: (A 4, .inr (0, [.ref (A 13), .int (nI (nN L))])) :: (A 13, .inl (G.2.1.1, 60, .inl nu1)) :: r) rfl rfl ?_
  show J G X mX7_levelOf _ _ _ 15 _ [.int (midV (lits L F 60)), .ref x]
  refine J.i2l dX7_levelOf_15 ?_
  refine J.callV 0 (st := []) B (c_X7_tell l G _ (t0 := (midV (lits L F 60)).toInt64)) ml_X7_115 mf_yX7_tell mi_yX7_tell rfl dX7_levelOf_16 rfl rfl rfl rfl (fun v_7 w_8 hp_9 => ?_)
  obtain ⟨rfl, rfl⟩ := hp_9
  show J G X mX7_levelOf _ _ _ 19 _ [.int (1 : Int32)]
  refine J.goto dX7_levelOf_19 ?_
  exact J.iret B dX7_levelOf_23 rfl (⟨t1, u1, nu1, rfl, rfl⟩)
set_option maxHeartbeats 4000000 in
set_option maxRecDepth 100000 in
theorem i_mean_bad (l : Launch) (G : jG) (r : va_W) {x : Nat} {A : Nat → Nat} {ns nr : Nat} {to : Int64} {al wa lf : Int32} {sa : Nat → Option Nat} {num : Int32} (hns : ns ≤ 12) (hnum : inR num 0 ((ns : Int) - 1) = false) : Mt l G yX7_mean mX7_mean 4 87 0 0 [.ref x, .int num] ((x, .inr (7, [.ref (A 0), .int (nI ns), .ref (A 1), .int (nI nr), .ref (A 2), .ref (A 3), .ref (A 4), .ref (A 5), .ref (A 6), .ref (A 7), .ref (A 8), .ref (A 9), .long to, .int al, .int wa, .int lf, .ref (A 10)])) :: (A 0, .inl (G.2.1.2.2.1, 12, .inr (.inr (.inr (.inr sa))))) :: r) (fun v w => v = some (.int (-1 : Int32)) ∧ w = (x, .inr (7, [.ref (A 0), .int (nI ns), .ref (A 1), .int (nI nr), .ref (A 2), .ref (A 3), .ref (A 4), .ref (A 5), .ref (A 6), .ref (A 7), .ref (A 8), .ref (A 9), .long to, .int al, .int wa, .int lf, .ref (A 10)])) :: (A 0, .inl (G.2.1.2.2.1, 12, .inr (.inr (.inr (.inr sa))))) :: r) := by
  refine Mt.of (by decide +kernel) rfl rfl (fun X B => ?_)
  show J G X mX7_mean ((x, .inr (7, [.ref (A 0), .int (nI ns), .ref (A 1), .int (nI nr), .ref (A 2), .ref (A 3), .ref (A 4), .ref (A 5), .ref (A 6), .ref (A 7), .ref (A 8), .ref (A 9), .long to, .int al, .int wa, .int lf, .ref (A 10)])) :: (A 0, .inl (G.2.1.2.2.1, 12, .inr (.inr (.inr (.inr sa))))) :: r) 0 0 0 [(0, .ref x), (1, .int num)] []
  refine J.aload_n 0 dX7_mean_0 rfl ?_
  refine J.iload_n 1 dX7_mean_1 rfl ?_
  refine J.callV 0 (st := []) B (c_X7_gatherLights_bad l G _ hns hnum) ml_X7_142 mf_yX7_gatherLights mi_yX7_gatherLights rfl dX7_mean_2 rfl rfl rfl rfl (fun v_1 w_2 hp_3 => ?_)
  obtain ⟨rfl, rfl⟩ := hp_3
  show J G X mX7_mean _ _ _ 5 _ [.int (-1 : Int32)]
  refine J.istore_n [1, 2, 0] (lv' := [(0, .ref x), (1, .int num), (2, .int (-1 : Int32))]) dX7_mean_5 rfl rfl ?_
  refine J.iload_n 2 dX7_mean_6 rfl ?_
  refine J.if_ne dX7_mean_7 (fun _ => ?_) (fun z => absurd z (by decide))
  refine J.iload_n 2 dX7_mean_24 rfl ?_
  exact J.iret B dX7_mean_25 rfl (⟨rfl, rfl⟩)
set_option maxHeartbeats 4000000 in
set_option maxRecDepth 100000 in
theorem i_mean_no (l : Launch) (G : jG) (r : va_W) {x : Nat} {A : Nat → Nat} {ns nr : Nat} {to : Int64} {al wa lf : Int32} {sa : Nat → Option Nat} {la : Nat} {kd wc : Int32} {k s : Nat} (hk : k < ns) (hns : ns ≤ 12) (hsa : sa k = some s) {fc : Nat → Int32} : Mt l G yX7_mean mX7_mean 4 87 0 0 [.ref x, .int (nI k)] ((x, .inr (7, [.ref (A 0), .int (nI ns), .ref (A 1), .int (nI nr), .ref (A 2), .ref (A 3), .ref (A 4), .ref (A 5), .ref (A 6), .ref (A 7), .ref (A 8), .ref (A 9), .long to, .int al, .int wa, .int lf, .ref (A 10)])) :: (A 0, .inl (G.2.1.2.2.1, 12, .inr (.inr (.inr (.inr sa))))) :: (s, .inr (6, [.int kd, .ref la, .int (0 : Int32), .int wc])) :: (A 10, .inl (G.2.1.1, 6, .inl fc)) :: r) (fun v w => v = some (.int (-3 : Int32)) ∧ w = (x, .inr (7, [.ref (A 0), .int (nI ns), .ref (A 1), .int (nI nr), .ref (A 2), .ref (A 3), .ref (A 4), .ref (A 5), .ref (A 6), .ref (A 7), .ref (A 8), .ref (A 9), .long to, .int al, .int wa, .int (nI 1), .ref (A 10)])) :: (A 0, .inl (G.2.1.2.2.1, 12, .inr (.inr (.inr (.inr sa))))) :: (s, .inr (6, [.int kd, .ref la, .int (0 : Int32), .int wc])) :: (A 10, .inl (G.2.1.1, 6, .inl (upd fc 1 (fc 1 + 1)))) :: r) := by
  refine Mt.of (by decide +kernel) rfl rfl (fun X B => ?_)
  show J G X mX7_mean ((x, .inr (7, [.ref (A 0), .int (nI ns), .ref (A 1), .int (nI nr), .ref (A 2), .ref (A 3), .ref (A 4), .ref (A 5), .ref (A 6), .ref (A 7), .ref (A 8), .ref (A 9), .long to, .int al, .int wa, .int lf, .ref (A 10)])) :: (A 0, .inl (G.2.1.2.2.1, 12, .inr (.inr (.inr (.inr sa))))) :: (s, .inr (6, [.int kd, .ref la, .int (0 : Int32), .int wc])) :: (A 10, .inl (G.2.1.1, 6, .inl fc)) :: r) 0 0 0 [(0, .ref x), (1, .int (nI k))] []
  refine J.aload_n 0 dX7_mean_0 rfl ?_
  refine J.iload_n 1 dX7_mean_1 rfl ?_
  refine J.callV 0 (st := []) B (c_X7_gatherLights_no l G _ hk hns hsa) ml_X7_142 mf_yX7_gatherLights mi_yX7_gatherLights rfl dX7_mean_2 rfl rfl rfl rfl (fun v_1 w_2 hp_3 => ?_)
  obtain ⟨rfl, rfl⟩ := hp_3
  show J G X mX7_mean _ _ _ 5 _ [.int (-3 : Int32)]
  refine J.istore_n [1, 2, 0] (lv' := [(0, .ref x), (1, .int (nI k)), (2, .int (-3 : Int32))]) dX7_mean_5 rfl rfl ?_
  refine J.iload_n 2 dX7_mean_6 rfl ?_
  refine J.if_ne dX7_mean_7 (fun _ => ?_) (fun z => absurd z (by decide))
  refine J.iload_n 2 dX7_mean_24 rfl ?_
  exact J.iret B dX7_mean_25 rfl (⟨rfl, rfl⟩)
set_option maxHeartbeats 4000000 in
set_option maxRecDepth 100000 in
theorem i_mean_nought (l : Launch) (G : jG) (r : va_W) {x : Nat} {A : Nat → Nat} {ns nr : Nat} {to : Int64} {al wa lf : Int32} {sa : Nat → Option Nat} {la : Nat} {kd wc : Int32} {k s : Nat} (hk : k < ns) (hns : ns ≤ 12) (hsa : sa k = some s) {L F : Nat → Int32} {cz : Int32} {t u : Nat → Int32} {fc : Nat → Int32} (hL : nN L = 0) : Mt l G yX7_mean mX7_mean 4 87 0 0 [.ref x, .int (nI k)] ((x, .inr (7, [.ref (A 0), .int (nI ns), .ref (A 1), .int (nI nr), .ref (A 2), .ref (A 3), .ref (A 4), .ref (A 5), .ref (A 6), .ref (A 7), .ref (A 8), .ref (A 9), .long to, .int al, .int wa, .int lf, .ref (A 10)])) :: (A 0, .inl (G.2.1.2.2.1, 12, .inr (.inr (.inr (.inr sa))))) :: (s, .inr (6, [.int kd, .ref la, .int (1 : Int32), .int wc])) :: (la, .inl (G.2.1.1, 60, .inl L)) :: (A 2, .inl (G.2.1.1, 60, .inl F)) :: (A 3, .inr (1, [.ref (A 11), .ref (A 12), .int cz])) :: (A 11, .inl (G.2.1.1, 60, .inl t)) :: (A 12, .inl (G.2.1.1, 60, .inl u)) :: (A 10, .inl (G.2.1.1, 6, .inl fc)) :: r) (fun v w => ∃ t1 u1, v = some (.int (-3)) ∧ w = (x, .inr (7, [.ref (A 0), .int (nI ns), .ref (A 1), .int (nI nr), .ref (A 2), .ref (A 3), .ref (A 4), .ref (A 5), .ref (A 6), .ref (A 7), .ref (A 8), .ref (A 9), .long to, .int al, .int wa, .int (nI 4), .ref (A 10)])) :: (A 0, .inl (G.2.1.2.2.1, 12, .inr (.inr (.inr (.inr sa))))) :: (s, .inr (6, [.int kd, .ref la, .int (1 : Int32), .int wc])) :: (la, .inl (G.2.1.1, 60, .inl L)) :: (A 2, .inl (G.2.1.1, 60, .inl F)) :: (A 3, .inr (1, [.ref (A 11), .ref (A 12), .int (nI (nN L))])) :: (A 11, .inl (G.2.1.1, 60, .inl t1)) :: (A 12, .inl (G.2.1.1, 60, .inl u1)) :: (A 10, .inl (G.2.1.1, 6, .inl (upd fc 4 (fc 4 + 1)))) :: r) := by
  refine Mt.of (by decide +kernel) rfl rfl (fun X B => ?_)
  show J G X mX7_mean ((x, .inr (7, [.ref (A 0), .int (nI ns), .ref (A 1), .int (nI nr), .ref (A 2), .ref (A 3), .ref (A 4), .ref (A 5), .ref (A 6), .ref (A 7), .ref (A 8), .ref (A 9), .long to, .int al, .int wa, .int lf, .ref (A 10)])) :: (A 0, .inl (G.2.1.2.2.1, 12, .inr (.inr (.inr (.inr sa))))) :: (s, .inr (6, [.int kd, .ref la, .int (1 : Int32), .int wc])) :: (la, .inl (G.2.1.1, 60, .inl L)) :: (A 2, .inl (G.2.1.1, 60, .inl F)) :: (A 3, .inr (1, [.ref (A 11), .ref (A 12), .int cz])) :: (A 11, .inl (G.2.1.1, 60, .inl t)) :: (A 12, .inl (G.2.1.1, 60, .inl u)) :: (A 10, .inl (G.2.1.1, 6, .inl fc)) :: r) 0 0 0 [(0, .ref x), (1, .int (nI k))] []
  refine J.aload_n 0 dX7_mean_0 rfl ?_
  refine J.iload_n 1 dX7_mean_1 rfl ?_
  refine J.callV 0 (st := []) B (c_X7_gatherLights_nought l G _ hk hns hsa hL) ml_X7_142 mf_yX7_gatherLights mi_yX7_gatherLights rfl dX7_mean_2 rfl rfl rfl rfl (fun v_1 w_2 hp_3 => ?_)
  obtain ⟨t1, u1, rfl, rfl⟩ := hp_3
  show J G X mX7_mean _ _ _ 5 _ [.int (-3 : Int32)]
  refine J.istore_n [1, 2, 0] (lv' := [(0, .ref x), (1, .int (nI k)), (2, .int (-3 : Int32))]) dX7_mean_5 rfl rfl ?_
  refine J.iload_n 2 dX7_mean_6 rfl ?_
  refine J.if_ne dX7_mean_7 (fun _ => ?_) (fun z => absurd z (by decide))
  refine J.iload_n 2 dX7_mean_24 rfl ?_
  exact J.iret B dX7_mean_25 rfl (⟨t1, u1, rfl, rfl⟩)
set_option maxHeartbeats 4000000 in
set_option maxRecDepth 100000 in
theorem i_mean (l : Launch) (G : jG) (r : va_W) {x : Nat} {A : Nat → Nat} {ns nr : Nat} {to : Int64} {al wa lf : Int32} {sa : Nat → Option Nat} {la : Nat} {kd wc : Int32} {k s : Nat} (hk : k < ns) (hns : ns ≤ 12) (hsa : sa k = some s) {L F : Nat → Int32} {cz : Int32} {t u : Nat → Int32} (hL : 0 < nN L) : Mt l G yX7_mean mX7_mean 4 87 0 0 [.ref x, .int (nI k)] ((x, .inr (7, [.ref (A 0), .int (nI ns), .ref (A 1), .int (nI nr), .ref (A 2), .ref (A 3), .ref (A 4), .ref (A 5), .ref (A 6), .ref (A 7), .ref (A 8), .ref (A 9), .long to, .int al, .int wa, .int lf, .ref (A 10)])) :: (A 0, .inl (G.2.1.2.2.1, 12, .inr (.inr (.inr (.inr sa))))) :: (s, .inr (6, [.int kd, .ref la, .int (1 : Int32), .int wc])) :: (la, .inl (G.2.1.1, 60, .inl L)) :: (A 2, .inl (G.2.1.1, 60, .inl F)) :: (A 3, .inr (1, [.ref (A 11), .ref (A 12), .int cz])) :: (A 11, .inl (G.2.1.1, 60, .inl t)) :: (A 12, .inl (G.2.1.1, 60, .inl u)) :: r) (fun v w => ∃ t1 u1, v = some (.int 1) ∧ w = (x, .inr (7, [.ref (A 0), .int (nI ns), .ref (A 1), .int (nI nr), .ref (A 2), .ref (A 3), .ref (A 4), .ref (A 5), .ref (A 6), .ref (A 7), .ref (A 8), .ref (A 9), .long (mnV L F), .int al, .int wa, .int lf, .ref (A 10)])) :: (A 0, .inl (G.2.1.2.2.1, 12, .inr (.inr (.inr (.inr sa))))) :: (s, .inr (6, [.int kd, .ref la, .int (1 : Int32), .int wc])) :: (la, .inl (G.2.1.1, 60, .inl L)) :: (A 2, .inl (G.2.1.1, 60, .inl F)) :: (A 3, .inr (1, [.ref (A 11), .ref (A 12), .int (nI (nN L))])) :: (A 11, .inl (G.2.1.1, 60, .inl t1)) :: (A 12, .inl (G.2.1.1, 60, .inl u1)) :: r) := by
  refine Mt.of (by decide +kernel) rfl rfl (fun X B => ?_)
  show J G X mX7_mean ((x, .inr (7, [.ref (A 0), .int (nI ns), .ref (A 1), .int (nI nr), .ref (A 2), .ref (A 3), .ref (A 4), .ref (A 5), .ref (A 6), .ref (A 7), .ref (A 8), .ref (A 9), .long to, .int al, .int wa, .int lf, .ref (A 10)])) :: (A 0, .inl (G.2.1.2.2.1, 12, .inr (.inr (.inr (.inr sa))))) :: (s, .inr (6, [.int kd, .ref la, .int (1 : Int32), .int wc])) :: (la, .inl (G.2.1.1, 60, .inl L)) :: (A 2, .inl (G.2.1.1, 60, .inl F)) :: (A 3, .inr (1, [.ref (A 11), .ref (A 12), .int cz])) :: (A 11, .inl (G.2.1.1, 60, .inl t)) :: (A 12, .inl (G.2.1.1, 60, .inl u)) :: r) 0 0 0 [(0, .ref x), (1, .int (nI k))] []
  refine J.aload_n 0 dX7_mean_0 rfl ?_
  refine J.iload_n 1 dX7_mean_1 rfl ?_
  refine J.callV 0 (st := []) B (c_X7_gatherLights l G _ hk hns hsa hL) ml_X7_142 mf_yX7_gatherLights mi_yX7_gatherLights rfl dX7_mean_2 rfl rfl rfl rfl (fun v_1 w_2 hp_3 => ?_)
  obtain ⟨t1, u1, hcv, rfl, rfl⟩ := hp_3
  show J G X mX7_mean _ _ _ 5 _ [.int (0 : Int32)]
  refine J.istore_n [1, 2, 0] (lv' := [(0, .ref x), (1, .int (nI k)), (2, .int (0 : Int32))]) dX7_mean_5 rfl rfl ?_
  refine J.iload_n 2 dX7_mean_6 rfl ?_
  refine J.if_ne dX7_mean_7 (fun z => absurd z (by decide)) (fun _ => ?_)
  refine J.aload_n 0 dX7_mean_10 rfl ?_
  refine J.aload_n 0 dX7_mean_11 rfl ?_
  refine J.get 0 fl_X7_28 dX7_mean_12 rfl rfl ?_
  refine J.re [5, 7, 0, 1, 2, 3, 4, 6] 8 (ws2 := (A 3, .inr (1, [.ref (A 11), .ref (A 12), .int (nI (nN L))])) :: (A 12, .inl (G.2.1.1, 60, .inl u1)) :: (x, .inr (7, [.ref (A 0), .int (nI ns), .ref (A 1), .int (nI nr), .ref (A 2), .ref (A 3), .ref (A 4), .ref (A 5), .ref (A 6), .ref (A 7), .ref (A 8), .ref (A 9), .long to, .int al, .int wa, .int lf, .ref (A 10)])) :: (A 0, .inl (G.2.1.2.2.1, 12, .inr (.inr (.inr (.inr sa))))) :: (s, .inr (6, [.int kd, .ref la, .int (1 : Int32), .int wc])) :: (la, .inl (G.2.1.1, 60, .inl L)) :: (A 2, .inl (G.2.1.1, 60, .inl F)) :: (A 11, .inl (G.2.1.1, 60, .inl t1)) :: r) rfl rfl ?_
  refine J.callV 0 (st := [.ref x]) B (c_X1_average l G _ (n := nN L) (nN_le L)) ml_X7_149 mf_yX1_average mi_yX1_average rfl dX7_mean_15 rfl rfl rfl rfl (fun v_4 w_5 hp_6 => ?_)
  obtain ⟨rfl, rfl⟩ := hp_6
  rw [if_neg (Nat.ne_of_gt hL), sm64_all hcv]
  refine J.re [2, 3, 4, 5, 6, 0, 7, 1] 8 (ws2 := (x, .inr (7, [.ref (A 0), .int (nI ns), .ref (A 1), .int (nI nr), .ref (A 2), .ref (A 3), .ref (A 4), .ref (A 5), .ref (A 6), .ref (A 7), .ref (A 8), .ref (A 9), .long to, .int al, .int wa, .int lf, .ref (A 10)])) :: (A 0, .inl (G.2.1.2.2.1, 12, .inr (.inr (.inr (.inr sa))))) :: (s, .inr (6, [.int kd, .ref la, .int (1 : Int32), .int wc])) :: (la, .inl (G.2.1.1, 60, .inl L)) :: (A 2, .inl (G.2.1.1, 60, .inl F)) :: (A 3, .inr (1, [.ref (A 11), .ref (A 12), .int (nI (nN L))])) :: (A 11, .inl (G.2.1.1, 60, .inl t1)) :: (A 12, .inl (G.2.1.1, 60, .inl u1)) :: r) rfl rfl ?_
  show J G X mX7_mean _ _ _ 18 _ [.long (mnV L F), .ref x]
  refine J.callV 0 (st := []) B (c_X7_tell l G _ (t0 := mnV L F)) ml_X7_115 mf_yX7_tell mi_yX7_tell rfl dX7_mean_18 rfl rfl rfl rfl (fun v_7 w_8 hp_9 => ?_)
  obtain ⟨rfl, rfl⟩ := hp_9
  show J G X mX7_mean _ _ _ 21 _ [.int (1 : Int32)]
  refine J.goto dX7_mean_21 ?_
  exact J.iret B dX7_mean_25 rfl (⟨t1, u1, rfl, rfl⟩)
set_option maxHeartbeats 4000000 in
set_option maxRecDepth 100000 in
theorem i_string_p (l : Launch) (G : jG) (r : va_W) {x : Nat} {A : Nat → Nat} {ns nr : Nat} {to : Int64} {al wa lf : Int32} {num p q : Int32} (hb : (inR p 1 600 && inR q 1 60) = false) : Mt l G yX7_string mX7_string 3 65 0 0 [.ref x, .int num, .int p, .int q] ((x, .inr (7, [.ref (A 0), .int (nI ns), .ref (A 1), .int (nI nr), .ref (A 2), .ref (A 3), .ref (A 4), .ref (A 5), .ref (A 6), .ref (A 7), .ref (A 8), .ref (A 9), .long to, .int al, .int wa, .int lf, .ref (A 10)])) :: r) (fun v w => v = some (.int (-1 : Int32)) ∧ w = (x, .inr (7, [.ref (A 0), .int (nI ns), .ref (A 1), .int (nI nr), .ref (A 2), .ref (A 3), .ref (A 4), .ref (A 5), .ref (A 6), .ref (A 7), .ref (A 8), .ref (A 9), .long to, .int al, .int wa, .int lf, .ref (A 10)])) :: r) := by
  refine Mt.of (by decide +kernel) rfl rfl (fun X B => ?_)
  show J G X mX7_string ((x, .inr (7, [.ref (A 0), .int (nI ns), .ref (A 1), .int (nI nr), .ref (A 2), .ref (A 3), .ref (A 4), .ref (A 5), .ref (A 6), .ref (A 7), .ref (A 8), .ref (A 9), .long to, .int al, .int wa, .int lf, .ref (A 10)])) :: r) 0 0 0 [(0, .ref x), (1, .int num), (2, .int p), (3, .int q)] []
  refine J.iload_n 2 dX7_string_0 rfl ?_
  refine J.iload_n 3 dX7_string_1 rfl ?_
  refine J.callS (st := []) B (c_X7_isPeriod l G _ (p := p) (q := q)) ml_X7_153 mf_yX7_isPeriod mS_yX7_isPeriod dX7_string_2 rfl rfl rfl (fun v_1 w_2 hp_3 => ?_)
  obtain ⟨rfl, rfl⟩ := hp_3
  show J G X mX7_string _ _ _ 5 _ [.int (b01 (inR p 1 600 && inR q 1 60))]
  refine J.if_ne dX7_string_5 (fun z => absurd (by rw [hb]; rfl) z) (fun h9 => ?_)
  refine J.iconst (-1 : Int32) dX7_string_8 rfl ?_
  exact J.iret B dX7_string_9 rfl (⟨rfl, rfl⟩)
set_option maxHeartbeats 4000000 in
set_option maxRecDepth 100000 in
theorem i_string_bad (l : Launch) (G : jG) (r : va_W) {x : Nat} {A : Nat → Nat} {ns nr : Nat} {to : Int64} {al wa lf : Int32} {sa : Nat → Option Nat} {num : Int32} (hns : ns ≤ 12) (hnum : inR num 0 ((ns : Int) - 1) = false) {p q : Int32} (hb : (inR p 1 600 && inR q 1 60) = true) : Mt l G yX7_string mX7_string 3 65 0 0 [.ref x, .int num, .int p, .int q] ((x, .inr (7, [.ref (A 0), .int (nI ns), .ref (A 1), .int (nI nr), .ref (A 2), .ref (A 3), .ref (A 4), .ref (A 5), .ref (A 6), .ref (A 7), .ref (A 8), .ref (A 9), .long to, .int al, .int wa, .int lf, .ref (A 10)])) :: (A 0, .inl (G.2.1.2.2.1, 12, .inr (.inr (.inr (.inr sa))))) :: r) (fun v w => v = some (.int (-1 : Int32)) ∧ w = (x, .inr (7, [.ref (A 0), .int (nI ns), .ref (A 1), .int (nI nr), .ref (A 2), .ref (A 3), .ref (A 4), .ref (A 5), .ref (A 6), .ref (A 7), .ref (A 8), .ref (A 9), .long to, .int al, .int wa, .int lf, .ref (A 10)])) :: (A 0, .inl (G.2.1.2.2.1, 12, .inr (.inr (.inr (.inr sa))))) :: r) := by
  refine Mt.of (by decide +kernel) rfl rfl (fun X B => ?_)
  show J G X mX7_string ((x, .inr (7, [.ref (A 0), .int (nI ns), .ref (A 1), .int (nI nr), .ref (A 2), .ref (A 3), .ref (A 4), .ref (A 5), .ref (A 6), .ref (A 7), .ref (A 8), .ref (A 9), .long to, .int al, .int wa, .int lf, .ref (A 10)])) :: (A 0, .inl (G.2.1.2.2.1, 12, .inr (.inr (.inr (.inr sa))))) :: r) 0 0 0 [(0, .ref x), (1, .int num), (2, .int p), (3, .int q)] []
  refine J.iload_n 2 dX7_string_0 rfl ?_
  refine J.iload_n 3 dX7_string_1 rfl ?_
  refine J.callS (st := []) B (c_X7_isPeriod l G _ (p := p) (q := q)) ml_X7_153 mf_yX7_isPeriod mS_yX7_isPeriod dX7_string_2 rfl rfl rfl (fun v_1 w_2 hp_3 => ?_)
  obtain ⟨rfl, rfl⟩ := hp_3
  show J G X mX7_string _ _ _ 5 _ [.int (b01 (inR p 1 600 && inR q 1 60))]
  refine J.if_ne dX7_string_5 (fun h9 => ?_) (fun z => absurd z (by rw [hb]; decide))
  refine J.aload_n 0 dX7_string_10 rfl ?_
  refine J.iload_n 1 dX7_string_11 rfl ?_
  refine J.callV 0 (st := []) B (c_X7_gatherRow_bad l G _ hns hnum) ml_X7_94 mf_yX7_gatherRow mi_yX7_gatherRow rfl dX7_string_12 rfl rfl rfl rfl (fun v_4 w_5 hp_6 => ?_)
  obtain ⟨rfl, rfl⟩ := hp_6
  show J G X mX7_string _ _ _ 15 _ [.int (-1 : Int32)]
  refine J.istore [1, 2, 3, 4, 0] (lv' := [(0, .ref x), (1, .int num), (2, .int p), (3, .int q), (4, .int (-1 : Int32))]) dX7_string_15 rfl rfl ?_
  refine J.iload 4 dX7_string_17 rfl ?_
  refine J.if_ne dX7_string_19 (fun _ => ?_) (fun z => absurd z (by decide))
  refine J.iload 4 dX7_string_43 rfl ?_
  exact J.iret B dX7_string_45 rfl (⟨rfl, rfl⟩)
set_option maxHeartbeats 4000000 in
set_option maxRecDepth 100000 in
theorem i_string_no (l : Launch) (G : jG) (r : va_W) {x : Nat} {A : Nat → Nat} {ns nr : Nat} {to : Int64} {al wa lf : Int32} {sa : Nat → Option Nat} {la : Nat} {kd wc : Int32} {k s : Nat} (hk : k < ns) (hns : ns ≤ 12) (hsa : sa k = some s) {fc : Nat → Int32} {p q : Int32} (hb : (inR p 1 600 && inR q 1 60) = true) : Mt l G yX7_string mX7_string 3 65 0 0 [.ref x, .int (nI k), .int p, .int q] ((x, .inr (7, [.ref (A 0), .int (nI ns), .ref (A 1), .int (nI nr), .ref (A 2), .ref (A 3), .ref (A 4), .ref (A 5), .ref (A 6), .ref (A 7), .ref (A 8), .ref (A 9), .long to, .int al, .int wa, .int lf, .ref (A 10)])) :: (A 0, .inl (G.2.1.2.2.1, 12, .inr (.inr (.inr (.inr sa))))) :: (s, .inr (6, [.int kd, .ref la, .int (0 : Int32), .int wc])) :: (A 10, .inl (G.2.1.1, 6, .inl fc)) :: r) (fun v w => v = some (.int (-3 : Int32)) ∧ w = (x, .inr (7, [.ref (A 0), .int (nI ns), .ref (A 1), .int (nI nr), .ref (A 2), .ref (A 3), .ref (A 4), .ref (A 5), .ref (A 6), .ref (A 7), .ref (A 8), .ref (A 9), .long to, .int al, .int wa, .int (nI 1), .ref (A 10)])) :: (A 0, .inl (G.2.1.2.2.1, 12, .inr (.inr (.inr (.inr sa))))) :: (s, .inr (6, [.int kd, .ref la, .int (0 : Int32), .int wc])) :: (A 10, .inl (G.2.1.1, 6, .inl (upd fc 1 (fc 1 + 1)))) :: r) := by
  refine Mt.of (by decide +kernel) rfl rfl (fun X B => ?_)
  show J G X mX7_string ((x, .inr (7, [.ref (A 0), .int (nI ns), .ref (A 1), .int (nI nr), .ref (A 2), .ref (A 3), .ref (A 4), .ref (A 5), .ref (A 6), .ref (A 7), .ref (A 8), .ref (A 9), .long to, .int al, .int wa, .int lf, .ref (A 10)])) :: (A 0, .inl (G.2.1.2.2.1, 12, .inr (.inr (.inr (.inr sa))))) :: (s, .inr (6, [.int kd, .ref la, .int (0 : Int32), .int wc])) :: (A 10, .inl (G.2.1.1, 6, .inl fc)) :: r) 0 0 0 [(0, .ref x), (1, .int (nI k)), (2, .int p), (3, .int q)] []
  refine J.iload_n 2 dX7_string_0 rfl ?_
  refine J.iload_n 3 dX7_string_1 rfl ?_
  refine J.callS (st := []) B (c_X7_isPeriod l G _ (p := p) (q := q)) ml_X7_153 mf_yX7_isPeriod mS_yX7_isPeriod dX7_string_2 rfl rfl rfl (fun v_1 w_2 hp_3 => ?_)
  obtain ⟨rfl, rfl⟩ := hp_3
  show J G X mX7_string _ _ _ 5 _ [.int (b01 (inR p 1 600 && inR q 1 60))]
  refine J.if_ne dX7_string_5 (fun h9 => ?_) (fun z => absurd z (by rw [hb]; decide))
  refine J.aload_n 0 dX7_string_10 rfl ?_
  refine J.iload_n 1 dX7_string_11 rfl ?_
  refine J.callV 0 (st := []) B (c_X7_gatherRow_no l G _ hk hns hsa) ml_X7_94 mf_yX7_gatherRow mi_yX7_gatherRow rfl dX7_string_12 rfl rfl rfl rfl (fun v_4 w_5 hp_6 => ?_)
  obtain ⟨rfl, rfl⟩ := hp_6
  show J G X mX7_string _ _ _ 15 _ [.int (-3 : Int32)]
  refine J.istore [1, 2, 3, 4, 0] (lv' := [(0, .ref x), (1, .int (nI k)), (2, .int p), (3, .int q), (4, .int (-3 : Int32))]) dX7_string_15 rfl rfl ?_
  refine J.iload 4 dX7_string_17 rfl ?_
  refine J.if_ne dX7_string_19 (fun _ => ?_) (fun z => absurd z (by decide))
  refine J.iload 4 dX7_string_43 rfl ?_
  exact J.iret B dX7_string_45 rfl (⟨rfl, rfl⟩)
set_option maxHeartbeats 4000000 in
set_option maxRecDepth 100000 in
theorem i_string (l : Launch) (G : jG) (r : va_W) {x : Nat} {A : Nat → Nat} {ns nr : Nat} {to : Int64} {al wa lf : Int32} {sa : Nat → Option Nat} {la : Nat} {kd wc : Int32} {k s : Nat} (hk : k < ns) (hns : ns ≤ 12) (hsa : sa k = some s) {L F : Nat → Int32} {cz : Int32} {t u : Nat → Int32} {fp fl : Nat → Int32} (hb : BD L F) {p q : Nat} (hp1 : 1 ≤ p) (hp2 : p ≤ 600) (hq1 : 1 ≤ q) (hq2 : q ≤ 60) : Mt l G yX7_string mX7_string 3 65 0 0 [.ref x, .int (nI k), .int (nI p), .int (nI q)] ((x, .inr (7, [.ref (A 0), .int (nI ns), .ref (A 1), .int (nI nr), .ref (A 2), .ref (A 3), .ref (A 4), .ref (A 5), .ref (A 6), .ref (A 7), .ref (A 8), .ref (A 9), .long to, .int al, .int wa, .int lf, .ref (A 10)])) :: (A 0, .inl (G.2.1.2.2.1, 12, .inr (.inr (.inr (.inr sa))))) :: (s, .inr (6, [.int kd, .ref la, .int (1 : Int32), .int wc])) :: (la, .inl (G.2.1.1, 60, .inl L)) :: (A 2, .inl (G.2.1.1, 60, .inl F)) :: (A 3, .inr (1, [.ref (A 11), .ref (A 12), .int cz])) :: (A 11, .inl (G.2.1.1, 60, .inl t)) :: (A 12, .inl (G.2.1.1, 60, .inl u)) :: (A 5, .inr (3, [.ref (A 14), .ref (A 15), .ref (A 16)])) :: (A 14, .inl (G.2.1.1, 60, .inl fp)) :: (A 15, .inl (G.2.1.1, 60, .inl fl)) :: r) (fun v w => ∃ t1 u1 fp1 fl1, v = some (.int 1) ∧ w = (x, .inr (7, [.ref (A 0), .int (nI ns), .ref (A 1), .int (nI nr), .ref (A 2), .ref (A 3), .ref (A 4), .ref (A 5), .ref (A 6), .ref (A 7), .ref (A 8), .ref (A 9), .long (Int64.ofInt (strV L F p q)), .int al, .int wa, .int lf, .ref (A 10)])) :: (A 0, .inl (G.2.1.2.2.1, 12, .inr (.inr (.inr (.inr sa))))) :: (s, .inr (6, [.int kd, .ref la, .int (1 : Int32), .int wc])) :: (la, .inl (G.2.1.1, 60, .inl L)) :: (A 2, .inl (G.2.1.1, 60, .inl F)) :: (A 3, .inr (1, [.ref (A 11), .ref (A 12), .int (nI (nN L))])) :: (A 11, .inl (G.2.1.1, 60, .inl t1)) :: (A 12, .inl (G.2.1.1, 60, .inl u1)) :: (A 5, .inr (3, [.ref (A 14), .ref (A 15), .ref (A 16)])) :: (A 14, .inl (G.2.1.1, 60, .inl fp1)) :: (A 15, .inl (G.2.1.1, 60, .inl fl1)) :: r) := by
  refine Mt.of (by decide +kernel) rfl rfl (fun X B => ?_)
  show J G X mX7_string ((x, .inr (7, [.ref (A 0), .int (nI ns), .ref (A 1), .int (nI nr), .ref (A 2), .ref (A 3), .ref (A 4), .ref (A 5), .ref (A 6), .ref (A 7), .ref (A 8), .ref (A 9), .long to, .int al, .int wa, .int lf, .ref (A 10)])) :: (A 0, .inl (G.2.1.2.2.1, 12, .inr (.inr (.inr (.inr sa))))) :: (s, .inr (6, [.int kd, .ref la, .int (1 : Int32), .int wc])) :: (la, .inl (G.2.1.1, 60, .inl L)) :: (A 2, .inl (G.2.1.1, 60, .inl F)) :: (A 3, .inr (1, [.ref (A 11), .ref (A 12), .int cz])) :: (A 11, .inl (G.2.1.1, 60, .inl t)) :: (A 12, .inl (G.2.1.1, 60, .inl u)) :: (A 5, .inr (3, [.ref (A 14), .ref (A 15), .ref (A 16)])) :: (A 14, .inl (G.2.1.1, 60, .inl fp)) :: (A 15, .inl (G.2.1.1, 60, .inl fl)) :: r) 0 0 0 [(0, .ref x), (1, .int (nI k)), (2, .int (nI p)), (3, .int (nI q))] []
  have hpq : (inR (nI p) 1 600 && inR (nI q) 1 60) = true := by
    rw [nI_inR (by omega), nI_inR (by omega), decide_eq_true (p := (1 : Int) ≤ (p : Int) ∧ (p : Int) ≤ 600) ⟨by omega, by omega⟩, decide_eq_true (p := (1 : Int) ≤ (q : Int) ∧ (q : Int) ≤ 60) ⟨by omega, by omega⟩]
    rfl
  have hsb := strV_bd hb p q
  refine J.iload_n 2 dX7_string_0 rfl ?_
  refine J.iload_n 3 dX7_string_1 rfl ?_
  refine J.callS (st := []) B (c_X7_isPeriod l G _ (p := nI p) (q := nI q)) ml_X7_153 mf_yX7_isPeriod mS_yX7_isPeriod dX7_string_2 rfl rfl rfl (fun v_1 w_2 hp_3 => ?_)
  obtain ⟨rfl, rfl⟩ := hp_3
  show J G X mX7_string _ _ _ 5 _ [.int (b01 (inR (nI p) 1 600 && inR (nI q) 1 60))]
  refine J.if_ne dX7_string_5 (fun h9 => ?_) (fun z => absurd z (by rw [hpq]; decide))
  refine J.aload_n 0 dX7_string_10 rfl ?_
  refine J.iload_n 1 dX7_string_11 rfl ?_
  refine J.callV 0 (st := []) B (c_X7_gatherRow l G _ hk hns hsa) ml_X7_94 mf_yX7_gatherRow mi_yX7_gatherRow rfl dX7_string_12 rfl rfl rfl rfl (fun v_4 w_5 hp_6 => ?_)
  obtain ⟨t1, u1, hcv, rfl, rfl⟩ := hp_6
  show J G X mX7_string _ _ _ 15 _ [.int (0 : Int32)]
  refine J.istore [1, 2, 3, 4, 0] (lv' := [(0, .ref x), (1, .int (nI k)), (2, .int (nI p)), (3, .int (nI q)), (4, .int (0 : Int32))]) dX7_string_15 rfl rfl ?_
  refine J.iload 4 dX7_string_17 rfl ?_
  refine J.if_ne dX7_string_19 (fun z => absurd z (by decide)) (fun _ => ?_)
  refine J.aload_n 0 dX7_string_22 rfl ?_
  refine J.aload_n 0 dX7_string_23 rfl ?_
  refine J.get 0 fl_X7_42 dX7_string_24 rfl rfl ?_
  refine J.aload_n 0 dX7_string_27 rfl ?_
  refine J.get 0 fl_X7_28 dX7_string_28 rfl rfl ?_
  refine J.iload_n 2 dX7_string_31 rfl ?_
  refine J.iload_n 3 dX7_string_32 rfl ?_
  refine J.re [8, 9, 10, 5, 6, 7, 0, 1, 2, 3, 4] 11 (ws2 := (A 5, .inr (3, [.ref (A 14), .ref (A 15), .ref (A 16)])) :: (A 14, .inl (G.2.1.1, 60, .inl fp)) :: (A 15, .inl (G.2.1.1, 60, .inl fl)) :: (A 3, .inr (1, [.ref (A 11), .ref (A 12), .int (nI (nN L))])) :: (A 11, .inl (G.2.1.1, 60, .inl t1)) :: (A 12, .inl (G.2.1.1, 60, .inl u1)) :: (x, .inr (7, [.ref (A 0), .int (nI ns), .ref (A 1), .int (nI nr), .ref (A 2), .ref (A 3), .ref (A 4), .ref (A 5), .ref (A 6), .ref (A 7), .ref (A 8), .ref (A 9), .long to, .int al, .int wa, .int lf, .ref (A 10)])) :: (A 0, .inl (G.2.1.2.2.1, 12, .inr (.inr (.inr (.inr sa))))) :: (s, .inr (6, [.int kd, .ref la, .int (1 : Int32), .int wc])) :: (la, .inl (G.2.1.1, 60, .inl L)) :: (A 2, .inl (G.2.1.1, 60, .inl F)) :: r) rfl rfl ?_
  refine J.callV 0 (st := [.ref x]) B (c_X3_stringOf l G _ (p := p) (q := q) hcv hb hp1 hp2 hq2) ml_X7_160 mf_yX3_stringOf mi_yX3_stringOf rfl dX7_string_33 rfl rfl rfl rfl (fun v_7 w_8 hp_9 => ?_)
  obtain ⟨rfl, fp1, fl1, rfl⟩ := hp_9
  refine J.re [6, 7, 8, 9, 10, 3, 4, 5, 0, 1, 2] 11 (ws2 := (x, .inr (7, [.ref (A 0), .int (nI ns), .ref (A 1), .int (nI nr), .ref (A 2), .ref (A 3), .ref (A 4), .ref (A 5), .ref (A 6), .ref (A 7), .ref (A 8), .ref (A 9), .long to, .int al, .int wa, .int lf, .ref (A 10)])) :: (A 0, .inl (G.2.1.2.2.1, 12, .inr (.inr (.inr (.inr sa))))) :: (s, .inr (6, [.int kd, .ref la, .int (1 : Int32), .int wc])) :: (la, .inl (G.2.1.1, 60, .inl L)) :: (A 2, .inl (G.2.1.1, 60, .inl F)) :: (A 3, .inr (1, [.ref (A 11), .ref (A 12), .int (nI (nN L))])) :: (A 11, .inl (G.2.1.1, 60, .inl t1)) :: (A 12, .inl (G.2.1.1, 60, .inl u1)) :: (A 5, .inr (3, [.ref (A 14), .ref (A 15), .ref (A 16)])) :: (A 14, .inl (G.2.1.1, 60, .inl fp1)) :: (A 15, .inl (G.2.1.1, 60, .inl fl1)) :: r) rfl rfl ?_
  show J G X mX7_string _ _ _ 36 _ [.int (Int32.ofInt (strV L F p q)), .ref x]
  refine J.i2l dX7_string_36 ?_
  refine J.topl (y := Int64.ofInt (strV L F p q)) (wide_ofI (by omega) (by omega)) ?_
  refine J.callV 0 (st := []) B (c_X7_tell l G _ (t0 := Int64.ofInt (strV L F p q))) ml_X7_115 mf_yX7_tell mi_yX7_tell rfl dX7_string_37 rfl rfl rfl rfl (fun v_10 w_11 hp_12 => ?_)
  obtain ⟨rfl, rfl⟩ := hp_12
  show J G X mX7_string _ _ _ 40 _ [.int (1 : Int32)]
  refine J.goto dX7_string_40 ?_
  exact J.iret B dX7_string_45 rfl (⟨t1, u1, fp1, fl1, rfl, rfl⟩)
set_option maxHeartbeats 4000000 in
set_option maxRecDepth 100000 in
theorem i_period_a (l : Launch) (G : jG) (r : va_W) {x : Nat} {A : Nat → Nat} {ns nr : Nat} {to : Int64} {al wa lf : Int32} {num : Int32} {q a b : Int32} (hf : (inR a 1 600 && inR q 1 60 && (inR b 1 600 && inR q 1 60) && decide (a ≤ b)) = false) : Mt l G yX7_period mX7_period 4 100 0 0 [.ref x, .int num, .int q, .int a, .int b] ((x, .inr (7, [.ref (A 0), .int (nI ns), .ref (A 1), .int (nI nr), .ref (A 2), .ref (A 3), .ref (A 4), .ref (A 5), .ref (A 6), .ref (A 7), .ref (A 8), .ref (A 9), .long to, .int al, .int wa, .int lf, .ref (A 10)])) :: r) (fun v w => v = some (.int (-1 : Int32)) ∧ w = (x, .inr (7, [.ref (A 0), .int (nI ns), .ref (A 1), .int (nI nr), .ref (A 2), .ref (A 3), .ref (A 4), .ref (A 5), .ref (A 6), .ref (A 7), .ref (A 8), .ref (A 9), .long to, .int al, .int wa, .int lf, .ref (A 10)])) :: r) := by
  refine Mt.of (by decide +kernel) rfl rfl (fun X B => ?_)
  show J G X mX7_period ((x, .inr (7, [.ref (A 0), .int (nI ns), .ref (A 1), .int (nI nr), .ref (A 2), .ref (A 3), .ref (A 4), .ref (A 5), .ref (A 6), .ref (A 7), .ref (A 8), .ref (A 9), .long to, .int al, .int wa, .int lf, .ref (A 10)])) :: r) 0 0 0 [(0, .ref x), (1, .int num), (2, .int q), (3, .int a), (4, .int b)] []
  refine J.aload_n 0 dX7_period_0 rfl ?_
  refine J.iload_n 1 dX7_period_1 rfl ?_
  refine J.iload_n 2 dX7_period_2 rfl ?_
  refine J.iload_n 3 dX7_period_3 rfl ?_
  refine J.iload 4 dX7_period_4 rfl ?_
  refine J.callV 0 (st := []) B (c_X7_fft_a l G _ hf) ml_X7_164 mf_yX7_foldFromTo mi_yX7_foldFromTo rfl dX7_period_6 rfl rfl rfl rfl (fun v_1 w_2 hp_3 => ?_)
  obtain ⟨rfl, rfl⟩ := hp_3
  show J G X mX7_period _ _ _ 9 _ [.int (-1 : Int32)]
  refine J.istore [1, 2, 3, 4, 5, 0] (lv' := [(0, .ref x), (1, .int num), (2, .int q), (3, .int a), (4, .int b), (5, .int (-1 : Int32))]) dX7_period_9 rfl rfl ?_
  refine J.iload 5 dX7_period_11 rfl ?_
  refine J.if_eq dX7_period_13 (fun z => absurd z (by decide)) (fun _ => ?_)
  refine J.iload 5 dX7_period_16 rfl ?_
  exact J.iret B dX7_period_18 rfl (⟨rfl, rfl⟩)
set_option maxHeartbeats 4000000 in
set_option maxRecDepth 100000 in
theorem i_period_bad (l : Launch) (G : jG) (r : va_W) {x : Nat} {A : Nat → Nat} {ns nr : Nat} {to : Int64} {al wa lf : Int32} {sa : Nat → Option Nat} {num : Int32} (hns : ns ≤ 12) (hnum : inR num 0 ((ns : Int) - 1) = false) {q a b : Int32} (hf : (inR a 1 600 && inR q 1 60 && (inR b 1 600 && inR q 1 60) && decide (a ≤ b)) = true) : Mt l G yX7_period mX7_period 4 100 0 0 [.ref x, .int num, .int q, .int a, .int b] ((x, .inr (7, [.ref (A 0), .int (nI ns), .ref (A 1), .int (nI nr), .ref (A 2), .ref (A 3), .ref (A 4), .ref (A 5), .ref (A 6), .ref (A 7), .ref (A 8), .ref (A 9), .long to, .int al, .int wa, .int lf, .ref (A 10)])) :: (A 0, .inl (G.2.1.2.2.1, 12, .inr (.inr (.inr (.inr sa))))) :: r) (fun v w => v = some (.int (-1 : Int32)) ∧ w = (x, .inr (7, [.ref (A 0), .int (nI ns), .ref (A 1), .int (nI nr), .ref (A 2), .ref (A 3), .ref (A 4), .ref (A 5), .ref (A 6), .ref (A 7), .ref (A 8), .ref (A 9), .long to, .int al, .int wa, .int lf, .ref (A 10)])) :: (A 0, .inl (G.2.1.2.2.1, 12, .inr (.inr (.inr (.inr sa))))) :: r) := by
  refine Mt.of (by decide +kernel) rfl rfl (fun X B => ?_)
  show J G X mX7_period ((x, .inr (7, [.ref (A 0), .int (nI ns), .ref (A 1), .int (nI nr), .ref (A 2), .ref (A 3), .ref (A 4), .ref (A 5), .ref (A 6), .ref (A 7), .ref (A 8), .ref (A 9), .long to, .int al, .int wa, .int lf, .ref (A 10)])) :: (A 0, .inl (G.2.1.2.2.1, 12, .inr (.inr (.inr (.inr sa))))) :: r) 0 0 0 [(0, .ref x), (1, .int num), (2, .int q), (3, .int a), (4, .int b)] []
  refine J.aload_n 0 dX7_period_0 rfl ?_
  refine J.iload_n 1 dX7_period_1 rfl ?_
  refine J.iload_n 2 dX7_period_2 rfl ?_
  refine J.iload_n 3 dX7_period_3 rfl ?_
  refine J.iload 4 dX7_period_4 rfl ?_
  refine J.callV 0 (st := []) B (c_X7_fft_bad l G _ hns hnum hf) ml_X7_164 mf_yX7_foldFromTo mi_yX7_foldFromTo rfl dX7_period_6 rfl rfl rfl rfl (fun v_1 w_2 hp_3 => ?_)
  obtain ⟨rfl, rfl⟩ := hp_3
  show J G X mX7_period _ _ _ 9 _ [.int (-1 : Int32)]
  refine J.istore [1, 2, 3, 4, 5, 0] (lv' := [(0, .ref x), (1, .int num), (2, .int q), (3, .int a), (4, .int b), (5, .int (-1 : Int32))]) dX7_period_9 rfl rfl ?_
  refine J.iload 5 dX7_period_11 rfl ?_
  refine J.if_eq dX7_period_13 (fun z => absurd z (by decide)) (fun _ => ?_)
  refine J.iload 5 dX7_period_16 rfl ?_
  exact J.iret B dX7_period_18 rfl (⟨rfl, rfl⟩)
set_option maxHeartbeats 4000000 in
set_option maxRecDepth 100000 in
theorem i_period_no (l : Launch) (G : jG) (r : va_W) {x : Nat} {A : Nat → Nat} {ns nr : Nat} {to : Int64} {al wa lf : Int32} {sa : Nat → Option Nat} {la : Nat} {kd wc : Int32} {k s : Nat} (hk : k < ns) (hns : ns ≤ 12) (hsa : sa k = some s) {q a b : Int32} {fc : Nat → Int32} (hf : (inR a 1 600 && inR q 1 60 && (inR b 1 600 && inR q 1 60) && decide (a ≤ b)) = true) : Mt l G yX7_period mX7_period 4 100 0 0 [.ref x, .int (nI k), .int q, .int a, .int b] ((x, .inr (7, [.ref (A 0), .int (nI ns), .ref (A 1), .int (nI nr), .ref (A 2), .ref (A 3), .ref (A 4), .ref (A 5), .ref (A 6), .ref (A 7), .ref (A 8), .ref (A 9), .long to, .int al, .int wa, .int lf, .ref (A 10)])) :: (A 0, .inl (G.2.1.2.2.1, 12, .inr (.inr (.inr (.inr sa))))) :: (s, .inr (6, [.int kd, .ref la, .int (0 : Int32), .int wc])) :: (A 10, .inl (G.2.1.1, 6, .inl fc)) :: r) (fun v w => v = some (.int (-3 : Int32)) ∧ w = (x, .inr (7, [.ref (A 0), .int (nI ns), .ref (A 1), .int (nI nr), .ref (A 2), .ref (A 3), .ref (A 4), .ref (A 5), .ref (A 6), .ref (A 7), .ref (A 8), .ref (A 9), .long to, .int al, .int wa, .int (nI 1), .ref (A 10)])) :: (A 0, .inl (G.2.1.2.2.1, 12, .inr (.inr (.inr (.inr sa))))) :: (s, .inr (6, [.int kd, .ref la, .int (0 : Int32), .int wc])) :: (A 10, .inl (G.2.1.1, 6, .inl (upd fc 1 (fc 1 + 1)))) :: r) := by
  refine Mt.of (by decide +kernel) rfl rfl (fun X B => ?_)
  show J G X mX7_period ((x, .inr (7, [.ref (A 0), .int (nI ns), .ref (A 1), .int (nI nr), .ref (A 2), .ref (A 3), .ref (A 4), .ref (A 5), .ref (A 6), .ref (A 7), .ref (A 8), .ref (A 9), .long to, .int al, .int wa, .int lf, .ref (A 10)])) :: (A 0, .inl (G.2.1.2.2.1, 12, .inr (.inr (.inr (.inr sa))))) :: (s, .inr (6, [.int kd, .ref la, .int (0 : Int32), .int wc])) :: (A 10, .inl (G.2.1.1, 6, .inl fc)) :: r) 0 0 0 [(0, .ref x), (1, .int (nI k)), (2, .int q), (3, .int a), (4, .int b)] []
  refine J.aload_n 0 dX7_period_0 rfl ?_
  refine J.iload_n 1 dX7_period_1 rfl ?_
  refine J.iload_n 2 dX7_period_2 rfl ?_
  refine J.iload_n 3 dX7_period_3 rfl ?_
  refine J.iload 4 dX7_period_4 rfl ?_
  refine J.callV 0 (st := []) B (c_X7_fft_no l G _ hk hns hsa hf) ml_X7_164 mf_yX7_foldFromTo mi_yX7_foldFromTo rfl dX7_period_6 rfl rfl rfl rfl (fun v_1 w_2 hp_3 => ?_)
  obtain ⟨rfl, rfl⟩ := hp_3
  show J G X mX7_period _ _ _ 9 _ [.int (-3 : Int32)]
  refine J.istore [1, 2, 3, 4, 5, 0] (lv' := [(0, .ref x), (1, .int (nI k)), (2, .int q), (3, .int a), (4, .int b), (5, .int (-3 : Int32))]) dX7_period_9 rfl rfl ?_
  refine J.iload 5 dX7_period_11 rfl ?_
  refine J.if_eq dX7_period_13 (fun z => absurd z (by decide)) (fun _ => ?_)
  refine J.iload 5 dX7_period_16 rfl ?_
  exact J.iret B dX7_period_18 rfl (⟨rfl, rfl⟩)
set_option maxHeartbeats 4000000 in
set_option maxRecDepth 100000 in
theorem i_period (l : Launch) (G : jG) (r : va_W) {x : Nat} {A : Nat → Nat} {ns nr : Nat} {to : Int64} {al wa lf : Int32} {sa : Nat → Option Nat} {la : Nat} {kd wc : Int32} {k s : Nat} (hk : k < ns) (hns : ns ≤ 12) (hsa : sa k = some s) {L F : Nat → Int32} {cz : Int32} {t u : Nat → Int32} {fp fl fs : Nat → Int32} {q a b : Nat} (hb : BD L F) (ha : 1 ≤ a) (hb2 : b ≤ 600) (hab : a ≤ b) (hq1 : 1 ≤ q) (hq2 : q ≤ 60) : Mt l G yX7_period mX7_period 4 100 0 0 [.ref x, .int (nI k), .int (nI q), .int (nI a), .int (nI b)] ((x, .inr (7, [.ref (A 0), .int (nI ns), .ref (A 1), .int (nI nr), .ref (A 2), .ref (A 3), .ref (A 4), .ref (A 5), .ref (A 6), .ref (A 7), .ref (A 8), .ref (A 9), .long to, .int al, .int wa, .int lf, .ref (A 10)])) :: (A 0, .inl (G.2.1.2.2.1, 12, .inr (.inr (.inr (.inr sa))))) :: (s, .inr (6, [.int kd, .ref la, .int (1 : Int32), .int wc])) :: (la, .inl (G.2.1.1, 60, .inl L)) :: (A 2, .inl (G.2.1.1, 60, .inl F)) :: (A 3, .inr (1, [.ref (A 11), .ref (A 12), .int cz])) :: (A 11, .inl (G.2.1.1, 60, .inl t)) :: (A 12, .inl (G.2.1.1, 60, .inl u)) :: (A 5, .inr (3, [.ref (A 14), .ref (A 15), .ref (A 16)])) :: (A 14, .inl (G.2.1.1, 60, .inl fp)) :: (A 15, .inl (G.2.1.1, 60, .inl fl)) :: (A 16, .inl (G.2.1.1, 601, .inl fs)) :: r) (fun v w => ∃ t1 u1 fp1 fl1 fs1, v = some (.int (nI (lstN (fun j => strV L F j q) a (b - a)))) ∧ w = (x, .inr (7, [.ref (A 0), .int (nI ns), .ref (A 1), .int (nI nr), .ref (A 2), .ref (A 3), .ref (A 4), .ref (A 5), .ref (A 6), .ref (A 7), .ref (A 8), .ref (A 9), .long (Int64.ofInt (strV L F (lstN (fun j => strV L F j q) a (b - a)) q)), .int al, .int wa, .int lf, .ref (A 10)])) :: (A 0, .inl (G.2.1.2.2.1, 12, .inr (.inr (.inr (.inr sa))))) :: (s, .inr (6, [.int kd, .ref la, .int (1 : Int32), .int wc])) :: (la, .inl (G.2.1.1, 60, .inl L)) :: (A 2, .inl (G.2.1.1, 60, .inl F)) :: (A 3, .inr (1, [.ref (A 11), .ref (A 12), .int (nI (nN L))])) :: (A 11, .inl (G.2.1.1, 60, .inl t1)) :: (A 12, .inl (G.2.1.1, 60, .inl u1)) :: (A 5, .inr (3, [.ref (A 14), .ref (A 15), .ref (A 16)])) :: (A 14, .inl (G.2.1.1, 60, .inl fp1)) :: (A 15, .inl (G.2.1.1, 60, .inl fl1)) :: (A 16, .inl (G.2.1.1, 601, .inl fs1)) :: r) := by
  refine Mt.of (by decide +kernel) rfl rfl (fun X B => ?_)
  show J G X mX7_period ((x, .inr (7, [.ref (A 0), .int (nI ns), .ref (A 1), .int (nI nr), .ref (A 2), .ref (A 3), .ref (A 4), .ref (A 5), .ref (A 6), .ref (A 7), .ref (A 8), .ref (A 9), .long to, .int al, .int wa, .int lf, .ref (A 10)])) :: (A 0, .inl (G.2.1.2.2.1, 12, .inr (.inr (.inr (.inr sa))))) :: (s, .inr (6, [.int kd, .ref la, .int (1 : Int32), .int wc])) :: (la, .inl (G.2.1.1, 60, .inl L)) :: (A 2, .inl (G.2.1.1, 60, .inl F)) :: (A 3, .inr (1, [.ref (A 11), .ref (A 12), .int cz])) :: (A 11, .inl (G.2.1.1, 60, .inl t)) :: (A 12, .inl (G.2.1.1, 60, .inl u)) :: (A 5, .inr (3, [.ref (A 14), .ref (A 15), .ref (A 16)])) :: (A 14, .inl (G.2.1.1, 60, .inl fp)) :: (A 15, .inl (G.2.1.1, 60, .inl fl)) :: (A 16, .inl (G.2.1.1, 601, .inl fs)) :: r) 0 0 0 [(0, .ref x), (1, .int (nI k)), (2, .int (nI q)), (3, .int (nI a)), (4, .int (nI b))] []
  have hl := lstN_in (fun j => strV L F j q) a (b - a)
  have hsb := strV_bd hb (lstN (fun j => strV L F j q) a (b - a)) q
  refine J.aload_n 0 dX7_period_0 rfl ?_
  refine J.iload_n 1 dX7_period_1 rfl ?_
  refine J.iload_n 2 dX7_period_2 rfl ?_
  refine J.iload_n 3 dX7_period_3 rfl ?_
  refine J.iload 4 dX7_period_4 rfl ?_
  refine J.callV 0 (st := []) B (c_X7_fft l G _ hk hns hsa hb ha hb2 hab hq1 hq2) ml_X7_164 mf_yX7_foldFromTo mi_yX7_foldFromTo rfl dX7_period_6 rfl rfl rfl rfl (fun v_1 w_2 hp_3 => ?_)
  obtain ⟨t1, u1, fp1, fl1, fs1, hfs, rfl, rfl⟩ := hp_3
  show J G X mX7_period _ _ _ 9 _ [.int (0 : Int32)]
  refine J.istore [1, 2, 3, 4, 5, 0] (lv' := [(0, .ref x), (1, .int (nI k)), (2, .int (nI q)), (3, .int (nI a)), (4, .int (nI b)), (5, .int (0 : Int32))]) dX7_period_9 rfl rfl ?_
  refine J.iload 5 dX7_period_11 rfl ?_
  refine J.if_eq dX7_period_13 (fun _ => ?_) (fun z => absurd z (by decide))
  refine J.aload_n 0 dX7_period_19 rfl ?_
  refine J.get 0 fl_X7_42 dX7_period_20 rfl rfl ?_
  refine J.iload_n 3 dX7_period_23 rfl ?_
  refine J.iload 4 dX7_period_24 rfl ?_
  refine J.re [8, 11, 0, 1, 2, 3, 4, 5, 6, 7, 9, 10] 12 (ws2 := (A 5, .inr (3, [.ref (A 14), .ref (A 15), .ref (A 16)])) :: (A 16, .inl (G.2.1.1, 601, .inl fs1)) :: (x, .inr (7, [.ref (A 0), .int (nI ns), .ref (A 1), .int (nI nr), .ref (A 2), .ref (A 3), .ref (A 4), .ref (A 5), .ref (A 6), .ref (A 7), .ref (A 8), .ref (A 9), .long to, .int al, .int wa, .int lf, .ref (A 10)])) :: (A 0, .inl (G.2.1.2.2.1, 12, .inr (.inr (.inr (.inr sa))))) :: (s, .inr (6, [.int kd, .ref la, .int (1 : Int32), .int wc])) :: (la, .inl (G.2.1.1, 60, .inl L)) :: (A 2, .inl (G.2.1.1, 60, .inl F)) :: (A 3, .inr (1, [.ref (A 11), .ref (A 12), .int (nI (nN L))])) :: (A 11, .inl (G.2.1.1, 60, .inl t1)) :: (A 12, .inl (G.2.1.1, 60, .inl u1)) :: (A 14, .inl (G.2.1.1, 60, .inl fp1)) :: (A 15, .inl (G.2.1.1, 60, .inl fl1)) :: r) rfl rfl ?_
  refine J.callV 0 (st := []) B (c_X3_leastFromTo l G _ (g := (fun j => strV L F j q)) hb2 hfs (fun j => strV_bd hb j q) hab) ml_X7_168 mf_yX3_leastFromTo mi_yX3_leastFromTo rfl dX7_period_26 rfl rfl rfl rfl (fun v_4 w_5 hp_6 => ?_)
  obtain ⟨rfl, rfl⟩ := hp_6
  refine J.re [2, 3, 4, 5, 6, 7, 8, 9, 0, 10, 11, 1] 12 (ws2 := (x, .inr (7, [.ref (A 0), .int (nI ns), .ref (A 1), .int (nI nr), .ref (A 2), .ref (A 3), .ref (A 4), .ref (A 5), .ref (A 6), .ref (A 7), .ref (A 8), .ref (A 9), .long to, .int al, .int wa, .int lf, .ref (A 10)])) :: (A 0, .inl (G.2.1.2.2.1, 12, .inr (.inr (.inr (.inr sa))))) :: (s, .inr (6, [.int kd, .ref la, .int (1 : Int32), .int wc])) :: (la, .inl (G.2.1.1, 60, .inl L)) :: (A 2, .inl (G.2.1.1, 60, .inl F)) :: (A 3, .inr (1, [.ref (A 11), .ref (A 12), .int (nI (nN L))])) :: (A 11, .inl (G.2.1.1, 60, .inl t1)) :: (A 12, .inl (G.2.1.1, 60, .inl u1)) :: (A 5, .inr (3, [.ref (A 14), .ref (A 15), .ref (A 16)])) :: (A 14, .inl (G.2.1.1, 60, .inl fp1)) :: (A 15, .inl (G.2.1.1, 60, .inl fl1)) :: (A 16, .inl (G.2.1.1, 601, .inl fs1)) :: r) rfl rfl ?_
  show J G X mX7_period _ _ _ 29 _ [.int (nI (lstN (fun j => strV L F j q) a (b - a)))]
  refine J.istore [1, 2, 3, 4, 5, 6, 0] (lv' := [(0, .ref x), (1, .int (nI k)), (2, .int (nI q)), (3, .int (nI a)), (4, .int (nI b)), (5, .int (0 : Int32)), (6, .int (nI (lstN (fun j => strV L F j q) a (b - a))))]) dX7_period_29 rfl rfl ?_
  refine J.aload_n 0 dX7_period_31 rfl ?_
  refine J.aload_n 0 dX7_period_32 rfl ?_
  refine J.get 0 fl_X7_42 dX7_period_33 rfl rfl ?_
  refine J.get 8 fl_X7_171 dX7_period_36 rfl rfl ?_
  refine J.iload 6 dX7_period_39 rfl ?_
  refine J.iald 11 (lstN (fun j => strV L F j q) a (b - a)) dX7_period_41 rfl (rfl) (by omega) (by decide) ?_
  refine J.topi (y := Int32.ofInt (strV L F (lstN (fun j => strV L F j q) a (b - a)) q)) (hfs _ (by omega) (by omega)) ?_
  refine J.i2l dX7_period_42 ?_
  refine J.topl (y := Int64.ofInt (strV L F (lstN (fun j => strV L F j q) a (b - a)) q)) (wide_ofI (by omega) (by omega)) ?_
  refine J.callV 0 (st := []) B (c_X7_tell l G _ (t0 := Int64.ofInt (strV L F (lstN (fun j => strV L F j q) a (b - a)) q))) ml_X7_115 mf_yX7_tell mi_yX7_tell rfl dX7_period_43 rfl rfl rfl rfl (fun v_7 w_8 hp_9 => ?_)
  obtain ⟨rfl, rfl⟩ := hp_9
  show J G X mX7_period _ _ _ 46 _ [.int (1 : Int32)]
  refine J.pop dX7_period_46 rfl ?_
  refine J.iload 6 dX7_period_47 rfl ?_
  exact J.iret B dX7_period_49 rfl (⟨t1, u1, fp1, fl1, fs1, rfl, rfl⟩)
set_option maxHeartbeats 4000000 in
set_option maxRecDepth 100000 in
theorem i_asWell_h (l : Launch) (G : jG) (r : va_W) {x : Nat} {A : Nat → Nat} {ns nr : Nat} {to : Int64} {al wa lf : Int32} {num q a b h : Int32} (hh : inR h 0 100 = false) : Mt l G yX7_asWell mX7_asWell 4 100 0 0 [.ref x, .int num, .int q, .int a, .int b, .int h] ((x, .inr (7, [.ref (A 0), .int (nI ns), .ref (A 1), .int (nI nr), .ref (A 2), .ref (A 3), .ref (A 4), .ref (A 5), .ref (A 6), .ref (A 7), .ref (A 8), .ref (A 9), .long to, .int al, .int wa, .int lf, .ref (A 10)])) :: r) (fun v w => v = some (.int (-1 : Int32)) ∧ w = (x, .inr (7, [.ref (A 0), .int (nI ns), .ref (A 1), .int (nI nr), .ref (A 2), .ref (A 3), .ref (A 4), .ref (A 5), .ref (A 6), .ref (A 7), .ref (A 8), .ref (A 9), .long to, .int al, .int wa, .int lf, .ref (A 10)])) :: r) := by
  refine Mt.of (by decide +kernel) rfl rfl (fun X B => ?_)
  show J G X mX7_asWell ((x, .inr (7, [.ref (A 0), .int (nI ns), .ref (A 1), .int (nI nr), .ref (A 2), .ref (A 3), .ref (A 4), .ref (A 5), .ref (A 6), .ref (A 7), .ref (A 8), .ref (A 9), .long to, .int al, .int wa, .int lf, .ref (A 10)])) :: r) 0 0 0 [(0, .ref x), (1, .int num), (2, .int q), (3, .int a), (4, .int b), (5, .int h)] []
  have hh2 := inR_no hh
  refine J.iload 5 dX7_asWell_0 rfl ?_
  refine J.if_lt dX7_asWell_2 (fun h9 => ?_) (fun h9 => ?_)
  · skip
    have h9 : h.toInt < (0 : Int) := (fa_lt _ _).mp h9
    refine J.iconst (-1 : Int32) dX7_asWell_12 rfl ?_
    exact J.iret B dX7_asWell_13 rfl (⟨rfl, rfl⟩)
  · skip
    have h9 : ¬ h.toInt < (0 : Int) := fun z => h9 ((fa_lt _ _).mpr z)
    refine J.iload 5 dX7_asWell_5 rfl ?_
    refine J.bipush (100 : Int32) dX7_asWell_7 rfl ?_
    refine J.icmp_le dX7_asWell_9 (fun h8 => ?_) (fun h8 => ?_)
    · skip
      have h8 : h.toInt ≤ (100 : Int) := (fa_le _ _).mp h8
      omega
    · skip
      have h8 : ¬ h.toInt ≤ (100 : Int) := fun z => h8 ((fa_le _ _).mpr z)
      refine J.iconst (-1 : Int32) dX7_asWell_12 rfl ?_
      exact J.iret B dX7_asWell_13 rfl (⟨rfl, rfl⟩)
set_option maxHeartbeats 4000000 in
set_option maxRecDepth 100000 in
theorem i_asWell_a (l : Launch) (G : jG) (r : va_W) {x : Nat} {A : Nat → Nat} {ns nr : Nat} {to : Int64} {al wa lf : Int32} {num : Int32} {q a b : Int32} {h : Int32} (hh : inR h 0 100 = true) (hf : (inR a 1 600 && inR q 1 60 && (inR b 1 600 && inR q 1 60) && decide (a ≤ b)) = false) : Mt l G yX7_asWell mX7_asWell 4 100 0 0 [.ref x, .int num, .int q, .int a, .int b, .int h] ((x, .inr (7, [.ref (A 0), .int (nI ns), .ref (A 1), .int (nI nr), .ref (A 2), .ref (A 3), .ref (A 4), .ref (A 5), .ref (A 6), .ref (A 7), .ref (A 8), .ref (A 9), .long to, .int al, .int wa, .int lf, .ref (A 10)])) :: r) (fun v w => v = some (.int (-1 : Int32)) ∧ w = (x, .inr (7, [.ref (A 0), .int (nI ns), .ref (A 1), .int (nI nr), .ref (A 2), .ref (A 3), .ref (A 4), .ref (A 5), .ref (A 6), .ref (A 7), .ref (A 8), .ref (A 9), .long to, .int al, .int wa, .int lf, .ref (A 10)])) :: r) := by
  refine Mt.of (by decide +kernel) rfl rfl (fun X B => ?_)
  show J G X mX7_asWell ((x, .inr (7, [.ref (A 0), .int (nI ns), .ref (A 1), .int (nI nr), .ref (A 2), .ref (A 3), .ref (A 4), .ref (A 5), .ref (A 6), .ref (A 7), .ref (A 8), .ref (A 9), .long to, .int al, .int wa, .int lf, .ref (A 10)])) :: r) 0 0 0 [(0, .ref x), (1, .int num), (2, .int q), (3, .int a), (4, .int b), (5, .int h)] []
  have hh2 := inR_of hh
  refine J.iload 5 dX7_asWell_0 rfl ?_
  refine J.if_lt dX7_asWell_2 (fun h9 => ?_) (fun h9 => ?_)
  · skip
    have h9 : h.toInt < (0 : Int) := (fa_lt _ _).mp h9
    omega
  · skip
    have h9 : ¬ h.toInt < (0 : Int) := fun z => h9 ((fa_lt _ _).mpr z)
    refine J.iload 5 dX7_asWell_5 rfl ?_
    refine J.bipush (100 : Int32) dX7_asWell_7 rfl ?_
    refine J.icmp_le dX7_asWell_9 (fun h8 => ?_) (fun h8 => ?_)
    · skip
      have h8 : h.toInt ≤ (100 : Int) := (fa_le _ _).mp h8
      refine J.aload_n 0 dX7_asWell_14 rfl ?_
      refine J.iload_n 1 dX7_asWell_15 rfl ?_
      refine J.iload_n 2 dX7_asWell_16 rfl ?_
      refine J.iload_n 3 dX7_asWell_17 rfl ?_
      refine J.iload 4 dX7_asWell_18 rfl ?_
      refine J.callV 0 (st := []) B (c_X7_fft_a l G _ hf) ml_X7_164 mf_yX7_foldFromTo mi_yX7_foldFromTo rfl dX7_asWell_20 rfl rfl rfl rfl (fun v_1 w_2 hp_3 => ?_)
      obtain ⟨rfl, rfl⟩ := hp_3
      show J G X mX7_asWell _ _ _ 23 _ [.int (-1 : Int32)]
      refine J.istore [1, 2, 3, 4, 5, 6, 0] (lv' := [(0, .ref x), (1, .int num), (2, .int q), (3, .int a), (4, .int b), (5, .int h), (6, .int (-1 : Int32))]) dX7_asWell_23 rfl rfl ?_
      refine J.iload 6 dX7_asWell_25 rfl ?_
      refine J.if_eq dX7_asWell_27 (fun z => absurd z (by decide)) (fun _ => ?_)
      refine J.iload 6 dX7_asWell_30 rfl ?_
      exact J.iret B dX7_asWell_32 rfl (⟨rfl, rfl⟩)
    · skip
      have h8 : ¬ h.toInt ≤ (100 : Int) := fun z => h8 ((fa_le _ _).mpr z)
      omega
set_option maxHeartbeats 4000000 in
set_option maxRecDepth 100000 in
theorem i_asWell_bad (l : Launch) (G : jG) (r : va_W) {x : Nat} {A : Nat → Nat} {ns nr : Nat} {to : Int64} {al wa lf : Int32} {sa : Nat → Option Nat} {num : Int32} (hns : ns ≤ 12) (hnum : inR num 0 ((ns : Int) - 1) = false) {q a b : Int32} {h : Int32} (hh : inR h 0 100 = true) (hf : (inR a 1 600 && inR q 1 60 && (inR b 1 600 && inR q 1 60) && decide (a ≤ b)) = true) : Mt l G yX7_asWell mX7_asWell 4 100 0 0 [.ref x, .int num, .int q, .int a, .int b, .int h] ((x, .inr (7, [.ref (A 0), .int (nI ns), .ref (A 1), .int (nI nr), .ref (A 2), .ref (A 3), .ref (A 4), .ref (A 5), .ref (A 6), .ref (A 7), .ref (A 8), .ref (A 9), .long to, .int al, .int wa, .int lf, .ref (A 10)])) :: (A 0, .inl (G.2.1.2.2.1, 12, .inr (.inr (.inr (.inr sa))))) :: r) (fun v w => v = some (.int (-1 : Int32)) ∧ w = (x, .inr (7, [.ref (A 0), .int (nI ns), .ref (A 1), .int (nI nr), .ref (A 2), .ref (A 3), .ref (A 4), .ref (A 5), .ref (A 6), .ref (A 7), .ref (A 8), .ref (A 9), .long to, .int al, .int wa, .int lf, .ref (A 10)])) :: (A 0, .inl (G.2.1.2.2.1, 12, .inr (.inr (.inr (.inr sa))))) :: r) := by
  refine Mt.of (by decide +kernel) rfl rfl (fun X B => ?_)
  show J G X mX7_asWell ((x, .inr (7, [.ref (A 0), .int (nI ns), .ref (A 1), .int (nI nr), .ref (A 2), .ref (A 3), .ref (A 4), .ref (A 5), .ref (A 6), .ref (A 7), .ref (A 8), .ref (A 9), .long to, .int al, .int wa, .int lf, .ref (A 10)])) :: (A 0, .inl (G.2.1.2.2.1, 12, .inr (.inr (.inr (.inr sa))))) :: r) 0 0 0 [(0, .ref x), (1, .int num), (2, .int q), (3, .int a), (4, .int b), (5, .int h)] []
  have hh2 := inR_of hh
  refine J.iload 5 dX7_asWell_0 rfl ?_
  refine J.if_lt dX7_asWell_2 (fun h9 => ?_) (fun h9 => ?_)
  · skip
    have h9 : h.toInt < (0 : Int) := (fa_lt _ _).mp h9
    omega
  · skip
    have h9 : ¬ h.toInt < (0 : Int) := fun z => h9 ((fa_lt _ _).mpr z)
    refine J.iload 5 dX7_asWell_5 rfl ?_
    refine J.bipush (100 : Int32) dX7_asWell_7 rfl ?_
    refine J.icmp_le dX7_asWell_9 (fun h8 => ?_) (fun h8 => ?_)
    · skip
      have h8 : h.toInt ≤ (100 : Int) := (fa_le _ _).mp h8
      refine J.aload_n 0 dX7_asWell_14 rfl ?_
      refine J.iload_n 1 dX7_asWell_15 rfl ?_
      refine J.iload_n 2 dX7_asWell_16 rfl ?_
      refine J.iload_n 3 dX7_asWell_17 rfl ?_
      refine J.iload 4 dX7_asWell_18 rfl ?_
      refine J.callV 0 (st := []) B (c_X7_fft_bad l G _ hns hnum hf) ml_X7_164 mf_yX7_foldFromTo mi_yX7_foldFromTo rfl dX7_asWell_20 rfl rfl rfl rfl (fun v_1 w_2 hp_3 => ?_)
      obtain ⟨rfl, rfl⟩ := hp_3
      show J G X mX7_asWell _ _ _ 23 _ [.int (-1 : Int32)]
      refine J.istore [1, 2, 3, 4, 5, 6, 0] (lv' := [(0, .ref x), (1, .int num), (2, .int q), (3, .int a), (4, .int b), (5, .int h), (6, .int (-1 : Int32))]) dX7_asWell_23 rfl rfl ?_
      refine J.iload 6 dX7_asWell_25 rfl ?_
      refine J.if_eq dX7_asWell_27 (fun z => absurd z (by decide)) (fun _ => ?_)
      refine J.iload 6 dX7_asWell_30 rfl ?_
      exact J.iret B dX7_asWell_32 rfl (⟨rfl, rfl⟩)
    · skip
      have h8 : ¬ h.toInt ≤ (100 : Int) := fun z => h8 ((fa_le _ _).mpr z)
      omega
set_option maxHeartbeats 4000000 in
set_option maxRecDepth 100000 in
theorem i_asWell_no (l : Launch) (G : jG) (r : va_W) {x : Nat} {A : Nat → Nat} {ns nr : Nat} {to : Int64} {al wa lf : Int32} {sa : Nat → Option Nat} {la : Nat} {kd wc : Int32} {k s : Nat} (hk : k < ns) (hns : ns ≤ 12) (hsa : sa k = some s) {q a b : Int32} {fc : Nat → Int32} {h : Int32} (hh : inR h 0 100 = true) (hf : (inR a 1 600 && inR q 1 60 && (inR b 1 600 && inR q 1 60) && decide (a ≤ b)) = true) : Mt l G yX7_asWell mX7_asWell 4 100 0 0 [.ref x, .int (nI k), .int q, .int a, .int b, .int h] ((x, .inr (7, [.ref (A 0), .int (nI ns), .ref (A 1), .int (nI nr), .ref (A 2), .ref (A 3), .ref (A 4), .ref (A 5), .ref (A 6), .ref (A 7), .ref (A 8), .ref (A 9), .long to, .int al, .int wa, .int lf, .ref (A 10)])) :: (A 0, .inl (G.2.1.2.2.1, 12, .inr (.inr (.inr (.inr sa))))) :: (s, .inr (6, [.int kd, .ref la, .int (0 : Int32), .int wc])) :: (A 10, .inl (G.2.1.1, 6, .inl fc)) :: r) (fun v w => v = some (.int (-3 : Int32)) ∧ w = (x, .inr (7, [.ref (A 0), .int (nI ns), .ref (A 1), .int (nI nr), .ref (A 2), .ref (A 3), .ref (A 4), .ref (A 5), .ref (A 6), .ref (A 7), .ref (A 8), .ref (A 9), .long to, .int al, .int wa, .int (nI 1), .ref (A 10)])) :: (A 0, .inl (G.2.1.2.2.1, 12, .inr (.inr (.inr (.inr sa))))) :: (s, .inr (6, [.int kd, .ref la, .int (0 : Int32), .int wc])) :: (A 10, .inl (G.2.1.1, 6, .inl (upd fc 1 (fc 1 + 1)))) :: r) := by
  refine Mt.of (by decide +kernel) rfl rfl (fun X B => ?_)
  show J G X mX7_asWell ((x, .inr (7, [.ref (A 0), .int (nI ns), .ref (A 1), .int (nI nr), .ref (A 2), .ref (A 3), .ref (A 4), .ref (A 5), .ref (A 6), .ref (A 7), .ref (A 8), .ref (A 9), .long to, .int al, .int wa, .int lf, .ref (A 10)])) :: (A 0, .inl (G.2.1.2.2.1, 12, .inr (.inr (.inr (.inr sa))))) :: (s, .inr (6, [.int kd, .ref la, .int (0 : Int32), .int wc])) :: (A 10, .inl (G.2.1.1, 6, .inl fc)) :: r) 0 0 0 [(0, .ref x), (1, .int (nI k)), (2, .int q), (3, .int a), (4, .int b), (5, .int h)] []
  have hh2 := inR_of hh
  refine J.iload 5 dX7_asWell_0 rfl ?_
  refine J.if_lt dX7_asWell_2 (fun h9 => ?_) (fun h9 => ?_)
  · skip
    have h9 : h.toInt < (0 : Int) := (fa_lt _ _).mp h9
    omega
  · skip
    have h9 : ¬ h.toInt < (0 : Int) := fun z => h9 ((fa_lt _ _).mpr z)
    refine J.iload 5 dX7_asWell_5 rfl ?_
    refine J.bipush (100 : Int32) dX7_asWell_7 rfl ?_
    refine J.icmp_le dX7_asWell_9 (fun h8 => ?_) (fun h8 => ?_)
    · skip
      have h8 : h.toInt ≤ (100 : Int) := (fa_le _ _).mp h8
      refine J.aload_n 0 dX7_asWell_14 rfl ?_
      refine J.iload_n 1 dX7_asWell_15 rfl ?_
      refine J.iload_n 2 dX7_asWell_16 rfl ?_
      refine J.iload_n 3 dX7_asWell_17 rfl ?_
      refine J.iload 4 dX7_asWell_18 rfl ?_
      refine J.callV 0 (st := []) B (c_X7_fft_no l G _ hk hns hsa hf) ml_X7_164 mf_yX7_foldFromTo mi_yX7_foldFromTo rfl dX7_asWell_20 rfl rfl rfl rfl (fun v_1 w_2 hp_3 => ?_)
      obtain ⟨rfl, rfl⟩ := hp_3
      show J G X mX7_asWell _ _ _ 23 _ [.int (-3 : Int32)]
      refine J.istore [1, 2, 3, 4, 5, 6, 0] (lv' := [(0, .ref x), (1, .int (nI k)), (2, .int q), (3, .int a), (4, .int b), (5, .int h), (6, .int (-3 : Int32))]) dX7_asWell_23 rfl rfl ?_
      refine J.iload 6 dX7_asWell_25 rfl ?_
      refine J.if_eq dX7_asWell_27 (fun z => absurd z (by decide)) (fun _ => ?_)
      refine J.iload 6 dX7_asWell_30 rfl ?_
      exact J.iret B dX7_asWell_32 rfl (⟨rfl, rfl⟩)
    · skip
      have h8 : ¬ h.toInt ≤ (100 : Int) := fun z => h8 ((fa_le _ _).mpr z)
      omega
set_option maxHeartbeats 4000000 in
set_option maxRecDepth 100000 in
theorem X7_aw_lp {l : Launch} {G : jG} {X : jX} {r : va_W} {x : Nat} {A : Nat → Nat} {ns nr : Nat} {to : Int64} {al wa lf : Int32} {sa : Nat → Option Nat} {la k s h q a b : Nat} {kd wc : Int32} {L F t1 u1 fp1 fl1 fs1 : Nat → Int32} (B : jB l G X 4 100 0 0 (fun v w => ∃ t1 u1 fp1 fl1 fs1, v = some (.int (nI (awN (fun j => strV L F j q) h (lstN (fun j => strV L F j q) a (b - a)) a (b - a + 1)))) ∧ w = (x, .inr (7, [.ref (A 0), .int (nI ns), .ref (A 1), .int (nI nr), .ref (A 2), .ref (A 3), .ref (A 4), .ref (A 5), .ref (A 6), .ref (A 7), .ref (A 8), .ref (A 9), .long to, .int al, .int wa, .int lf, .ref (A 10)])) :: (A 0, .inl (G.2.1.2.2.1, 12, .inr (.inr (.inr (.inr sa))))) :: (s, .inr (6, [.int kd, .ref la, .int (1 : Int32), .int wc])) :: (la, .inl (G.2.1.1, 60, .inl L)) :: (A 2, .inl (G.2.1.1, 60, .inl F)) :: (A 3, .inr (1, [.ref (A 11), .ref (A 12), .int (nI (nN L))])) :: (A 11, .inl (G.2.1.1, 60, .inl t1)) :: (A 12, .inl (G.2.1.1, 60, .inl u1)) :: (A 5, .inr (3, [.ref (A 14), .ref (A 15), .ref (A 16)])) :: (A 14, .inl (G.2.1.1, 60, .inl fp1)) :: (A 15, .inl (G.2.1.1, 60, .inl fl1)) :: (A 16, .inl (G.2.1.1, 601, .inl fs1)) :: r) "asWell") (d : Nat) (hb : BD L F) (hh : h ≤ 100) (ha : 1 ≤ a) (hb2 : b ≤ 600) (hab : a ≤ b) (hq2 : q ≤ 60) (hfs : ∀ j, a ≤ j → j ≤ b → fs1 j = Int32.ofInt (strV L F j q)) (hd : a + d ≤ b + 1) : J G X mX7_asWell ((x, .inr (7, [.ref (A 0), .int (nI ns), .ref (A 1), .int (nI nr), .ref (A 2), .ref (A 3), .ref (A 4), .ref (A 5), .ref (A 6), .ref (A 7), .ref (A 8), .ref (A 9), .long to, .int al, .int wa, .int lf, .ref (A 10)])) :: (A 0, .inl (G.2.1.2.2.1, 12, .inr (.inr (.inr (.inr sa))))) :: (s, .inr (6, [.int kd, .ref la, .int (1 : Int32), .int wc])) :: (la, .inl (G.2.1.1, 60, .inl L)) :: (A 2, .inl (G.2.1.1, 60, .inl F)) :: (A 3, .inr (1, [.ref (A 11), .ref (A 12), .int (nI (nN L))])) :: (A 11, .inl (G.2.1.1, 60, .inl t1)) :: (A 12, .inl (G.2.1.1, 60, .inl u1)) :: (A 5, .inr (3, [.ref (A 14), .ref (A 15), .ref (A 16)])) :: (A 14, .inl (G.2.1.1, 60, .inl fp1)) :: (A 15, .inl (G.2.1.1, 60, .inl fl1)) :: (A 16, .inl (G.2.1.1, 601, .inl fs1)) :: r) 0 0 72 [(0, .ref x), (1, .int (nI k)), (2, .int (nI q)), (3, .int (nI a)), (4, .int (nI b)), (5, .int (nI h)), (6, .int (0 : Int32)), (7, .int (nI (lstN (fun j => strV L F j q) a (b - a)))), (8, .long ((100 + (nI h).toInt64) * Int64.ofInt (strV L F (lstN (fun j => strV L F j q) a (b - a)) q))), (10, .int (nI (awN (fun j => strV L F j q) h (lstN (fun j => strV L F j q) a (b - a)) a d))), (11, .int (nI (a + d)))] [] := by
  have hl := lstN_in (fun j => strV L F j q) a (b - a)
  have hsb := strV_bd hb (lstN (fun j => strV L F j q) a (b - a)) q
  have hsd := strV_bd hb (a + d) q
  have hal := awN_le (fun j => strV L F j q) h (lstN (fun j => strV L F j q) a (b - a)) a d
  refine J.iload 10 dX7_asWell_72 rfl ?_
  refine J.iload 4 dX7_asWell_74 rfl ?_
  refine J.icmp_gt dX7_asWell_76 (fun h9 => ?_) (fun h9 => ?_)
  · skip
    have h9 : b < (a + d) := (nI_ltI (a := b) (b := (a + d)) (by omega) (by omega)).mp h9
    refine J.iload 9 dX7_asWell_116 rfl ?_
    exact J.iret B dX7_asWell_118 rfl (⟨t1, u1, fp1, fl1, fs1, by rw [show b - a + 1 = d by omega], rfl⟩)
  · skip
    have h9 : ¬ b < (a + d) := fun z => h9 ((nI_ltI (a := b) (b := (a + d)) (by omega) (by omega)).mpr z)
    refine J.iload 10 dX7_asWell_79 rfl ?_
    refine J.iload 7 dX7_asWell_81 rfl ?_
    refine J.icmp_eq dX7_asWell_83 (fun h8 => ?_) (fun h8 => ?_)
    · skip
      have h8 : (a + d) = (lstN (fun j => strV L F j q) a (b - a)) := (nI_eq (a := (a + d)) (b := (lstN (fun j => strV L F j q) a (b - a))) (by omega) (by omega)).mp h8
      refine J.iinc 10 [1, 2, 3, 4, 5, 6, 7, 8, 9, 10, 0] (lv' := [(0, .ref x), (1, .int (nI k)), (2, .int (nI q)), (3, .int (nI a)), (4, .int (nI b)), (5, .int (nI h)), (6, .int (0 : Int32)), (7, .int (nI (lstN (fun j => strV L F j q) a (b - a)))), (8, .long ((100 + (nI h).toInt64) * Int64.ofInt (strV L F (lstN (fun j => strV L F j q) a (b - a)) q))), (10, .int (nI (awN (fun j => strV L F j q) h (lstN (fun j => strV L F j q) a (b - a)) a d))), (11, .int (nI (a + d + 1)))]) dX7_asWell_110 rfl (jinc1 _) rfl rfl ?_
      refine J.goto dX7_asWell_113 ?_
      have he : awN (fun j => strV L F j q) h (lstN (fun j => strV L F j q) a (b - a)) a (d + 1) = awN (fun j => strV L F j q) h (lstN (fun j => strV L F j q) a (b - a)) a d := by
        rw [awN_s, if_neg (fun z => by first | exact z.1 h8 | exact h7 z.2), Nat.add_zero]
      have hq9 := X7_aw_lp (k := k) (t1 := t1) (u1 := u1) (fp1 := fp1) (fl1 := fl1) B (d + 1) hb hh ha hb2 hab hq2 hfs (by omega)
      rw [he] at hq9
      exact hq9
    · skip
      have h8 : ¬ (a + d) = (lstN (fun j => strV L F j q) a (b - a)) := fun z => h8 ((nI_eq (a := (a + d)) (b := (lstN (fun j => strV L F j q) a (b - a))) (by omega) (by omega)).mpr z)
      refine J.ldc2 dX7_asWell_86 kl_X7_174 ?_
      refine J.aload_n 0 dX7_asWell_89 rfl ?_
      refine J.get 0 fl_X7_42 dX7_asWell_90 rfl rfl ?_
      refine J.get 8 fl_X7_171 dX7_asWell_93 rfl rfl ?_
      refine J.iload 10 dX7_asWell_96 rfl ?_
      refine J.iald 11 (a + d) dX7_asWell_98 rfl (rfl) (by omega) (by decide) ?_
      refine J.topi (y := Int32.ofInt (strV L F (a + d) q)) (hfs _ (by omega) (by omega)) ?_
      refine J.i2l dX7_asWell_99 ?_
      rw [wide_ofI (by omega) (by omega)]
      refine J.lmul dX7_asWell_100 ?_
      refine J.lload 8 dX7_asWell_101 rfl ?_
      refine J.lcmp dX7_asWell_103 ?_
      refine J.if_gt dX7_asWell_104 (fun h7 => ?_) (fun h7 => ?_)
      · skip
        have h7 := jc_gt_t h7
        have h7 : ¬ 100 * (fun j => strV L F j q) (a + d) ≤ (100 + (h : Int)) * (fun j => strV L F j q) (lstN (fun j => strV L F j q) a (b - a)) := fun z => absurd h7 (Int64.not_lt.mpr ((aw_le hh (strV_bd hb _ _) (strV_bd hb _ _)).mpr z))
        refine J.iinc 10 [1, 2, 3, 4, 5, 6, 7, 8, 9, 10, 0] (lv' := [(0, .ref x), (1, .int (nI k)), (2, .int (nI q)), (3, .int (nI a)), (4, .int (nI b)), (5, .int (nI h)), (6, .int (0 : Int32)), (7, .int (nI (lstN (fun j => strV L F j q) a (b - a)))), (8, .long ((100 + (nI h).toInt64) * Int64.ofInt (strV L F (lstN (fun j => strV L F j q) a (b - a)) q))), (10, .int (nI (awN (fun j => strV L F j q) h (lstN (fun j => strV L F j q) a (b - a)) a d))), (11, .int (nI (a + d + 1)))]) dX7_asWell_110 rfl (jinc1 _) rfl rfl ?_
        refine J.goto dX7_asWell_113 ?_
        have he : awN (fun j => strV L F j q) h (lstN (fun j => strV L F j q) a (b - a)) a (d + 1) = awN (fun j => strV L F j q) h (lstN (fun j => strV L F j q) a (b - a)) a d := by
          rw [awN_s, if_neg (fun z => by first | exact z.1 h8 | exact h7 z.2), Nat.add_zero]
        have hq9 := X7_aw_lp (k := k) (t1 := t1) (u1 := u1) (fp1 := fp1) (fl1 := fl1) B (d + 1) hb hh ha hb2 hab hq2 hfs (by omega)
        rw [he] at hq9
        exact hq9
      · skip
        have h7 := jc_gt_f h7
        have h7 : 100 * (fun j => strV L F j q) (a + d) ≤ (100 + (h : Int)) * (fun j => strV L F j q) (lstN (fun j => strV L F j q) a (b - a)) := (aw_le hh (strV_bd hb _ _) (strV_bd hb _ _)).mp (Int64.not_lt.mp h7)
        refine J.iinc 9 [1, 2, 3, 4, 5, 6, 7, 8, 9, 0, 10] (lv' := [(0, .ref x), (1, .int (nI k)), (2, .int (nI q)), (3, .int (nI a)), (4, .int (nI b)), (5, .int (nI h)), (6, .int (0 : Int32)), (7, .int (nI (lstN (fun j => strV L F j q) a (b - a)))), (8, .long ((100 + (nI h).toInt64) * Int64.ofInt (strV L F (lstN (fun j => strV L F j q) a (b - a)) q))), (10, .int (nI (awN (fun j => strV L F j q) h (lstN (fun j => strV L F j q) a (b - a)) a d + 1))), (11, .int (nI (a + d)))]) dX7_asWell_107 rfl (jinc1 _) rfl rfl ?_
        refine J.iinc 10 [1, 2, 3, 4, 5, 6, 7, 8, 9, 10, 0] (lv' := [(0, .ref x), (1, .int (nI k)), (2, .int (nI q)), (3, .int (nI a)), (4, .int (nI b)), (5, .int (nI h)), (6, .int (0 : Int32)), (7, .int (nI (lstN (fun j => strV L F j q) a (b - a)))), (8, .long ((100 + (nI h).toInt64) * Int64.ofInt (strV L F (lstN (fun j => strV L F j q) a (b - a)) q))), (10, .int (nI (awN (fun j => strV L F j q) h (lstN (fun j => strV L F j q) a (b - a)) a d + 1))), (11, .int (nI (a + d + 1)))]) dX7_asWell_110 rfl (jinc1 _) rfl rfl ?_
        refine J.goto dX7_asWell_113 ?_
        have he : awN (fun j => strV L F j q) h (lstN (fun j => strV L F j q) a (b - a)) a (d + 1) = awN (fun j => strV L F j q) h (lstN (fun j => strV L F j q) a (b - a)) a d + 1 := by
          rw [awN_s, if_pos ⟨h8, h7⟩]
        have hq9 := X7_aw_lp (k := k) (t1 := t1) (u1 := u1) (fp1 := fp1) (fl1 := fl1) B (d + 1) hb hh ha hb2 hab hq2 hfs (by omega)
        rw [he] at hq9
        exact hq9
termination_by b + 1 - (a + d)
decreasing_by all_goals omega
set_option maxHeartbeats 4000000 in
set_option maxRecDepth 100000 in
theorem i_asWell (l : Launch) (G : jG) (r : va_W) {x : Nat} {A : Nat → Nat} {ns nr : Nat} {to : Int64} {al wa lf : Int32} {sa : Nat → Option Nat} {la : Nat} {kd wc : Int32} {k s : Nat} (hk : k < ns) (hns : ns ≤ 12) (hsa : sa k = some s) {L F : Nat → Int32} {cz : Int32} {t u : Nat → Int32} {fp fl fs : Nat → Int32} {q a b : Nat} (hb : BD L F) (ha : 1 ≤ a) (hb2 : b ≤ 600) (hab : a ≤ b) (hq1 : 1 ≤ q) (hq2 : q ≤ 60) {h : Nat} (hh : h ≤ 100) : Mt l G yX7_asWell mX7_asWell 4 100 0 0 [.ref x, .int (nI k), .int (nI q), .int (nI a), .int (nI b), .int (nI h)] ((x, .inr (7, [.ref (A 0), .int (nI ns), .ref (A 1), .int (nI nr), .ref (A 2), .ref (A 3), .ref (A 4), .ref (A 5), .ref (A 6), .ref (A 7), .ref (A 8), .ref (A 9), .long to, .int al, .int wa, .int lf, .ref (A 10)])) :: (A 0, .inl (G.2.1.2.2.1, 12, .inr (.inr (.inr (.inr sa))))) :: (s, .inr (6, [.int kd, .ref la, .int (1 : Int32), .int wc])) :: (la, .inl (G.2.1.1, 60, .inl L)) :: (A 2, .inl (G.2.1.1, 60, .inl F)) :: (A 3, .inr (1, [.ref (A 11), .ref (A 12), .int cz])) :: (A 11, .inl (G.2.1.1, 60, .inl t)) :: (A 12, .inl (G.2.1.1, 60, .inl u)) :: (A 5, .inr (3, [.ref (A 14), .ref (A 15), .ref (A 16)])) :: (A 14, .inl (G.2.1.1, 60, .inl fp)) :: (A 15, .inl (G.2.1.1, 60, .inl fl)) :: (A 16, .inl (G.2.1.1, 601, .inl fs)) :: r) (fun v w => ∃ t1 u1 fp1 fl1 fs1, v = some (.int (nI (awN (fun j => strV L F j q) h (lstN (fun j => strV L F j q) a (b - a)) a (b - a + 1)))) ∧ w = (x, .inr (7, [.ref (A 0), .int (nI ns), .ref (A 1), .int (nI nr), .ref (A 2), .ref (A 3), .ref (A 4), .ref (A 5), .ref (A 6), .ref (A 7), .ref (A 8), .ref (A 9), .long to, .int al, .int wa, .int lf, .ref (A 10)])) :: (A 0, .inl (G.2.1.2.2.1, 12, .inr (.inr (.inr (.inr sa))))) :: (s, .inr (6, [.int kd, .ref la, .int (1 : Int32), .int wc])) :: (la, .inl (G.2.1.1, 60, .inl L)) :: (A 2, .inl (G.2.1.1, 60, .inl F)) :: (A 3, .inr (1, [.ref (A 11), .ref (A 12), .int (nI (nN L))])) :: (A 11, .inl (G.2.1.1, 60, .inl t1)) :: (A 12, .inl (G.2.1.1, 60, .inl u1)) :: (A 5, .inr (3, [.ref (A 14), .ref (A 15), .ref (A 16)])) :: (A 14, .inl (G.2.1.1, 60, .inl fp1)) :: (A 15, .inl (G.2.1.1, 60, .inl fl1)) :: (A 16, .inl (G.2.1.1, 601, .inl fs1)) :: r) := by
  refine Mt.of (by decide +kernel) rfl rfl (fun X B => ?_)
  show J G X mX7_asWell ((x, .inr (7, [.ref (A 0), .int (nI ns), .ref (A 1), .int (nI nr), .ref (A 2), .ref (A 3), .ref (A 4), .ref (A 5), .ref (A 6), .ref (A 7), .ref (A 8), .ref (A 9), .long to, .int al, .int wa, .int lf, .ref (A 10)])) :: (A 0, .inl (G.2.1.2.2.1, 12, .inr (.inr (.inr (.inr sa))))) :: (s, .inr (6, [.int kd, .ref la, .int (1 : Int32), .int wc])) :: (la, .inl (G.2.1.1, 60, .inl L)) :: (A 2, .inl (G.2.1.1, 60, .inl F)) :: (A 3, .inr (1, [.ref (A 11), .ref (A 12), .int cz])) :: (A 11, .inl (G.2.1.1, 60, .inl t)) :: (A 12, .inl (G.2.1.1, 60, .inl u)) :: (A 5, .inr (3, [.ref (A 14), .ref (A 15), .ref (A 16)])) :: (A 14, .inl (G.2.1.1, 60, .inl fp)) :: (A 15, .inl (G.2.1.1, 60, .inl fl)) :: (A 16, .inl (G.2.1.1, 601, .inl fs)) :: r) 0 0 0 [(0, .ref x), (1, .int (nI k)), (2, .int (nI q)), (3, .int (nI a)), (4, .int (nI b)), (5, .int (nI h))] []
  have hl := lstN_in (fun j => strV L F j q) a (b - a)
  have hsb := strV_bd hb (lstN (fun j => strV L F j q) a (b - a)) q
  refine J.iload 5 dX7_asWell_0 rfl ?_
  refine J.if_lt dX7_asWell_2 (fun h9 => ?_) (fun h9 => ?_)
  · skip
    have h9 : h < 0 := (nI_ltI (a := h) (b := 0) (by omega) (by omega)).mp h9
    omega
  · skip
    have h9 : ¬ h < 0 := fun z => h9 ((nI_ltI (a := h) (b := 0) (by omega) (by omega)).mpr z)
    refine J.iload 5 dX7_asWell_5 rfl ?_
    refine J.bipush (100 : Int32) dX7_asWell_7 rfl ?_
    refine J.icmp_le dX7_asWell_9 (fun h8 => ?_) (fun h8 => ?_)
    · skip
      have h8 : h ≤ 100 := (nI_leI (a := h) (b := 100) (by omega) (by omega)).mp h8
      refine J.aload_n 0 dX7_asWell_14 rfl ?_
      refine J.iload_n 1 dX7_asWell_15 rfl ?_
      refine J.iload_n 2 dX7_asWell_16 rfl ?_
      refine J.iload_n 3 dX7_asWell_17 rfl ?_
      refine J.iload 4 dX7_asWell_18 rfl ?_
      refine J.callV 0 (st := []) B (c_X7_fft l G _ hk hns hsa hb ha hb2 hab hq1 hq2) ml_X7_164 mf_yX7_foldFromTo mi_yX7_foldFromTo rfl dX7_asWell_20 rfl rfl rfl rfl (fun v_1 w_2 hp_3 => ?_)
      obtain ⟨t1, u1, fp1, fl1, fs1, hfs, rfl, rfl⟩ := hp_3
      show J G X mX7_asWell _ _ _ 23 _ [.int (0 : Int32)]
      refine J.istore [1, 2, 3, 4, 5, 6, 0] (lv' := [(0, .ref x), (1, .int (nI k)), (2, .int (nI q)), (3, .int (nI a)), (4, .int (nI b)), (5, .int (nI h)), (6, .int (0 : Int32))]) dX7_asWell_23 rfl rfl ?_
      refine J.iload 6 dX7_asWell_25 rfl ?_
      refine J.if_eq dX7_asWell_27 (fun _ => ?_) (fun z => absurd z (by decide))
      refine J.aload_n 0 dX7_asWell_33 rfl ?_
      refine J.get 0 fl_X7_42 dX7_asWell_34 rfl rfl ?_
      refine J.iload_n 3 dX7_asWell_37 rfl ?_
      refine J.iload 4 dX7_asWell_38 rfl ?_
      refine J.re [8, 11, 0, 1, 2, 3, 4, 5, 6, 7, 9, 10] 12 (ws2 := (A 5, .inr (3, [.ref (A 14), .ref (A 15), .ref (A 16)])) :: (A 16, .inl (G.2.1.1, 601, .inl fs1)) :: (x, .inr (7, [.ref (A 0), .int (nI ns), .ref (A 1), .int (nI nr), .ref (A 2), .ref (A 3), .ref (A 4), .ref (A 5), .ref (A 6), .ref (A 7), .ref (A 8), .ref (A 9), .long to, .int al, .int wa, .int lf, .ref (A 10)])) :: (A 0, .inl (G.2.1.2.2.1, 12, .inr (.inr (.inr (.inr sa))))) :: (s, .inr (6, [.int kd, .ref la, .int (1 : Int32), .int wc])) :: (la, .inl (G.2.1.1, 60, .inl L)) :: (A 2, .inl (G.2.1.1, 60, .inl F)) :: (A 3, .inr (1, [.ref (A 11), .ref (A 12), .int (nI (nN L))])) :: (A 11, .inl (G.2.1.1, 60, .inl t1)) :: (A 12, .inl (G.2.1.1, 60, .inl u1)) :: (A 14, .inl (G.2.1.1, 60, .inl fp1)) :: (A 15, .inl (G.2.1.1, 60, .inl fl1)) :: r) rfl rfl ?_
      refine J.callV 0 (st := []) B (c_X3_leastFromTo l G _ (g := (fun j => strV L F j q)) hb2 hfs (fun j => strV_bd hb j q) hab) ml_X7_168 mf_yX3_leastFromTo mi_yX3_leastFromTo rfl dX7_asWell_40 rfl rfl rfl rfl (fun v_4 w_5 hp_6 => ?_)
      obtain ⟨rfl, rfl⟩ := hp_6
      refine J.re [2, 3, 4, 5, 6, 7, 8, 9, 0, 10, 11, 1] 12 (ws2 := (x, .inr (7, [.ref (A 0), .int (nI ns), .ref (A 1), .int (nI nr), .ref (A 2), .ref (A 3), .ref (A 4), .ref (A 5), .ref (A 6), .ref (A 7), .ref (A 8), .ref (A 9), .long to, .int al, .int wa, .int lf, .ref (A 10)])) :: (A 0, .inl (G.2.1.2.2.1, 12, .inr (.inr (.inr (.inr sa))))) :: (s, .inr (6, [.int kd, .ref la, .int (1 : Int32), .int wc])) :: (la, .inl (G.2.1.1, 60, .inl L)) :: (A 2, .inl (G.2.1.1, 60, .inl F)) :: (A 3, .inr (1, [.ref (A 11), .ref (A 12), .int (nI (nN L))])) :: (A 11, .inl (G.2.1.1, 60, .inl t1)) :: (A 12, .inl (G.2.1.1, 60, .inl u1)) :: (A 5, .inr (3, [.ref (A 14), .ref (A 15), .ref (A 16)])) :: (A 14, .inl (G.2.1.1, 60, .inl fp1)) :: (A 15, .inl (G.2.1.1, 60, .inl fl1)) :: (A 16, .inl (G.2.1.1, 601, .inl fs1)) :: r) rfl rfl ?_
      show J G X mX7_asWell _ _ _ 43 _ [.int (nI (lstN (fun j => strV L F j q) a (b - a)))]
      refine J.istore [1, 2, 3, 4, 5, 6, 7, 0] (lv' := [(0, .ref x), (1, .int (nI k)), (2, .int (nI q)), (3, .int (nI a)), (4, .int (nI b)), (5, .int (nI h)), (6, .int (0 : Int32)), (7, .int (nI (lstN (fun j => strV L F j q) a (b - a))))]) dX7_asWell_43 rfl rfl ?_
      refine J.ldc2 dX7_asWell_45 kl_X7_174 ?_
      refine J.iload 5 dX7_asWell_48 rfl ?_
      refine J.i2l dX7_asWell_50 ?_
      refine J.ladd dX7_asWell_51 ?_
      refine J.aload_n 0 dX7_asWell_52 rfl ?_
      refine J.get 0 fl_X7_42 dX7_asWell_53 rfl rfl ?_
      refine J.get 8 fl_X7_171 dX7_asWell_56 rfl rfl ?_
      refine J.iload 7 dX7_asWell_59 rfl ?_
      refine J.iald 11 (lstN (fun j => strV L F j q) a (b - a)) dX7_asWell_61 rfl (rfl) (by omega) (by decide) ?_
      refine J.topi (y := Int32.ofInt (strV L F (lstN (fun j => strV L F j q) a (b - a)) q)) (hfs _ (by omega) (by omega)) ?_
      refine J.i2l dX7_asWell_62 ?_
      rw [wide_ofI (by omega) (by omega)]
      refine J.lmul dX7_asWell_63 ?_
      refine J.lstore [1, 2, 3, 4, 5, 6, 7, 8, 0] (lv' := [(0, .ref x), (1, .int (nI k)), (2, .int (nI q)), (3, .int (nI a)), (4, .int (nI b)), (5, .int (nI h)), (6, .int (0 : Int32)), (7, .int (nI (lstN (fun j => strV L F j q) a (b - a)))), (8, .long (((100 : Int64) + ((nI h).toInt64)) * (Int64.ofInt (strV L F (lstN (fun j => strV L F j q) a (b - a)) q))))]) dX7_asWell_64 rfl rfl ?_
      refine J.iconst (0 : Int32) dX7_asWell_66 rfl ?_
      refine J.istore [1, 2, 3, 4, 5, 6, 7, 8, 9, 0] (lv' := [(0, .ref x), (1, .int (nI k)), (2, .int (nI q)), (3, .int (nI a)), (4, .int (nI b)), (5, .int (nI h)), (6, .int (0 : Int32)), (7, .int (nI (lstN (fun j => strV L F j q) a (b - a)))), (8, .long (((100 : Int64) + ((nI h).toInt64)) * (Int64.ofInt (strV L F (lstN (fun j => strV L F j q) a (b - a)) q)))), (10, .int (0 : Int32))]) dX7_asWell_67 rfl rfl ?_
      refine J.iload_n 3 dX7_asWell_69 rfl ?_
      refine J.istore [1, 2, 3, 4, 5, 6, 7, 8, 9, 10, 0] (lv' := [(0, .ref x), (1, .int (nI k)), (2, .int (nI q)), (3, .int (nI a)), (4, .int (nI b)), (5, .int (nI h)), (6, .int (0 : Int32)), (7, .int (nI (lstN (fun j => strV L F j q) a (b - a)))), (8, .long (((100 : Int64) + ((nI h).toInt64)) * (Int64.ofInt (strV L F (lstN (fun j => strV L F j q) a (b - a)) q)))), (10, .int (0 : Int32)), (11, .int (nI a))]) dX7_asWell_70 rfl rfl ?_
      exact X7_aw_lp B 0 hb hh ha hb2 hab hq2 hfs (by omega)
    · skip
      have h8 : ¬ h ≤ 100 := fun z => h8 ((nI_leI (a := h) (b := 100) (by omega) (by omega)).mpr z)
      omega
