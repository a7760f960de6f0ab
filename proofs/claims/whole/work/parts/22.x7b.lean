set_option maxHeartbeats 4000000 in
set_option maxRecDepth 100000 in
theorem c_X7_gatherRow (l : Launch) (G : jG) (r : va_W) {x : Nat} {A : Nat → Nat} {ns nr : Nat} {to : Int64} {al wa lf : Int32} {sa : Nat → Option Nat} {la : Nat} {kd wc : Int32} {k s : Nat} (hk : k < ns) (hns : ns ≤ 12) (hsa : sa k = some s) {L F : Nat → Int32} {cz : Int32} {t u : Nat → Int32} : Mt l G yX7_gatherRow mX7_gatherRow 2 43 0 0 [.ref x, .int (nI k)] ((x, .inr (7, [.ref (A 0), .int (nI ns), .ref (A 1), .int (nI nr), .ref (A 2), .ref (A 3), .ref (A 4), .ref (A 5), .ref (A 6), .ref (A 7), .ref (A 8), .ref (A 9), .long to, .int al, .int wa, .int lf, .ref (A 10)])) :: (A 0, .inl (G.2.1.2.2.1, 12, .inr (.inr (.inr (.inr sa))))) :: (s, .inr (6, [.int kd, .ref la, .int (1 : Int32), .int wc])) :: (la, .inl (G.2.1.1, 60, .inl L)) :: (A 2, .inl (G.2.1.1, 60, .inl F)) :: (A 3, .inr (1, [.ref (A 11), .ref (A 12), .int cz])) :: (A 11, .inl (G.2.1.1, 60, .inl t)) :: (A 12, .inl (G.2.1.1, 60, .inl u)) :: r) (fun v w => ∃ t1 u1, CV L F t1 u1 ∧ v = some (.int 0) ∧ w = (x, .inr (7, [.ref (A 0), .int (nI ns), .ref (A 1), .int (nI nr), .ref (A 2), .ref (A 3), .ref (A 4), .ref (A 5), .ref (A 6), .ref (A 7), .ref (A 8), .ref (A 9), .long to, .int al, .int wa, .int lf, .ref (A 10)])) :: (A 0, .inl (G.2.1.2.2.1, 12, .inr (.inr (.inr (.inr sa))))) :: (s, .inr (6, [.int kd, .ref la, .int (1 : Int32), .int wc])) :: (la, .inl (G.2.1.1, 60, .inl L)) :: (A 2, .inl (G.2.1.1, 60, .inl F)) :: (A 3, .inr (1, [.ref (A 11), .ref (A 12), .int (nI (nN L))])) :: (A 11, .inl (G.2.1.1, 60, .inl t1)) :: (A 12, .inl (G.2.1.1, 60, .inl u1)) :: r) := by
  refine Mt.of (by decide +kernel) rfl rfl (fun X B => ?_)
  show J G X mX7_gatherRow ((x, .inr (7, [.ref (A 0), .int (nI ns), .ref (A 1), .int (nI nr), .ref (A 2), .ref (A 3), .ref (A 4), .ref (A 5), .ref (A 6), .ref (A 7), .ref (A 8), .ref (A 9), .long to, .int al, .int wa, .int lf, .ref (A 10)])) :: (A 0, .inl (G.2.1.2.2.1, 12, .inr (.inr (.inr (.inr sa))))) :: (s, .inr (6, [.int kd, .ref la, .int (1 : Int32), .int wc])) :: (la, .inl (G.2.1.1, 60, .inl L)) :: (A 2, .inl (G.2.1.1, 60, .inl F)) :: (A 3, .inr (1, [.ref (A 11), .ref (A 12), .int cz])) :: (A 11, .inl (G.2.1.1, 60, .inl t)) :: (A 12, .inl (G.2.1.1, 60, .inl u)) :: r) 0 0 0 [(0, .ref x), (1, .int (nI k))] []
  refine J.aload_n 0 dX7_gatherRow_0 rfl ?_
  refine J.iload_n 1 dX7_gatherRow_1 rfl ?_
  refine J.callV 0 (st := []) B (c_X7_lookAtRow l G _ hk hns hsa) ml_X7_119 mf_yX7_lookAtRow mi_yX7_lookAtRow rfl dX7_gatherRow_2 rfl rfl rfl rfl (fun v_1 w_2 hp_3 => ?_)
  obtain ⟨rfl, rfl⟩ := hp_3
  show J G X mX7_gatherRow _ _ _ 5 _ [.int (0 : Int32)]
  refine J.istore_n [1, 2, 0] (lv' := [(0, .ref x), (1, .int (nI k)), (2, .int (0 : Int32))]) dX7_gatherRow_5 rfl rfl ?_
  refine J.iload_n 2 dX7_gatherRow_6 rfl ?_
  refine J.if_ne dX7_gatherRow_7 (fun z => absurd z (by decide)) (fun _ => ?_)
  refine J.aload_n 0 dX7_gatherRow_10 rfl ?_
  refine J.get 0 fl_X7_28 dX7_gatherRow_11 rfl rfl ?_
  refine J.aload_n 0 dX7_gatherRow_14 rfl ?_
  refine J.get 0 fl_X7_11 dX7_gatherRow_15 rfl rfl ?_
  refine J.iload_n 1 dX7_gatherRow_18 rfl ?_
  refine J.aald 1 2 (k) dX7_gatherRow_19 rfl rfl (rfl) (by omega) (by decide) (hsa) ?_
  refine J.aload_n 0 dX7_gatherRow_20 rfl ?_
  refine J.get 0 fl_X7_21 dX7_gatherRow_21 rfl rfl ?_
  refine J.re [5, 6, 7, 2, 3, 4, 0, 1] 8 (ws2 := (A 3, .inr (1, [.ref (A 11), .ref (A 12), .int cz])) :: (A 11, .inl (G.2.1.1, 60, .inl t)) :: (A 12, .inl (G.2.1.1, 60, .inl u)) :: (s, .inr (6, [.int kd, .ref la, .int (1 : Int32), .int wc])) :: (la, .inl (G.2.1.1, 60, .inl L)) :: (A 2, .inl (G.2.1.1, 60, .inl F)) :: (x, .inr (7, [.ref (A 0), .int (nI ns), .ref (A 1), .int (nI nr), .ref (A 2), .ref (A 3), .ref (A 4), .ref (A 5), .ref (A 6), .ref (A 7), .ref (A 8), .ref (A 9), .long to, .int al, .int wa, .int lf, .ref (A 10)])) :: (A 0, .inl (G.2.1.2.2.1, 12, .inr (.inr (.inr (.inr sa))))) :: r) rfl rfl ?_
  refine J.callV 0 (st := []) B (c_X1_gather l G _) ml_X7_237 mf_yX1_gather mi_yX1_gather rfl dX7_gatherRow_24 rfl rfl rfl rfl (fun v_4 w_5 hp_6 => ?_)
  obtain ⟨t1, u1, hcv, rfl, rfl⟩ := hp_6
  refine J.re [6, 7, 3, 4, 5, 0, 1, 2] 8 (ws2 := (x, .inr (7, [.ref (A 0), .int (nI ns), .ref (A 1), .int (nI nr), .ref (A 2), .ref (A 3), .ref (A 4), .ref (A 5), .ref (A 6), .ref (A 7), .ref (A 8), .ref (A 9), .long to, .int al, .int wa, .int lf, .ref (A 10)])) :: (A 0, .inl (G.2.1.2.2.1, 12, .inr (.inr (.inr (.inr sa))))) :: (s, .inr (6, [.int kd, .ref la, .int (1 : Int32), .int wc])) :: (la, .inl (G.2.1.1, 60, .inl L)) :: (A 2, .inl (G.2.1.1, 60, .inl F)) :: (A 3, .inr (1, [.ref (A 11), .ref (A 12), .int (nI (nN L))])) :: (A 11, .inl (G.2.1.1, 60, .inl t1)) :: (A 12, .inl (G.2.1.1, 60, .inl u1)) :: r) rfl rfl ?_
  show J G X mX7_gatherRow _ _ _ 27 _ []
  refine J.iload_n 2 dX7_gatherRow_27 rfl ?_
  exact J.iret B dX7_gatherRow_28 rfl (⟨t1, u1, hcv, rfl, rfl⟩)
set_option maxHeartbeats 4000000 in
set_option maxRecDepth 100000 in
theorem c_X7_gatherRow_bad (l : Launch) (G : jG) (r : va_W) {x : Nat} {A : Nat → Nat} {ns nr : Nat} {to : Int64} {al wa lf : Int32} {sa : Nat → Option Nat} {num : Int32} (hns : ns ≤ 12) (hnum : inR num 0 ((ns : Int) - 1) = false) : Mt l G yX7_gatherRow mX7_gatherRow 2 43 0 0 [.ref x, .int num] ((x, .inr (7, [.ref (A 0), .int (nI ns), .ref (A 1), .int (nI nr), .ref (A 2), .ref (A 3), .ref (A 4), .ref (A 5), .ref (A 6), .ref (A 7), .ref (A 8), .ref (A 9), .long to, .int al, .int wa, .int lf, .ref (A 10)])) :: (A 0, .inl (G.2.1.2.2.1, 12, .inr (.inr (.inr (.inr sa))))) :: r) (fun v w => v = some (.int (-1 : Int32)) ∧ w = (x, .inr (7, [.ref (A 0), .int (nI ns), .ref (A 1), .int (nI nr), .ref (A 2), .ref (A 3), .ref (A 4), .ref (A 5), .ref (A 6), .ref (A 7), .ref (A 8), .ref (A 9), .long to, .int al, .int wa, .int lf, .ref (A 10)])) :: (A 0, .inl (G.2.1.2.2.1, 12, .inr (.inr (.inr (.inr sa))))) :: r) := by
  refine Mt.of (by decide +kernel) rfl rfl (fun X B => ?_)
  show J G X mX7_gatherRow ((x, .inr (7, [.ref (A 0), .int (nI ns), .ref (A 1), .int (nI nr), .ref (A 2), .ref (A 3), .ref (A 4), .ref (A 5), .ref (A 6), .ref (A 7), .ref (A 8), .ref (A 9), .long to, .int al, .int wa, .int lf, .ref (A 10)])) :: (A 0, .inl (G.2.1.2.2.1, 12, .inr (.inr (.inr (.inr sa))))) :: r) 0 0 0 [(0, .ref x), (1, .int num)] []
  refine J.aload_n 0 dX7_gatherRow_0 rfl ?_
  refine J.iload_n 1 dX7_gatherRow_1 rfl ?_
  refine J.callV 0 (st := []) B (c_X7_lookAtRow_bad l G _ hns hnum) ml_X7_119 mf_yX7_lookAtRow mi_yX7_lookAtRow rfl dX7_gatherRow_2 rfl rfl rfl rfl (fun v_1 w_2 hp_3 => ?_)
  obtain ⟨rfl, rfl⟩ := hp_3
  show J G X mX7_gatherRow _ _ _ 5 _ [.int (-1 : Int32)]
  refine J.istore_n [1, 2, 0] (lv' := [(0, .ref x), (1, .int num), (2, .int (-1 : Int32))]) dX7_gatherRow_5 rfl rfl ?_
  refine J.iload_n 2 dX7_gatherRow_6 rfl ?_
  refine J.if_ne dX7_gatherRow_7 (fun _ => ?_) (fun z => absurd z (by decide))
  refine J.iload_n 2 dX7_gatherRow_27 rfl ?_
  exact J.iret B dX7_gatherRow_28 rfl (⟨rfl, rfl⟩)
set_option maxHeartbeats 4000000 in
set_option maxRecDepth 100000 in
theorem c_X7_gatherRow_no (l : Launch) (G : jG) (r : va_W) {x : Nat} {A : Nat → Nat} {ns nr : Nat} {to : Int64} {al wa lf : Int32} {sa : Nat → Option Nat} {la : Nat} {kd wc : Int32} {k s : Nat} (hk : k < ns) (hns : ns ≤ 12) (hsa : sa k = some s) {fc : Nat → Int32} : Mt l G yX7_gatherRow mX7_gatherRow 2 43 0 0 [.ref x, .int (nI k)] ((x, .inr (7, [.ref (A 0), .int (nI ns), .ref (A 1), .int (nI nr), .ref (A 2), .ref (A 3), .ref (A 4), .ref (A 5), .ref (A 6), .ref (A 7), .ref (A 8), .ref (A 9), .long to, .int al, .int wa, .int lf, .ref (A 10)])) :: (A 0, .inl (G.2.1.2.2.1, 12, .inr (.inr (.inr (.inr sa))))) :: (s, .inr (6, [.int kd, .ref la, .int (0 : Int32), .int wc])) :: (A 10, .inl (G.2.1.1, 6, .inl fc)) :: r) (fun v w => v = some (.int (-3 : Int32)) ∧ w = (x, .inr (7, [.ref (A 0), .int (nI ns), .ref (A 1), .int (nI nr), .ref (A 2), .ref (A 3), .ref (A 4), .ref (A 5), .ref (A 6), .ref (A 7), .ref (A 8), .ref (A 9), .long to, .int al, .int wa, .int (nI 1), .ref (A 10)])) :: (A 0, .inl (G.2.1.2.2.1, 12, .inr (.inr (.inr (.inr sa))))) :: (s, .inr (6, [.int kd, .ref la, .int (0 : Int32), .int wc])) :: (A 10, .inl (G.2.1.1, 6, .inl (upd fc 1 (fc 1 + 1)))) :: r) := by
  refine Mt.of (by decide +kernel) rfl rfl (fun X B => ?_)
  show J G X mX7_gatherRow ((x, .inr (7, [.ref (A 0), .int (nI ns), .ref (A 1), .int (nI nr), .ref (A 2), .ref (A 3), .ref (A 4), .ref (A 5), .ref (A 6), .ref (A 7), .ref (A 8), .ref (A 9), .long to, .int al, .int wa, .int lf, .ref (A 10)])) :: (A 0, .inl (G.2.1.2.2.1, 12, .inr (.inr (.inr (.inr sa))))) :: (s, .inr (6, [.int kd, .ref la, .int (0 : Int32), .int wc])) :: (A 10, .inl (G.2.1.1, 6, .inl fc)) :: r) 0 0 0 [(0, .ref x), (1, .int (nI k))] []
  refine J.aload_n 0 dX7_gatherRow_0 rfl ?_
  refine J.iload_n 1 dX7_gatherRow_1 rfl ?_
  refine J.callV 0 (st := []) B (c_X7_lookAtRow_no l G _ hk hns hsa) ml_X7_119 mf_yX7_lookAtRow mi_yX7_lookAtRow rfl dX7_gatherRow_2 rfl rfl rfl rfl (fun v_1 w_2 hp_3 => ?_)
  obtain ⟨rfl, rfl⟩ := hp_3
  show J G X mX7_gatherRow _ _ _ 5 _ [.int (-3 : Int32)]
  refine J.istore_n [1, 2, 0] (lv' := [(0, .ref x), (1, .int (nI k)), (2, .int (-3 : Int32))]) dX7_gatherRow_5 rfl rfl ?_
  refine J.iload_n 2 dX7_gatherRow_6 rfl ?_
  refine J.if_ne dX7_gatherRow_7 (fun _ => ?_) (fun z => absurd z (by decide))
  refine J.iload_n 2 dX7_gatherRow_27 rfl ?_
  exact J.iret B dX7_gatherRow_28 rfl (⟨rfl, rfl⟩)
set_option maxHeartbeats 4000000 in
set_option maxRecDepth 100000 in
theorem c_X7_gatherLights (l : Launch) (G : jG) (r : va_W) {x : Nat} {A : Nat → Nat} {ns nr : Nat} {to : Int64} {al wa lf : Int32} {sa : Nat → Option Nat} {la : Nat} {kd wc : Int32} {k s : Nat} (hk : k < ns) (hns : ns ≤ 12) (hsa : sa k = some s) {L F : Nat → Int32} {cz : Int32} {t u : Nat → Int32} (hL : 0 < nN L) : Mt l G yX7_gatherLights mX7_gatherLights 3 65 0 0 [.ref x, .int (nI k)] ((x, .inr (7, [.ref (A 0), .int (nI ns), .ref (A 1), .int (nI nr), .ref (A 2), .ref (A 3), .ref (A 4), .ref (A 5), .ref (A 6), .ref (A 7), .ref (A 8), .ref (A 9), .long to, .int al, .int wa, .int lf, .ref (A 10)])) :: (A 0, .inl (G.2.1.2.2.1, 12, .inr (.inr (.inr (.inr sa))))) :: (s, .inr (6, [.int kd, .ref la, .int (1 : Int32), .int wc])) :: (la, .inl (G.2.1.1, 60, .inl L)) :: (A 2, .inl (G.2.1.1, 60, .inl F)) :: (A 3, .inr (1, [.ref (A 11), .ref (A 12), .int cz])) :: (A 11, .inl (G.2.1.1, 60, .inl t)) :: (A 12, .inl (G.2.1.1, 60, .inl u)) :: r) (fun v w => ∃ t1 u1, CV L F t1 u1 ∧ v = some (.int 0) ∧ w = (x, .inr (7, [.ref (A 0), .int (nI ns), .ref (A 1), .int (nI nr), .ref (A 2), .ref (A 3), .ref (A 4), .ref (A 5), .ref (A 6), .ref (A 7), .ref (A 8), .ref (A 9), .long to, .int al, .int wa, .int lf, .ref (A 10)])) :: (A 0, .inl (G.2.1.2.2.1, 12, .inr (.inr (.inr (.inr sa))))) :: (s, .inr (6, [.int kd, .ref la, .int (1 : Int32), .int wc])) :: (la, .inl (G.2.1.1, 60, .inl L)) :: (A 2, .inl (G.2.1.1, 60, .inl F)) :: (A 3, .inr (1, [.ref (A 11), .ref (A 12), .int (nI (nN L))])) :: (A 11, .inl (G.2.1.1, 60, .inl t1)) :: (A 12, .inl (G.2.1.1, 60, .inl u1)) :: r) := by
  refine Mt.of (by decide +kernel) rfl rfl (fun X B => ?_)
  show J G X mX7_gatherLights ((x, .inr (7, [.ref (A 0), .int (nI ns), .ref (A 1), .int (nI nr), .ref (A 2), .ref (A 3), .ref (A 4), .ref (A 5), .ref (A 6), .ref (A 7), .ref (A 8), .ref (A 9), .long to, .int al, .int wa, .int lf, .ref (A 10)])) :: (A 0, .inl (G.2.1.2.2.1, 12, .inr (.inr (.inr (.inr sa))))) :: (s, .inr (6, [.int kd, .ref la, .int (1 : Int32), .int wc])) :: (la, .inl (G.2.1.1, 60, .inl L)) :: (A 2, .inl (G.2.1.1, 60, .inl F)) :: (A 3, .inr (1, [.ref (A 11), .ref (A 12), .int cz])) :: (A 11, .inl (G.2.1.1, 60, .inl t)) :: (A 12, .inl (G.2.1.1, 60, .inl u)) :: r) 0 0 0 [(0, .ref x), (1, .int (nI k))] []
  have hn := nN_le L
  refine J.aload_n 0 dX7_gatherLights_0 rfl ?_
  refine J.iload_n 1 dX7_gatherLights_1 rfl ?_
  refine J.callV 0 (st := []) B (c_X7_gatherRow l G _ hk hns hsa) ml_X7_94 mf_yX7_gatherRow mi_yX7_gatherRow rfl dX7_gatherLights_2 rfl rfl rfl rfl (fun v_1 w_2 hp_3 => ?_)
  obtain ⟨t1, u1, hcv, rfl, rfl⟩ := hp_3
  show J G X mX7_gatherLights _ _ _ 5 _ [.int (0 : Int32)]
  refine J.istore_n [1, 2, 0] (lv' := [(0, .ref x), (1, .int (nI k)), (2, .int (0 : Int32))]) dX7_gatherLights_5 rfl rfl ?_
  refine J.iload_n 2 dX7_gatherLights_6 rfl ?_
  refine J.if_ne dX7_gatherLights_7 (fun z => absurd z (by decide)) (fun _ => ?_)
  refine J.aload_n 0 dX7_gatherLights_10 rfl ?_
  refine J.get 0 fl_X7_28 dX7_gatherLights_11 rfl rfl ?_
  refine J.get 5 fl_X7_176 dX7_gatherLights_14 rfl rfl ?_
  refine J.if_ne dX7_gatherLights_17 (fun h9 => ?_) (fun z => absurd z (nI_ne0 hL (by omega)))
  refine J.iload_n 2 dX7_gatherLights_26 rfl ?_
  exact J.iret B dX7_gatherLights_27 rfl (⟨t1, u1, hcv, rfl, rfl⟩)
set_option maxHeartbeats 4000000 in
set_option maxRecDepth 100000 in
theorem c_X7_gatherLights_nought (l : Launch) (G : jG) (r : va_W) {x : Nat} {A : Nat → Nat} {ns nr : Nat} {to : Int64} {al wa lf : Int32} {sa : Nat → Option Nat} {la : Nat} {kd wc : Int32} {k s : Nat} (hk : k < ns) (hns : ns ≤ 12) (hsa : sa k = some s) {L F : Nat → Int32} {cz : Int32} {t u : Nat → Int32} {fc : Nat → Int32} (hL : nN L = 0) : Mt l G yX7_gatherLights mX7_gatherLights 3 65 0 0 [.ref x, .int (nI k)] ((x, .inr (7, [.ref (A 0), .int (nI ns), .ref (A 1), .int (nI nr), .ref (A 2), .ref (A 3), .ref (A 4), .ref (A 5), .ref (A 6), .ref (A 7), .ref (A 8), .ref (A 9), .long to, .int al, .int wa, .int lf, .ref (A 10)])) :: (A 0, .inl (G.2.1.2.2.1, 12, .inr (.inr (.inr (.inr sa))))) :: (s, .inr (6, [.int kd, .ref la, .int (1 : Int32), .int wc])) :: (la, .inl (G.2.1.1, 60, .inl L)) :: (A 2, .inl (G.2.1.1, 60, .inl F)) :: (A 3, .inr (1, [.ref (A 11), .ref (A 12), .int cz])) :: (A 11, .inl (G.2.1.1, 60, .inl t)) :: (A 12, .inl (G.2.1.1, 60, .inl u)) :: (A 10, .inl (G.2.1.1, 6, .inl fc)) :: r) (fun v w => ∃ t1 u1, v = some (.int (-3)) ∧ w = (x, .inr (7, [.ref (A 0), .int (nI ns), .ref (A 1), .int (nI nr), .ref (A 2), .ref (A 3), .ref (A 4), .ref (A 5), .ref (A 6), .ref (A 7), .ref (A 8), .ref (A 9), .long to, .int al, .int wa, .int (nI 4), .ref (A 10)])) :: (A 0, .inl (G.2.1.2.2.1, 12, .inr (.inr (.inr (.inr sa))))) :: (s, .inr (6, [.int kd, .ref la, .int (1 : Int32), .int wc])) :: (la, .inl (G.2.1.1, 60, .inl L)) :: (A 2, .inl (G.2.1.1, 60, .inl F)) :: (A 3, .inr (1, [.ref (A 11), .ref (A 12), .int (nI (nN L))])) :: (A 11, .inl (G.2.1.1, 60, .inl t1)) :: (A 12, .inl (G.2.1.1, 60, .inl u1)) :: (A 10, .inl (G.2.1.1, 6, .inl (upd fc 4 (fc 4 + 1)))) :: r) := by
  refine Mt.of (by decide +kernel) rfl rfl (fun X B => ?_)
  show J G X mX7_gatherLights ((x, .inr (7, [.ref (A 0), .int (nI ns), .ref (A 1), .int (nI nr), .ref (A 2), .ref (A 3), .ref (A 4), .ref (A 5), .ref (A 6), .ref (A 7), .ref (A 8), .ref (A 9), .long to, .int al, .int wa, .int lf, .ref (A 10)])) :: (A 0, .inl (G.2.1.2.2.1, 12, .inr (.inr (.inr (.inr sa))))) :: (s, .inr (6, [.int kd, .ref la, .int (1 : Int32), .int wc])) :: (la, .inl (G.2.1.1, 60, .inl L)) :: (A 2, .inl (G.2.1.1, 60, .inl F)) :: (A 3, .inr (1, [.ref (A 11), .ref (A 12), .int cz])) :: (A 11, .inl (G.2.1.1, 60, .inl t)) :: (A 12, .inl (G.2.1.1, 60, .inl u)) :: (A 10, .inl (G.2.1.1, 6, .inl fc)) :: r) 0 0 0 [(0, .ref x), (1, .int (nI k))] []
  refine J.aload_n 0 dX7_gatherLights_0 rfl ?_
  refine J.iload_n 1 dX7_gatherLights_1 rfl ?_
  refine J.callV 0 (st := []) B (c_X7_gatherRow l G _ hk hns hsa) ml_X7_94 mf_yX7_gatherRow mi_yX7_gatherRow rfl dX7_gatherLights_2 rfl rfl rfl rfl (fun v_1 w_2 hp_3 => ?_)
  obtain ⟨t1, u1, hcv, rfl, rfl⟩ := hp_3
  show J G X mX7_gatherLights _ _ _ 5 _ [.int (0 : Int32)]
  refine J.istore_n [1, 2, 0] (lv' := [(0, .ref x), (1, .int (nI k)), (2, .int (0 : Int32))]) dX7_gatherLights_5 rfl rfl ?_
  refine J.iload_n 2 dX7_gatherLights_6 rfl ?_
  refine J.if_ne dX7_gatherLights_7 (fun z => absurd z (by decide)) (fun _ => ?_)
  refine J.aload_n 0 dX7_gatherLights_10 rfl ?_
  refine J.get 0 fl_X7_28 dX7_gatherLights_11 rfl rfl ?_
  refine J.get 5 fl_X7_176 dX7_gatherLights_14 rfl rfl ?_
  refine J.if_ne dX7_gatherLights_17 (fun z => absurd (by rw [hL]; rfl) z) (fun h9 => ?_)
  refine J.aload_n 0 dX7_gatherLights_20 rfl ?_
  refine J.iconst (4 : Int32) dX7_gatherLights_21 rfl ?_
  refine J.re [0, 8, 1, 2, 3, 4, 5, 6, 7] 9 (ws2 := (x, .inr (7, [.ref (A 0), .int (nI ns), .ref (A 1), .int (nI nr), .ref (A 2), .ref (A 3), .ref (A 4), .ref (A 5), .ref (A 6), .ref (A 7), .ref (A 8), .ref (A 9), .long to, .int al, .int wa, .int lf, .ref (A 10)])) :: (A 10, .inl (G.2.1.1, 6, .inl fc)) :: (A 0, .inl (G.2.1.2.2.1, 12, .inr (.inr (.inr (.inr sa))))) :: (s, .inr (6, [.int kd, .ref la, .int (1 : Int32), .int wc])) :: (la, .inl (G.2.1.1, 60, .inl L)) :: (A 2, .inl (G.2.1.1, 60, .inl F)) :: (A 3, .inr (1, [.ref (A 11), .ref (A 12), .int (nI (nN L))])) :: (A 11, .inl (G.2.1.1, 60, .inl t1)) :: (A 12, .inl (G.2.1.1, 60, .inl u1)) :: r) rfl rfl ?_
  refine J.callV 0 (st := []) B (c_X7_found l G _ (c := 4) (by decide) (by decide)) ml_X7_87 mf_yX7_found mi_yX7_found rfl dX7_gatherLights_22 rfl rfl rfl rfl (fun v_4 w_5 hp_6 => ?_)
  obtain ⟨rfl, rfl⟩ := hp_6
  refine J.re [0, 2, 3, 4, 5, 6, 7, 8, 1] 9 (ws2 := (x, .inr (7, [.ref (A 0), .int (nI ns), .ref (A 1), .int (nI nr), .ref (A 2), .ref (A 3), .ref (A 4), .ref (A 5), .ref (A 6), .ref (A 7), .ref (A 8), .ref (A 9), .long to, .int al, .int wa, .int (nI 4), .ref (A 10)])) :: (A 0, .inl (G.2.1.2.2.1, 12, .inr (.inr (.inr (.inr sa))))) :: (s, .inr (6, [.int kd, .ref la, .int (1 : Int32), .int wc])) :: (la, .inl (G.2.1.1, 60, .inl L)) :: (A 2, .inl (G.2.1.1, 60, .inl F)) :: (A 3, .inr (1, [.ref (A 11), .ref (A 12), .int (nI (nN L))])) :: (A 11, .inl (G.2.1.1, 60, .inl t1)) :: (A 12, .inl (G.2.1.1, 60, .inl u1)) :: (A 10, .inl (G.2.1.1, 6, .inl (upd fc 4 (fc 4 + 1)))) :: r) rfl rfl ?_
  show J G X mX7_gatherLights _ _ _ 25 _ [.int (-3 : Int32)]
  exact J.iret B dX7_gatherLights_25 rfl (⟨t1, u1, rfl, rfl⟩)
set_option maxHeartbeats 4000000 in
set_option maxRecDepth 100000 in
theorem c_X7_gatherLights_bad (l : Launch) (G : jG) (r : va_W) {x : Nat} {A : Nat → Nat} {ns nr : Nat} {to : Int64} {al wa lf : Int32} {sa : Nat → Option Nat} {num : Int32} (hns : ns ≤ 12) (hnum : inR num 0 ((ns : Int) - 1) = false) : Mt l G yX7_gatherLights mX7_gatherLights 3 65 0 0 [.ref x, .int num] ((x, .inr (7, [.ref (A 0), .int (nI ns), .ref (A 1), .int (nI nr), .ref (A 2), .ref (A 3), .ref (A 4), .ref (A 5), .ref (A 6), .ref (A 7), .ref (A 8), .ref (A 9), .long to, .int al, .int wa, .int lf, .ref (A 10)])) :: (A 0, .inl (G.2.1.2.2.1, 12, .inr (.inr (.inr (.inr sa))))) :: r) (fun v w => v = some (.int (-1 : Int32)) ∧ w = (x, .inr (7, [.ref (A 0), .int (nI ns), .ref (A 1), .int (nI nr), .ref (A 2), .ref (A 3), .ref (A 4), .ref (A 5), .ref (A 6), .ref (A 7), .ref (A 8), .ref (A 9), .long to, .int al, .int wa, .int lf, .ref (A 10)])) :: (A 0, .inl (G.2.1.2.2.1, 12, .inr (.inr (.inr (.inr sa))))) :: r) := by
  refine Mt.of (by decide +kernel) rfl rfl (fun X B => ?_)
  show J G X mX7_gatherLights ((x, .inr (7, [.ref (A 0), .int (nI ns), .ref (A 1), .int (nI nr), .ref (A 2), .ref (A 3), .ref (A 4), .ref (A 5), .ref (A 6), .ref (A 7), .ref (A 8), .ref (A 9), .long to, .int al, .int wa, .int lf, .ref (A 10)])) :: (A 0, .inl (G.2.1.2.2.1, 12, .inr (.inr (.inr (.inr sa))))) :: r) 0 0 0 [(0, .ref x), (1, .int num)] []
  refine J.aload_n 0 dX7_gatherLights_0 rfl ?_
  refine J.iload_n 1 dX7_gatherLights_1 rfl ?_
  refine J.callV 0 (st := []) B (c_X7_gatherRow_bad l G _ hns hnum) ml_X7_94 mf_yX7_gatherRow mi_yX7_gatherRow rfl dX7_gatherLights_2 rfl rfl rfl rfl (fun v_1 w_2 hp_3 => ?_)
  obtain ⟨rfl, rfl⟩ := hp_3
  show J G X mX7_gatherLights _ _ _ 5 _ [.int (-1 : Int32)]
  refine J.istore_n [1, 2, 0] (lv' := [(0, .ref x), (1, .int num), (2, .int (-1 : Int32))]) dX7_gatherLights_5 rfl rfl ?_
  refine J.iload_n 2 dX7_gatherLights_6 rfl ?_
  refine J.if_ne dX7_gatherLights_7 (fun _ => ?_) (fun z => absurd z (by decide))
  refine J.iload_n 2 dX7_gatherLights_26 rfl ?_
  exact J.iret B dX7_gatherLights_27 rfl (⟨rfl, rfl⟩)
set_option maxHeartbeats 4000000 in
set_option maxRecDepth 100000 in
theorem c_X7_gatherLights_no (l : Launch) (G : jG) (r : va_W) {x : Nat} {A : Nat → Nat} {ns nr : Nat} {to : Int64} {al wa lf : Int32} {sa : Nat → Option Nat} {la : Nat} {kd wc : Int32} {k s : Nat} (hk : k < ns) (hns : ns ≤ 12) (hsa : sa k = some s) {fc : Nat → Int32} : Mt l G yX7_gatherLights mX7_gatherLights 3 65 0 0 [.ref x, .int (nI k)] ((x, .inr (7, [.ref (A 0), .int (nI ns), .ref (A 1), .int (nI nr), .ref (A 2), .ref (A 3), .ref (A 4), .ref (A 5), .ref (A 6), .ref (A 7), .ref (A 8), .ref (A 9), .long to, .int al, .int wa, .int lf, .ref (A 10)])) :: (A 0, .inl (G.2.1.2.2.1, 12, .inr (.inr (.inr (.inr sa))))) :: (s, .inr (6, [.int kd, .ref la, .int (0 : Int32), .int wc])) :: (A 10, .inl (G.2.1.1, 6, .inl fc)) :: r) (fun v w => v = some (.int (-3 : Int32)) ∧ w = (x, .inr (7, [.ref (A 0), .int (nI ns), .ref (A 1), .int (nI nr), .ref (A 2), .ref (A 3), .ref (A 4), .ref (A 5), .ref (A 6), .ref (A 7), .ref (A 8), .ref (A 9), .long to, .int al, .int wa, .int (nI 1), .ref (A 10)])) :: (A 0, .inl (G.2.1.2.2.1, 12, .inr (.inr (.inr (.inr sa))))) :: (s, .inr (6, [.int kd, .ref la, .int (0 : Int32), .int wc])) :: (A 10, .inl (G.2.1.1, 6, .inl (upd fc 1 (fc 1 + 1)))) :: r) := by
  refine Mt.of (by decide +kernel) rfl rfl (fun X B => ?_)
  show J G X mX7_gatherLights ((x, .inr (7, [.ref (A 0), .int (nI ns), .ref (A 1), .int (nI nr), .ref (A 2), .ref (A 3), .ref (A 4), .ref (A 5), .ref (A 6), .ref (A 7), .ref (A 8), .ref (A 9), .long to, .int al, .int wa, .int lf, .ref (A 10)])) :: (A 0, .inl (G.2.1.2.2.1, 12, .inr (.inr (.inr (.inr sa))))) :: (s, .inr (6, [.int kd, .ref la, .int (0 : Int32), .int wc])) :: (A 10, .inl (G.2.1.1, 6, .inl fc)) :: r) 0 0 0 [(0, .ref x), (1, .int (nI k))] []
  refine J.aload_n 0 dX7_gatherLights_0 rfl ?_
  refine J.iload_n 1 dX7_gatherLights_1 rfl ?_
  refine J.callV 0 (st := []) B (c_X7_gatherRow_no l G _ hk hns hsa) ml_X7_94 mf_yX7_gatherRow mi_yX7_gatherRow rfl dX7_gatherLights_2 rfl rfl rfl rfl (fun v_1 w_2 hp_3 => ?_)
  obtain ⟨rfl, rfl⟩ := hp_3
  show J G X mX7_gatherLights _ _ _ 5 _ [.int (-3 : Int32)]
  refine J.istore_n [1, 2, 0] (lv' := [(0, .ref x), (1, .int (nI k)), (2, .int (-3 : Int32))]) dX7_gatherLights_5 rfl rfl ?_
  refine J.iload_n 2 dX7_gatherLights_6 rfl ?_
  refine J.if_ne dX7_gatherLights_7 (fun _ => ?_) (fun z => absurd z (by decide))
  refine J.iload_n 2 dX7_gatherLights_26 rfl ?_
  exact J.iret B dX7_gatherLights_27 rfl (⟨rfl, rfl⟩)
set_option maxHeartbeats 4000000 in
set_option maxRecDepth 100000 in
theorem X7_loc_lp {l : Launch} {G : jG} {X : jX} {r : va_W} {x : Nat} {A : Nat → Nat} {ns nr : Nat} {to : Int64} {al wa lf : Int32} {L F : Nat → Int32} {t u : Nat → Int32} (B : jB l G X 1 22 0 0 (fun v w => ∃ nu1, AG nu1 (bsz (lits L F 60)) ∧ v = some (.int (midV (lits L F 60))) ∧ w = (x, .inr (7, [.ref (A 0), .int (nI ns), .ref (A 1), .int (nI nr), .ref (A 2), .ref (A 3), .ref (A 4), .ref (A 5), .ref (A 6), .ref (A 7), .ref (A 8), .ref (A 9), .long to, .int al, .int wa, .int lf, .ref (A 10)])) :: (A 3, .inr (1, [.ref (A 11), .ref (A 12), .int (nI (nN L))])) :: (A 12, .inl (G.2.1.1, 60, .inl u)) :: (A 4, .inr (0, [.ref (A 13), .int (nI (nN L))])) :: (A 13, .inl (G.2.1.1, 60, .inl nu1)) :: r) "levelOfCurve") (i : Nat) (nu : Nat → Int32) (hc : CV L F t u) (hi : i ≤ nN L) (hA : AG nu (bsz ((lits L F 60).take i))) : J G X mX7_levelOfCurve ((x, .inr (7, [.ref (A 0), .int (nI ns), .ref (A 1), .int (nI nr), .ref (A 2), .ref (A 3), .ref (A 4), .ref (A 5), .ref (A 6), .ref (A 7), .ref (A 8), .ref (A 9), .long to, .int al, .int wa, .int lf, .ref (A 10)])) :: (A 3, .inr (1, [.ref (A 11), .ref (A 12), .int (nI (nN L))])) :: (A 12, .inl (G.2.1.1, 60, .inl u)) :: (A 4, .inr (0, [.ref (A 13), .int (nI i)])) :: (A 13, .inl (G.2.1.1, 60, .inl nu)) :: r) 0 0 9 [(0, .ref x), (1, .int (nI i))] [] := by
  have hn := nN_le L
  refine J.iload_n 1 dX7_levelOfCurve_9 rfl ?_
  refine J.aload_n 0 dX7_levelOfCurve_10 rfl ?_
  refine J.get 0 fl_X7_28 dX7_levelOfCurve_11 rfl rfl ?_
  refine J.get 1 fl_X7_176 dX7_levelOfCurve_14 rfl rfl ?_
  refine J.icmp_ge dX7_levelOfCurve_17 (fun h9 => ?_) (fun h9 => ?_)
  · skip
    have h9 : (nN L) ≤ i := (nI_leI (a := (nN L)) (b := i) (by omega) (by omega)).mp h9
    have e : i = nN L := by omega
    subst e
    rw [show (lits L F 60).take (nN L) = (lits L F 60) by rw [← lits_l60 L F, List.take_length]] at hA
    refine J.aload_n 0 dX7_levelOfCurve_42 rfl ?_
    refine J.get 0 fl_X7_35 dX7_levelOfCurve_43 rfl rfl ?_
    refine J.re [3, 4, 0, 1, 2] 5 (ws2 := (A 4, .inr (0, [.ref (A 13), .int (nI (nN L))])) :: (A 13, .inl (G.2.1.1, 60, .inl nu)) :: (x, .inr (7, [.ref (A 0), .int (nI ns), .ref (A 1), .int (nI nr), .ref (A 2), .ref (A 3), .ref (A 4), .ref (A 5), .ref (A 6), .ref (A 7), .ref (A 8), .ref (A 9), .long to, .int al, .int wa, .int lf, .ref (A 10)])) :: (A 3, .inr (1, [.ref (A 11), .ref (A 12), .int (nI (nN L))])) :: (A 12, .inl (G.2.1.1, 60, .inl u)) :: r) rfl rfl ?_
    refine J.callV 0 (st := []) B (c_X0_middle l G _ (sz := nN L) (by omega) (by omega)) ml_X7_278 mf_yX0_middle mi_yX0_middle rfl dX7_levelOfCurve_46 rfl rfl rfl rfl (fun v_1 w_2 hp_3 => ?_)
    obtain ⟨rfl, rfl⟩ := hp_3
    have hmid := midV_of hA
    rw [lits_l60] at hmid
    rw [hmid]
    refine J.re [2, 3, 4, 0, 1] 5 (ws2 := (x, .inr (7, [.ref (A 0), .int (nI ns), .ref (A 1), .int (nI nr), .ref (A 2), .ref (A 3), .ref (A 4), .ref (A 5), .ref (A 6), .ref (A 7), .ref (A 8), .ref (A 9), .long to, .int al, .int wa, .int lf, .ref (A 10)])) :: (A 3, .inr (1, [.ref (A 11), .ref (A 12), .int (nI (nN L))])) :: (A 12, .inl (G.2.1.1, 60, .inl u)) :: (A 4, .inr (0, [.ref (A 13), .int (nI (nN L))])) :: (A 13, .inl (G.2.1.1, 60, .inl nu)) :: r) rfl rfl ?_
    show J G X mX7_levelOfCurve _ _ _ 49 _ [.int (midV (lits L F 60))]
    exact J.iret B dX7_levelOfCurve_49 rfl (⟨nu, hA, rfl, rfl⟩)
  · skip
    have h9 : ¬ (nN L) ≤ i := fun z => h9 ((nI_leI (a := (nN L)) (b := i) (by omega) (by omega)).mpr z)
    have h9 : i < nN L := by omega
    refine J.aload_n 0 dX7_levelOfCurve_20 rfl ?_
    refine J.get 0 fl_X7_35 dX7_levelOfCurve_21 rfl rfl ?_
    refine J.aload_n 0 dX7_levelOfCurve_24 rfl ?_
    refine J.get 0 fl_X7_28 dX7_levelOfCurve_25 rfl rfl ?_
    refine J.get 1 fl_X7_187 dX7_levelOfCurve_28 rfl rfl ?_
    refine J.iload_n 1 dX7_levelOfCurve_31 rfl ?_
    refine J.iald 2 (i) dX7_levelOfCurve_32 rfl (rfl) (by omega) (by decide) ?_
    refine J.topi (y := ltF L F (ntN L i)) ((hc i h9).2) ?_
    refine J.re [3, 4, 0, 1, 2] 5 (ws2 := (A 4, .inr (0, [.ref (A 13), .int (nI i)])) :: (A 13, .inl (G.2.1.1, 60, .inl nu)) :: (x, .inr (7, [.ref (A 0), .int (nI ns), .ref (A 1), .int (nI nr), .ref (A 2), .ref (A 3), .ref (A 4), .ref (A 5), .ref (A 6), .ref (A 7), .ref (A 8), .ref (A 9), .long to, .int al, .int wa, .int lf, .ref (A 10)])) :: (A 3, .inr (1, [.ref (A 11), .ref (A 12), .int (nI (nN L))])) :: (A 12, .inl (G.2.1.1, 60, .inl u)) :: r) rfl rfl ?_
    refine J.callV 0 (st := []) B (c_X0_put l G _ (sz := i) (by omega)) ml_X7_275 mf_yX0_put mi_yX0_put rfl dX7_levelOfCurve_33 rfl rfl rfl rfl (fun v_4 w_5 hp_6 => ?_)
    obtain ⟨rfl, rfl⟩ := hp_6
    refine J.re [2, 3, 4, 0, 1] 5 (ws2 := (x, .inr (7, [.ref (A 0), .int (nI ns), .ref (A 1), .int (nI nr), .ref (A 2), .ref (A 3), .ref (A 4), .ref (A 5), .ref (A 6), .ref (A 7), .ref (A 8), .ref (A 9), .long to, .int al, .int wa, .int lf, .ref (A 10)])) :: (A 3, .inr (1, [.ref (A 11), .ref (A 12), .int (nI (nN L))])) :: (A 12, .inl (G.2.1.1, 60, .inl u)) :: (A 4, .inr (0, [.ref (A 13), .int (nI (i + 1))])) :: (A 13, .inl (G.2.1.1, 60, .inl (insA nu (ltF L F (ntN L i)) i))) :: r) rfl rfl ?_
    show J G X mX7_levelOfCurve _ _ _ 36 _ []
    refine J.iinc 1 [1, 0] (lv' := [(0, .ref x), (1, .int (nI (i + 1)))]) dX7_levelOfCurve_36 rfl (jinc1 _) rfl rfl ?_
    refine J.goto dX7_levelOfCurve_39 ?_
    have ha := AG_put (ltF L F (ntN L i)) hA (take_lits_len hi)
    rw [← take_lits h9] at ha
    exact X7_loc_lp B (i + 1) _ hc (by omega) ha
termination_by nN L - i
decreasing_by all_goals omega
set_option maxHeartbeats 4000000 in
set_option maxRecDepth 100000 in
theorem c_X7_levelOfCurve (l : Launch) (G : jG) (r : va_W) {x : Nat} {A : Nat → Nat} {ns nr : Nat} {to : Int64} {al wa lf : Int32} {L F : Nat → Int32} {t u : Nat → Int32} {zs : Int32} {nu : Nat → Int32} (hc : CV L F t u) : Mt l G yX7_levelOfCurve mX7_levelOfCurve 1 22 0 0 [.ref x] ((x, .inr (7, [.ref (A 0), .int (nI ns), .ref (A 1), .int (nI nr), .ref (A 2), .ref (A 3), .ref (A 4), .ref (A 5), .ref (A 6), .ref (A 7), .ref (A 8), .ref (A 9), .long to, .int al, .int wa, .int lf, .ref (A 10)])) :: (A 3, .inr (1, [.ref (A 11), .ref (A 12), .int (nI (nN L))])) :: (A 12, .inl (G.2.1.1, 60, .inl u)) :: (A 4, .inr (0, [.ref (A 13), .int zs])) :: (A 13, .inl (G.2.1.1, 60, .inl nu)) :: r) (fun v w => ∃ nu1, AG nu1 (bsz (lits L F 60)) ∧ v = some (.int (midV (lits L F 60))) ∧ w = (x, .inr (7, [.ref (A 0), .int (nI ns), .ref (A 1), .int (nI nr), .ref (A 2), .ref (A 3), .ref (A 4), .ref (A 5), .ref (A 6), .ref (A 7), .ref (A 8), .ref (A 9), .long to, .int al, .int wa, .int lf, .ref (A 10)])) :: (A 3, .inr (1, [.ref (A 11), .ref (A 12), .int (nI (nN L))])) :: (A 12, .inl (G.2.1.1, 60, .inl u)) :: (A 4, .inr (0, [.ref (A 13), .int (nI (nN L))])) :: (A 13, .inl (G.2.1.1, 60, .inl nu1)) :: r) := by
  refine Mt.of (by decide +kernel) rfl rfl (fun X B => ?_)
  show J G X mX7_levelOfCurve ((x, .inr (7, [.ref (A 0), .int (nI ns), .ref (A 1), .int (nI nr), .ref (A 2), .ref (A 3), .ref (A 4), .ref (A 5), .ref (A 6), .ref (A 7), .ref (A 8), .ref (A 9), .long to, .int al, .int wa, .int lf, .ref (A 10)])) :: (A 3, .inr (1, [.ref (A 11), .ref (A 12), .int (nI (nN L))])) :: (A 12, .inl (G.2.1.1, 60, .inl u)) :: (A 4, .inr (0, [.ref (A 13), .int zs])) :: (A 13, .inl (G.2.1.1, 60, .inl nu)) :: r) 0 0 0 [(0, .ref x)] []
  refine J.aload_n 0 dX7_levelOfCurve_0 rfl ?_
  refine J.get 0 fl_X7_35 dX7_levelOfCurve_1 rfl rfl ?_
  refine J.re [3, 4, 0, 1, 2] 5 (ws2 := (A 4, .inr (0, [.ref (A 13), .int zs])) :: (A 13, .inl (G.2.1.1, 60, .inl nu)) :: (x, .inr (7, [.ref (A 0), .int (nI ns), .ref (A 1), .int (nI nr), .ref (A 2), .ref (A 3), .ref (A 4), .ref (A 5), .ref (A 6), .ref (A 7), .ref (A 8), .ref (A 9), .long to, .int al, .int wa, .int lf, .ref (A 10)])) :: (A 3, .inr (1, [.ref (A 11), .ref (A 12), .int (nI (nN L))])) :: (A 12, .inl (G.2.1.1, 60, .inl u)) :: r) rfl rfl ?_
  refine J.callV 0 (st := []) B (c_X0_clear l G _ _ _ _ _) ml_X7_272 mf_yX0_clear mi_yX0_clear rfl dX7_levelOfCurve_4 rfl rfl rfl rfl (fun v_1 w_2 hp_3 => ?_)
  obtain ⟨rfl, rfl⟩ := hp_3
  refine J.re [2, 3, 4, 0, 1] 5 (ws2 := (x, .inr (7, [.ref (A 0), .int (nI ns), .ref (A 1), .int (nI nr), .ref (A 2), .ref (A 3), .ref (A 4), .ref (A 5), .ref (A 6), .ref (A 7), .ref (A 8), .ref (A 9), .long to, .int al, .int wa, .int lf, .ref (A 10)])) :: (A 3, .inr (1, [.ref (A 11), .ref (A 12), .int (nI (nN L))])) :: (A 12, .inl (G.2.1.1, 60, .inl u)) :: (A 4, .inr (0, [.ref (A 13), .int (0 : Int32)])) :: (A 13, .inl (G.2.1.1, 60, .inl nu)) :: r) rfl rfl ?_
  show J G X mX7_levelOfCurve _ _ _ 7 _ []
  refine J.iconst (0 : Int32) dX7_levelOfCurve_7 rfl ?_
  refine J.istore_n [1, 0] (lv' := [(0, .ref x), (1, .int (0 : Int32))]) dX7_levelOfCurve_8 rfl rfl ?_
  exact X7_loc_lp B 0 _ hc (by omega) trivial
set_option maxHeartbeats 4000000 in
set_option maxRecDepth 100000 in
theorem X7_lwf_lp {l : Launch} {G : jG} {X : jX} {r : va_W} {x : Nat} {A : Nat → Nat} {ns nr : Nat} {to : Int64} {al wa lf : Int32} {s la : Nat} {kd hr wc : Int32} {L : Nat → Int32} (B : jB l G X 1 22 0 0 (fun v w => ∃ nu1, v = some (.int (midV (rws L 60))) ∧ w = (x, .inr (7, [.ref (A 0), .int (nI ns), .ref (A 1), .int (nI nr), .ref (A 2), .ref (A 3), .ref (A 4), .ref (A 5), .ref (A 6), .ref (A 7), .ref (A 8), .ref (A 9), .long to, .int al, .int wa, .int lf, .ref (A 10)])) :: (A 4, .inr (0, [.ref (A 13), .int (nI (nN L))])) :: (A 13, .inl (G.2.1.1, 60, .inl nu1)) :: (s, .inr (6, [.int kd, .ref la, .int hr, .int wc])) :: (la, .inl (G.2.1.1, 60, .inl L)) :: r) "levelWithoutFootings") (k : Nat) (nu : Nat → Int32) (hk : k ≤ 60) (hA : AG nu (bsz (rws L k))) : J G X mX7_levelWithoutFootings ((x, .inr (7, [.ref (A 0), .int (nI ns), .ref (A 1), .int (nI nr), .ref (A 2), .ref (A 3), .ref (A 4), .ref (A 5), .ref (A 6), .ref (A 7), .ref (A 8), .ref (A 9), .long to, .int al, .int wa, .int lf, .ref (A 10)])) :: (A 4, .inr (0, [.ref (A 13), .int (nI ((nts L k).length))])) :: (A 13, .inl (G.2.1.1, 60, .inl nu)) :: (s, .inr (6, [.int kd, .ref la, .int hr, .int wc])) :: (la, .inl (G.2.1.1, 60, .inl L)) :: r) 0 0 9 [(0, .ref x), (1, .ref s), (2, .int (nI k))] [] := by
  have hn := nN_le L
  have hn2 := nts_le L k
  refine J.iload_n 2 dX7_levelWithoutFootings_9 rfl ?_
  refine J.bipush (60 : Int32) dX7_levelWithoutFootings_10 rfl ?_
  refine J.icmp_ge dX7_levelWithoutFootings_12 (fun h9 => ?_) (fun h9 => ?_)
  · skip
    have h9 : 60 ≤ k := (nI_leI (a := 60) (b := k) (by omega) (by omega)).mp h9
    have e : k = 60 := by omega
    subst e
    refine J.aload_n 0 dX7_levelWithoutFootings_45 rfl ?_
    refine J.get 0 fl_X7_35 dX7_levelWithoutFootings_46 rfl rfl ?_
    refine J.re [1, 2, 0, 3, 4] 5 (ws2 := (A 4, .inr (0, [.ref (A 13), .int (nI ((nts L 60).length))])) :: (A 13, .inl (G.2.1.1, 60, .inl nu)) :: (x, .inr (7, [.ref (A 0), .int (nI ns), .ref (A 1), .int (nI nr), .ref (A 2), .ref (A 3), .ref (A 4), .ref (A 5), .ref (A 6), .ref (A 7), .ref (A 8), .ref (A 9), .long to, .int al, .int wa, .int lf, .ref (A 10)])) :: (s, .inr (6, [.int kd, .ref la, .int hr, .int wc])) :: (la, .inl (G.2.1.1, 60, .inl L)) :: r) rfl rfl ?_
    refine J.callV 0 (st := []) B (c_X0_middle l G _ (sz := nN L) (by omega) (by omega)) ml_X7_278 mf_yX0_middle mi_yX0_middle rfl dX7_levelWithoutFootings_49 rfl rfl rfl rfl (fun v_1 w_2 hp_3 => ?_)
    obtain ⟨rfl, rfl⟩ := hp_3
    have hmid := midV_of hA
    rw [rws_len] at hmid
    rw [hmid]
    refine J.re [2, 0, 1, 3, 4] 5 (ws2 := (x, .inr (7, [.ref (A 0), .int (nI ns), .ref (A 1), .int (nI nr), .ref (A 2), .ref (A 3), .ref (A 4), .ref (A 5), .ref (A 6), .ref (A 7), .ref (A 8), .ref (A 9), .long to, .int al, .int wa, .int lf, .ref (A 10)])) :: (A 4, .inr (0, [.ref (A 13), .int (nI ((nts L 60).length))])) :: (A 13, .inl (G.2.1.1, 60, .inl nu)) :: (s, .inr (6, [.int kd, .ref la, .int hr, .int wc])) :: (la, .inl (G.2.1.1, 60, .inl L)) :: r) rfl rfl ?_
    show J G X mX7_levelWithoutFootings _ _ _ 52 _ [.int (midV (rws L 60))]
    exact J.iret B dX7_levelWithoutFootings_52 rfl (⟨nu, rfl, rfl⟩)
  · skip
    have h9 : ¬ 60 ≤ k := fun z => h9 ((nI_leI (a := 60) (b := k) (by omega) (by omega)).mpr z)
    refine J.aload_n 1 dX7_levelWithoutFootings_15 rfl ?_
    refine J.get 3 fl_X7_112 dX7_levelWithoutFootings_16 rfl rfl ?_
    refine J.iload_n 2 dX7_levelWithoutFootings_19 rfl ?_
    refine J.iald 4 (k) dX7_levelWithoutFootings_20 rfl (rfl) (by omega) (by decide) ?_
    refine J.bipush (-9 : Int32) dX7_levelWithoutFootings_21 rfl ?_
    refine J.icmp_eq dX7_levelWithoutFootings_23 (fun h8 => ?_) (fun h8 => ?_)
    · skip
      refine J.iinc 2 [1, 2, 0] (lv' := [(0, .ref x), (1, .ref s), (2, .int (nI (k + 1)))]) dX7_levelWithoutFootings_39 rfl (jinc1 _) rfl rfl ?_
      refine J.goto dX7_levelWithoutFootings_42 ?_
      rw [← rws_no h8] at hA
      rw [← nts_no h8]
      exact X7_lwf_lp B (k + 1) nu (by omega) hA
    · skip
      refine J.aload_n 0 dX7_levelWithoutFootings_26 rfl ?_
      refine J.get 0 fl_X7_35 dX7_levelWithoutFootings_27 rfl rfl ?_
      refine J.aload_n 1 dX7_levelWithoutFootings_30 rfl ?_
      refine J.get 3 fl_X7_112 dX7_levelWithoutFootings_31 rfl rfl ?_
      refine J.iload_n 2 dX7_levelWithoutFootings_34 rfl ?_
      refine J.iald 4 (k) dX7_levelWithoutFootings_35 rfl (rfl) (by omega) (by decide) ?_
      refine J.re [1, 2, 0, 3, 4] 5 (ws2 := (A 4, .inr (0, [.ref (A 13), .int (nI ((nts L k).length))])) :: (A 13, .inl (G.2.1.1, 60, .inl nu)) :: (x, .inr (7, [.ref (A 0), .int (nI ns), .ref (A 1), .int (nI nr), .ref (A 2), .ref (A 3), .ref (A 4), .ref (A 5), .ref (A 6), .ref (A 7), .ref (A 8), .ref (A 9), .long to, .int al, .int wa, .int lf, .ref (A 10)])) :: (s, .inr (6, [.int kd, .ref la, .int hr, .int wc])) :: (la, .inl (G.2.1.1, 60, .inl L)) :: r) rfl rfl ?_
      refine J.callV 0 (st := []) B (c_X0_put l G _ (sz := (nts L k).length) (by omega)) ml_X7_275 mf_yX0_put mi_yX0_put rfl dX7_levelWithoutFootings_36 rfl rfl rfl rfl (fun v_4 w_5 hp_6 => ?_)
      obtain ⟨rfl, rfl⟩ := hp_6
      refine J.re [2, 0, 1, 3, 4] 5 (ws2 := (x, .inr (7, [.ref (A 0), .int (nI ns), .ref (A 1), .int (nI nr), .ref (A 2), .ref (A 3), .ref (A 4), .ref (A 5), .ref (A 6), .ref (A 7), .ref (A 8), .ref (A 9), .long to, .int al, .int wa, .int lf, .ref (A 10)])) :: (A 4, .inr (0, [.ref (A 13), .int (nI ((nts L k).length + 1))])) :: (A 13, .inl (G.2.1.1, 60, .inl (insA nu (L k) ((nts L k).length)))) :: (s, .inr (6, [.int kd, .ref la, .int hr, .int wc])) :: (la, .inl (G.2.1.1, 60, .inl L)) :: r) rfl rfl ?_
      show J G X mX7_levelWithoutFootings _ _ _ 39 _ []
      refine J.iinc 2 [1, 2, 0] (lv' := [(0, .ref x), (1, .ref s), (2, .int (nI (k + 1)))]) dX7_levelWithoutFootings_39 rfl (jinc1 _) rfl rfl ?_
      refine J.goto dX7_levelWithoutFootings_42 ?_
      have ha := AG_put (L k) hA (brw_len L k)
      rw [← brw_yes h8] at ha
      rw [← nts_yes_len h8]
      exact X7_lwf_lp B (k + 1) _ (by omega) ha
termination_by 60 - k
decreasing_by all_goals omega
set_option maxHeartbeats 4000000 in
set_option maxRecDepth 100000 in
theorem c_X7_levelWithoutFootings (l : Launch) (G : jG) (r : va_W) {x : Nat} {A : Nat → Nat} {ns nr : Nat} {to : Int64} {al wa lf : Int32} {s la : Nat} {kd hr wc : Int32} {L : Nat → Int32} {zs : Int32} {nu : Nat → Int32} : Mt l G yX7_levelWithoutFootings mX7_levelWithoutFootings 1 22 0 0 [.ref x, .ref s] ((x, .inr (7, [.ref (A 0), .int (nI ns), .ref (A 1), .int (nI nr), .ref (A 2), .ref (A 3), .ref (A 4), .ref (A 5), .ref (A 6), .ref (A 7), .ref (A 8), .ref (A 9), .long to, .int al, .int wa, .int lf, .ref (A 10)])) :: (A 4, .inr (0, [.ref (A 13), .int zs])) :: (A 13, .inl (G.2.1.1, 60, .inl nu)) :: (s, .inr (6, [.int kd, .ref la, .int hr, .int wc])) :: (la, .inl (G.2.1.1, 60, .inl L)) :: r) (fun v w => ∃ nu1, v = some (.int (midV (rws L 60))) ∧ w = (x, .inr (7, [.ref (A 0), .int (nI ns), .ref (A 1), .int (nI nr), .ref (A 2), .ref (A 3), .ref (A 4), .ref (A 5), .ref (A 6), .ref (A 7), .ref (A 8), .ref (A 9), .long to, .int al, .int wa, .int lf, .ref (A 10)])) :: (A 4, .inr (0, [.ref (A 13), .int (nI (nN L))])) :: (A 13, .inl (G.2.1.1, 60, .inl nu1)) :: (s, .inr (6, [.int kd, .ref la, .int hr, .int wc])) :: (la, .inl (G.2.1.1, 60, .inl L)) :: r) := by
  refine Mt.of (by decide +kernel) rfl rfl (fun X B => ?_)
  show J G X mX7_levelWithoutFootings ((x, .inr (7, [.ref (A 0), .int (nI ns), .ref (A 1), .int (nI nr), .ref (A 2), .ref (A 3), .ref (A 4), .ref (A 5), .ref (A 6), .ref (A 7), .ref (A 8), .ref (A 9), .long to, .int al, .int wa, .int lf, .ref (A 10)])) :: (A 4, .inr (0, [.ref (A 13), .int zs])) :: (A 13, .inl (G.2.1.1, 60, .inl nu)) :: (s, .inr (6, [.int kd, .ref la, .int hr, .int wc])) :: (la, .inl (G.2.1.1, 60, .inl L)) :: r) 0 0 0 [(0, .ref x), (1, .ref s)] []
  refine J.aload_n 0 dX7_levelWithoutFootings_0 rfl ?_
  refine J.get 0 fl_X7_35 dX7_levelWithoutFootings_1 rfl rfl ?_
  refine J.re [1, 2, 0, 3, 4] 5 (ws2 := (A 4, .inr (0, [.ref (A 13), .int zs])) :: (A 13, .inl (G.2.1.1, 60, .inl nu)) :: (x, .inr (7, [.ref (A 0), .int (nI ns), .ref (A 1), .int (nI nr), .ref (A 2), .ref (A 3), .ref (A 4), .ref (A 5), .ref (A 6), .ref (A 7), .ref (A 8), .ref (A 9), .long to, .int al, .int wa, .int lf, .ref (A 10)])) :: (s, .inr (6, [.int kd, .ref la, .int hr, .int wc])) :: (la, .inl (G.2.1.1, 60, .inl L)) :: r) rfl rfl ?_
  refine J.callV 0 (st := []) B (c_X0_clear l G _ _ _ _ _) ml_X7_272 mf_yX0_clear mi_yX0_clear rfl dX7_levelWithoutFootings_4 rfl rfl rfl rfl (fun v_1 w_2 hp_3 => ?_)
  obtain ⟨rfl, rfl⟩ := hp_3
  refine J.re [2, 0, 1, 3, 4] 5 (ws2 := (x, .inr (7, [.ref (A 0), .int (nI ns), .ref (A 1), .int (nI nr), .ref (A 2), .ref (A 3), .ref (A 4), .ref (A 5), .ref (A 6), .ref (A 7), .ref (A 8), .ref (A 9), .long to, .int al, .int wa, .int lf, .ref (A 10)])) :: (A 4, .inr (0, [.ref (A 13), .int (0 : Int32)])) :: (A 13, .inl (G.2.1.1, 60, .inl nu)) :: (s, .inr (6, [.int kd, .ref la, .int hr, .int wc])) :: (la, .inl (G.2.1.1, 60, .inl L)) :: r) rfl rfl ?_
  show J G X mX7_levelWithoutFootings _ _ _ 7 _ []
  refine J.iconst (0 : Int32) dX7_levelWithoutFootings_7 rfl ?_
  refine J.istore_n [1, 2, 0] (lv' := [(0, .ref x), (1, .ref s), (2, .int (0 : Int32))]) dX7_levelWithoutFootings_8 rfl rfl ?_
  exact X7_lwf_lp B 0 _ (by omega) trivial
set_option maxHeartbeats 4000000 in
set_option maxRecDepth 100000 in
theorem c_X7_measureCurve (l : Launch) (G : jG) (r : va_W) {x : Nat} {A : Nat → Nat} {ns nr : Nat} {to : Int64} {al wa lf : Int32} {L F : Nat → Int32} {t u : Nat → Int32} {zs zl : Int32} {nu lti ms : Nat → Int32} (hc : CV L F t u) : Mt l G yX7_measureCurve mX7_measureCurve 2 43 0 0 [.ref x] ((x, .inr (7, [.ref (A 0), .int (nI ns), .ref (A 1), .int (nI nr), .ref (A 2), .ref (A 3), .ref (A 4), .ref (A 5), .ref (A 6), .ref (A 7), .ref (A 8), .ref (A 9), .long to, .int al, .int wa, .int lf, .ref (A 10)])) :: (A 3, .inr (1, [.ref (A 11), .ref (A 12), .int (nI (nN L))])) :: (A 11, .inl (G.2.1.1, 60, .inl t)) :: (A 12, .inl (G.2.1.1, 60, .inl u)) :: (A 4, .inr (0, [.ref (A 13), .int zs])) :: (A 13, .inl (G.2.1.1, 60, .inl nu)) :: (A 6, .inr (4, [.ref (A 17), .int zl])) :: (A 17, .inl (G.2.1.1, 60, .inl lti)) :: (A 8, .inl (G.2.1.1, 4, .inl ms)) :: r) (fun v w => ∃ nu1 lt1, v = none ∧ w = (x, .inr (7, [.ref (A 0), .int (nI ns), .ref (A 1), .int (nI nr), .ref (A 2), .ref (A 3), .ref (A 4), .ref (A 5), .ref (A 6), .ref (A 7), .ref (A 8), .ref (A 9), .long to, .int al, .int wa, .int lf, .ref (A 10)])) :: (A 3, .inr (1, [.ref (A 11), .ref (A 12), .int (nI (nN L))])) :: (A 11, .inl (G.2.1.1, 60, .inl t)) :: (A 12, .inl (G.2.1.1, 60, .inl u)) :: (A 4, .inr (0, [.ref (A 13), .int (nI (nN L))])) :: (A 13, .inl (G.2.1.1, 60, .inl nu1)) :: (A 6, .inr (4, [.ref (A 17), .int (nI ((lowF (ltF L F) (midV (lits L F 60) - 100) (nts L 60)).1.length))])) :: (A 17, .inl (G.2.1.1, 60, .inl lt1)) :: (A 8, .inl (G.2.1.1, 4, .inl (upd (upd (upd (upd ms 0 (midV (lits L F 60))) 1 (swg (lits L F 60))) 2 (nI (nN L))) 3 (nI (lowF (ltF L F) (midV (lits L F 60) - 100) (nts L 60)).1.length)))) :: r) := by
  refine Mt.of (by decide +kernel) rfl rfl (fun X B => ?_)
  show J G X mX7_measureCurve ((x, .inr (7, [.ref (A 0), .int (nI ns), .ref (A 1), .int (nI nr), .ref (A 2), .ref (A 3), .ref (A 4), .ref (A 5), .ref (A 6), .ref (A 7), .ref (A 8), .ref (A 9), .long to, .int al, .int wa, .int lf, .ref (A 10)])) :: (A 3, .inr (1, [.ref (A 11), .ref (A 12), .int (nI (nN L))])) :: (A 11, .inl (G.2.1.1, 60, .inl t)) :: (A 12, .inl (G.2.1.1, 60, .inl u)) :: (A 4, .inr (0, [.ref (A 13), .int zs])) :: (A 13, .inl (G.2.1.1, 60, .inl nu)) :: (A 6, .inr (4, [.ref (A 17), .int zl])) :: (A 17, .inl (G.2.1.1, 60, .inl lti)) :: (A 8, .inl (G.2.1.1, 4, .inl ms)) :: r) 0 0 0 [(0, .ref x)] []
  have hn := nN_le L
  refine J.aload_n 0 dX7_measureCurve_0 rfl ?_
  refine J.re [0, 1, 3, 4, 5, 2, 6, 7, 8] 9 (ws2 := (x, .inr (7, [.ref (A 0), .int (nI ns), .ref (A 1), .int (nI nr), .ref (A 2), .ref (A 3), .ref (A 4), .ref (A 5), .ref (A 6), .ref (A 7), .ref (A 8), .ref (A 9), .long to, .int al, .int wa, .int lf, .ref (A 10)])) :: (A 3, .inr (1, [.ref (A 11), .ref (A 12), .int (nI (nN L))])) :: (A 12, .inl (G.2.1.1, 60, .inl u)) :: (A 4, .inr (0, [.ref (A 13), .int zs])) :: (A 13, .inl (G.2.1.1, 60, .inl nu)) :: (A 11, .inl (G.2.1.1, 60, .inl t)) :: (A 6, .inr (4, [.ref (A 17), .int zl])) :: (A 17, .inl (G.2.1.1, 60, .inl lti)) :: (A 8, .inl (G.2.1.1, 4, .inl ms)) :: r) rfl rfl ?_
  refine J.callV 0 (st := []) B (c_X7_levelOfCurve l G _ hc) ml_X7_145 mf_yX7_levelOfCurve mi_yX7_levelOfCurve rfl dX7_measureCurve_1 rfl rfl rfl rfl (fun v_1 w_2 hp_3 => ?_)
  obtain ⟨nu1, hA, rfl, rfl⟩ := hp_3
  refine J.re [0, 1, 5, 2, 3, 4, 6, 7, 8] 9 (ws2 := (x, .inr (7, [.ref (A 0), .int (nI ns), .ref (A 1), .int (nI nr), .ref (A 2), .ref (A 3), .ref (A 4), .ref (A 5), .ref (A 6), .ref (A 7), .ref (A 8), .ref (A 9), .long to, .int al, .int wa, .int lf, .ref (A 10)])) :: (A 3, .inr (1, [.ref (A 11), .ref (A 12), .int (nI (nN L))])) :: (A 11, .inl (G.2.1.1, 60, .inl t)) :: (A 12, .inl (G.2.1.1, 60, .inl u)) :: (A 4, .inr (0, [.ref (A 13), .int (nI (nN L))])) :: (A 13, .inl (G.2.1.1, 60, .inl nu1)) :: (A 6, .inr (4, [.ref (A 17), .int zl])) :: (A 17, .inl (G.2.1.1, 60, .inl lti)) :: (A 8, .inl (G.2.1.1, 4, .inl ms)) :: r) rfl rfl ?_
  show J G X mX7_measureCurve _ _ _ 4 _ [.int (midV (lits L F 60))]
  refine J.istore_n [1, 0] (lv' := [(0, .ref x), (1, .int (midV (lits L F 60)))]) dX7_measureCurve_4 rfl rfl ?_
  refine J.aload_n 0 dX7_measureCurve_5 rfl ?_
  refine J.get 0 fl_X7_60 dX7_measureCurve_6 rfl rfl ?_
  refine J.iconst (0 : Int32) dX7_measureCurve_9 rfl ?_
  refine J.iload_n 1 dX7_measureCurve_10 rfl ?_
  refine J.iast 8 (0) dX7_measureCurve_11 rfl (rfl) (by omega) (by decide) (ws' := (x, .inr (7, [.ref (A 0), .int (nI ns), .ref (A 1), .int (nI nr), .ref (A 2), .ref (A 3), .ref (A 4), .ref (A 5), .ref (A 6), .ref (A 7), .ref (A 8), .ref (A 9), .long to, .int al, .int wa, .int lf, .ref (A 10)])) :: (A 3, .inr (1, [.ref (A 11), .ref (A 12), .int (nI (nN L))])) :: (A 11, .inl (G.2.1.1, 60, .inl t)) :: (A 12, .inl (G.2.1.1, 60, .inl u)) :: (A 4, .inr (0, [.ref (A 13), .int (nI (nN L))])) :: (A 13, .inl (G.2.1.1, 60, .inl nu1)) :: (A 6, .inr (4, [.ref (A 17), .int zl])) :: (A 17, .inl (G.2.1.1, 60, .inl lti)) :: (A 8, .inl (G.2.1.1, 4, .inl (upd ms 0 (midV (lits L F 60))))) :: r) rfl ?_
  refine J.aload_n 0 dX7_measureCurve_12 rfl ?_
  refine J.get 0 fl_X7_60 dX7_measureCurve_13 rfl rfl ?_
  refine J.iconst (1 : Int32) dX7_measureCurve_16 rfl ?_
  refine J.aload_n 0 dX7_measureCurve_17 rfl ?_
  refine J.get 0 fl_X7_35 dX7_measureCurve_18 rfl rfl ?_
  refine J.re [4, 5, 0, 1, 2, 3, 6, 7, 8] 9 (ws2 := (A 4, .inr (0, [.ref (A 13), .int (nI (nN L))])) :: (A 13, .inl (G.2.1.1, 60, .inl nu1)) :: (x, .inr (7, [.ref (A 0), .int (nI ns), .ref (A 1), .int (nI nr), .ref (A 2), .ref (A 3), .ref (A 4), .ref (A 5), .ref (A 6), .ref (A 7), .ref (A 8), .ref (A 9), .long to, .int al, .int wa, .int lf, .ref (A 10)])) :: (A 3, .inr (1, [.ref (A 11), .ref (A 12), .int (nI (nN L))])) :: (A 11, .inl (G.2.1.1, 60, .inl t)) :: (A 12, .inl (G.2.1.1, 60, .inl u)) :: (A 6, .inr (4, [.ref (A 17), .int zl])) :: (A 17, .inl (G.2.1.1, 60, .inl lti)) :: (A 8, .inl (G.2.1.1, 4, .inl (upd ms 0 (midV (lits L F 60))))) :: r) rfl rfl ?_
  refine J.callV 0 (st := [.int (1 : Int32), .ref (A 8)]) B (c_X0_spread l G _ (sz := nN L) (by omega)) ml_X7_281 mf_yX0_spread mi_yX0_spread rfl dX7_measureCurve_21 rfl rfl rfl rfl (fun v_4 w_5 hp_6 => ?_)
  obtain ⟨rfl, rfl⟩ := hp_6
  have hsw := swg_of hA
  rw [lits_l60] at hsw
  rw [hsw]
  refine J.re [2, 3, 4, 5, 0, 1, 6, 7, 8] 9 (ws2 := (x, .inr (7, [.ref (A 0), .int (nI ns), .ref (A 1), .int (nI nr), .ref (A 2), .ref (A 3), .ref (A 4), .ref (A 5), .ref (A 6), .ref (A 7), .ref (A 8), .ref (A 9), .long to, .int al, .int wa, .int lf, .ref (A 10)])) :: (A 3, .inr (1, [.ref (A 11), .ref (A 12), .int (nI (nN L))])) :: (A 11, .inl (G.2.1.1, 60, .inl t)) :: (A 12, .inl (G.2.1.1, 60, .inl u)) :: (A 4, .inr (0, [.ref (A 13), .int (nI (nN L))])) :: (A 13, .inl (G.2.1.1, 60, .inl nu1)) :: (A 6, .inr (4, [.ref (A 17), .int zl])) :: (A 17, .inl (G.2.1.1, 60, .inl lti)) :: (A 8, .inl (G.2.1.1, 4, .inl (upd ms 0 (midV (lits L F 60))))) :: r) rfl rfl ?_
  show J G X mX7_measureCurve _ _ _ 24 _ [.int (swg (lits L F 60)), .int (1 : Int32), .ref (A 8)]
  refine J.iast 8 (1) dX7_measureCurve_24 rfl (rfl) (by omega) (by decide) (ws' := (x, .inr (7, [.ref (A 0), .int (nI ns), .ref (A 1), .int (nI nr), .ref (A 2), .ref (A 3), .ref (A 4), .ref (A 5), .ref (A 6), .ref (A 7), .ref (A 8), .ref (A 9), .long to, .int al, .int wa, .int lf, .ref (A 10)])) :: (A 3, .inr (1, [.ref (A 11), .ref (A 12), .int (nI (nN L))])) :: (A 11, .inl (G.2.1.1, 60, .inl t)) :: (A 12, .inl (G.2.1.1, 60, .inl u)) :: (A 4, .inr (0, [.ref (A 13), .int (nI (nN L))])) :: (A 13, .inl (G.2.1.1, 60, .inl nu1)) :: (A 6, .inr (4, [.ref (A 17), .int zl])) :: (A 17, .inl (G.2.1.1, 60, .inl lti)) :: (A 8, .inl (G.2.1.1, 4, .inl (upd (upd ms 0 (midV (lits L F 60))) 1 (swg (lits L F 60))))) :: r) rfl ?_
  refine J.aload_n 0 dX7_measureCurve_25 rfl ?_
  refine J.get 0 fl_X7_60 dX7_measureCurve_26 rfl rfl ?_
  refine J.iconst (2 : Int32) dX7_measureCurve_29 rfl ?_
  refine J.aload_n 0 dX7_measureCurve_30 rfl ?_
  refine J.get 0 fl_X7_28 dX7_measureCurve_31 rfl rfl ?_
  refine J.get 1 fl_X7_176 dX7_measureCurve_34 rfl rfl ?_
  refine J.iast 8 (2) dX7_measureCurve_37 rfl (rfl) (by omega) (by decide) (ws' := (x, .inr (7, [.ref (A 0), .int (nI ns), .ref (A 1), .int (nI nr), .ref (A 2), .ref (A 3), .ref (A 4), .ref (A 5), .ref (A 6), .ref (A 7), .ref (A 8), .ref (A 9), .long to, .int al, .int wa, .int lf, .ref (A 10)])) :: (A 3, .inr (1, [.ref (A 11), .ref (A 12), .int (nI (nN L))])) :: (A 11, .inl (G.2.1.1, 60, .inl t)) :: (A 12, .inl (G.2.1.1, 60, .inl u)) :: (A 4, .inr (0, [.ref (A 13), .int (nI (nN L))])) :: (A 13, .inl (G.2.1.1, 60, .inl nu1)) :: (A 6, .inr (4, [.ref (A 17), .int zl])) :: (A 17, .inl (G.2.1.1, 60, .inl lti)) :: (A 8, .inl (G.2.1.1, 4, .inl (upd (upd (upd ms 0 (midV (lits L F 60))) 1 (swg (lits L F 60))) 2 (nI (nN L))))) :: r) rfl ?_
  refine J.aload_n 0 dX7_measureCurve_38 rfl ?_
  refine J.get 0 fl_X7_49 dX7_measureCurve_39 rfl rfl ?_
  refine J.aload_n 0 dX7_measureCurve_42 rfl ?_
  refine J.get 0 fl_X7_28 dX7_measureCurve_43 rfl rfl ?_
  refine J.iload_n 1 dX7_measureCurve_46 rfl ?_
  refine J.bipush (100 : Int32) dX7_measureCurve_47 rfl ?_
  refine J.isub dX7_measureCurve_49 ?_
  refine J.re [6, 7, 1, 2, 3, 0, 4, 5, 8] 9 (ws2 := (A 6, .inr (4, [.ref (A 17), .int zl])) :: (A 17, .inl (G.2.1.1, 60, .inl lti)) :: (A 3, .inr (1, [.ref (A 11), .ref (A 12), .int (nI (nN L))])) :: (A 11, .inl (G.2.1.1, 60, .inl t)) :: (A 12, .inl (G.2.1.1, 60, .inl u)) :: (x, .inr (7, [.ref (A 0), .int (nI ns), .ref (A 1), .int (nI nr), .ref (A 2), .ref (A 3), .ref (A 4), .ref (A 5), .ref (A 6), .ref (A 7), .ref (A 8), .ref (A 9), .long to, .int al, .int wa, .int lf, .ref (A 10)])) :: (A 4, .inr (0, [.ref (A 13), .int (nI (nN L))])) :: (A 13, .inl (G.2.1.1, 60, .inl nu1)) :: (A 8, .inl (G.2.1.1, 4, .inl (upd (upd (upd ms 0 (midV (lits L F 60))) 1 (swg (lits L F 60))) 2 (nI (nN L))))) :: r) rfl rfl ?_
  refine J.callV 0 (st := []) B (c_X4_gather l G _ hc) ml_X7_265 mf_yX4_gather mi_yX4_gather rfl dX7_measureCurve_50 rfl rfl rfl rfl (fun v_7 w_8 hp_9 => ?_)
  obtain ⟨lt1, hlt, rfl, rfl⟩ := hp_9
  refine J.re [5, 2, 3, 4, 6, 7, 0, 1, 8] 9 (ws2 := (x, .inr (7, [.ref (A 0), .int (nI ns), .ref (A 1), .int (nI nr), .ref (A 2), .ref (A 3), .ref (A 4), .ref (A 5), .ref (A 6), .ref (A 7), .ref (A 8), .ref (A 9), .long to, .int al, .int wa, .int lf, .ref (A 10)])) :: (A 3, .inr (1, [.ref (A 11), .ref (A 12), .int (nI (nN L))])) :: (A 11, .inl (G.2.1.1, 60, .inl t)) :: (A 12, .inl (G.2.1.1, 60, .inl u)) :: (A 4, .inr (0, [.ref (A 13), .int (nI (nN L))])) :: (A 13, .inl (G.2.1.1, 60, .inl nu1)) :: (A 6, .inr (4, [.ref (A 17), .int (nI ((lowF (ltF L F) (midV (lits L F 60) - 100) (nts L 60)).1.length))])) :: (A 17, .inl (G.2.1.1, 60, .inl lt1)) :: (A 8, .inl (G.2.1.1, 4, .inl (upd (upd (upd ms 0 (midV (lits L F 60))) 1 (swg (lits L F 60))) 2 (nI (nN L))))) :: r) rfl rfl ?_
  show J G X mX7_measureCurve _ _ _ 53 _ []
  refine J.aload_n 0 dX7_measureCurve_53 rfl ?_
  refine J.get 0 fl_X7_60 dX7_measureCurve_54 rfl rfl ?_
  refine J.iconst (3 : Int32) dX7_measureCurve_57 rfl ?_
  refine J.aload_n 0 dX7_measureCurve_58 rfl ?_
  refine J.get 0 fl_X7_49 dX7_measureCurve_59 rfl rfl ?_
  refine J.get 6 fl_X7_207 dX7_measureCurve_62 rfl rfl ?_
  refine J.iast 8 (3) dX7_measureCurve_65 rfl (rfl) (by omega) (by decide) (ws' := (x, .inr (7, [.ref (A 0), .int (nI ns), .ref (A 1), .int (nI nr), .ref (A 2), .ref (A 3), .ref (A 4), .ref (A 5), .ref (A 6), .ref (A 7), .ref (A 8), .ref (A 9), .long to, .int al, .int wa, .int lf, .ref (A 10)])) :: (A 3, .inr (1, [.ref (A 11), .ref (A 12), .int (nI (nN L))])) :: (A 11, .inl (G.2.1.1, 60, .inl t)) :: (A 12, .inl (G.2.1.1, 60, .inl u)) :: (A 4, .inr (0, [.ref (A 13), .int (nI (nN L))])) :: (A 13, .inl (G.2.1.1, 60, .inl nu1)) :: (A 6, .inr (4, [.ref (A 17), .int (nI ((lowF (ltF L F) (midV (lits L F 60) - 100) (nts L 60)).1.length))])) :: (A 17, .inl (G.2.1.1, 60, .inl lt1)) :: (A 8, .inl (G.2.1.1, 4, .inl (upd (upd (upd (upd ms 0 (midV (lits L F 60))) 1 (swg (lits L F 60))) 2 (nI (nN L))) 3 (nI ((lowF (ltF L F) (midV (lits L F 60) - 100) (nts L 60)).1.length))))) :: r) rfl ?_
  exact J.vret B dX7_measureCurve_66 rfl (⟨nu1, lt1, rfl, rfl⟩)
