set_option maxHeartbeats 4000000 in
set_option maxRecDepth 100000 in
theorem i_copy_bb (l : Launch) (G : jG) (r : va_W) {x : Nat} {A : Nat → Nat} {ns nr : Nat} {to : Int64} {al wa lf : Int32} {sa : Nat → Option Nat} {num : Int32} (hns : ns ≤ 12) (hnum : inR num 0 ((ns : Int) - 1) = false) {num2 : Int32} (hnum2 : inR num2 0 ((ns : Int) - 1) = false) {i j n : Int32} : Mt l G yX7_copy mX7_copy 1 40 0 0 [.ref x, .int num, .int i, .int num2, .int j, .int n] ((x, .inr (7, [.ref (A 0), .int (nI ns), .ref (A 1), .int (nI nr), .ref (A 2), .ref (A 3), .ref (A 4), .ref (A 5), .ref (A 6), .ref (A 7), .ref (A 8), .ref (A 9), .long to, .int al, .int wa, .int lf, .ref (A 10)])) :: (A 0, .inl (G.2.1.2.2.1, 12, .inr (.inr (.inr (.inr sa))))) :: r) (fun v w => v = some (.int (-1 : Int32)) ∧ w = (x, .inr (7, [.ref (A 0), .int (nI ns), .ref (A 1), .int (nI nr), .ref (A 2), .ref (A 3), .ref (A 4), .ref (A 5), .ref (A 6), .ref (A 7), .ref (A 8), .ref (A 9), .long to, .int al, .int wa, .int lf, .ref (A 10)])) :: (A 0, .inl (G.2.1.2.2.1, 12, .inr (.inr (.inr (.inr sa))))) :: r) := by
  refine Mt.of (by decide +kernel) rfl rfl (fun X B => ?_)
  show J G X mX7_copy ((x, .inr (7, [.ref (A 0), .int (nI ns), .ref (A 1), .int (nI nr), .ref (A 2), .ref (A 3), .ref (A 4), .ref (A 5), .ref (A 6), .ref (A 7), .ref (A 8), .ref (A 9), .long to, .int al, .int wa, .int lf, .ref (A 10)])) :: (A 0, .inl (G.2.1.2.2.1, 12, .inr (.inr (.inr (.inr sa))))) :: r) 0 0 0 [(0, .ref x), (1, .int num), (2, .int i), (3, .int num2), (4, .int j), (5, .int n)] []
  refine J.aload_n 0 dX7_copy_0 rfl ?_
  refine J.iload_n 1 dX7_copy_1 rfl ?_
  refine J.callV 0 (st := []) B (c_X7_starNumbered_bad l G _ hns hnum) ml_X7_80 mf_yX7_starNumbered mi_yX7_starNumbered rfl dX7_copy_2 rfl rfl rfl rfl (fun v_1 w_2 hp_3 => ?_)
  obtain ⟨rfl, rfl⟩ := hp_3
  show J G X mX7_copy _ _ _ 5 _ [.null]
  refine J.astoreN [1, 2, 3, 4, 5, 6, 0] (lv' := [(0, .ref x), (1, .int num), (2, .int i), (3, .int num2), (4, .int j), (5, .int n), (6, .null)]) dX7_copy_5 rfl rfl ?_
  refine J.aload_n 0 dX7_copy_7 rfl ?_
  refine J.iload_n 3 dX7_copy_8 rfl ?_
  refine J.callV 0 (st := []) B (c_X7_starNumbered_bad l G _ hns hnum2) ml_X7_80 mf_yX7_starNumbered mi_yX7_starNumbered rfl dX7_copy_9 rfl rfl rfl rfl (fun v_4 w_5 hp_6 => ?_)
  obtain ⟨rfl, rfl⟩ := hp_6
  show J G X mX7_copy _ _ _ 12 _ [.null]
  refine J.astoreN [1, 2, 3, 4, 5, 6, 7, 0] (lv' := [(0, .ref x), (1, .int num), (2, .int i), (3, .int num2), (4, .int j), (5, .int n), (6, .null), (7, .null)]) dX7_copy_12 rfl rfl ?_
  refine J.aloadN 6 dX7_copy_14 rfl ?_
  refine J.ifnullN dX7_copy_16 ?_
  refine J.iconst (-1 : Int32) dX7_copy_24 rfl ?_
  exact J.iret B dX7_copy_25 rfl (⟨rfl, rfl⟩)
set_option maxHeartbeats 4000000 in
set_option maxRecDepth 100000 in
theorem i_copy_bo (l : Launch) (G : jG) (r : va_W) {x : Nat} {A : Nat → Nat} {ns nr : Nat} {to : Int64} {al wa lf : Int32} {sa : Nat → Option Nat} {num : Int32} (hns : ns ≤ 12) (hnum : inR num 0 ((ns : Int) - 1) = false) {k2 s2 : Nat} (hk2 : k2 < ns) (hsa2 : sa k2 = some s2) {i j n : Int32} : Mt l G yX7_copy mX7_copy 1 40 0 0 [.ref x, .int num, .int i, .int (nI k2), .int j, .int n] ((x, .inr (7, [.ref (A 0), .int (nI ns), .ref (A 1), .int (nI nr), .ref (A 2), .ref (A 3), .ref (A 4), .ref (A 5), .ref (A 6), .ref (A 7), .ref (A 8), .ref (A 9), .long to, .int al, .int wa, .int lf, .ref (A 10)])) :: (A 0, .inl (G.2.1.2.2.1, 12, .inr (.inr (.inr (.inr sa))))) :: r) (fun v w => v = some (.int (-1 : Int32)) ∧ w = (x, .inr (7, [.ref (A 0), .int (nI ns), .ref (A 1), .int (nI nr), .ref (A 2), .ref (A 3), .ref (A 4), .ref (A 5), .ref (A 6), .ref (A 7), .ref (A 8), .ref (A 9), .long to, .int al, .int wa, .int lf, .ref (A 10)])) :: (A 0, .inl (G.2.1.2.2.1, 12, .inr (.inr (.inr (.inr sa))))) :: r) := by
  refine Mt.of (by decide +kernel) rfl rfl (fun X B => ?_)
  show J G X mX7_copy ((x, .inr (7, [.ref (A 0), .int (nI ns), .ref (A 1), .int (nI nr), .ref (A 2), .ref (A 3), .ref (A 4), .ref (A 5), .ref (A 6), .ref (A 7), .ref (A 8), .ref (A 9), .long to, .int al, .int wa, .int lf, .ref (A 10)])) :: (A 0, .inl (G.2.1.2.2.1, 12, .inr (.inr (.inr (.inr sa))))) :: r) 0 0 0 [(0, .ref x), (1, .int num), (2, .int i), (3, .int (nI k2)), (4, .int j), (5, .int n)] []
  refine J.aload_n 0 dX7_copy_0 rfl ?_
  refine J.iload_n 1 dX7_copy_1 rfl ?_
  refine J.callV 0 (st := []) B (c_X7_starNumbered_bad l G _ hns hnum) ml_X7_80 mf_yX7_starNumbered mi_yX7_starNumbered rfl dX7_copy_2 rfl rfl rfl rfl (fun v_1 w_2 hp_3 => ?_)
  obtain ⟨rfl, rfl⟩ := hp_3
  show J G X mX7_copy _ _ _ 5 _ [.null]
  refine J.astoreN [1, 2, 3, 4, 5, 6, 0] (lv' := [(0, .ref x), (1, .int num), (2, .int i), (3, .int (nI k2)), (4, .int j), (5, .int n), (6, .null)]) dX7_copy_5 rfl rfl ?_
  refine J.aload_n 0 dX7_copy_7 rfl ?_
  refine J.iload_n 3 dX7_copy_8 rfl ?_
  refine J.callV 0 (st := []) B (c_X7_starNumbered l G _ hk2 hns hsa2) ml_X7_80 mf_yX7_starNumbered mi_yX7_starNumbered rfl dX7_copy_9 rfl rfl rfl rfl (fun v_4 w_5 hp_6 => ?_)
  obtain ⟨rfl, rfl⟩ := hp_6
  show J G X mX7_copy _ _ _ 12 _ [.ref s2]
  refine J.astore [1, 2, 3, 4, 5, 6, 7, 0] (lv' := [(0, .ref x), (1, .int num), (2, .int i), (3, .int (nI k2)), (4, .int j), (5, .int n), (6, .null), (7, .ref s2)]) dX7_copy_12 rfl rfl ?_
  refine J.aloadN 6 dX7_copy_14 rfl ?_
  refine J.ifnullN dX7_copy_16 ?_
  refine J.iconst (-1 : Int32) dX7_copy_24 rfl ?_
  exact J.iret B dX7_copy_25 rfl (⟨rfl, rfl⟩)
set_option maxHeartbeats 4000000 in
set_option maxRecDepth 100000 in
theorem i_copy_ob (l : Launch) (G : jG) (r : va_W) {x : Nat} {A : Nat → Nat} {ns nr : Nat} {to : Int64} {al wa lf : Int32} {sa : Nat → Option Nat} {k s : Nat} (hk : k < ns) (hns : ns ≤ 12) (hsa : sa k = some s) {num2 : Int32} (hnum2 : inR num2 0 ((ns : Int) - 1) = false) {i j n : Int32} : Mt l G yX7_copy mX7_copy 1 40 0 0 [.ref x, .int (nI k), .int i, .int num2, .int j, .int n] ((x, .inr (7, [.ref (A 0), .int (nI ns), .ref (A 1), .int (nI nr), .ref (A 2), .ref (A 3), .ref (A 4), .ref (A 5), .ref (A 6), .ref (A 7), .ref (A 8), .ref (A 9), .long to, .int al, .int wa, .int lf, .ref (A 10)])) :: (A 0, .inl (G.2.1.2.2.1, 12, .inr (.inr (.inr (.inr sa))))) :: r) (fun v w => v = some (.int (-1 : Int32)) ∧ w = (x, .inr (7, [.ref (A 0), .int (nI ns), .ref (A 1), .int (nI nr), .ref (A 2), .ref (A 3), .ref (A 4), .ref (A 5), .ref (A 6), .ref (A 7), .ref (A 8), .ref (A 9), .long to, .int al, .int wa, .int lf, .ref (A 10)])) :: (A 0, .inl (G.2.1.2.2.1, 12, .inr (.inr (.inr (.inr sa))))) :: r) := by
  refine Mt.of (by decide +kernel) rfl rfl (fun X B => ?_)
  show J G X mX7_copy ((x, .inr (7, [.ref (A 0), .int (nI ns), .ref (A 1), .int (nI nr), .ref (A 2), .ref (A 3), .ref (A 4), .ref (A 5), .ref (A 6), .ref (A 7), .ref (A 8), .ref (A 9), .long to, .int al, .int wa, .int lf, .ref (A 10)])) :: (A 0, .inl (G.2.1.2.2.1, 12, .inr (.inr (.inr (.inr sa))))) :: r) 0 0 0 [(0, .ref x), (1, .int (nI k)), (2, .int i), (3, .int num2), (4, .int j), (5, .int n)] []
  refine J.aload_n 0 dX7_copy_0 rfl ?_
  refine J.iload_n 1 dX7_copy_1 rfl ?_
  refine J.callV 0 (st := []) B (c_X7_starNumbered l G _ hk hns hsa) ml_X7_80 mf_yX7_starNumbered mi_yX7_starNumbered rfl dX7_copy_2 rfl rfl rfl rfl (fun v_1 w_2 hp_3 => ?_)
  obtain ⟨rfl, rfl⟩ := hp_3
  show J G X mX7_copy _ _ _ 5 _ [.ref s]
  refine J.astore [1, 2, 3, 4, 5, 6, 0] (lv' := [(0, .ref x), (1, .int (nI k)), (2, .int i), (3, .int num2), (4, .int j), (5, .int n), (6, .ref s)]) dX7_copy_5 rfl rfl ?_
  refine J.aload_n 0 dX7_copy_7 rfl ?_
  refine J.iload_n 3 dX7_copy_8 rfl ?_
  refine J.callV 0 (st := []) B (c_X7_starNumbered_bad l G _ hns hnum2) ml_X7_80 mf_yX7_starNumbered mi_yX7_starNumbered rfl dX7_copy_9 rfl rfl rfl rfl (fun v_4 w_5 hp_6 => ?_)
  obtain ⟨rfl, rfl⟩ := hp_6
  show J G X mX7_copy _ _ _ 12 _ [.null]
  refine J.astoreN [1, 2, 3, 4, 5, 6, 7, 0] (lv' := [(0, .ref x), (1, .int (nI k)), (2, .int i), (3, .int num2), (4, .int j), (5, .int n), (6, .ref s), (7, .null)]) dX7_copy_12 rfl rfl ?_
  refine J.aload 6 dX7_copy_14 rfl ?_
  refine J.ifnull dX7_copy_16 ?_
  refine J.aloadN 7 dX7_copy_19 rfl ?_
  refine J.ifnonnullN dX7_copy_21 ?_
  refine J.iconst (-1 : Int32) dX7_copy_24 rfl ?_
  exact J.iret B dX7_copy_25 rfl (⟨rfl, rfl⟩)
set_option maxHeartbeats 4000000 in
set_option maxRecDepth 100000 in
theorem i_copy_size (l : Launch) (G : jG) (r : va_W) {x : Nat} {A : Nat → Nat} {ns nr : Nat} {to : Int64} {al wa lf : Int32} {sa : Nat → Option Nat} {k s : Nat} (hk : k < ns) (hns : ns ≤ 12) (hsa : sa k = some s) {k2 s2 : Nat} (hk2 : k2 < ns) (hsa2 : sa k2 = some s2) {fc : Nat → Int32} {i j n : Int32} (hn : n.toInt < 0) : Mt l G yX7_copy mX7_copy 1 40 0 0 [.ref x, .int (nI k), .int i, .int (nI k2), .int j, .int n] ((x, .inr (7, [.ref (A 0), .int (nI ns), .ref (A 1), .int (nI nr), .ref (A 2), .ref (A 3), .ref (A 4), .ref (A 5), .ref (A 6), .ref (A 7), .ref (A 8), .ref (A 9), .long to, .int al, .int wa, .int lf, .ref (A 10)])) :: (A 0, .inl (G.2.1.2.2.1, 12, .inr (.inr (.inr (.inr sa))))) :: (A 10, .inl (G.2.1.1, 6, .inl fc)) :: r) (fun v w => v = some (.int (-3 : Int32)) ∧ w = (x, .inr (7, [.ref (A 0), .int (nI ns), .ref (A 1), .int (nI nr), .ref (A 2), .ref (A 3), .ref (A 4), .ref (A 5), .ref (A 6), .ref (A 7), .ref (A 8), .ref (A 9), .long to, .int al, .int wa, .int (nI 5), .ref (A 10)])) :: (A 0, .inl (G.2.1.2.2.1, 12, .inr (.inr (.inr (.inr sa))))) :: (A 10, .inl (G.2.1.1, 6, .inl (upd fc 5 (fc 5 + 1)))) :: r) := by
  refine Mt.of (by decide +kernel) rfl rfl (fun X B => ?_)
  show J G X mX7_copy ((x, .inr (7, [.ref (A 0), .int (nI ns), .ref (A 1), .int (nI nr), .ref (A 2), .ref (A 3), .ref (A 4), .ref (A 5), .ref (A 6), .ref (A 7), .ref (A 8), .ref (A 9), .long to, .int al, .int wa, .int lf, .ref (A 10)])) :: (A 0, .inl (G.2.1.2.2.1, 12, .inr (.inr (.inr (.inr sa))))) :: (A 10, .inl (G.2.1.1, 6, .inl fc)) :: r) 0 0 0 [(0, .ref x), (1, .int (nI k)), (2, .int i), (3, .int (nI k2)), (4, .int j), (5, .int n)] []
  refine J.aload_n 0 dX7_copy_0 rfl ?_
  refine J.iload_n 1 dX7_copy_1 rfl ?_
  refine J.callV 0 (st := []) B (c_X7_starNumbered l G _ hk hns hsa) ml_X7_80 mf_yX7_starNumbered mi_yX7_starNumbered rfl dX7_copy_2 rfl rfl rfl rfl (fun v_1 w_2 hp_3 => ?_)
  obtain ⟨rfl, rfl⟩ := hp_3
  show J G X mX7_copy _ _ _ 5 _ [.ref s]
  refine J.astore [1, 2, 3, 4, 5, 6, 0] (lv' := [(0, .ref x), (1, .int (nI k)), (2, .int i), (3, .int (nI k2)), (4, .int j), (5, .int n), (6, .ref s)]) dX7_copy_5 rfl rfl ?_
  refine J.aload_n 0 dX7_copy_7 rfl ?_
  refine J.iload_n 3 dX7_copy_8 rfl ?_
  refine J.callV 0 (st := []) B (c_X7_starNumbered l G _ hk2 hns hsa2) ml_X7_80 mf_yX7_starNumbered mi_yX7_starNumbered rfl dX7_copy_9 rfl rfl rfl rfl (fun v_4 w_5 hp_6 => ?_)
  obtain ⟨rfl, rfl⟩ := hp_6
  show J G X mX7_copy _ _ _ 12 _ [.ref s2]
  refine J.astore [1, 2, 3, 4, 5, 6, 7, 0] (lv' := [(0, .ref x), (1, .int (nI k)), (2, .int i), (3, .int (nI k2)), (4, .int j), (5, .int n), (6, .ref s), (7, .ref s2)]) dX7_copy_12 rfl rfl ?_
  refine J.aload 6 dX7_copy_14 rfl ?_
  refine J.ifnull dX7_copy_16 ?_
  refine J.aload 7 dX7_copy_19 rfl ?_
  refine J.ifnonnull dX7_copy_21 ?_
  refine J.iload 5 dX7_copy_26 rfl ?_
  refine J.if_ge dX7_copy_28 (fun h9 => ?_) (fun h9 => ?_)
  · skip
    have h9 : (0 : Int) ≤ n.toInt := (fa_le _ _).mp h9
    omega
  · skip
    have h9 : ¬ (0 : Int) ≤ n.toInt := fun z => h9 ((fa_le _ _).mpr z)
    refine J.aload_n 0 dX7_copy_31 rfl ?_
    refine J.iconst (5 : Int32) dX7_copy_32 rfl ?_
    refine J.re [0, 2, 1] 3 (ws2 := (x, .inr (7, [.ref (A 0), .int (nI ns), .ref (A 1), .int (nI nr), .ref (A 2), .ref (A 3), .ref (A 4), .ref (A 5), .ref (A 6), .ref (A 7), .ref (A 8), .ref (A 9), .long to, .int al, .int wa, .int lf, .ref (A 10)])) :: (A 10, .inl (G.2.1.1, 6, .inl fc)) :: (A 0, .inl (G.2.1.2.2.1, 12, .inr (.inr (.inr (.inr sa))))) :: r) rfl rfl ?_
    refine J.callV 0 (st := []) B (c_X7_found l G _ (c := 5) (by decide) (by decide)) ml_X7_87 mf_yX7_found mi_yX7_found rfl dX7_copy_33 rfl rfl rfl rfl (fun v_7 w_8 hp_9 => ?_)
    obtain ⟨rfl, rfl⟩ := hp_9
    refine J.re [0, 2, 1] 3 (ws2 := (x, .inr (7, [.ref (A 0), .int (nI ns), .ref (A 1), .int (nI nr), .ref (A 2), .ref (A 3), .ref (A 4), .ref (A 5), .ref (A 6), .ref (A 7), .ref (A 8), .ref (A 9), .long to, .int al, .int wa, .int (nI 5), .ref (A 10)])) :: (A 0, .inl (G.2.1.2.2.1, 12, .inr (.inr (.inr (.inr sa))))) :: (A 10, .inl (G.2.1.1, 6, .inl (upd fc 5 (fc 5 + 1)))) :: r) rfl rfl ?_
    show J G X mX7_copy _ _ _ 36 _ [.int (-3 : Int32)]
    exact J.iret B dX7_copy_36 rfl (⟨rfl, rfl⟩)
set_option maxHeartbeats 4000000 in
set_option maxRecDepth 100000 in
theorem i_copy_no1 (l : Launch) (G : jG) (r : va_W) {x : Nat} {A : Nat → Nat} {ns nr : Nat} {to : Int64} {al wa lf : Int32} {sa : Nat → Option Nat} {la : Nat} {kd wc : Int32} {k s : Nat} (hk : k < ns) (hns : ns ≤ 12) (hsa : sa k = some s) {k2 s2 : Nat} (hk2 : k2 < ns) (hsa2 : sa k2 = some s2) {fc : Nat → Int32} {i j n : Int32} (hn : 0 ≤ n.toInt) : Mt l G yX7_copy mX7_copy 1 40 0 0 [.ref x, .int (nI k), .int i, .int (nI k2), .int j, .int n] ((x, .inr (7, [.ref (A 0), .int (nI ns), .ref (A 1), .int (nI nr), .ref (A 2), .ref (A 3), .ref (A 4), .ref (A 5), .ref (A 6), .ref (A 7), .ref (A 8), .ref (A 9), .long to, .int al, .int wa, .int lf, .ref (A 10)])) :: (A 0, .inl (G.2.1.2.2.1, 12, .inr (.inr (.inr (.inr sa))))) :: (s, .inr (6, [.int kd, .ref la, .int (0 : Int32), .int wc])) :: (A 10, .inl (G.2.1.1, 6, .inl fc)) :: r) (fun v w => v = some (.int (-3 : Int32)) ∧ w = (x, .inr (7, [.ref (A 0), .int (nI ns), .ref (A 1), .int (nI nr), .ref (A 2), .ref (A 3), .ref (A 4), .ref (A 5), .ref (A 6), .ref (A 7), .ref (A 8), .ref (A 9), .long to, .int al, .int wa, .int (nI 1), .ref (A 10)])) :: (A 0, .inl (G.2.1.2.2.1, 12, .inr (.inr (.inr (.inr sa))))) :: (s, .inr (6, [.int kd, .ref la, .int (0 : Int32), .int wc])) :: (A 10, .inl (G.2.1.1, 6, .inl (upd fc 1 (fc 1 + 1)))) :: r) := by
  refine Mt.of (by decide +kernel) rfl rfl (fun X B => ?_)
  show J G X mX7_copy ((x, .inr (7, [.ref (A 0), .int (nI ns), .ref (A 1), .int (nI nr), .ref (A 2), .ref (A 3), .ref (A 4), .ref (A 5), .ref (A 6), .ref (A 7), .ref (A 8), .ref (A 9), .long to, .int al, .int wa, .int lf, .ref (A 10)])) :: (A 0, .inl (G.2.1.2.2.1, 12, .inr (.inr (.inr (.inr sa))))) :: (s, .inr (6, [.int kd, .ref la, .int (0 : Int32), .int wc])) :: (A 10, .inl (G.2.1.1, 6, .inl fc)) :: r) 0 0 0 [(0, .ref x), (1, .int (nI k)), (2, .int i), (3, .int (nI k2)), (4, .int j), (5, .int n)] []
  refine J.aload_n 0 dX7_copy_0 rfl ?_
  refine J.iload_n 1 dX7_copy_1 rfl ?_
  refine J.callV 0 (st := []) B (c_X7_starNumbered l G _ hk hns hsa) ml_X7_80 mf_yX7_starNumbered mi_yX7_starNumbered rfl dX7_copy_2 rfl rfl rfl rfl (fun v_1 w_2 hp_3 => ?_)
  obtain ⟨rfl, rfl⟩ := hp_3
  show J G X mX7_copy _ _ _ 5 _ [.ref s]
  refine J.astore [1, 2, 3, 4, 5, 6, 0] (lv' := [(0, .ref x), (1, .int (nI k)), (2, .int i), (3, .int (nI k2)), (4, .int j), (5, .int n), (6, .ref s)]) dX7_copy_5 rfl rfl ?_
  refine J.aload_n 0 dX7_copy_7 rfl ?_
  refine J.iload_n 3 dX7_copy_8 rfl ?_
  refine J.callV 0 (st := []) B (c_X7_starNumbered l G _ hk2 hns hsa2) ml_X7_80 mf_yX7_starNumbered mi_yX7_starNumbered rfl dX7_copy_9 rfl rfl rfl rfl (fun v_4 w_5 hp_6 => ?_)
  obtain ⟨rfl, rfl⟩ := hp_6
  show J G X mX7_copy _ _ _ 12 _ [.ref s2]
  refine J.astore [1, 2, 3, 4, 5, 6, 7, 0] (lv' := [(0, .ref x), (1, .int (nI k)), (2, .int i), (3, .int (nI k2)), (4, .int j), (5, .int n), (6, .ref s), (7, .ref s2)]) dX7_copy_12 rfl rfl ?_
  refine J.aload 6 dX7_copy_14 rfl ?_
  refine J.ifnull dX7_copy_16 ?_
  refine J.aload 7 dX7_copy_19 rfl ?_
  refine J.ifnonnull dX7_copy_21 ?_
  refine J.iload 5 dX7_copy_26 rfl ?_
  refine J.if_ge dX7_copy_28 (fun h9 => ?_) (fun h9 => ?_)
  · skip
    have h9 : (0 : Int) ≤ n.toInt := (fa_le _ _).mp h9
    refine J.aload 6 dX7_copy_37 rfl ?_
    refine J.get 2 fl_X7_100 dX7_copy_39 rfl rfl ?_
    refine J.if_eq dX7_copy_42 (fun _ => ?_) (fun z => absurd z (by decide))
    refine J.aload_n 0 dX7_copy_53 rfl ?_
    refine J.iconst (1 : Int32) dX7_copy_54 rfl ?_
    refine J.re [0, 3, 1, 2] 4 (ws2 := (x, .inr (7, [.ref (A 0), .int (nI ns), .ref (A 1), .int (nI nr), .ref (A 2), .ref (A 3), .ref (A 4), .ref (A 5), .ref (A 6), .ref (A 7), .ref (A 8), .ref (A 9), .long to, .int al, .int wa, .int lf, .ref (A 10)])) :: (A 10, .inl (G.2.1.1, 6, .inl fc)) :: (A 0, .inl (G.2.1.2.2.1, 12, .inr (.inr (.inr (.inr sa))))) :: (s, .inr (6, [.int kd, .ref la, .int (0 : Int32), .int wc])) :: r) rfl rfl ?_
    refine J.callV 0 (st := []) B (c_X7_found l G _ (c := 1) (by decide) (by decide)) ml_X7_87 mf_yX7_found mi_yX7_found rfl dX7_copy_55 rfl rfl rfl rfl (fun v_7 w_8 hp_9 => ?_)
    obtain ⟨rfl, rfl⟩ := hp_9
    refine J.re [0, 2, 3, 1] 4 (ws2 := (x, .inr (7, [.ref (A 0), .int (nI ns), .ref (A 1), .int (nI nr), .ref (A 2), .ref (A 3), .ref (A 4), .ref (A 5), .ref (A 6), .ref (A 7), .ref (A 8), .ref (A 9), .long to, .int al, .int wa, .int (nI 1), .ref (A 10)])) :: (A 0, .inl (G.2.1.2.2.1, 12, .inr (.inr (.inr (.inr sa))))) :: (s, .inr (6, [.int kd, .ref la, .int (0 : Int32), .int wc])) :: (A 10, .inl (G.2.1.1, 6, .inl (upd fc 1 (fc 1 + 1)))) :: r) rfl rfl ?_
    show J G X mX7_copy _ _ _ 58 _ [.int (-3 : Int32)]
    exact J.iret B dX7_copy_58 rfl (⟨rfl, rfl⟩)
  · skip
    have h9 : ¬ (0 : Int) ≤ n.toInt := fun z => h9 ((fa_le _ _).mpr z)
    omega
set_option maxHeartbeats 4000000 in
set_option maxRecDepth 100000 in
theorem i_copy_no2 (l : Launch) (G : jG) (r : va_W) {x : Nat} {A : Nat → Nat} {ns nr : Nat} {to : Int64} {al wa lf : Int32} {sa : Nat → Option Nat} {la : Nat} {kd wc : Int32} {k s : Nat} (hk : k < ns) (hns : ns ≤ 12) (hsa : sa k = some s) {k2 s2 : Nat} (hk2 : k2 < ns) (hsa2 : sa k2 = some s2) {la2 : Nat} {kd2 wc2 : Int32} {fc : Nat → Int32} {i j n : Int32} (hn : 0 ≤ n.toInt) : Mt l G yX7_copy mX7_copy 1 40 0 0 [.ref x, .int (nI k), .int i, .int (nI k2), .int j, .int n] ((x, .inr (7, [.ref (A 0), .int (nI ns), .ref (A 1), .int (nI nr), .ref (A 2), .ref (A 3), .ref (A 4), .ref (A 5), .ref (A 6), .ref (A 7), .ref (A 8), .ref (A 9), .long to, .int al, .int wa, .int lf, .ref (A 10)])) :: (A 0, .inl (G.2.1.2.2.1, 12, .inr (.inr (.inr (.inr sa))))) :: (s, .inr (6, [.int kd, .ref la, .int (1 : Int32), .int wc])) :: (s2, .inr (6, [.int kd2, .ref la2, .int (0 : Int32), .int wc2])) :: (A 10, .inl (G.2.1.1, 6, .inl fc)) :: r) (fun v w => v = some (.int (-3 : Int32)) ∧ w = (x, .inr (7, [.ref (A 0), .int (nI ns), .ref (A 1), .int (nI nr), .ref (A 2), .ref (A 3), .ref (A 4), .ref (A 5), .ref (A 6), .ref (A 7), .ref (A 8), .ref (A 9), .long to, .int al, .int wa, .int (nI 1), .ref (A 10)])) :: (A 0, .inl (G.2.1.2.2.1, 12, .inr (.inr (.inr (.inr sa))))) :: (s, .inr (6, [.int kd, .ref la, .int (1 : Int32), .int wc])) :: (s2, .inr (6, [.int kd2, .ref la2, .int (0 : Int32), .int wc2])) :: (A 10, .inl (G.2.1.1, 6, .inl (upd fc 1 (fc 1 + 1)))) :: r) := by
  refine Mt.of (by decide +kernel) rfl rfl (fun X B => ?_)
  show J G X mX7_copy ((x, .inr (7, [.ref (A 0), .int (nI ns), .ref (A 1), .int (nI nr), .ref (A 2), .ref (A 3), .ref (A 4), .ref (A 5), .ref (A 6), .ref (A 7), .ref (A 8), .ref (A 9), .long to, .int al, .int wa, .int lf, .ref (A 10)])) :: (A 0, .inl (G.2.1.2.2.1, 12, .inr (.inr (.inr (.inr sa))))) :: (s, .inr (6, [.int kd, .ref la, .int (1 : Int32), .int wc])) :: (s2, .inr (6, [.int kd2, .ref la2, .int (0 : Int32), .int wc2])) :: (A 10, .inl (G.2.1.1, 6, .inl fc)) :: r) 0 0 0 [(0, .ref x), (1, .int (nI k)), (2, .int i), (3, .int (nI k2)), (4, .int j), (5, .int n)] []
  refine J.aload_n 0 dX7_copy_0 rfl ?_
  refine J.iload_n 1 dX7_copy_1 rfl ?_
  refine J.callV 0 (st := []) B (c_X7_starNumbered l G _ hk hns hsa) ml_X7_80 mf_yX7_starNumbered mi_yX7_starNumbered rfl dX7_copy_2 rfl rfl rfl rfl (fun v_1 w_2 hp_3 => ?_)
  obtain ⟨rfl, rfl⟩ := hp_3
  show J G X mX7_copy _ _ _ 5 _ [.ref s]
  refine J.astore [1, 2, 3, 4, 5, 6, 0] (lv' := [(0, .ref x), (1, .int (nI k)), (2, .int i), (3, .int (nI k2)), (4, .int j), (5, .int n), (6, .ref s)]) dX7_copy_5 rfl rfl ?_
  refine J.aload_n 0 dX7_copy_7 rfl ?_
  refine J.iload_n 3 dX7_copy_8 rfl ?_
  refine J.callV 0 (st := []) B (c_X7_starNumbered l G _ hk2 hns hsa2) ml_X7_80 mf_yX7_starNumbered mi_yX7_starNumbered rfl dX7_copy_9 rfl rfl rfl rfl (fun v_4 w_5 hp_6 => ?_)
  obtain ⟨rfl, rfl⟩ := hp_6
  show J G X mX7_copy _ _ _ 12 _ [.ref s2]
  refine J.astore [1, 2, 3, 4, 5, 6, 7, 0] (lv' := [(0, .ref x), (1, .int (nI k)), (2, .int i), (3, .int (nI k2)), (4, .int j), (5, .int n), (6, .ref s), (7, .ref s2)]) dX7_copy_12 rfl rfl ?_
  refine J.aload 6 dX7_copy_14 rfl ?_
  refine J.ifnull dX7_copy_16 ?_
  refine J.aload 7 dX7_copy_19 rfl ?_
  refine J.ifnonnull dX7_copy_21 ?_
  refine J.iload 5 dX7_copy_26 rfl ?_
  refine J.if_ge dX7_copy_28 (fun h9 => ?_) (fun h9 => ?_)
  · skip
    have h9 : (0 : Int) ≤ n.toInt := (fa_le _ _).mp h9
    refine J.aload 6 dX7_copy_37 rfl ?_
    refine J.get 2 fl_X7_100 dX7_copy_39 rfl rfl ?_
    refine J.if_eq dX7_copy_42 (fun z => absurd z (by decide)) (fun _ => ?_)
    refine J.aload 7 dX7_copy_45 rfl ?_
    refine J.get 3 fl_X7_100 dX7_copy_47 rfl rfl ?_
    refine J.if_ne dX7_copy_50 (fun z => absurd z (by decide)) (fun _ => ?_)
    refine J.aload_n 0 dX7_copy_53 rfl ?_
    refine J.iconst (1 : Int32) dX7_copy_54 rfl ?_
    refine J.re [0, 4, 1, 2, 3] 5 (ws2 := (x, .inr (7, [.ref (A 0), .int (nI ns), .ref (A 1), .int (nI nr), .ref (A 2), .ref (A 3), .ref (A 4), .ref (A 5), .ref (A 6), .ref (A 7), .ref (A 8), .ref (A 9), .long to, .int al, .int wa, .int lf, .ref (A 10)])) :: (A 10, .inl (G.2.1.1, 6, .inl fc)) :: (A 0, .inl (G.2.1.2.2.1, 12, .inr (.inr (.inr (.inr sa))))) :: (s, .inr (6, [.int kd, .ref la, .int (1 : Int32), .int wc])) :: (s2, .inr (6, [.int kd2, .ref la2, .int (0 : Int32), .int wc2])) :: r) rfl rfl ?_
    refine J.callV 0 (st := []) B (c_X7_found l G _ (c := 1) (by decide) (by decide)) ml_X7_87 mf_yX7_found mi_yX7_found rfl dX7_copy_55 rfl rfl rfl rfl (fun v_7 w_8 hp_9 => ?_)
    obtain ⟨rfl, rfl⟩ := hp_9
    refine J.re [0, 2, 3, 4, 1] 5 (ws2 := (x, .inr (7, [.ref (A 0), .int (nI ns), .ref (A 1), .int (nI nr), .ref (A 2), .ref (A 3), .ref (A 4), .ref (A 5), .ref (A 6), .ref (A 7), .ref (A 8), .ref (A 9), .long to, .int al, .int wa, .int (nI 1), .ref (A 10)])) :: (A 0, .inl (G.2.1.2.2.1, 12, .inr (.inr (.inr (.inr sa))))) :: (s, .inr (6, [.int kd, .ref la, .int (1 : Int32), .int wc])) :: (s2, .inr (6, [.int kd2, .ref la2, .int (0 : Int32), .int wc2])) :: (A 10, .inl (G.2.1.1, 6, .inl (upd fc 1 (fc 1 + 1)))) :: r) rfl rfl ?_
    show J G X mX7_copy _ _ _ 58 _ [.int (-3 : Int32)]
    exact J.iret B dX7_copy_58 rfl (⟨rfl, rfl⟩)
  · skip
    have h9 : ¬ (0 : Int) ≤ n.toInt := fun z => h9 ((fa_le _ _).mpr z)
    omega
set_option maxHeartbeats 4000000 in
set_option maxRecDepth 100000 in
theorem i_copy_by2 (l : Launch) (G : jG) (r : va_W) {x : Nat} {A : Nat → Nat} {ns nr : Nat} {to : Int64} {al wa lf : Int32} {sa : Nat → Option Nat} {la : Nat} {kd wc : Int32} {k s : Nat} (hk : k < ns) (hns : ns ≤ 12) (hsa : sa k = some s) {k2 s2 : Nat} (hk2 : k2 < ns) (hsa2 : sa k2 = some s2) {la2 : Nat} {kd2 wc2 : Int32} {fc : Nat → Int32} {i j n : Int32} (hn : 0 ≤ n.toInt) (hb : (decide (0 ≤ i.toInt ∧ i.toInt + n.toInt ≤ 60) && decide (0 ≤ j.toInt ∧ j.toInt + n.toInt ≤ 60)) = false) : Mt l G yX7_copy mX7_copy 1 40 0 0 [.ref x, .int (nI k), .int i, .int (nI k2), .int j, .int n] ((x, .inr (7, [.ref (A 0), .int (nI ns), .ref (A 1), .int (nI nr), .ref (A 2), .ref (A 3), .ref (A 4), .ref (A 5), .ref (A 6), .ref (A 7), .ref (A 8), .ref (A 9), .long to, .int al, .int wa, .int lf, .ref (A 10)])) :: (A 0, .inl (G.2.1.2.2.1, 12, .inr (.inr (.inr (.inr sa))))) :: (s, .inr (6, [.int kd, .ref la, .int (1 : Int32), .int wc])) :: (s2, .inr (6, [.int kd2, .ref la2, .int (1 : Int32), .int wc2])) :: (A 10, .inl (G.2.1.1, 6, .inl fc)) :: r) (fun v w => v = some (.int (-3 : Int32)) ∧ w = (x, .inr (7, [.ref (A 0), .int (nI ns), .ref (A 1), .int (nI nr), .ref (A 2), .ref (A 3), .ref (A 4), .ref (A 5), .ref (A 6), .ref (A 7), .ref (A 8), .ref (A 9), .long to, .int al, .int wa, .int (nI 2), .ref (A 10)])) :: (A 0, .inl (G.2.1.2.2.1, 12, .inr (.inr (.inr (.inr sa))))) :: (s, .inr (6, [.int kd, .ref la, .int (1 : Int32), .int wc])) :: (s2, .inr (6, [.int kd2, .ref la2, .int (1 : Int32), .int wc2])) :: (A 10, .inl (G.2.1.1, 6, .inl (upd fc 2 (fc 2 + 1)))) :: r) := by
  refine Mt.of (by decide +kernel) rfl rfl (fun X B => ?_)
  show J G X mX7_copy ((x, .inr (7, [.ref (A 0), .int (nI ns), .ref (A 1), .int (nI nr), .ref (A 2), .ref (A 3), .ref (A 4), .ref (A 5), .ref (A 6), .ref (A 7), .ref (A 8), .ref (A 9), .long to, .int al, .int wa, .int lf, .ref (A 10)])) :: (A 0, .inl (G.2.1.2.2.1, 12, .inr (.inr (.inr (.inr sa))))) :: (s, .inr (6, [.int kd, .ref la, .int (1 : Int32), .int wc])) :: (s2, .inr (6, [.int kd2, .ref la2, .int (1 : Int32), .int wc2])) :: (A 10, .inl (G.2.1.1, 6, .inl fc)) :: r) 0 0 0 [(0, .ref x), (1, .int (nI k)), (2, .int i), (3, .int (nI k2)), (4, .int j), (5, .int n)] []
  refine J.aload_n 0 dX7_copy_0 rfl ?_
  refine J.iload_n 1 dX7_copy_1 rfl ?_
  refine J.callV 0 (st := []) B (c_X7_starNumbered l G _ hk hns hsa) ml_X7_80 mf_yX7_starNumbered mi_yX7_starNumbered rfl dX7_copy_2 rfl rfl rfl rfl (fun v_1 w_2 hp_3 => ?_)
  obtain ⟨rfl, rfl⟩ := hp_3
  show J G X mX7_copy _ _ _ 5 _ [.ref s]
  refine J.astore [1, 2, 3, 4, 5, 6, 0] (lv' := [(0, .ref x), (1, .int (nI k)), (2, .int i), (3, .int (nI k2)), (4, .int j), (5, .int n), (6, .ref s)]) dX7_copy_5 rfl rfl ?_
  refine J.aload_n 0 dX7_copy_7 rfl ?_
  refine J.iload_n 3 dX7_copy_8 rfl ?_
  refine J.callV 0 (st := []) B (c_X7_starNumbered l G _ hk2 hns hsa2) ml_X7_80 mf_yX7_starNumbered mi_yX7_starNumbered rfl dX7_copy_9 rfl rfl rfl rfl (fun v_4 w_5 hp_6 => ?_)
  obtain ⟨rfl, rfl⟩ := hp_6
  show J G X mX7_copy _ _ _ 12 _ [.ref s2]
  refine J.astore [1, 2, 3, 4, 5, 6, 7, 0] (lv' := [(0, .ref x), (1, .int (nI k)), (2, .int i), (3, .int (nI k2)), (4, .int j), (5, .int n), (6, .ref s), (7, .ref s2)]) dX7_copy_12 rfl rfl ?_
  refine J.aload 6 dX7_copy_14 rfl ?_
  refine J.ifnull dX7_copy_16 ?_
  refine J.aload 7 dX7_copy_19 rfl ?_
  refine J.ifnonnull dX7_copy_21 ?_
  refine J.iload 5 dX7_copy_26 rfl ?_
  refine J.if_ge dX7_copy_28 (fun h9 => ?_) (fun h9 => ?_)
  · skip
    have h9 : (0 : Int) ≤ n.toInt := (fa_le _ _).mp h9
    refine J.aload 6 dX7_copy_37 rfl ?_
    refine J.get 2 fl_X7_100 dX7_copy_39 rfl rfl ?_
    refine J.if_eq dX7_copy_42 (fun z => absurd z (by decide)) (fun _ => ?_)
    refine J.aload 7 dX7_copy_45 rfl ?_
    refine J.get 3 fl_X7_100 dX7_copy_47 rfl rfl ?_
    refine J.if_ne dX7_copy_50 (fun _ => ?_) (fun z => absurd z (by decide))
    refine J.iload_n 2 dX7_copy_59 rfl ?_
    refine J.iload 5 dX7_copy_60 rfl ?_
    refine J.callS (st := []) B (c_X7_areNights l G _ (f := i) (n := n) hn) ml_X7_122 mf_yX7_areNights mS_yX7_areNights dX7_copy_62 rfl rfl rfl (fun v_7 w_8 hp_9 => ?_)
    obtain ⟨rfl, rfl⟩ := hp_9
    show J G X mX7_copy _ _ _ 65 _ [.int (b01 (decide (0 ≤ i.toInt ∧ i.toInt + n.toInt ≤ 60)))]
    refine J.if_eq dX7_copy_65 (fun h8 => ?_) (fun h8 => ?_)
    · skip
      refine J.aload_n 0 dX7_copy_78 rfl ?_
      refine J.iconst (2 : Int32) dX7_copy_79 rfl ?_
      refine J.re [0, 4, 1, 2, 3] 5 (ws2 := (x, .inr (7, [.ref (A 0), .int (nI ns), .ref (A 1), .int (nI nr), .ref (A 2), .ref (A 3), .ref (A 4), .ref (A 5), .ref (A 6), .ref (A 7), .ref (A 8), .ref (A 9), .long to, .int al, .int wa, .int lf, .ref (A 10)])) :: (A 10, .inl (G.2.1.1, 6, .inl fc)) :: (A 0, .inl (G.2.1.2.2.1, 12, .inr (.inr (.inr (.inr sa))))) :: (s, .inr (6, [.int kd, .ref la, .int (1 : Int32), .int wc])) :: (s2, .inr (6, [.int kd2, .ref la2, .int (1 : Int32), .int wc2])) :: r) rfl rfl ?_
      refine J.callV 0 (st := []) B (c_X7_found l G _ (c := 2) (by decide) (by decide)) ml_X7_87 mf_yX7_found mi_yX7_found rfl dX7_copy_80 rfl rfl rfl rfl (fun v_10 w_11 hp_12 => ?_)
      obtain ⟨rfl, rfl⟩ := hp_12
      refine J.re [0, 2, 3, 4, 1] 5 (ws2 := (x, .inr (7, [.ref (A 0), .int (nI ns), .ref (A 1), .int (nI nr), .ref (A 2), .ref (A 3), .ref (A 4), .ref (A 5), .ref (A 6), .ref (A 7), .ref (A 8), .ref (A 9), .long to, .int al, .int wa, .int (nI 2), .ref (A 10)])) :: (A 0, .inl (G.2.1.2.2.1, 12, .inr (.inr (.inr (.inr sa))))) :: (s, .inr (6, [.int kd, .ref la, .int (1 : Int32), .int wc])) :: (s2, .inr (6, [.int kd2, .ref la2, .int (1 : Int32), .int wc2])) :: (A 10, .inl (G.2.1.1, 6, .inl (upd fc 2 (fc 2 + 1)))) :: r) rfl rfl ?_
      show J G X mX7_copy _ _ _ 83 _ [.int (-3 : Int32)]
      exact J.iret B dX7_copy_83 rfl (⟨rfl, rfl⟩)
    · skip
      refine J.iload 4 dX7_copy_68 rfl ?_
      refine J.iload 5 dX7_copy_70 rfl ?_
      refine J.callS (st := []) B (c_X7_areNights l G _ (f := j) (n := n) hn) ml_X7_122 mf_yX7_areNights mS_yX7_areNights dX7_copy_72 rfl rfl rfl (fun v_13 w_14 hp_15 => ?_)
      obtain ⟨rfl, rfl⟩ := hp_15
      show J G X mX7_copy _ _ _ 75 _ [.int (b01 (decide (0 ≤ j.toInt ∧ j.toInt + n.toInt ≤ 60)))]
      refine J.if_ne dX7_copy_75 (fun h7 => ?_) (fun h7 => ?_)
      · skip
        exact absurd (by rw [b01_1 h8, b01_1 h7]; rfl) (Bool.eq_false_iff.mp hb)
      · skip
        refine J.aload_n 0 dX7_copy_78 rfl ?_
        refine J.iconst (2 : Int32) dX7_copy_79 rfl ?_
        refine J.re [0, 4, 1, 2, 3] 5 (ws2 := (x, .inr (7, [.ref (A 0), .int (nI ns), .ref (A 1), .int (nI nr), .ref (A 2), .ref (A 3), .ref (A 4), .ref (A 5), .ref (A 6), .ref (A 7), .ref (A 8), .ref (A 9), .long to, .int al, .int wa, .int lf, .ref (A 10)])) :: (A 10, .inl (G.2.1.1, 6, .inl fc)) :: (A 0, .inl (G.2.1.2.2.1, 12, .inr (.inr (.inr (.inr sa))))) :: (s, .inr (6, [.int kd, .ref la, .int (1 : Int32), .int wc])) :: (s2, .inr (6, [.int kd2, .ref la2, .int (1 : Int32), .int wc2])) :: r) rfl rfl ?_
        refine J.callV 0 (st := []) B (c_X7_found l G _ (c := 2) (by decide) (by decide)) ml_X7_87 mf_yX7_found mi_yX7_found rfl dX7_copy_80 rfl rfl rfl rfl (fun v_16 w_17 hp_18 => ?_)
        obtain ⟨rfl, rfl⟩ := hp_18
        refine J.re [0, 2, 3, 4, 1] 5 (ws2 := (x, .inr (7, [.ref (A 0), .int (nI ns), .ref (A 1), .int (nI nr), .ref (A 2), .ref (A 3), .ref (A 4), .ref (A 5), .ref (A 6), .ref (A 7), .ref (A 8), .ref (A 9), .long to, .int al, .int wa, .int (nI 2), .ref (A 10)])) :: (A 0, .inl (G.2.1.2.2.1, 12, .inr (.inr (.inr (.inr sa))))) :: (s, .inr (6, [.int kd, .ref la, .int (1 : Int32), .int wc])) :: (s2, .inr (6, [.int kd2, .ref la2, .int (1 : Int32), .int wc2])) :: (A 10, .inl (G.2.1.1, 6, .inl (upd fc 2 (fc 2 + 1)))) :: r) rfl rfl ?_
        show J G X mX7_copy _ _ _ 83 _ [.int (-3 : Int32)]
        exact J.iret B dX7_copy_83 rfl (⟨rfl, rfl⟩)
  · skip
    have h9 : ¬ (0 : Int) ≤ n.toInt := fun z => h9 ((fa_le _ _).mpr z)
    omega
set_option maxHeartbeats 4000000 in
set_option maxRecDepth 100000 in
theorem i_copy_by1 (l : Launch) (G : jG) (r : va_W) {x : Nat} {A : Nat → Nat} {ns nr : Nat} {to : Int64} {al wa lf : Int32} {sa : Nat → Option Nat} {la : Nat} {kd wc : Int32} {k s : Nat} (hk : k < ns) (hns : ns ≤ 12) (hsa : sa k = some s) {fc : Nat → Int32} {i j n : Int32} (hn : 0 ≤ n.toInt) (hb : (decide (0 ≤ i.toInt ∧ i.toInt + n.toInt ≤ 60) && decide (0 ≤ j.toInt ∧ j.toInt + n.toInt ≤ 60)) = false) : Mt l G yX7_copy mX7_copy 1 40 0 0 [.ref x, .int (nI k), .int i, .int (nI k), .int j, .int n] ((x, .inr (7, [.ref (A 0), .int (nI ns), .ref (A 1), .int (nI nr), .ref (A 2), .ref (A 3), .ref (A 4), .ref (A 5), .ref (A 6), .ref (A 7), .ref (A 8), .ref (A 9), .long to, .int al, .int wa, .int lf, .ref (A 10)])) :: (A 0, .inl (G.2.1.2.2.1, 12, .inr (.inr (.inr (.inr sa))))) :: (s, .inr (6, [.int kd, .ref la, .int (1 : Int32), .int wc])) :: (A 10, .inl (G.2.1.1, 6, .inl fc)) :: r) (fun v w => v = some (.int (-3 : Int32)) ∧ w = (x, .inr (7, [.ref (A 0), .int (nI ns), .ref (A 1), .int (nI nr), .ref (A 2), .ref (A 3), .ref (A 4), .ref (A 5), .ref (A 6), .ref (A 7), .ref (A 8), .ref (A 9), .long to, .int al, .int wa, .int (nI 2), .ref (A 10)])) :: (A 0, .inl (G.2.1.2.2.1, 12, .inr (.inr (.inr (.inr sa))))) :: (s, .inr (6, [.int kd, .ref la, .int (1 : Int32), .int wc])) :: (A 10, .inl (G.2.1.1, 6, .inl (upd fc 2 (fc 2 + 1)))) :: r) := by
  refine Mt.of (by decide +kernel) rfl rfl (fun X B => ?_)
  show J G X mX7_copy ((x, .inr (7, [.ref (A 0), .int (nI ns), .ref (A 1), .int (nI nr), .ref (A 2), .ref (A 3), .ref (A 4), .ref (A 5), .ref (A 6), .ref (A 7), .ref (A 8), .ref (A 9), .long to, .int al, .int wa, .int lf, .ref (A 10)])) :: (A 0, .inl (G.2.1.2.2.1, 12, .inr (.inr (.inr (.inr sa))))) :: (s, .inr (6, [.int kd, .ref la, .int (1 : Int32), .int wc])) :: (A 10, .inl (G.2.1.1, 6, .inl fc)) :: r) 0 0 0 [(0, .ref x), (1, .int (nI k)), (2, .int i), (3, .int (nI k)), (4, .int j), (5, .int n)] []
  refine J.aload_n 0 dX7_copy_0 rfl ?_
  refine J.iload_n 1 dX7_copy_1 rfl ?_
  refine J.callV 0 (st := []) B (c_X7_starNumbered l G _ hk hns hsa) ml_X7_80 mf_yX7_starNumbered mi_yX7_starNumbered rfl dX7_copy_2 rfl rfl rfl rfl (fun v_1 w_2 hp_3 => ?_)
  obtain ⟨rfl, rfl⟩ := hp_3
  show J G X mX7_copy _ _ _ 5 _ [.ref s]
  refine J.astore [1, 2, 3, 4, 5, 6, 0] (lv' := [(0, .ref x), (1, .int (nI k)), (2, .int i), (3, .int (nI k)), (4, .int j), (5, .int n), (6, .ref s)]) dX7_copy_5 rfl rfl ?_
  refine J.aload_n 0 dX7_copy_7 rfl ?_
  refine J.iload_n 3 dX7_copy_8 rfl ?_
  refine J.callV 0 (st := []) B (c_X7_starNumbered l G _ hk hns hsa) ml_X7_80 mf_yX7_starNumbered mi_yX7_starNumbered rfl dX7_copy_9 rfl rfl rfl rfl (fun v_4 w_5 hp_6 => ?_)
  obtain ⟨rfl, rfl⟩ := hp_6
  show J G X mX7_copy _ _ _ 12 _ [.ref s]
  refine J.astore [1, 2, 3, 4, 5, 6, 7, 0] (lv' := [(0, .ref x), (1, .int (nI k)), (2, .int i), (3, .int (nI k)), (4, .int j), (5, .int n), (6, .ref s), (7, .ref s)]) dX7_copy_12 rfl rfl ?_
  refine J.aload 6 dX7_copy_14 rfl ?_
  refine J.ifnull dX7_copy_16 ?_
  refine J.aload 7 dX7_copy_19 rfl ?_
  refine J.ifnonnull dX7_copy_21 ?_
  refine J.iload 5 dX7_copy_26 rfl ?_
  refine J.if_ge dX7_copy_28 (fun h9 => ?_) (fun h9 => ?_)
  · skip
    have h9 : (0 : Int) ≤ n.toInt := (fa_le _ _).mp h9
    refine J.aload 6 dX7_copy_37 rfl ?_
    refine J.get 2 fl_X7_100 dX7_copy_39 rfl rfl ?_
    refine J.if_eq dX7_copy_42 (fun z => absurd z (by decide)) (fun _ => ?_)
    refine J.aload 7 dX7_copy_45 rfl ?_
    refine J.get 2 fl_X7_100 dX7_copy_47 rfl rfl ?_
    refine J.if_ne dX7_copy_50 (fun _ => ?_) (fun z => absurd z (by decide))
    refine J.iload_n 2 dX7_copy_59 rfl ?_
    refine J.iload 5 dX7_copy_60 rfl ?_
    refine J.callS (st := []) B (c_X7_areNights l G _ (f := i) (n := n) hn) ml_X7_122 mf_yX7_areNights mS_yX7_areNights dX7_copy_62 rfl rfl rfl (fun v_7 w_8 hp_9 => ?_)
    obtain ⟨rfl, rfl⟩ := hp_9
    show J G X mX7_copy _ _ _ 65 _ [.int (b01 (decide (0 ≤ i.toInt ∧ i.toInt + n.toInt ≤ 60)))]
    refine J.if_eq dX7_copy_65 (fun h8 => ?_) (fun h8 => ?_)
    · skip
      refine J.aload_n 0 dX7_copy_78 rfl ?_
      refine J.iconst (2 : Int32) dX7_copy_79 rfl ?_
      refine J.re [0, 3, 1, 2] 4 (ws2 := (x, .inr (7, [.ref (A 0), .int (nI ns), .ref (A 1), .int (nI nr), .ref (A 2), .ref (A 3), .ref (A 4), .ref (A 5), .ref (A 6), .ref (A 7), .ref (A 8), .ref (A 9), .long to, .int al, .int wa, .int lf, .ref (A 10)])) :: (A 10, .inl (G.2.1.1, 6, .inl fc)) :: (A 0, .inl (G.2.1.2.2.1, 12, .inr (.inr (.inr (.inr sa))))) :: (s, .inr (6, [.int kd, .ref la, .int (1 : Int32), .int wc])) :: r) rfl rfl ?_
      refine J.callV 0 (st := []) B (c_X7_found l G _ (c := 2) (by decide) (by decide)) ml_X7_87 mf_yX7_found mi_yX7_found rfl dX7_copy_80 rfl rfl rfl rfl (fun v_10 w_11 hp_12 => ?_)
      obtain ⟨rfl, rfl⟩ := hp_12
      refine J.re [0, 2, 3, 1] 4 (ws2 := (x, .inr (7, [.ref (A 0), .int (nI ns), .ref (A 1), .int (nI nr), .ref (A 2), .ref (A 3), .ref (A 4), .ref (A 5), .ref (A 6), .ref (A 7), .ref (A 8), .ref (A 9), .long to, .int al, .int wa, .int (nI 2), .ref (A 10)])) :: (A 0, .inl (G.2.1.2.2.1, 12, .inr (.inr (.inr (.inr sa))))) :: (s, .inr (6, [.int kd, .ref la, .int (1 : Int32), .int wc])) :: (A 10, .inl (G.2.1.1, 6, .inl (upd fc 2 (fc 2 + 1)))) :: r) rfl rfl ?_
      show J G X mX7_copy _ _ _ 83 _ [.int (-3 : Int32)]
      exact J.iret B dX7_copy_83 rfl (⟨rfl, rfl⟩)
    · skip
      refine J.iload 4 dX7_copy_68 rfl ?_
      refine J.iload 5 dX7_copy_70 rfl ?_
      refine J.callS (st := []) B (c_X7_areNights l G _ (f := j) (n := n) hn) ml_X7_122 mf_yX7_areNights mS_yX7_areNights dX7_copy_72 rfl rfl rfl (fun v_13 w_14 hp_15 => ?_)
      obtain ⟨rfl, rfl⟩ := hp_15
      show J G X mX7_copy _ _ _ 75 _ [.int (b01 (decide (0 ≤ j.toInt ∧ j.toInt + n.toInt ≤ 60)))]
      refine J.if_ne dX7_copy_75 (fun h7 => ?_) (fun h7 => ?_)
      · skip
        exact absurd (by rw [b01_1 h8, b01_1 h7]; rfl) (Bool.eq_false_iff.mp hb)
      · skip
        refine J.aload_n 0 dX7_copy_78 rfl ?_
        refine J.iconst (2 : Int32) dX7_copy_79 rfl ?_
        refine J.re [0, 3, 1, 2] 4 (ws2 := (x, .inr (7, [.ref (A 0), .int (nI ns), .ref (A 1), .int (nI nr), .ref (A 2), .ref (A 3), .ref (A 4), .ref (A 5), .ref (A 6), .ref (A 7), .ref (A 8), .ref (A 9), .long to, .int al, .int wa, .int lf, .ref (A 10)])) :: (A 10, .inl (G.2.1.1, 6, .inl fc)) :: (A 0, .inl (G.2.1.2.2.1, 12, .inr (.inr (.inr (.inr sa))))) :: (s, .inr (6, [.int kd, .ref la, .int (1 : Int32), .int wc])) :: r) rfl rfl ?_
        refine J.callV 0 (st := []) B (c_X7_found l G _ (c := 2) (by decide) (by decide)) ml_X7_87 mf_yX7_found mi_yX7_found rfl dX7_copy_80 rfl rfl rfl rfl (fun v_16 w_17 hp_18 => ?_)
        obtain ⟨rfl, rfl⟩ := hp_18
        refine J.re [0, 2, 3, 1] 4 (ws2 := (x, .inr (7, [.ref (A 0), .int (nI ns), .ref (A 1), .int (nI nr), .ref (A 2), .ref (A 3), .ref (A 4), .ref (A 5), .ref (A 6), .ref (A 7), .ref (A 8), .ref (A 9), .long to, .int al, .int wa, .int (nI 2), .ref (A 10)])) :: (A 0, .inl (G.2.1.2.2.1, 12, .inr (.inr (.inr (.inr sa))))) :: (s, .inr (6, [.int kd, .ref la, .int (1 : Int32), .int wc])) :: (A 10, .inl (G.2.1.1, 6, .inl (upd fc 2 (fc 2 + 1)))) :: r) rfl rfl ?_
        show J G X mX7_copy _ _ _ 83 _ [.int (-3 : Int32)]
        exact J.iret B dX7_copy_83 rfl (⟨rfl, rfl⟩)
  · skip
    have h9 : ¬ (0 : Int) ≤ n.toInt := fun z => h9 ((fa_le _ _).mpr z)
    omega
set_option maxHeartbeats 4000000 in
set_option maxRecDepth 100000 in
theorem i_copy2 (l : Launch) (G : jG) (r : va_W) {x : Nat} {A : Nat → Nat} {ns nr : Nat} {to : Int64} {al wa lf : Int32} {sa : Nat → Option Nat} {la : Nat} {kd wc : Int32} {k s : Nat} (hk : k < ns) (hns : ns ≤ 12) (hsa : sa k = some s) {k2 s2 : Nat} (hk2 : k2 < ns) (hsa2 : sa k2 = some s2) {la2 : Nat} {kd2 wc2 : Int32} {L L2 : Nat → Int32} {i j n : Nat} (h1 : i + n ≤ 60) (h2 : j + n ≤ 60) : Mt l G yX7_copy mX7_copy 1 40 0 0 [.ref x, .int (nI k), .int (nI i), .int (nI k2), .int (nI j), .int (nI n)] ((x, .inr (7, [.ref (A 0), .int (nI ns), .ref (A 1), .int (nI nr), .ref (A 2), .ref (A 3), .ref (A 4), .ref (A 5), .ref (A 6), .ref (A 7), .ref (A 8), .ref (A 9), .long to, .int al, .int wa, .int lf, .ref (A 10)])) :: (A 0, .inl (G.2.1.2.2.1, 12, .inr (.inr (.inr (.inr sa))))) :: (s, .inr (6, [.int kd, .ref la, .int (1 : Int32), .int wc])) :: (la, .inl (G.2.1.1, 60, .inl L)) :: (s2, .inr (6, [.int kd2, .ref la2, .int (1 : Int32), .int wc2])) :: (la2, .inl (G.2.1.1, 60, .inl L2)) :: r) (fun v w => v = some (.int (1 : Int32)) ∧ w = (x, .inr (7, [.ref (A 0), .int (nI ns), .ref (A 1), .int (nI nr), .ref (A 2), .ref (A 3), .ref (A 4), .ref (A 5), .ref (A 6), .ref (A 7), .ref (A 8), .ref (A 9), .long to, .int al, .int wa, .int lf, .ref (A 10)])) :: (A 0, .inl (G.2.1.2.2.1, 12, .inr (.inr (.inr (.inr sa))))) :: (s, .inr (6, [.int kd, .ref la, .int (1 : Int32), .int wc])) :: (la, .inl (G.2.1.1, 60, .inl L)) :: (s2, .inr (6, [.int kd2, .ref la2, .int (1 : Int32), .int wc2])) :: (la2, .inl (G.2.1.1, 60, .inl (va_cpy L L2 i j n))) :: r) := by
  refine Mt.of (by decide +kernel) rfl rfl (fun X B => ?_)
  show J G X mX7_copy ((x, .inr (7, [.ref (A 0), .int (nI ns), .ref (A 1), .int (nI nr), .ref (A 2), .ref (A 3), .ref (A 4), .ref (A 5), .ref (A 6), .ref (A 7), .ref (A 8), .ref (A 9), .long to, .int al, .int wa, .int lf, .ref (A 10)])) :: (A 0, .inl (G.2.1.2.2.1, 12, .inr (.inr (.inr (.inr sa))))) :: (s, .inr (6, [.int kd, .ref la, .int (1 : Int32), .int wc])) :: (la, .inl (G.2.1.1, 60, .inl L)) :: (s2, .inr (6, [.int kd2, .ref la2, .int (1 : Int32), .int wc2])) :: (la2, .inl (G.2.1.1, 60, .inl L2)) :: r) 0 0 0 [(0, .ref x), (1, .int (nI k)), (2, .int (nI i)), (3, .int (nI k2)), (4, .int (nI j)), (5, .int (nI n))] []
  have hn : 0 ≤ (nI n).toInt := by rw [nI_toInt (by omega)]; omega
  have ha1 : decide (0 ≤ (nI i).toInt ∧ (nI i).toInt + (nI n).toInt ≤ 60) = true := by rw [nI_toInt (by omega), nI_toInt (by omega)]; exact decide_eq_true ⟨by omega, by omega⟩
  have ha2 : decide (0 ≤ (nI j).toInt ∧ (nI j).toInt + (nI n).toInt ≤ 60) = true := by rw [nI_toInt (by omega), nI_toInt (by omega)]; exact decide_eq_true ⟨by omega, by omega⟩
  refine J.aload_n 0 dX7_copy_0 rfl ?_
  refine J.iload_n 1 dX7_copy_1 rfl ?_
  refine J.callV 0 (st := []) B (c_X7_starNumbered l G _ hk hns hsa) ml_X7_80 mf_yX7_starNumbered mi_yX7_starNumbered rfl dX7_copy_2 rfl rfl rfl rfl (fun v_1 w_2 hp_3 => ?_)
  obtain ⟨rfl, rfl⟩ := hp_3
  show J G X mX7_copy _ _ _ 5 _ [.ref s]
  refine J.astore [1, 2, 3, 4, 5, 6, 0] (lv' := [(0, .ref x), (1, .int (nI k)), (2, .int (nI i)), (3, .int (nI k2)), (4, .int (nI j)), (5, .int (nI n)), (6, .ref s)]) dX7_copy_5 rfl rfl ?_
  refine J.aload_n 0 dX7_copy_7 rfl ?_
  refine J.iload_n 3 dX7_copy_8 rfl ?_
  refine J.callV 0 (st := []) B (c_X7_starNumbered l G _ hk2 hns hsa2) ml_X7_80 mf_yX7_starNumbered mi_yX7_starNumbered rfl dX7_copy_9 rfl rfl rfl rfl (fun v_4 w_5 hp_6 => ?_)
  obtain ⟨rfl, rfl⟩ := hp_6
  show J G X mX7_copy _ _ _ 12 _ [.ref s2]
  refine J.astore [1, 2, 3, 4, 5, 6, 7, 0] (lv' := [(0, .ref x), (1, .int (nI k)), (2, .int (nI i)), (3, .int (nI k2)), (4, .int (nI j)), (5, .int (nI n)), (6, .ref s), (7, .ref s2)]) dX7_copy_12 rfl rfl ?_
  refine J.aload 6 dX7_copy_14 rfl ?_
  refine J.ifnull dX7_copy_16 ?_
  refine J.aload 7 dX7_copy_19 rfl ?_
  refine J.ifnonnull dX7_copy_21 ?_
  refine J.iload 5 dX7_copy_26 rfl ?_
  refine J.if_ge dX7_copy_28 (fun h9 => ?_) (fun h9 => ?_)
  · skip
    have h9 : 0 ≤ n := (nI_leI (a := 0) (b := n) (by omega) (by omega)).mp h9
    refine J.aload 6 dX7_copy_37 rfl ?_
    refine J.get 2 fl_X7_100 dX7_copy_39 rfl rfl ?_
    refine J.if_eq dX7_copy_42 (fun z => absurd z (by decide)) (fun _ => ?_)
    refine J.aload 7 dX7_copy_45 rfl ?_
    refine J.get 4 fl_X7_100 dX7_copy_47 rfl rfl ?_
    refine J.if_ne dX7_copy_50 (fun _ => ?_) (fun z => absurd z (by decide))
    refine J.iload_n 2 dX7_copy_59 rfl ?_
    refine J.iload 5 dX7_copy_60 rfl ?_
    refine J.callS (st := []) B (c_X7_areNights l G _ (f := nI i) (n := nI n) hn) ml_X7_122 mf_yX7_areNights mS_yX7_areNights dX7_copy_62 rfl rfl rfl (fun v_7 w_8 hp_9 => ?_)
    obtain ⟨rfl, rfl⟩ := hp_9
    show J G X mX7_copy _ _ _ 65 _ [.int (b01 (decide (0 ≤ (nI i).toInt ∧ (nI i).toInt + (nI n).toInt ≤ 60)))]
    refine J.if_eq dX7_copy_65 (fun z => absurd z (by rw [ha1]; decide)) (fun h8 => ?_)
    refine J.iload 4 dX7_copy_68 rfl ?_
    refine J.iload 5 dX7_copy_70 rfl ?_
    refine J.callS (st := []) B (c_X7_areNights l G _ (f := nI j) (n := nI n) hn) ml_X7_122 mf_yX7_areNights mS_yX7_areNights dX7_copy_72 rfl rfl rfl (fun v_10 w_11 hp_12 => ?_)
    obtain ⟨rfl, rfl⟩ := hp_12
    show J G X mX7_copy _ _ _ 75 _ [.int (b01 (decide (0 ≤ (nI j).toInt ∧ (nI j).toInt + (nI n).toInt ≤ 60)))]
    refine J.if_ne dX7_copy_75 (fun h7 => ?_) (fun z => absurd z (by rw [ha2]; decide))
    refine J.aload 6 dX7_copy_84 rfl ?_
    refine J.get 2 fl_X7_112 dX7_copy_86 rfl rfl ?_
    refine J.iload_n 2 dX7_copy_89 rfl ?_
    refine J.aload 7 dX7_copy_90 rfl ?_
    refine J.get 4 fl_X7_112 dX7_copy_92 rfl rfl ?_
    refine J.iload 4 dX7_copy_95 rfl ?_
    refine J.iload 5 dX7_copy_97 rfl ?_
    refine J.acopy 3 5 B (i := i) (j := j) (c := n) dX7_copy_99 wac_l rfl rfl h1 h2 rfl (ws' := (x, .inr (7, [.ref (A 0), .int (nI ns), .ref (A 1), .int (nI nr), .ref (A 2), .ref (A 3), .ref (A 4), .ref (A 5), .ref (A 6), .ref (A 7), .ref (A 8), .ref (A 9), .long to, .int al, .int wa, .int lf, .ref (A 10)])) :: (A 0, .inl (G.2.1.2.2.1, 12, .inr (.inr (.inr (.inr sa))))) :: (s, .inr (6, [.int kd, .ref la, .int (1 : Int32), .int wc])) :: (la, .inl (G.2.1.1, 60, .inl L)) :: (s2, .inr (6, [.int kd2, .ref la2, .int (1 : Int32), .int wc2])) :: (la2, .inl (G.2.1.1, 60, .inl (va_cpy L L2 i j n))) :: r) rfl ?_
    refine J.iconst (1 : Int32) dX7_copy_102 rfl ?_
    exact J.iret B dX7_copy_103 rfl (⟨rfl, rfl⟩)
  · skip
    have h9 : ¬ 0 ≤ n := fun z => h9 ((nI_leI (a := 0) (b := n) (by omega) (by omega)).mpr z)
    omega
set_option maxHeartbeats 4000000 in
set_option maxRecDepth 100000 in
theorem i_copy1 (l : Launch) (G : jG) (r : va_W) {x : Nat} {A : Nat → Nat} {ns nr : Nat} {to : Int64} {al wa lf : Int32} {sa : Nat → Option Nat} {la : Nat} {kd wc : Int32} {k s : Nat} (hk : k < ns) (hns : ns ≤ 12) (hsa : sa k = some s) {L : Nat → Int32} {i j n : Nat} (h1 : i + n ≤ 60) (h2 : j + n ≤ 60) : Mt l G yX7_copy mX7_copy 1 40 0 0 [.ref x, .int (nI k), .int (nI i), .int (nI k), .int (nI j), .int (nI n)] ((x, .inr (7, [.ref (A 0), .int (nI ns), .ref (A 1), .int (nI nr), .ref (A 2), .ref (A 3), .ref (A 4), .ref (A 5), .ref (A 6), .ref (A 7), .ref (A 8), .ref (A 9), .long to, .int al, .int wa, .int lf, .ref (A 10)])) :: (A 0, .inl (G.2.1.2.2.1, 12, .inr (.inr (.inr (.inr sa))))) :: (s, .inr (6, [.int kd, .ref la, .int (1 : Int32), .int wc])) :: (la, .inl (G.2.1.1, 60, .inl L)) :: r) (fun v w => v = some (.int (1 : Int32)) ∧ w = (x, .inr (7, [.ref (A 0), .int (nI ns), .ref (A 1), .int (nI nr), .ref (A 2), .ref (A 3), .ref (A 4), .ref (A 5), .ref (A 6), .ref (A 7), .ref (A 8), .ref (A 9), .long to, .int al, .int wa, .int lf, .ref (A 10)])) :: (A 0, .inl (G.2.1.2.2.1, 12, .inr (.inr (.inr (.inr sa))))) :: (s, .inr (6, [.int kd, .ref la, .int (1 : Int32), .int wc])) :: (la, .inl (G.2.1.1, 60, .inl (va_cpy L L i j n))) :: r) := by
  refine Mt.of (by decide +kernel) rfl rfl (fun X B => ?_)
  show J G X mX7_copy ((x, .inr (7, [.ref (A 0), .int (nI ns), .ref (A 1), .int (nI nr), .ref (A 2), .ref (A 3), .ref (A 4), .ref (A 5), .ref (A 6), .ref (A 7), .ref (A 8), .ref (A 9), .long to, .int al, .int wa, .int lf, .ref (A 10)])) :: (A 0, .inl (G.2.1.2.2.1, 12, .inr (.inr (.inr (.inr sa))))) :: (s, .inr (6, [.int kd, .ref la, .int (1 : Int32), .int wc])) :: (la, .inl (G.2.1.1, 60, .inl L)) :: r) 0 0 0 [(0, .ref x), (1, .int (nI k)), (2, .int (nI i)), (3, .int (nI k)), (4, .int (nI j)), (5, .int (nI n))] []
  have hn : 0 ≤ (nI n).toInt := by rw [nI_toInt (by omega)]; omega
  have ha1 : decide (0 ≤ (nI i).toInt ∧ (nI i).toInt + (nI n).toInt ≤ 60) = true := by rw [nI_toInt (by omega), nI_toInt (by omega)]; exact decide_eq_true ⟨by omega, by omega⟩
  have ha2 : decide (0 ≤ (nI j).toInt ∧ (nI j).toInt + (nI n).toInt ≤ 60) = true := by rw [nI_toInt (by omega), nI_toInt (by omega)]; exact decide_eq_true ⟨by omega, by omega⟩
  refine J.aload_n 0 dX7_copy_0 rfl ?_
  refine J.iload_n 1 dX7_copy_1 rfl ?_
  refine J.callV 0 (st := []) B (c_X7_starNumbered l G _ hk hns hsa) ml_X7_80 mf_yX7_starNumbered mi_yX7_starNumbered rfl dX7_copy_2 rfl rfl rfl rfl (fun v_1 w_2 hp_3 => ?_)
  obtain ⟨rfl, rfl⟩ := hp_3
  show J G X mX7_copy _ _ _ 5 _ [.ref s]
  refine J.astore [1, 2, 3, 4, 5, 6, 0] (lv' := [(0, .ref x), (1, .int (nI k)), (2, .int (nI i)), (3, .int (nI k)), (4, .int (nI j)), (5, .int (nI n)), (6, .ref s)]) dX7_copy_5 rfl rfl ?_
  refine J.aload_n 0 dX7_copy_7 rfl ?_
  refine J.iload_n 3 dX7_copy_8 rfl ?_
  refine J.callV 0 (st := []) B (c_X7_starNumbered l G _ hk hns hsa) ml_X7_80 mf_yX7_starNumbered mi_yX7_starNumbered rfl dX7_copy_9 rfl rfl rfl rfl (fun v_4 w_5 hp_6 => ?_)
  obtain ⟨rfl, rfl⟩ := hp_6
  show J G X mX7_copy _ _ _ 12 _ [.ref s]
  refine J.astore [1, 2, 3, 4, 5, 6, 7, 0] (lv' := [(0, .ref x), (1, .int (nI k)), (2, .int (nI i)), (3, .int (nI k)), (4, .int (nI j)), (5, .int (nI n)), (6, .ref s), (7, .ref s)]) dX7_copy_12 rfl rfl ?_
  refine J.aload 6 dX7_copy_14 rfl ?_
  refine J.ifnull dX7_copy_16 ?_
  refine J.aload 7 dX7_copy_19 rfl ?_
  refine J.ifnonnull dX7_copy_21 ?_
  refine J.iload 5 dX7_copy_26 rfl ?_
  refine J.if_ge dX7_copy_28 (fun h9 => ?_) (fun h9 => ?_)
  · skip
    have h9 : 0 ≤ n := (nI_leI (a := 0) (b := n) (by omega) (by omega)).mp h9
    refine J.aload 6 dX7_copy_37 rfl ?_
    refine J.get 2 fl_X7_100 dX7_copy_39 rfl rfl ?_
    refine J.if_eq dX7_copy_42 (fun z => absurd z (by decide)) (fun _ => ?_)
    refine J.aload 7 dX7_copy_45 rfl ?_
    refine J.get 2 fl_X7_100 dX7_copy_47 rfl rfl ?_
    refine J.if_ne dX7_copy_50 (fun _ => ?_) (fun z => absurd z (by decide))
    refine J.iload_n 2 dX7_copy_59 rfl ?_
    refine J.iload 5 dX7_copy_60 rfl ?_
    refine J.callS (st := []) B (c_X7_areNights l G _ (f := nI i) (n := nI n) hn) ml_X7_122 mf_yX7_areNights mS_yX7_areNights dX7_copy_62 rfl rfl rfl (fun v_7 w_8 hp_9 => ?_)
    obtain ⟨rfl, rfl⟩ := hp_9
    show J G X mX7_copy _ _ _ 65 _ [.int (b01 (decide (0 ≤ (nI i).toInt ∧ (nI i).toInt + (nI n).toInt ≤ 60)))]
    refine J.if_eq dX7_copy_65 (fun z => absurd z (by rw [ha1]; decide)) (fun h8 => ?_)
    refine J.iload 4 dX7_copy_68 rfl ?_
    refine J.iload 5 dX7_copy_70 rfl ?_
    refine J.callS (st := []) B (c_X7_areNights l G _ (f := nI j) (n := nI n) hn) ml_X7_122 mf_yX7_areNights mS_yX7_areNights dX7_copy_72 rfl rfl rfl (fun v_10 w_11 hp_12 => ?_)
    obtain ⟨rfl, rfl⟩ := hp_12
    show J G X mX7_copy _ _ _ 75 _ [.int (b01 (decide (0 ≤ (nI j).toInt ∧ (nI j).toInt + (nI n).toInt ≤ 60)))]
    refine J.if_ne dX7_copy_75 (fun h7 => ?_) (fun z => absurd z (by rw [ha2]; decide))
    refine J.aload 6 dX7_copy_84 rfl ?_
    refine J.get 2 fl_X7_112 dX7_copy_86 rfl rfl ?_
    refine J.iload_n 2 dX7_copy_89 rfl ?_
    refine J.aload 7 dX7_copy_90 rfl ?_
    refine J.get 2 fl_X7_112 dX7_copy_92 rfl rfl ?_
    refine J.iload 4 dX7_copy_95 rfl ?_
    refine J.iload 5 dX7_copy_97 rfl ?_
    refine J.acopy 3 3 B (i := i) (j := j) (c := n) dX7_copy_99 wac_l rfl rfl h1 h2 rfl (ws' := (x, .inr (7, [.ref (A 0), .int (nI ns), .ref (A 1), .int (nI nr), .ref (A 2), .ref (A 3), .ref (A 4), .ref (A 5), .ref (A 6), .ref (A 7), .ref (A 8), .ref (A 9), .long to, .int al, .int wa, .int lf, .ref (A 10)])) :: (A 0, .inl (G.2.1.2.2.1, 12, .inr (.inr (.inr (.inr sa))))) :: (s, .inr (6, [.int kd, .ref la, .int (1 : Int32), .int wc])) :: (la, .inl (G.2.1.1, 60, .inl (va_cpy L L i j n))) :: r) rfl ?_
    refine J.iconst (1 : Int32) dX7_copy_102 rfl ?_
    exact J.iret B dX7_copy_103 rfl (⟨rfl, rfl⟩)
  · skip
    have h9 : ¬ 0 ≤ n := fun z => h9 ((nI_leI (a := 0) (b := n) (by omega) (by omega)).mpr z)
    omega
set_option maxHeartbeats 4000000 in
set_option maxRecDepth 100000 in
theorem X7_coc_lp {l : Launch} {G : jG} {X : jX} {r : va_W} {x : Nat} {A : Nat → Nat} {ns nr : Nat} {to : Int64} {al wa lf : Int32} {L F : Nat → Int32} {t u : Nat → Int32} {RP : List uR} {nu1 lt1 ms1 : Nat → Int32} (B : jB l G X 3 64 0 0 (fun v w => ∃ nu1 lt1 ms1, v = some (.int (clsR (msV L F) (RP.map Prod.snd))) ∧ w = (x, .inr (7, [.ref (A 0), .int (nI ns), .ref (A 1), .int (nI nr), .ref (A 2), .ref (A 3), .ref (A 4), .ref (A 5), .ref (A 6), .ref (A 7), .ref (A 8), .ref (A 9), .long to, .int al, .int wa, .int lf, .ref (A 10)])) :: (A 3, .inr (1, [.ref (A 11), .ref (A 12), .int (nI (nN L))])) :: (A 11, .inl (G.2.1.1, 60, .inl t)) :: (A 12, .inl (G.2.1.1, 60, .inl u)) :: (A 4, .inr (0, [.ref (A 13), .int (nI (nN L))])) :: (A 13, .inl (G.2.1.1, 60, .inl nu1)) :: (A 6, .inr (4, [.ref (A 17), .int (nI ((lowF (ltF L F) (midV (lits L F 60) - 100) (nts L 60)).1.length))])) :: (A 17, .inl (G.2.1.1, 60, .inl lt1)) :: (A 8, .inl (G.2.1.1, 4, .inl ms1)) :: (A 1, .inl (G.2.1.2.2.2, 10, .inr (.inr (.inr (.inr (raF RP)))))) :: (ruP RP ++ r)) "classOfCurve") (i : Nat) (hlen : RP.length = nr) (hnr : nr ≤ 10) (hok : ∀ j, j < RP.length → (uD RP j).2.1 < 4) (hms : ∀ j, j < 4 → ms1 j = (msV L F) j) (hi : i ≤ nr) (hcl : clsR (msV L F) ((RP.map Prod.snd).drop i) = clsR (msV L F) (RP.map Prod.snd)) : J G X mX7_classOfCurve ((x, .inr (7, [.ref (A 0), .int (nI ns), .ref (A 1), .int (nI nr), .ref (A 2), .ref (A 3), .ref (A 4), .ref (A 5), .ref (A 6), .ref (A 7), .ref (A 8), .ref (A 9), .long to, .int al, .int wa, .int lf, .ref (A 10)])) :: (A 3, .inr (1, [.ref (A 11), .ref (A 12), .int (nI (nN L))])) :: (A 11, .inl (G.2.1.1, 60, .inl t)) :: (A 12, .inl (G.2.1.1, 60, .inl u)) :: (A 4, .inr (0, [.ref (A 13), .int (nI (nN L))])) :: (A 13, .inl (G.2.1.1, 60, .inl nu1)) :: (A 6, .inr (4, [.ref (A 17), .int (nI ((lowF (ltF L F) (midV (lits L F 60) - 100) (nts L 60)).1.length))])) :: (A 17, .inl (G.2.1.1, 60, .inl lt1)) :: (A 8, .inl (G.2.1.1, 4, .inl ms1)) :: (A 1, .inl (G.2.1.2.2.2, 10, .inr (.inr (.inr (.inr (raF RP)))))) :: (ruP RP ++ r)) 0 0 19 [(0, .ref x), (1, .int (nI i))] [] := by
  refine J.iload_n 1 dX7_classOfCurve_19 rfl ?_
  refine J.aload_n 0 dX7_classOfCurve_20 rfl ?_
  refine J.get 0 fl_X7_222 dX7_classOfCurve_21 rfl rfl ?_
  refine J.icmp_ge dX7_classOfCurve_24 (fun h9 => ?_) (fun h9 => ?_)
  · skip
    have h9 : nr ≤ i := (nI_leI (a := nr) (b := i) (by omega) (by omega)).mp h9
    rw [List.drop_eq_nil_of_le (by rw [List.length_map]; omega)] at hcl
    refine J.bipush (-9 : Int32) dX7_classOfCurve_59 rfl ?_
    exact J.iret B dX7_classOfCurve_61 rfl (⟨nu1, lt1, ms1, by rw [← hcl]; rfl, rfl⟩)
  · skip
    have h9 : ¬ nr ≤ i := fun z => h9 ((nI_leI (a := nr) (b := i) (by omega) (by omega)).mpr z)
    have h9 : i < RP.length := by omega
    obtain ⟨q9, hq9⟩ : ∃ q, q = uD RP i := ⟨_, rfl⟩
    have hra : raF RP i = some q9.1 := by rw [hq9]; exact raF_at h9
    have hw4 := hok i h9
    rw [← hq9] at hw4
    have hdr := dropM h9
    rw [← hq9] at hdr
    have hpe : (ruP RP ++ r).Perm (ruC q9 :: (ruP (RP.eraseIdx i) ++ r)) := by rw [hq9]; exact ruP_out h9 r
    obtain ⟨u1, w1, lo1, hi1, c1⟩ := q9
    refine J.perm (ws2 := (x, .inr (7, [.ref (A 0), .int (nI ns), .ref (A 1), .int (nI nr), .ref (A 2), .ref (A 3), .ref (A 4), .ref (A 5), .ref (A 6), .ref (A 7), .ref (A 8), .ref (A 9), .long to, .int al, .int wa, .int lf, .ref (A 10)])) :: (A 3, .inr (1, [.ref (A 11), .ref (A 12), .int (nI (nN L))])) :: (A 11, .inl (G.2.1.1, 60, .inl t)) :: (A 12, .inl (G.2.1.1, 60, .inl u)) :: (A 4, .inr (0, [.ref (A 13), .int (nI (nN L))])) :: (A 13, .inl (G.2.1.1, 60, .inl nu1)) :: (A 6, .inr (4, [.ref (A 17), .int (nI ((lowF (ltF L F) (midV (lits L F 60) - 100) (nts L 60)).1.length))])) :: (A 17, .inl (G.2.1.1, 60, .inl lt1)) :: (A 8, .inl (G.2.1.1, 4, .inl ms1)) :: (A 1, .inl (G.2.1.2.2.2, 10, .inr (.inr (.inr (.inr (raF RP)))))) :: (u1, .inr (5, [.int (nI w1), .int lo1, .int hi1, .int c1])) :: (ruP (RP.eraseIdx i) ++ r)) (List.Perm.cons _ (List.Perm.cons _ (List.Perm.cons _ (List.Perm.cons _ (List.Perm.cons _ (List.Perm.cons _ (List.Perm.cons _ (List.Perm.cons _ (List.Perm.cons _ (List.Perm.cons _ (hpe))))))))))) ?_
    refine J.aload_n 0 dX7_classOfCurve_27 rfl ?_
    refine J.get 0 fl_X7_17 dX7_classOfCurve_28 rfl rfl ?_
    refine J.iload_n 1 dX7_classOfCurve_31 rfl ?_
    refine J.aald 9 3 (i) dX7_classOfCurve_32 rfl rfl (rfl) (by omega) (by decide) (hra) ?_
    refine J.aload_n 0 dX7_classOfCurve_33 rfl ?_
    refine J.get 0 fl_X7_60 dX7_classOfCurve_34 rfl rfl ?_
    refine J.re [10, 8, 0, 1, 2, 3, 4, 5, 6, 7, 9] 11 (ws2 := (u1, .inr (5, [.int (nI w1), .int lo1, .int hi1, .int c1])) :: (A 8, .inl (G.2.1.1, 4, .inl ms1)) :: (x, .inr (7, [.ref (A 0), .int (nI ns), .ref (A 1), .int (nI nr), .ref (A 2), .ref (A 3), .ref (A 4), .ref (A 5), .ref (A 6), .ref (A 7), .ref (A 8), .ref (A 9), .long to, .int al, .int wa, .int lf, .ref (A 10)])) :: (A 3, .inr (1, [.ref (A 11), .ref (A 12), .int (nI (nN L))])) :: (A 11, .inl (G.2.1.1, 60, .inl t)) :: (A 12, .inl (G.2.1.1, 60, .inl u)) :: (A 4, .inr (0, [.ref (A 13), .int (nI (nN L))])) :: (A 13, .inl (G.2.1.1, 60, .inl nu1)) :: (A 6, .inr (4, [.ref (A 17), .int (nI ((lowF (ltF L F) (midV (lits L F 60) - 100) (nts L 60)).1.length))])) :: (A 17, .inl (G.2.1.1, 60, .inl lt1)) :: (A 1, .inl (G.2.1.2.2.2, 10, .inr (.inr (.inr (.inr (raF RP)))))) :: (ruP (RP.eraseIdx i) ++ r)) rfl rfl ?_
    refine J.callV 0 (st := []) B (c_X5_fits l G _ (j := w1) rfl hw4) ml_X7_287 mf_yX5_fits mi_yX5_fits rfl dX7_classOfCurve_37 rfl rfl rfl rfl (fun v_1 w_2 hp_3 => ?_)
    obtain ⟨rfl, rfl⟩ := hp_3
    refine J.re [2, 3, 4, 5, 6, 7, 8, 9, 1, 10, 0] 11 (ws2 := (x, .inr (7, [.ref (A 0), .int (nI ns), .ref (A 1), .int (nI nr), .ref (A 2), .ref (A 3), .ref (A 4), .ref (A 5), .ref (A 6), .ref (A 7), .ref (A 8), .ref (A 9), .long to, .int al, .int wa, .int lf, .ref (A 10)])) :: (A 3, .inr (1, [.ref (A 11), .ref (A 12), .int (nI (nN L))])) :: (A 11, .inl (G.2.1.1, 60, .inl t)) :: (A 12, .inl (G.2.1.1, 60, .inl u)) :: (A 4, .inr (0, [.ref (A 13), .int (nI (nN L))])) :: (A 13, .inl (G.2.1.1, 60, .inl nu1)) :: (A 6, .inr (4, [.ref (A 17), .int (nI ((lowF (ltF L F) (midV (lits L F 60) - 100) (nts L 60)).1.length))])) :: (A 17, .inl (G.2.1.1, 60, .inl lt1)) :: (A 8, .inl (G.2.1.1, 4, .inl ms1)) :: (A 1, .inl (G.2.1.2.2.2, 10, .inr (.inr (.inr (.inr (raF RP)))))) :: (u1, .inr (5, [.int (nI w1), .int lo1, .int hi1, .int c1])) :: (ruP (RP.eraseIdx i) ++ r)) rfl rfl ?_
    show J G X mX7_classOfCurve _ _ _ 40 _ [.int (b01 (decide (lo1 ≤ ms1 w1 ∧ ms1 w1 ≤ hi1)))]
    refine J.if_eq dX7_classOfCurve_40 (fun h8 => ?_) (fun h8 => ?_)
    · skip
      have hfit : fitR (msV L F) (w1, lo1, hi1, c1) = false := by
        have q1 := b01_0 h8
        rw [hms w1 hw4] at q1
        exact q1
      refine J.iinc 1 [1, 0] (lv' := [(0, .ref x), (1, .int (nI (i + 1)))]) dX7_classOfCurve_53 rfl (jinc1 _) rfl rfl ?_
      refine J.goto dX7_classOfCurve_56 ?_
      refine J.perm (ws2 := (x, .inr (7, [.ref (A 0), .int (nI ns), .ref (A 1), .int (nI nr), .ref (A 2), .ref (A 3), .ref (A 4), .ref (A 5), .ref (A 6), .ref (A 7), .ref (A 8), .ref (A 9), .long to, .int al, .int wa, .int lf, .ref (A 10)])) :: (A 3, .inr (1, [.ref (A 11), .ref (A 12), .int (nI (nN L))])) :: (A 11, .inl (G.2.1.1, 60, .inl t)) :: (A 12, .inl (G.2.1.1, 60, .inl u)) :: (A 4, .inr (0, [.ref (A 13), .int (nI (nN L))])) :: (A 13, .inl (G.2.1.1, 60, .inl nu1)) :: (A 6, .inr (4, [.ref (A 17), .int (nI ((lowF (ltF L F) (midV (lits L F 60) - 100) (nts L 60)).1.length))])) :: (A 17, .inl (G.2.1.1, 60, .inl lt1)) :: (A 8, .inl (G.2.1.1, 4, .inl ms1)) :: (A 1, .inl (G.2.1.2.2.2, 10, .inr (.inr (.inr (.inr (raF RP)))))) :: (ruP RP ++ r)) (List.Perm.cons _ (List.Perm.cons _ (List.Perm.cons _ (List.Perm.cons _ (List.Perm.cons _ (List.Perm.cons _ (List.Perm.cons _ (List.Perm.cons _ (List.Perm.cons _ (List.Perm.cons _ (hpe.symm))))))))))) ?_
      rw [hdr, clsR_no hfit] at hcl
      exact X7_coc_lp (nu1 := nu1) (lt1 := lt1) B (i + 1) hlen hnr hok hms (by omega) hcl
    · skip
      have hfit : fitR (msV L F) (w1, lo1, hi1, c1) = true := by
        have q1 := b01_1 h8
        rw [hms w1 hw4] at q1
        exact q1
      refine J.aload_n 0 dX7_classOfCurve_43 rfl ?_
      refine J.get 0 fl_X7_17 dX7_classOfCurve_44 rfl rfl ?_
      refine J.iload_n 1 dX7_classOfCurve_47 rfl ?_
      refine J.aald 9 3 (i) dX7_classOfCurve_48 rfl rfl (rfl) (by omega) (by decide) (hra) ?_
      refine J.get 10 fl_X7_291 dX7_classOfCurve_49 rfl rfl ?_
      refine J.perm (ws2 := (x, .inr (7, [.ref (A 0), .int (nI ns), .ref (A 1), .int (nI nr), .ref (A 2), .ref (A 3), .ref (A 4), .ref (A 5), .ref (A 6), .ref (A 7), .ref (A 8), .ref (A 9), .long to, .int al, .int wa, .int lf, .ref (A 10)])) :: (A 3, .inr (1, [.ref (A 11), .ref (A 12), .int (nI (nN L))])) :: (A 11, .inl (G.2.1.1, 60, .inl t)) :: (A 12, .inl (G.2.1.1, 60, .inl u)) :: (A 4, .inr (0, [.ref (A 13), .int (nI (nN L))])) :: (A 13, .inl (G.2.1.1, 60, .inl nu1)) :: (A 6, .inr (4, [.ref (A 17), .int (nI ((lowF (ltF L F) (midV (lits L F 60) - 100) (nts L 60)).1.length))])) :: (A 17, .inl (G.2.1.1, 60, .inl lt1)) :: (A 8, .inl (G.2.1.1, 4, .inl ms1)) :: (A 1, .inl (G.2.1.2.2.2, 10, .inr (.inr (.inr (.inr (raF RP)))))) :: (ruP RP ++ r)) (List.Perm.cons _ (List.Perm.cons _ (List.Perm.cons _ (List.Perm.cons _ (List.Perm.cons _ (List.Perm.cons _ (List.Perm.cons _ (List.Perm.cons _ (List.Perm.cons _ (List.Perm.cons _ (hpe.symm))))))))))) ?_
      exact J.iret B dX7_classOfCurve_52 rfl (⟨nu1, lt1, ms1, by rw [hdr, clsR_yes hfit] at hcl; rw [← hcl], rfl⟩)
termination_by nr - i
decreasing_by all_goals omega
set_option maxHeartbeats 4000000 in
set_option maxRecDepth 100000 in
theorem c_X7_classOfCurve (l : Launch) (G : jG) (r : va_W) {x : Nat} {A : Nat → Nat} {ns nr : Nat} {to : Int64} {al wa lf : Int32} {L F : Nat → Int32} {t u : Nat → Int32} {RP : List uR} {zs zl : Int32} {nu lti : Nat → Int32} {ms : Nat → Int32} (hc : CV L F t u) (hL : 0 < nN L) (hlen : RP.length = nr) (hnr : nr ≤ 10) (hok : ∀ j, j < RP.length → (uD RP j).2.1 < 4) : Mt l G yX7_classOfCurve mX7_classOfCurve 3 64 0 0 [.ref x] ((x, .inr (7, [.ref (A 0), .int (nI ns), .ref (A 1), .int (nI nr), .ref (A 2), .ref (A 3), .ref (A 4), .ref (A 5), .ref (A 6), .ref (A 7), .ref (A 8), .ref (A 9), .long to, .int al, .int wa, .int lf, .ref (A 10)])) :: (A 3, .inr (1, [.ref (A 11), .ref (A 12), .int (nI (nN L))])) :: (A 11, .inl (G.2.1.1, 60, .inl t)) :: (A 12, .inl (G.2.1.1, 60, .inl u)) :: (A 4, .inr (0, [.ref (A 13), .int zs])) :: (A 13, .inl (G.2.1.1, 60, .inl nu)) :: (A 6, .inr (4, [.ref (A 17), .int zl])) :: (A 17, .inl (G.2.1.1, 60, .inl lti)) :: (A 8, .inl (G.2.1.1, 4, .inl ms)) :: (A 1, .inl (G.2.1.2.2.2, 10, .inr (.inr (.inr (.inr (raF RP)))))) :: (ruP RP ++ r)) (fun v w => ∃ nu1 lt1 ms1, v = some (.int (clsR (msV L F) (RP.map Prod.snd))) ∧ w = (x, .inr (7, [.ref (A 0), .int (nI ns), .ref (A 1), .int (nI nr), .ref (A 2), .ref (A 3), .ref (A 4), .ref (A 5), .ref (A 6), .ref (A 7), .ref (A 8), .ref (A 9), .long to, .int al, .int wa, .int lf, .ref (A 10)])) :: (A 3, .inr (1, [.ref (A 11), .ref (A 12), .int (nI (nN L))])) :: (A 11, .inl (G.2.1.1, 60, .inl t)) :: (A 12, .inl (G.2.1.1, 60, .inl u)) :: (A 4, .inr (0, [.ref (A 13), .int (nI (nN L))])) :: (A 13, .inl (G.2.1.1, 60, .inl nu1)) :: (A 6, .inr (4, [.ref (A 17), .int (nI ((lowF (ltF L F) (midV (lits L F 60) - 100) (nts L 60)).1.length))])) :: (A 17, .inl (G.2.1.1, 60, .inl lt1)) :: (A 8, .inl (G.2.1.1, 4, .inl ms1)) :: (A 1, .inl (G.2.1.2.2.2, 10, .inr (.inr (.inr (.inr (raF RP)))))) :: (ruP RP ++ r)) := by
  refine Mt.of (by decide +kernel) rfl rfl (fun X B => ?_)
  show J G X mX7_classOfCurve ((x, .inr (7, [.ref (A 0), .int (nI ns), .ref (A 1), .int (nI nr), .ref (A 2), .ref (A 3), .ref (A 4), .ref (A 5), .ref (A 6), .ref (A 7), .ref (A 8), .ref (A 9), .long to, .int al, .int wa, .int lf, .ref (A 10)])) :: (A 3, .inr (1, [.ref (A 11), .ref (A 12), .int (nI (nN L))])) :: (A 11, .inl (G.2.1.1, 60, .inl t)) :: (A 12, .inl (G.2.1.1, 60, .inl u)) :: (A 4, .inr (0, [.ref (A 13), .int zs])) :: (A 13, .inl (G.2.1.1, 60, .inl nu)) :: (A 6, .inr (4, [.ref (A 17), .int zl])) :: (A 17, .inl (G.2.1.1, 60, .inl lti)) :: (A 8, .inl (G.2.1.1, 4, .inl ms)) :: (A 1, .inl (G.2.1.2.2.2, 10, .inr (.inr (.inr (.inr (raF RP)))))) :: (ruP RP ++ r)) 0 0 0 [(0, .ref x)] []
  have hn := nN_le L
  refine J.aload_n 0 dX7_classOfCurve_0 rfl ?_
  refine J.get 0 fl_X7_28 dX7_classOfCurve_1 rfl rfl ?_
  refine J.get 1 fl_X7_176 dX7_classOfCurve_4 rfl rfl ?_
  refine J.if_ne dX7_classOfCurve_7 (fun h9 => ?_) (fun z => absurd z (nI_ne0 hL (by omega)))
  refine J.aload_n 0 dX7_classOfCurve_13 rfl ?_
  refine J.callV 0 (st := []) B (c_X7_measureCurve l G _ hc) ml_X7_284 mf_yX7_measureCurve mi_yX7_measureCurve rfl dX7_classOfCurve_14 rfl rfl rfl rfl (fun v_1 w_2 hp_3 => ?_)
  obtain ⟨nu1, lt1, rfl, rfl⟩ := hp_3
  show J G X mX7_classOfCurve _ _ _ 17 _ []
  refine J.iconst (0 : Int32) dX7_classOfCurve_17 rfl ?_
  refine J.istore_n [1, 0] (lv' := [(0, .ref x), (1, .int (0 : Int32))]) dX7_classOfCurve_18 rfl rfl ?_
  exact X7_coc_lp B 0 hlen hnr hok (fun j hj => by match j, hj with | 0, _ => rfl | 1, _ => rfl | 2, _ => rfl | 3, _ => rfl) (by omega) rfl
set_option maxHeartbeats 4000000 in
set_option maxRecDepth 100000 in
theorem c_X7_classOfCurve0 (l : Launch) (G : jG) (r : va_W) {x : Nat} {A : Nat → Nat} {ns nr : Nat} {to : Int64} {al wa lf : Int32} {L : Nat → Int32} (hL : nN L = 0) : Mt l G yX7_classOfCurve mX7_classOfCurve 3 64 0 0 [.ref x] ((x, .inr (7, [.ref (A 0), .int (nI ns), .ref (A 1), .int (nI nr), .ref (A 2), .ref (A 3), .ref (A 4), .ref (A 5), .ref (A 6), .ref (A 7), .ref (A 8), .ref (A 9), .long to, .int al, .int wa, .int lf, .ref (A 10)])) :: (A 3, .inr (1, [.ref (A 11), .ref (A 12), .int (nI (nN L))])) :: r) (fun v w => v = some (.int (-9)) ∧ w = (x, .inr (7, [.ref (A 0), .int (nI ns), .ref (A 1), .int (nI nr), .ref (A 2), .ref (A 3), .ref (A 4), .ref (A 5), .ref (A 6), .ref (A 7), .ref (A 8), .ref (A 9), .long to, .int al, .int wa, .int lf, .ref (A 10)])) :: (A 3, .inr (1, [.ref (A 11), .ref (A 12), .int (nI (nN L))])) :: r) := by
  refine Mt.of (by decide +kernel) rfl rfl (fun X B => ?_)
  show J G X mX7_classOfCurve ((x, .inr (7, [.ref (A 0), .int (nI ns), .ref (A 1), .int (nI nr), .ref (A 2), .ref (A 3), .ref (A 4), .ref (A 5), .ref (A 6), .ref (A 7), .ref (A 8), .ref (A 9), .long to, .int al, .int wa, .int lf, .ref (A 10)])) :: (A 3, .inr (1, [.ref (A 11), .ref (A 12), .int (nI (nN L))])) :: r) 0 0 0 [(0, .ref x)] []
  refine J.aload_n 0 dX7_classOfCurve_0 rfl ?_
  refine J.get 0 fl_X7_28 dX7_classOfCurve_1 rfl rfl ?_
  refine J.get 1 fl_X7_176 dX7_classOfCurve_4 rfl rfl ?_
  refine J.if_ne dX7_classOfCurve_7 (fun z => absurd (by rw [hL]; rfl) z) (fun h9 => ?_)
  refine J.bipush (-9 : Int32) dX7_classOfCurve_10 rfl ?_
  exact J.iret B dX7_classOfCurve_12 rfl (⟨rfl, rfl⟩)
