set_option maxHeartbeats 4000000 in
set_option maxRecDepth 100000 in
theorem c_X7_gatherLows_d (l : Launch) (G : jG) (r : va_W) {x : Nat} {A : Nat → Nat} {ns nr : Nat} {to : Int64} {al wa lf : Int32} {num d : Int32} (hd : inR d 1 10000 = false) : Mt l G yX7_gatherLows mX7_gatherLows 4 87 0 0 [.ref x, .int num, .int d] ((x, .inr (7, [.ref (A 0), .int (nI ns), .ref (A 1), .int (nI nr), .ref (A 2), .ref (A 3), .ref (A 4), .ref (A 5), .ref (A 6), .ref (A 7), .ref (A 8), .ref (A 9), .long to, .int al, .int wa, .int lf, .ref (A 10)])) :: r) (fun v w => v = some (.int (-1 : Int32)) ∧ w = (x, .inr (7, [.ref (A 0), .int (nI ns), .ref (A 1), .int (nI nr), .ref (A 2), .ref (A 3), .ref (A 4), .ref (A 5), .ref (A 6), .ref (A 7), .ref (A 8), .ref (A 9), .long to, .int al, .int wa, .int lf, .ref (A 10)])) :: r) := by
  refine Mt.of (by decide +kernel) rfl rfl (fun X B => ?_)
  show J G X mX7_gatherLows ((x, .inr (7, [.ref (A 0), .int (nI ns), .ref (A 1), .int (nI nr), .ref (A 2), .ref (A 3), .ref (A 4), .ref (A 5), .ref (A 6), .ref (A 7), .ref (A 8), .ref (A 9), .long to, .int al, .int wa, .int lf, .ref (A 10)])) :: r) 0 0 0 [(0, .ref x), (1, .int num), (2, .int d)] []
  have hd2 := inR_no hd
  refine J.iload_n 2 dX7_gatherLows_0 rfl ?_
  refine J.iconst (1 : Int32) dX7_gatherLows_1 rfl ?_
  refine J.icmp_lt dX7_gatherLows_2 (fun h9 => ?_) (fun h9 => ?_)
  · skip
    have h9 : d.toInt < (1 : Int) := (fa_lt _ _).mp h9
    refine J.iconst (-1 : Int32) dX7_gatherLows_12 rfl ?_
    exact J.iret B dX7_gatherLows_13 rfl (⟨rfl, rfl⟩)
  · skip
    have h9 : ¬ d.toInt < (1 : Int) := fun z => h9 ((fa_lt _ _).mpr z)
    refine J.iload_n 2 dX7_gatherLows_5 rfl ?_
    refine J.sipush (10000 : Int32) dX7_gatherLows_6 rfl ?_
    refine J.icmp_le dX7_gatherLows_9 (fun h8 => ?_) (fun h8 => ?_)
    · skip
      have h8 : d.toInt ≤ (10000 : Int) := (fa_le _ _).mp h8
      omega
    · skip
      have h8 : ¬ d.toInt ≤ (10000 : Int) := fun z => h8 ((fa_le _ _).mpr z)
      refine J.iconst (-1 : Int32) dX7_gatherLows_12 rfl ?_
      exact J.iret B dX7_gatherLows_13 rfl (⟨rfl, rfl⟩)
set_option maxHeartbeats 4000000 in
set_option maxRecDepth 100000 in
theorem c_X7_gatherLows_bad (l : Launch) (G : jG) (r : va_W) {x : Nat} {A : Nat → Nat} {ns nr : Nat} {to : Int64} {al wa lf : Int32} {sa : Nat → Option Nat} {num : Int32} (hns : ns ≤ 12) (hnum : inR num 0 ((ns : Int) - 1) = false) {d : Int32} (hd : inR d 1 10000 = true) : Mt l G yX7_gatherLows mX7_gatherLows 4 87 0 0 [.ref x, .int num, .int d] ((x, .inr (7, [.ref (A 0), .int (nI ns), .ref (A 1), .int (nI nr), .ref (A 2), .ref (A 3), .ref (A 4), .ref (A 5), .ref (A 6), .ref (A 7), .ref (A 8), .ref (A 9), .long to, .int al, .int wa, .int lf, .ref (A 10)])) :: (A 0, .inl (G.2.1.2.2.1, 12, .inr (.inr (.inr (.inr sa))))) :: r) (fun v w => v = some (.int (-1 : Int32)) ∧ w = (x, .inr (7, [.ref (A 0), .int (nI ns), .ref (A 1), .int (nI nr), .ref (A 2), .ref (A 3), .ref (A 4), .ref (A 5), .ref (A 6), .ref (A 7), .ref (A 8), .ref (A 9), .long to, .int al, .int wa, .int lf, .ref (A 10)])) :: (A 0, .inl (G.2.1.2.2.1, 12, .inr (.inr (.inr (.inr sa))))) :: r) := by
  refine Mt.of (by decide +kernel) rfl rfl (fun X B => ?_)
  show J G X mX7_gatherLows ((x, .inr (7, [.ref (A 0), .int (nI ns), .ref (A 1), .int (nI nr), .ref (A 2), .ref (A 3), .ref (A 4), .ref (A 5), .ref (A 6), .ref (A 7), .ref (A 8), .ref (A 9), .long to, .int al, .int wa, .int lf, .ref (A 10)])) :: (A 0, .inl (G.2.1.2.2.1, 12, .inr (.inr (.inr (.inr sa))))) :: r) 0 0 0 [(0, .ref x), (1, .int num), (2, .int d)] []
  have hd2 := inR_of hd
  refine J.iload_n 2 dX7_gatherLows_0 rfl ?_
  refine J.iconst (1 : Int32) dX7_gatherLows_1 rfl ?_
  refine J.icmp_lt dX7_gatherLows_2 (fun h9 => ?_) (fun h9 => ?_)
  · skip
    have h9 : d.toInt < (1 : Int) := (fa_lt _ _).mp h9
    omega
  · skip
    have h9 : ¬ d.toInt < (1 : Int) := fun z => h9 ((fa_lt _ _).mpr z)
    refine J.iload_n 2 dX7_gatherLows_5 rfl ?_
    refine J.sipush (10000 : Int32) dX7_gatherLows_6 rfl ?_
    refine J.icmp_le dX7_gatherLows_9 (fun h8 => ?_) (fun h8 => ?_)
    · skip
      have h8 : d.toInt ≤ (10000 : Int) := (fa_le _ _).mp h8
      refine J.aload_n 0 dX7_gatherLows_14 rfl ?_
      refine J.iload_n 1 dX7_gatherLows_15 rfl ?_
      refine J.callV 0 (st := []) B (c_X7_gatherLights_bad l G _ hns hnum) ml_X7_142 mf_yX7_gatherLights mi_yX7_gatherLights rfl dX7_gatherLows_16 rfl rfl rfl rfl (fun v_1 w_2 hp_3 => ?_)
      obtain ⟨rfl, rfl⟩ := hp_3
      show J G X mX7_gatherLows _ _ _ 19 _ [.int (-1 : Int32)]
      refine J.istore_n [1, 2, 3, 0] (lv' := [(0, .ref x), (1, .int num), (2, .int d), (3, .int (-1 : Int32))]) dX7_gatherLows_19 rfl rfl ?_
      refine J.iload_n 3 dX7_gatherLows_20 rfl ?_
      refine J.if_ne dX7_gatherLows_21 (fun _ => ?_) (fun z => absurd z (by decide))
      refine J.iload_n 3 dX7_gatherLows_41 rfl ?_
      exact J.iret B dX7_gatherLows_42 rfl (⟨rfl, rfl⟩)
    · skip
      have h8 : ¬ d.toInt ≤ (10000 : Int) := fun z => h8 ((fa_le _ _).mpr z)
      omega
set_option maxHeartbeats 4000000 in
set_option maxRecDepth 100000 in
theorem c_X7_gatherLows_no (l : Launch) (G : jG) (r : va_W) {x : Nat} {A : Nat → Nat} {ns nr : Nat} {to : Int64} {al wa lf : Int32} {sa : Nat → Option Nat} {la : Nat} {kd wc : Int32} {k s : Nat} (hk : k < ns) (hns : ns ≤ 12) (hsa : sa k = some s) {d : Int32} {fc : Nat → Int32} (hd : inR d 1 10000 = true) : Mt l G yX7_gatherLows mX7_gatherLows 4 87 0 0 [.ref x, .int (nI k), .int d] ((x, .inr (7, [.ref (A 0), .int (nI ns), .ref (A 1), .int (nI nr), .ref (A 2), .ref (A 3), .ref (A 4), .ref (A 5), .ref (A 6), .ref (A 7), .ref (A 8), .ref (A 9), .long to, .int al, .int wa, .int lf, .ref (A 10)])) :: (A 0, .inl (G.2.1.2.2.1, 12, .inr (.inr (.inr (.inr sa))))) :: (s, .inr (6, [.int kd, .ref la, .int (0 : Int32), .int wc])) :: (A 10, .inl (G.2.1.1, 6, .inl fc)) :: r) (fun v w => v = some (.int (-3 : Int32)) ∧ w = (x, .inr (7, [.ref (A 0), .int (nI ns), .ref (A 1), .int (nI nr), .ref (A 2), .ref (A 3), .ref (A 4), .ref (A 5), .ref (A 6), .ref (A 7), .ref (A 8), .ref (A 9), .long to, .int al, .int wa, .int (nI 1), .ref (A 10)])) :: (A 0, .inl (G.2.1.2.2.1, 12, .inr (.inr (.inr (.inr sa))))) :: (s, .inr (6, [.int kd, .ref la, .int (0 : Int32), .int wc])) :: (A 10, .inl (G.2.1.1, 6, .inl (upd fc 1 (fc 1 + 1)))) :: r) := by
  refine Mt.of (by decide +kernel) rfl rfl (fun X B => ?_)
  show J G X mX7_gatherLows ((x, .inr (7, [.ref (A 0), .int (nI ns), .ref (A 1), .int (nI nr), .ref (A 2), .ref (A 3), .ref (A 4), .ref (A 5), .ref (A 6), .ref (A 7), .ref (A 8), .ref (A 9), .long to, .int al, .int wa, .int lf, .ref (A 10)])) :: (A 0, .inl (G.2.1.2.2.1, 12, .inr (.inr (.inr (.inr sa))))) :: (s, .inr (6, [.int kd, .ref la, .int (0 : Int32), .int wc])) :: (A 10, .inl (G.2.1.1, 6, .inl fc)) :: r) 0 0 0 [(0, .ref x), (1, .int (nI k)), (2, .int d)] []
  have hd2 := inR_of hd
  refine J.iload_n 2 dX7_gatherLows_0 rfl ?_
  refine J.iconst (1 : Int32) dX7_gatherLows_1 rfl ?_
  refine J.icmp_lt dX7_gatherLows_2 (fun h9 => ?_) (fun h9 => ?_)
  · skip
    have h9 : d.toInt < (1 : Int) := (fa_lt _ _).mp h9
    omega
  · skip
    have h9 : ¬ d.toInt < (1 : Int) := fun z => h9 ((fa_lt _ _).mpr z)
    refine J.iload_n 2 dX7_gatherLows_5 rfl ?_
    refine J.sipush (10000 : Int32) dX7_gatherLows_6 rfl ?_
    refine J.icmp_le dX7_gatherLows_9 (fun h8 => ?_) (fun h8 => ?_)
    · skip
      have h8 : d.toInt ≤ (10000 : Int) := (fa_le _ _).mp h8
      refine J.aload_n 0 dX7_gatherLows_14 rfl ?_
      refine J.iload_n 1 dX7_gatherLows_15 rfl ?_
      refine J.callV 0 (st := []) B (c_X7_gatherLights_no l G _ hk hns hsa) ml_X7_142 mf_yX7_gatherLights mi_yX7_gatherLights rfl dX7_gatherLows_16 rfl rfl rfl rfl (fun v_1 w_2 hp_3 => ?_)
      obtain ⟨rfl, rfl⟩ := hp_3
      show J G X mX7_gatherLows _ _ _ 19 _ [.int (-3 : Int32)]
      refine J.istore_n [1, 2, 3, 0] (lv' := [(0, .ref x), (1, .int (nI k)), (2, .int d), (3, .int (-3 : Int32))]) dX7_gatherLows_19 rfl rfl ?_
      refine J.iload_n 3 dX7_gatherLows_20 rfl ?_
      refine J.if_ne dX7_gatherLows_21 (fun _ => ?_) (fun z => absurd z (by decide))
      refine J.iload_n 3 dX7_gatherLows_41 rfl ?_
      exact J.iret B dX7_gatherLows_42 rfl (⟨rfl, rfl⟩)
    · skip
      have h8 : ¬ d.toInt ≤ (10000 : Int) := fun z => h8 ((fa_le _ _).mpr z)
      omega
set_option maxHeartbeats 4000000 in
set_option maxRecDepth 100000 in
theorem c_X7_gatherLows_nought (l : Launch) (G : jG) (r : va_W) {x : Nat} {A : Nat → Nat} {ns nr : Nat} {to : Int64} {al wa lf : Int32} {sa : Nat → Option Nat} {la : Nat} {kd wc : Int32} {k s : Nat} (hk : k < ns) (hns : ns ≤ 12) (hsa : sa k = some s) {d : Int32} {L F : Nat → Int32} {cz : Int32} {t u : Nat → Int32} {fc : Nat → Int32} (hd : inR d 1 10000 = true) (hL : nN L = 0) : Mt l G yX7_gatherLows mX7_gatherLows 4 87 0 0 [.ref x, .int (nI k), .int d] ((x, .inr (7, [.ref (A 0), .int (nI ns), .ref (A 1), .int (nI nr), .ref (A 2), .ref (A 3), .ref (A 4), .ref (A 5), .ref (A 6), .ref (A 7), .ref (A 8), .ref (A 9), .long to, .int al, .int wa, .int lf, .ref (A 10)])) :: (A 0, .inl (G.2.1.2.2.1, 12, .inr (.inr (.inr (.inr sa))))) :: (s, .inr (6, [.int kd, .ref la, .int (1 : Int32), .int wc])) :: (la, .inl (G.2.1.1, 60, .inl L)) :: (A 2, .inl (G.2.1.1, 60, .inl F)) :: (A 3, .inr (1, [.ref (A 11), .ref (A 12), .int cz])) :: (A 11, .inl (G.2.1.1, 60, .inl t)) :: (A 12, .inl (G.2.1.1, 60, .inl u)) :: (A 10, .inl (G.2.1.1, 6, .inl fc)) :: r) (fun v w => ∃ t1 u1, v = some (.int (-3)) ∧ w = (x, .inr (7, [.ref (A 0), .int (nI ns), .ref (A 1), .int (nI nr), .ref (A 2), .ref (A 3), .ref (A 4), .ref (A 5), .ref (A 6), .ref (A 7), .ref (A 8), .ref (A 9), .long to, .int al, .int wa, .int (nI 4), .ref (A 10)])) :: (A 0, .inl (G.2.1.2.2.1, 12, .inr (.inr (.inr (.inr sa))))) :: (s, .inr (6, [.int kd, .ref la, .int (1 : Int32), .int wc])) :: (la, .inl (G.2.1.1, 60, .inl L)) :: (A 2, .inl (G.2.1.1, 60, .inl F)) :: (A 3, .inr (1, [.ref (A 11), .ref (A 12), .int (nI (nN L))])) :: (A 11, .inl (G.2.1.1, 60, .inl t1)) :: (A 12, .inl (G.2.1.1, 60, .inl u1)) :: (A 10, .inl (G.2.1.1, 6, .inl (upd fc 4 (fc 4 + 1)))) :: r) := by
  refine Mt.of (by decide +kernel) rfl rfl (fun X B => ?_)
  show J G X mX7_gatherLows ((x, .inr (7, [.ref (A 0), .int (nI ns), .ref (A 1), .int (nI nr), .ref (A 2), .ref (A 3), .ref (A 4), .ref (A 5), .ref (A 6), .ref (A 7), .ref (A 8), .ref (A 9), .long to, .int al, .int wa, .int lf, .ref (A 10)])) :: (A 0, .inl (G.2.1.2.2.1, 12, .inr (.inr (.inr (.inr sa))))) :: (s, .inr (6, [.int kd, .ref la, .int (1 : Int32), .int wc])) :: (la, .inl (G.2.1.1, 60, .inl L)) :: (A 2, .inl (G.2.1.1, 60, .inl F)) :: (A 3, .inr (1, [.ref (A 11), .ref (A 12), .int cz])) :: (A 11, .inl (G.2.1.1, 60, .inl t)) :: (A 12, .inl (G.2.1.1, 60, .inl u)) :: (A 10, .inl (G.2.1.1, 6, .inl fc)) :: r) 0 0 0 [(0, .ref x), (1, .int (nI k)), (2, .int d)] []
  have hd2 := inR_of hd
  refine J.iload_n 2 dX7_gatherLows_0 rfl ?_
  refine J.iconst (1 : Int32) dX7_gatherLows_1 rfl ?_
  refine J.icmp_lt dX7_gatherLows_2 (fun h9 => ?_) (fun h9 => ?_)
  · skip
    have h9 : d.toInt < (1 : Int) := (fa_lt _ _).mp h9
    omega
  · skip
    have h9 : ¬ d.toInt < (1 : Int) := fun z => h9 ((fa_lt _ _).mpr z)
    refine J.iload_n 2 dX7_gatherLows_5 rfl ?_
    refine J.sipush (10000 : Int32) dX7_gatherLows_6 rfl ?_
    refine J.icmp_le dX7_gatherLows_9 (fun h8 => ?_) (fun h8 => ?_)
    · skip
      have h8 : d.toInt ≤ (10000 : Int) := (fa_le _ _).mp h8
      refine J.aload_n 0 dX7_gatherLows_14 rfl ?_
      refine J.iload_n 1 dX7_gatherLows_15 rfl ?_
      refine J.callV 0 (st := []) B (c_X7_gatherLights_nought l G _ hk hns hsa hL) ml_X7_142 mf_yX7_gatherLights mi_yX7_gatherLights rfl dX7_gatherLows_16 rfl rfl rfl rfl (fun v_1 w_2 hp_3 => ?_)
      obtain ⟨t1, u1, rfl, rfl⟩ := hp_3
      show J G X mX7_gatherLows _ _ _ 19 _ [.int (-3 : Int32)]
      refine J.istore_n [1, 2, 3, 0] (lv' := [(0, .ref x), (1, .int (nI k)), (2, .int d), (3, .int (-3 : Int32))]) dX7_gatherLows_19 rfl rfl ?_
      refine J.iload_n 3 dX7_gatherLows_20 rfl ?_
      refine J.if_ne dX7_gatherLows_21 (fun _ => ?_) (fun z => absurd z (by decide))
      refine J.iload_n 3 dX7_gatherLows_41 rfl ?_
      exact J.iret B dX7_gatherLows_42 rfl (⟨t1, u1, rfl, rfl⟩)
    · skip
      have h8 : ¬ d.toInt ≤ (10000 : Int) := fun z => h8 ((fa_le _ _).mpr z)
      omega
set_option maxHeartbeats 4000000 in
set_option maxRecDepth 100000 in
theorem c_X7_gatherLows (l : Launch) (G : jG) (r : va_W) {x : Nat} {A : Nat → Nat} {ns nr : Nat} {to : Int64} {al wa lf : Int32} {sa : Nat → Option Nat} {la : Nat} {kd wc : Int32} {k s : Nat} (hk : k < ns) (hns : ns ≤ 12) (hsa : sa k = some s) {d : Int32} {L F : Nat → Int32} {cz : Int32} {t u : Nat → Int32} {zs zl : Int32} {nu lti : Nat → Int32} (hd : inR d 1 10000 = true) (hL : 0 < nN L) : Mt l G yX7_gatherLows mX7_gatherLows 4 87 0 0 [.ref x, .int (nI k), .int d] ((x, .inr (7, [.ref (A 0), .int (nI ns), .ref (A 1), .int (nI nr), .ref (A 2), .ref (A 3), .ref (A 4), .ref (A 5), .ref (A 6), .ref (A 7), .ref (A 8), .ref (A 9), .long to, .int al, .int wa, .int lf, .ref (A 10)])) :: (A 0, .inl (G.2.1.2.2.1, 12, .inr (.inr (.inr (.inr sa))))) :: (s, .inr (6, [.int kd, .ref la, .int (1 : Int32), .int wc])) :: (la, .inl (G.2.1.1, 60, .inl L)) :: (A 2, .inl (G.2.1.1, 60, .inl F)) :: (A 3, .inr (1, [.ref (A 11), .ref (A 12), .int cz])) :: (A 11, .inl (G.2.1.1, 60, .inl t)) :: (A 12, .inl (G.2.1.1, 60, .inl u)) :: (A 4, .inr (0, [.ref (A 13), .int zs])) :: (A 13, .inl (G.2.1.1, 60, .inl nu)) :: (A 6, .inr (4, [.ref (A 17), .int zl])) :: (A 17, .inl (G.2.1.1, 60, .inl lti)) :: r) (fun v w => ∃ t1 u1 nu1 lt1, AG lt1 ((lowF (ltF L F) (midV (lits L F 60) - d) (nts L 60)).1.map nI) ∧ v = some (.int 0) ∧ w = (x, .inr (7, [.ref (A 0), .int (nI ns), .ref (A 1), .int (nI nr), .ref (A 2), .ref (A 3), .ref (A 4), .ref (A 5), .ref (A 6), .ref (A 7), .ref (A 8), .ref (A 9), .long to, .int al, .int wa, .int lf, .ref (A 10)])) :: (A 0, .inl (G.2.1.2.2.1, 12, .inr (.inr (.inr (.inr sa))))) :: (s, .inr (6, [.int kd, .ref la, .int (1 : Int32), .int wc])) :: (la, .inl (G.2.1.1, 60, .inl L)) :: (A 2, .inl (G.2.1.1, 60, .inl F)) :: (A 3, .inr (1, [.ref (A 11), .ref (A 12), .int (nI (nN L))])) :: (A 11, .inl (G.2.1.1, 60, .inl t1)) :: (A 12, .inl (G.2.1.1, 60, .inl u1)) :: (A 4, .inr (0, [.ref (A 13), .int (nI (nN L))])) :: (A 13, .inl (G.2.1.1, 60, .inl nu1)) :: (A 6, .inr (4, [.ref (A 17), .int (nI ((lowF (ltF L F) (midV (lits L F 60) - d) (nts L 60)).1.length))])) :: (A 17, .inl (G.2.1.1, 60, .inl lt1)) :: r) := by
  refine Mt.of (by decide +kernel) rfl rfl (fun X B => ?_)
  show J G X mX7_gatherLows ((x, .inr (7, [.ref (A 0), .int (nI ns), .ref (A 1), .int (nI nr), .ref (A 2), .ref (A 3), .ref (A 4), .ref (A 5), .ref (A 6), .ref (A 7), .ref (A 8), .ref (A 9), .long to, .int al, .int wa, .int lf, .ref (A 10)])) :: (A 0, .inl (G.2.1.2.2.1, 12, .inr (.inr (.inr (.inr sa))))) :: (s, .inr (6, [.int kd, .ref la, .int (1 : Int32), .int wc])) :: (la, .inl (G.2.1.1, 60, .inl L)) :: (A 2, .inl (G.2.1.1, 60, .inl F)) :: (A 3, .inr (1, [.ref (A 11), .ref (A 12), .int cz])) :: (A 11, .inl (G.2.1.1, 60, .inl t)) :: (A 12, .inl (G.2.1.1, 60, .inl u)) :: (A 4, .inr (0, [.ref (A 13), .int zs])) :: (A 13, .inl (G.2.1.1, 60, .inl nu)) :: (A 6, .inr (4, [.ref (A 17), .int zl])) :: (A 17, .inl (G.2.1.1, 60, .inl lti)) :: r) 0 0 0 [(0, .ref x), (1, .int (nI k)), (2, .int d)] []
  have hd2 := inR_of hd
  refine J.iload_n 2 dX7_gatherLows_0 rfl ?_
  refine J.iconst (1 : Int32) dX7_gatherLows_1 rfl ?_
  refine J.icmp_lt dX7_gatherLows_2 (fun h9 => ?_) (fun h9 => ?_)
  · skip
    have h9 : d.toInt < (1 : Int) := (fa_lt _ _).mp h9
    omega
  · skip
    have h9 : ¬ d.toInt < (1 : Int) := fun z => h9 ((fa_lt _ _).mpr z)
    refine J.iload_n 2 dX7_gatherLows_5 rfl ?_
    refine J.sipush (10000 : Int32) dX7_gatherLows_6 rfl ?_
    refine J.icmp_le dX7_gatherLows_9 (fun h8 => ?_) (fun h8 => ?_)
    · skip
      have h8 : d.toInt ≤ (10000 : Int) := (fa_le _ _).mp h8
      refine J.aload_n 0 dX7_gatherLows_14 rfl ?_
      refine J.iload_n 1 dX7_gatherLows_15 rfl ?_
      refine J.callV 0 (st := []) B (c_X7_gatherLights l G _ hk hns hsa hL) ml_X7_142 mf_yX7_gatherLights mi_yX7_gatherLights rfl dX7_gatherLows_16 rfl rfl rfl rfl (fun v_1 w_2 hp_3 => ?_)
      obtain ⟨t1, u1, hcv, rfl, rfl⟩ := hp_3
      show J G X mX7_gatherLows _ _ _ 19 _ [.int (0 : Int32)]
      refine J.istore_n [1, 2, 3, 0] (lv' := [(0, .ref x), (1, .int (nI k)), (2, .int d), (3, .int (0 : Int32))]) dX7_gatherLows_19 rfl rfl ?_
      refine J.iload_n 3 dX7_gatherLows_20 rfl ?_
      refine J.if_ne dX7_gatherLows_21 (fun z => absurd z (by decide)) (fun _ => ?_)
      refine J.aload_n 0 dX7_gatherLows_24 rfl ?_
      refine J.get 0 fl_X7_49 dX7_gatherLows_25 rfl rfl ?_
      refine J.aload_n 0 dX7_gatherLows_28 rfl ?_
      refine J.get 0 fl_X7_28 dX7_gatherLows_29 rfl rfl ?_
      refine J.aload_n 0 dX7_gatherLows_32 rfl ?_
      refine J.re [0, 5, 7, 8, 9, 1, 2, 3, 4, 6, 10, 11] 12 (ws2 := (x, .inr (7, [.ref (A 0), .int (nI ns), .ref (A 1), .int (nI nr), .ref (A 2), .ref (A 3), .ref (A 4), .ref (A 5), .ref (A 6), .ref (A 7), .ref (A 8), .ref (A 9), .long to, .int al, .int wa, .int lf, .ref (A 10)])) :: (A 3, .inr (1, [.ref (A 11), .ref (A 12), .int (nI (nN L))])) :: (A 12, .inl (G.2.1.1, 60, .inl u1)) :: (A 4, .inr (0, [.ref (A 13), .int zs])) :: (A 13, .inl (G.2.1.1, 60, .inl nu)) :: (A 0, .inl (G.2.1.2.2.1, 12, .inr (.inr (.inr (.inr sa))))) :: (s, .inr (6, [.int kd, .ref la, .int (1 : Int32), .int wc])) :: (la, .inl (G.2.1.1, 60, .inl L)) :: (A 2, .inl (G.2.1.1, 60, .inl F)) :: (A 11, .inl (G.2.1.1, 60, .inl t1)) :: (A 6, .inr (4, [.ref (A 17), .int zl])) :: (A 17, .inl (G.2.1.1, 60, .inl lti)) :: r) rfl rfl ?_
      refine J.callV 0 (st := [.ref (A 3), .ref (A 6)]) B (c_X7_levelOfCurve l G _ hcv) ml_X7_145 mf_yX7_levelOfCurve mi_yX7_levelOfCurve rfl dX7_gatherLows_33 rfl rfl rfl rfl (fun v_4 w_5 hp_6 => ?_)
      obtain ⟨nu1, hA, rfl, rfl⟩ := hp_6
      refine J.re [0, 5, 6, 7, 8, 1, 9, 2, 3, 4, 10, 11] 12 (ws2 := (x, .inr (7, [.ref (A 0), .int (nI ns), .ref (A 1), .int (nI nr), .ref (A 2), .ref (A 3), .ref (A 4), .ref (A 5), .ref (A 6), .ref (A 7), .ref (A 8), .ref (A 9), .long to, .int al, .int wa, .int lf, .ref (A 10)])) :: (A 0, .inl (G.2.1.2.2.1, 12, .inr (.inr (.inr (.inr sa))))) :: (s, .inr (6, [.int kd, .ref la, .int (1 : Int32), .int wc])) :: (la, .inl (G.2.1.1, 60, .inl L)) :: (A 2, .inl (G.2.1.1, 60, .inl F)) :: (A 3, .inr (1, [.ref (A 11), .ref (A 12), .int (nI (nN L))])) :: (A 11, .inl (G.2.1.1, 60, .inl t1)) :: (A 12, .inl (G.2.1.1, 60, .inl u1)) :: (A 4, .inr (0, [.ref (A 13), .int (nI (nN L))])) :: (A 13, .inl (G.2.1.1, 60, .inl nu1)) :: (A 6, .inr (4, [.ref (A 17), .int zl])) :: (A 17, .inl (G.2.1.1, 60, .inl lti)) :: r) rfl rfl ?_
      show J G X mX7_gatherLows _ _ _ 36 _ [.int (midV (lits L F 60)), .ref (A 3), .ref (A 6)]
      refine J.iload_n 2 dX7_gatherLows_36 rfl ?_
      refine J.isub dX7_gatherLows_37 ?_
      refine J.re [10, 11, 5, 6, 7, 0, 1, 2, 3, 4, 8, 9] 12 (ws2 := (A 6, .inr (4, [.ref (A 17), .int zl])) :: (A 17, .inl (G.2.1.1, 60, .inl lti)) :: (A 3, .inr (1, [.ref (A 11), .ref (A 12), .int (nI (nN L))])) :: (A 11, .inl (G.2.1.1, 60, .inl t1)) :: (A 12, .inl (G.2.1.1, 60, .inl u1)) :: (x, .inr (7, [.ref (A 0), .int (nI ns), .ref (A 1), .int (nI nr), .ref (A 2), .ref (A 3), .ref (A 4), .ref (A 5), .ref (A 6), .ref (A 7), .ref (A 8), .ref (A 9), .long to, .int al, .int wa, .int lf, .ref (A 10)])) :: (A 0, .inl (G.2.1.2.2.1, 12, .inr (.inr (.inr (.inr sa))))) :: (s, .inr (6, [.int kd, .ref la, .int (1 : Int32), .int wc])) :: (la, .inl (G.2.1.1, 60, .inl L)) :: (A 2, .inl (G.2.1.1, 60, .inl F)) :: (A 4, .inr (0, [.ref (A 13), .int (nI (nN L))])) :: (A 13, .inl (G.2.1.1, 60, .inl nu1)) :: r) rfl rfl ?_
      refine J.callV 0 (st := []) B (c_X4_gather l G _ hcv) ml_X7_265 mf_yX4_gather mi_yX4_gather rfl dX7_gatherLows_38 rfl rfl rfl rfl (fun v_7 w_8 hp_9 => ?_)
      obtain ⟨lt1, hlt, rfl, rfl⟩ := hp_9
      refine J.re [5, 6, 7, 8, 9, 2, 3, 4, 10, 11, 0, 1] 12 (ws2 := (x, .inr (7, [.ref (A 0), .int (nI ns), .ref (A 1), .int (nI nr), .ref (A 2), .ref (A 3), .ref (A 4), .ref (A 5), .ref (A 6), .ref (A 7), .ref (A 8), .ref (A 9), .long to, .int al, .int wa, .int lf, .ref (A 10)])) :: (A 0, .inl (G.2.1.2.2.1, 12, .inr (.inr (.inr (.inr sa))))) :: (s, .inr (6, [.int kd, .ref la, .int (1 : Int32), .int wc])) :: (la, .inl (G.2.1.1, 60, .inl L)) :: (A 2, .inl (G.2.1.1, 60, .inl F)) :: (A 3, .inr (1, [.ref (A 11), .ref (A 12), .int (nI (nN L))])) :: (A 11, .inl (G.2.1.1, 60, .inl t1)) :: (A 12, .inl (G.2.1.1, 60, .inl u1)) :: (A 4, .inr (0, [.ref (A 13), .int (nI (nN L))])) :: (A 13, .inl (G.2.1.1, 60, .inl nu1)) :: (A 6, .inr (4, [.ref (A 17), .int (nI ((lowF (ltF L F) (midV (lits L F 60) - d) (nts L 60)).1.length))])) :: (A 17, .inl (G.2.1.1, 60, .inl lt1)) :: r) rfl rfl ?_
      show J G X mX7_gatherLows _ _ _ 41 _ []
      refine J.iload_n 3 dX7_gatherLows_41 rfl ?_
      exact J.iret B dX7_gatherLows_42 rfl (⟨t1, u1, nu1, lt1, hlt, rfl, rfl⟩)
    · skip
      have h8 : ¬ d.toInt ≤ (10000 : Int) := fun z => h8 ((fa_le _ _).mpr z)
      omega
set_option maxHeartbeats 4000000 in
set_option maxRecDepth 100000 in
theorem c_X7_glc_clk (l : Launch) (G : jG) (r : va_W) {x : Nat} {A : Nat → Nat} {ns nr : Nat} {to : Int64} {al wa lf : Int32} {num d : Int32} {c p q : Int32} (hc : (inR c 0 59 && (inR p 1 600 && inR q 1 60)) = false) : Mt l G yX7_gatherLowsOnClock mX7_gatherLowsOnClock 5 110 0 0 [.ref x, .int num, .int d, .int c, .int p, .int q] ((x, .inr (7, [.ref (A 0), .int (nI ns), .ref (A 1), .int (nI nr), .ref (A 2), .ref (A 3), .ref (A 4), .ref (A 5), .ref (A 6), .ref (A 7), .ref (A 8), .ref (A 9), .long to, .int al, .int wa, .int lf, .ref (A 10)])) :: r) (fun v w => v = some (.int (-1 : Int32)) ∧ w = (x, .inr (7, [.ref (A 0), .int (nI ns), .ref (A 1), .int (nI nr), .ref (A 2), .ref (A 3), .ref (A 4), .ref (A 5), .ref (A 6), .ref (A 7), .ref (A 8), .ref (A 9), .long to, .int al, .int wa, .int lf, .ref (A 10)])) :: r) := by
  refine Mt.of (by decide +kernel) rfl rfl (fun X B => ?_)
  show J G X mX7_gatherLowsOnClock ((x, .inr (7, [.ref (A 0), .int (nI ns), .ref (A 1), .int (nI nr), .ref (A 2), .ref (A 3), .ref (A 4), .ref (A 5), .ref (A 6), .ref (A 7), .ref (A 8), .ref (A 9), .long to, .int al, .int wa, .int lf, .ref (A 10)])) :: r) 0 0 0 [(0, .ref x), (1, .int num), (2, .int d), (3, .int c), (4, .int p), (5, .int q)] []
  refine J.iload_n 3 dX7_gatherLowsOnClock_0 rfl ?_
  refine J.callS (st := []) B (c_X7_isNight l G _ (k := c)) ml_X7_132 mf_yX7_isNight mS_yX7_isNight dX7_gatherLowsOnClock_1 rfl rfl rfl (fun v_1 w_2 hp_3 => ?_)
  obtain ⟨rfl, rfl⟩ := hp_3
  show J G X mX7_gatherLowsOnClock _ _ _ 4 _ [.int (b01 (inR c 0 59))]
  refine J.if_eq dX7_gatherLowsOnClock_4 (fun h9 => ?_) (fun h9 => ?_)
  · skip
    refine J.iconst (-1 : Int32) dX7_gatherLowsOnClock_26 rfl ?_
    exact J.iret B dX7_gatherLowsOnClock_27 rfl (⟨rfl, rfl⟩)
  · skip
    refine J.iload 4 dX7_gatherLowsOnClock_7 rfl ?_
    refine J.iload 5 dX7_gatherLowsOnClock_9 rfl ?_
    refine J.callS (st := []) B (c_X7_isPeriod l G _ (p := p) (q := q)) ml_X7_153 mf_yX7_isPeriod mS_yX7_isPeriod dX7_gatherLowsOnClock_11 rfl rfl rfl (fun v_4 w_5 hp_6 => ?_)
    obtain ⟨rfl, rfl⟩ := hp_6
    show J G X mX7_gatherLowsOnClock _ _ _ 14 _ [.int (b01 (inR p 1 600 && inR q 1 60))]
    refine J.if_eq dX7_gatherLowsOnClock_14 (fun h8 => ?_) (fun h8 => ?_)
    · skip
      refine J.iconst (-1 : Int32) dX7_gatherLowsOnClock_26 rfl ?_
      exact J.iret B dX7_gatherLowsOnClock_27 rfl (⟨rfl, rfl⟩)
    · skip
      exact absurd (by rw [b01_1 h9, b01_1 h8]; rfl) (Bool.eq_false_iff.mp hc)
set_option maxHeartbeats 4000000 in
set_option maxRecDepth 100000 in
theorem c_X7_glc_d (l : Launch) (G : jG) (r : va_W) {x : Nat} {A : Nat → Nat} {ns nr : Nat} {to : Int64} {al wa lf : Int32} {num d : Int32} {c p q : Int32} (hc : (inR c 0 59 && (inR p 1 600 && inR q 1 60)) = true) (hd : inR d 1 10000 = false) : Mt l G yX7_gatherLowsOnClock mX7_gatherLowsOnClock 5 110 0 0 [.ref x, .int num, .int d, .int c, .int p, .int q] ((x, .inr (7, [.ref (A 0), .int (nI ns), .ref (A 1), .int (nI nr), .ref (A 2), .ref (A 3), .ref (A 4), .ref (A 5), .ref (A 6), .ref (A 7), .ref (A 8), .ref (A 9), .long to, .int al, .int wa, .int lf, .ref (A 10)])) :: r) (fun v w => v = some (.int (-1 : Int32)) ∧ w = (x, .inr (7, [.ref (A 0), .int (nI ns), .ref (A 1), .int (nI nr), .ref (A 2), .ref (A 3), .ref (A 4), .ref (A 5), .ref (A 6), .ref (A 7), .ref (A 8), .ref (A 9), .long to, .int al, .int wa, .int lf, .ref (A 10)])) :: r) := by
  refine Mt.of (by decide +kernel) rfl rfl (fun X B => ?_)
  show J G X mX7_gatherLowsOnClock ((x, .inr (7, [.ref (A 0), .int (nI ns), .ref (A 1), .int (nI nr), .ref (A 2), .ref (A 3), .ref (A 4), .ref (A 5), .ref (A 6), .ref (A 7), .ref (A 8), .ref (A 9), .long to, .int al, .int wa, .int lf, .ref (A 10)])) :: r) 0 0 0 [(0, .ref x), (1, .int num), (2, .int d), (3, .int c), (4, .int p), (5, .int q)] []
  obtain ⟨hc1, hc2⟩ := Bool.and_eq_true_iff.mp hc
  refine J.iload_n 3 dX7_gatherLowsOnClock_0 rfl ?_
  refine J.callS (st := []) B (c_X7_isNight l G _ (k := c)) ml_X7_132 mf_yX7_isNight mS_yX7_isNight dX7_gatherLowsOnClock_1 rfl rfl rfl (fun v_1 w_2 hp_3 => ?_)
  obtain ⟨rfl, rfl⟩ := hp_3
  show J G X mX7_gatherLowsOnClock _ _ _ 4 _ [.int (b01 (inR c 0 59))]
  refine J.if_eq dX7_gatherLowsOnClock_4 (fun z => absurd z (by rw [hc1]; decide)) (fun h9 => ?_)
  refine J.iload 4 dX7_gatherLowsOnClock_7 rfl ?_
  refine J.iload 5 dX7_gatherLowsOnClock_9 rfl ?_
  refine J.callS (st := []) B (c_X7_isPeriod l G _ (p := p) (q := q)) ml_X7_153 mf_yX7_isPeriod mS_yX7_isPeriod dX7_gatherLowsOnClock_11 rfl rfl rfl (fun v_4 w_5 hp_6 => ?_)
  obtain ⟨rfl, rfl⟩ := hp_6
  show J G X mX7_gatherLowsOnClock _ _ _ 14 _ [.int (b01 (inR p 1 600 && inR q 1 60))]
  refine J.if_eq dX7_gatherLowsOnClock_14 (fun z => absurd z (by rw [hc2]; decide)) (fun h8 => ?_)
  refine J.aload_n 0 dX7_gatherLowsOnClock_17 rfl ?_
  refine J.iload_n 1 dX7_gatherLowsOnClock_18 rfl ?_
  refine J.iload_n 2 dX7_gatherLowsOnClock_19 rfl ?_
  refine J.callV 0 (st := []) B (c_X7_gatherLows_d l G _ hd) ml_X7_204 mf_yX7_gatherLows mi_yX7_gatherLows rfl dX7_gatherLowsOnClock_20 rfl rfl rfl rfl (fun v_7 w_8 hp_9 => ?_)
  obtain ⟨rfl, rfl⟩ := hp_9
  show J G X mX7_gatherLowsOnClock _ _ _ 23 _ [.int (-1 : Int32)]
  refine J.goto dX7_gatherLowsOnClock_23 ?_
  exact J.iret B dX7_gatherLowsOnClock_27 rfl (⟨rfl, rfl⟩)
set_option maxHeartbeats 4000000 in
set_option maxRecDepth 100000 in
theorem c_X7_glc_bad (l : Launch) (G : jG) (r : va_W) {x : Nat} {A : Nat → Nat} {ns nr : Nat} {to : Int64} {al wa lf : Int32} {sa : Nat → Option Nat} {num : Int32} (hns : ns ≤ 12) (hnum : inR num 0 ((ns : Int) - 1) = false) {d : Int32} {c p q : Int32} (hc : (inR c 0 59 && (inR p 1 600 && inR q 1 60)) = true) (hd : inR d 1 10000 = true) : Mt l G yX7_gatherLowsOnClock mX7_gatherLowsOnClock 5 110 0 0 [.ref x, .int num, .int d, .int c, .int p, .int q] ((x, .inr (7, [.ref (A 0), .int (nI ns), .ref (A 1), .int (nI nr), .ref (A 2), .ref (A 3), .ref (A 4), .ref (A 5), .ref (A 6), .ref (A 7), .ref (A 8), .ref (A 9), .long to, .int al, .int wa, .int lf, .ref (A 10)])) :: (A 0, .inl (G.2.1.2.2.1, 12, .inr (.inr (.inr (.inr sa))))) :: r) (fun v w => v = some (.int (-1 : Int32)) ∧ w = (x, .inr (7, [.ref (A 0), .int (nI ns), .ref (A 1), .int (nI nr), .ref (A 2), .ref (A 3), .ref (A 4), .ref (A 5), .ref (A 6), .ref (A 7), .ref (A 8), .ref (A 9), .long to, .int al, .int wa, .int lf, .ref (A 10)])) :: (A 0, .inl (G.2.1.2.2.1, 12, .inr (.inr (.inr (.inr sa))))) :: r) := by
  refine Mt.of (by decide +kernel) rfl rfl (fun X B => ?_)
  show J G X mX7_gatherLowsOnClock ((x, .inr (7, [.ref (A 0), .int (nI ns), .ref (A 1), .int (nI nr), .ref (A 2), .ref (A 3), .ref (A 4), .ref (A 5), .ref (A 6), .ref (A 7), .ref (A 8), .ref (A 9), .long to, .int al, .int wa, .int lf, .ref (A 10)])) :: (A 0, .inl (G.2.1.2.2.1, 12, .inr (.inr (.inr (.inr sa))))) :: r) 0 0 0 [(0, .ref x), (1, .int num), (2, .int d), (3, .int c), (4, .int p), (5, .int q)] []
  obtain ⟨hc1, hc2⟩ := Bool.and_eq_true_iff.mp hc
  refine J.iload_n 3 dX7_gatherLowsOnClock_0 rfl ?_
  refine J.callS (st := []) B (c_X7_isNight l G _ (k := c)) ml_X7_132 mf_yX7_isNight mS_yX7_isNight dX7_gatherLowsOnClock_1 rfl rfl rfl (fun v_1 w_2 hp_3 => ?_)
  obtain ⟨rfl, rfl⟩ := hp_3
  show J G X mX7_gatherLowsOnClock _ _ _ 4 _ [.int (b01 (inR c 0 59))]
  refine J.if_eq dX7_gatherLowsOnClock_4 (fun z => absurd z (by rw [hc1]; decide)) (fun h9 => ?_)
  refine J.iload 4 dX7_gatherLowsOnClock_7 rfl ?_
  refine J.iload 5 dX7_gatherLowsOnClock_9 rfl ?_
  refine J.callS (st := []) B (c_X7_isPeriod l G _ (p := p) (q := q)) ml_X7_153 mf_yX7_isPeriod mS_yX7_isPeriod dX7_gatherLowsOnClock_11 rfl rfl rfl (fun v_4 w_5 hp_6 => ?_)
  obtain ⟨rfl, rfl⟩ := hp_6
  show J G X mX7_gatherLowsOnClock _ _ _ 14 _ [.int (b01 (inR p 1 600 && inR q 1 60))]
  refine J.if_eq dX7_gatherLowsOnClock_14 (fun z => absurd z (by rw [hc2]; decide)) (fun h8 => ?_)
  refine J.aload_n 0 dX7_gatherLowsOnClock_17 rfl ?_
  refine J.iload_n 1 dX7_gatherLowsOnClock_18 rfl ?_
  refine J.iload_n 2 dX7_gatherLowsOnClock_19 rfl ?_
  refine J.callV 0 (st := []) B (c_X7_gatherLows_bad l G _ hns hnum hd) ml_X7_204 mf_yX7_gatherLows mi_yX7_gatherLows rfl dX7_gatherLowsOnClock_20 rfl rfl rfl rfl (fun v_7 w_8 hp_9 => ?_)
  obtain ⟨rfl, rfl⟩ := hp_9
  show J G X mX7_gatherLowsOnClock _ _ _ 23 _ [.int (-1 : Int32)]
  refine J.goto dX7_gatherLowsOnClock_23 ?_
  exact J.iret B dX7_gatherLowsOnClock_27 rfl (⟨rfl, rfl⟩)
set_option maxHeartbeats 4000000 in
set_option maxRecDepth 100000 in
theorem c_X7_glc_no (l : Launch) (G : jG) (r : va_W) {x : Nat} {A : Nat → Nat} {ns nr : Nat} {to : Int64} {al wa lf : Int32} {sa : Nat → Option Nat} {la : Nat} {kd wc : Int32} {k s : Nat} (hk : k < ns) (hns : ns ≤ 12) (hsa : sa k = some s) {d : Int32} {c p q : Int32} {fc : Nat → Int32} (hc : (inR c 0 59 && (inR p 1 600 && inR q 1 60)) = true) (hd : inR d 1 10000 = true) : Mt l G yX7_gatherLowsOnClock mX7_gatherLowsOnClock 5 110 0 0 [.ref x, .int (nI k), .int d, .int c, .int p, .int q] ((x, .inr (7, [.ref (A 0), .int (nI ns), .ref (A 1), .int (nI nr), .ref (A 2), .ref (A 3), .ref (A 4), .ref (A 5), .ref (A 6), .ref (A 7), .ref (A 8), .ref (A 9), .long to, .int al, .int wa, .int lf, .ref (A 10)])) :: (A 0, .inl (G.2.1.2.2.1, 12, .inr (.inr (.inr (.inr sa))))) :: (s, .inr (6, [.int kd, .ref la, .int (0 : Int32), .int wc])) :: (A 10, .inl (G.2.1.1, 6, .inl fc)) :: r) (fun v w => v = some (.int (-3 : Int32)) ∧ w = (x, .inr (7, [.ref (A 0), .int (nI ns), .ref (A 1), .int (nI nr), .ref (A 2), .ref (A 3), .ref (A 4), .ref (A 5), .ref (A 6), .ref (A 7), .ref (A 8), .ref (A 9), .long to, .int al, .int wa, .int (nI 1), .ref (A 10)])) :: (A 0, .inl (G.2.1.2.2.1, 12, .inr (.inr (.inr (.inr sa))))) :: (s, .inr (6, [.int kd, .ref la, .int (0 : Int32), .int wc])) :: (A 10, .inl (G.2.1.1, 6, .inl (upd fc 1 (fc 1 + 1)))) :: r) := by
  refine Mt.of (by decide +kernel) rfl rfl (fun X B => ?_)
  show J G X mX7_gatherLowsOnClock ((x, .inr (7, [.ref (A 0), .int (nI ns), .ref (A 1), .int (nI nr), .ref (A 2), .ref (A 3), .ref (A 4), .ref (A 5), .ref (A 6), .ref (A 7), .ref (A 8), .ref (A 9), .long to, .int al, .int wa, .int lf, .ref (A 10)])) :: (A 0, .inl (G.2.1.2.2.1, 12, .inr (.inr (.inr (.inr sa))))) :: (s, .inr (6, [.int kd, .ref la, .int (0 : Int32), .int wc])) :: (A 10, .inl (G.2.1.1, 6, .inl fc)) :: r) 0 0 0 [(0, .ref x), (1, .int (nI k)), (2, .int d), (3, .int c), (4, .int p), (5, .int q)] []
  obtain ⟨hc1, hc2⟩ := Bool.and_eq_true_iff.mp hc
  refine J.iload_n 3 dX7_gatherLowsOnClock_0 rfl ?_
  refine J.callS (st := []) B (c_X7_isNight l G _ (k := c)) ml_X7_132 mf_yX7_isNight mS_yX7_isNight dX7_gatherLowsOnClock_1 rfl rfl rfl (fun v_1 w_2 hp_3 => ?_)
  obtain ⟨rfl, rfl⟩ := hp_3
  show J G X mX7_gatherLowsOnClock _ _ _ 4 _ [.int (b01 (inR c 0 59))]
  refine J.if_eq dX7_gatherLowsOnClock_4 (fun z => absurd z (by rw [hc1]; decide)) (fun h9 => ?_)
  refine J.iload 4 dX7_gatherLowsOnClock_7 rfl ?_
  refine J.iload 5 dX7_gatherLowsOnClock_9 rfl ?_
  refine J.callS (st := []) B (c_X7_isPeriod l G _ (p := p) (q := q)) ml_X7_153 mf_yX7_isPeriod mS_yX7_isPeriod dX7_gatherLowsOnClock_11 rfl rfl rfl (fun v_4 w_5 hp_6 => ?_)
  obtain ⟨rfl, rfl⟩ := hp_6
  show J G X mX7_gatherLowsOnClock _ _ _ 14 _ [.int (b01 (inR p 1 600 && inR q 1 60))]
  refine J.if_eq dX7_gatherLowsOnClock_14 (fun z => absurd z (by rw [hc2]; decide)) (fun h8 => ?_)
  refine J.aload_n 0 dX7_gatherLowsOnClock_17 rfl ?_
  refine J.iload_n 1 dX7_gatherLowsOnClock_18 rfl ?_
  refine J.iload_n 2 dX7_gatherLowsOnClock_19 rfl ?_
  refine J.callV 0 (st := []) B (c_X7_gatherLows_no l G _ hk hns hsa hd) ml_X7_204 mf_yX7_gatherLows mi_yX7_gatherLows rfl dX7_gatherLowsOnClock_20 rfl rfl rfl rfl (fun v_7 w_8 hp_9 => ?_)
  obtain ⟨rfl, rfl⟩ := hp_9
  show J G X mX7_gatherLowsOnClock _ _ _ 23 _ [.int (-3 : Int32)]
  refine J.goto dX7_gatherLowsOnClock_23 ?_
  exact J.iret B dX7_gatherLowsOnClock_27 rfl (⟨rfl, rfl⟩)
set_option maxHeartbeats 4000000 in
set_option maxRecDepth 100000 in
theorem c_X7_glc_nought (l : Launch) (G : jG) (r : va_W) {x : Nat} {A : Nat → Nat} {ns nr : Nat} {to : Int64} {al wa lf : Int32} {sa : Nat → Option Nat} {la : Nat} {kd wc : Int32} {k s : Nat} (hk : k < ns) (hns : ns ≤ 12) (hsa : sa k = some s) {d : Int32} {c p q : Int32} {L F : Nat → Int32} {cz : Int32} {t u : Nat → Int32} {fc : Nat → Int32} (hc : (inR c 0 59 && (inR p 1 600 && inR q 1 60)) = true) (hd : inR d 1 10000 = true) (hL : nN L = 0) : Mt l G yX7_gatherLowsOnClock mX7_gatherLowsOnClock 5 110 0 0 [.ref x, .int (nI k), .int d, .int c, .int p, .int q] ((x, .inr (7, [.ref (A 0), .int (nI ns), .ref (A 1), .int (nI nr), .ref (A 2), .ref (A 3), .ref (A 4), .ref (A 5), .ref (A 6), .ref (A 7), .ref (A 8), .ref (A 9), .long to, .int al, .int wa, .int lf, .ref (A 10)])) :: (A 0, .inl (G.2.1.2.2.1, 12, .inr (.inr (.inr (.inr sa))))) :: (s, .inr (6, [.int kd, .ref la, .int (1 : Int32), .int wc])) :: (la, .inl (G.2.1.1, 60, .inl L)) :: (A 2, .inl (G.2.1.1, 60, .inl F)) :: (A 3, .inr (1, [.ref (A 11), .ref (A 12), .int cz])) :: (A 11, .inl (G.2.1.1, 60, .inl t)) :: (A 12, .inl (G.2.1.1, 60, .inl u)) :: (A 10, .inl (G.2.1.1, 6, .inl fc)) :: r) (fun v w => ∃ t1 u1, v = some (.int (-3)) ∧ w = (x, .inr (7, [.ref (A 0), .int (nI ns), .ref (A 1), .int (nI nr), .ref (A 2), .ref (A 3), .ref (A 4), .ref (A 5), .ref (A 6), .ref (A 7), .ref (A 8), .ref (A 9), .long to, .int al, .int wa, .int (nI 4), .ref (A 10)])) :: (A 0, .inl (G.2.1.2.2.1, 12, .inr (.inr (.inr (.inr sa))))) :: (s, .inr (6, [.int kd, .ref la, .int (1 : Int32), .int wc])) :: (la, .inl (G.2.1.1, 60, .inl L)) :: (A 2, .inl (G.2.1.1, 60, .inl F)) :: (A 3, .inr (1, [.ref (A 11), .ref (A 12), .int (nI (nN L))])) :: (A 11, .inl (G.2.1.1, 60, .inl t1)) :: (A 12, .inl (G.2.1.1, 60, .inl u1)) :: (A 10, .inl (G.2.1.1, 6, .inl (upd fc 4 (fc 4 + 1)))) :: r) := by
  refine Mt.of (by decide +kernel) rfl rfl (fun X B => ?_)
  show J G X mX7_gatherLowsOnClock ((x, .inr (7, [.ref (A 0), .int (nI ns), .ref (A 1), .int (nI nr), .ref (A 2), .ref (A 3), .ref (A 4), .ref (A 5), .ref (A 6), .ref (A 7), .ref (A 8), .ref (A 9), .long to, .int al, .int wa, .int lf, .ref (A 10)])) :: (A 0, .inl (G.2.1.2.2.1, 12, .inr (.inr (.inr (.inr sa))))) :: (s, .inr (6, [.int kd, .ref la, .int (1 : Int32), .int wc])) :: (la, .inl (G.2.1.1, 60, .inl L)) :: (A 2, .inl (G.2.1.1, 60, .inl F)) :: (A 3, .inr (1, [.ref (A 11), .ref (A 12), .int cz])) :: (A 11, .inl (G.2.1.1, 60, .inl t)) :: (A 12, .inl (G.2.1.1, 60, .inl u)) :: (A 10, .inl (G.2.1.1, 6, .inl fc)) :: r) 0 0 0 [(0, .ref x), (1, .int (nI k)), (2, .int d), (3, .int c), (4, .int p), (5, .int q)] []
  obtain ⟨hc1, hc2⟩ := Bool.and_eq_true_iff.mp hc
  refine J.iload_n 3 dX7_gatherLowsOnClock_0 rfl ?_
  refine J.callS (st := []) B (c_X7_isNight l G _ (k := c)) ml_X7_132 mf_yX7_isNight mS_yX7_isNight dX7_gatherLowsOnClock_1 rfl rfl rfl (fun v_1 w_2 hp_3 => ?_)
  obtain ⟨rfl, rfl⟩ := hp_3
  show J G X mX7_gatherLowsOnClock _ _ _ 4 _ [.int (b01 (inR c 0 59))]
  refine J.if_eq dX7_gatherLowsOnClock_4 (fun z => absurd z (by rw [hc1]; decide)) (fun h9 => ?_)
  refine J.iload 4 dX7_gatherLowsOnClock_7 rfl ?_
  refine J.iload 5 dX7_gatherLowsOnClock_9 rfl ?_
  refine J.callS (st := []) B (c_X7_isPeriod l G _ (p := p) (q := q)) ml_X7_153 mf_yX7_isPeriod mS_yX7_isPeriod dX7_gatherLowsOnClock_11 rfl rfl rfl (fun v_4 w_5 hp_6 => ?_)
  obtain ⟨rfl, rfl⟩ := hp_6
  show J G X mX7_gatherLowsOnClock _ _ _ 14 _ [.int (b01 (inR p 1 600 && inR q 1 60))]
  refine J.if_eq dX7_gatherLowsOnClock_14 (fun z => absurd z (by rw [hc2]; decide)) (fun h8 => ?_)
  refine J.aload_n 0 dX7_gatherLowsOnClock_17 rfl ?_
  refine J.iload_n 1 dX7_gatherLowsOnClock_18 rfl ?_
  refine J.iload_n 2 dX7_gatherLowsOnClock_19 rfl ?_
  refine J.callV 0 (st := []) B (c_X7_gatherLows_nought l G _ hk hns hsa hd hL) ml_X7_204 mf_yX7_gatherLows mi_yX7_gatherLows rfl dX7_gatherLowsOnClock_20 rfl rfl rfl rfl (fun v_7 w_8 hp_9 => ?_)
  obtain ⟨t1, u1, rfl, rfl⟩ := hp_9
  show J G X mX7_gatherLowsOnClock _ _ _ 23 _ [.int (-3 : Int32)]
  refine J.goto dX7_gatherLowsOnClock_23 ?_
  exact J.iret B dX7_gatherLowsOnClock_27 rfl (⟨t1, u1, rfl, rfl⟩)
set_option maxHeartbeats 4000000 in
set_option maxRecDepth 100000 in
theorem c_X7_glc (l : Launch) (G : jG) (r : va_W) {x : Nat} {A : Nat → Nat} {ns nr : Nat} {to : Int64} {al wa lf : Int32} {sa : Nat → Option Nat} {la : Nat} {kd wc : Int32} {k s : Nat} (hk : k < ns) (hns : ns ≤ 12) (hsa : sa k = some s) {d : Int32} {c p q : Int32} {L F : Nat → Int32} {cz : Int32} {t u : Nat → Int32} {zs zl : Int32} {nu lti : Nat → Int32} (hc : (inR c 0 59 && (inR p 1 600 && inR q 1 60)) = true) (hd : inR d 1 10000 = true) (hL : 0 < nN L) : Mt l G yX7_gatherLowsOnClock mX7_gatherLowsOnClock 5 110 0 0 [.ref x, .int (nI k), .int d, .int c, .int p, .int q] ((x, .inr (7, [.ref (A 0), .int (nI ns), .ref (A 1), .int (nI nr), .ref (A 2), .ref (A 3), .ref (A 4), .ref (A 5), .ref (A 6), .ref (A 7), .ref (A 8), .ref (A 9), .long to, .int al, .int wa, .int lf, .ref (A 10)])) :: (A 0, .inl (G.2.1.2.2.1, 12, .inr (.inr (.inr (.inr sa))))) :: (s, .inr (6, [.int kd, .ref la, .int (1 : Int32), .int wc])) :: (la, .inl (G.2.1.1, 60, .inl L)) :: (A 2, .inl (G.2.1.1, 60, .inl F)) :: (A 3, .inr (1, [.ref (A 11), .ref (A 12), .int cz])) :: (A 11, .inl (G.2.1.1, 60, .inl t)) :: (A 12, .inl (G.2.1.1, 60, .inl u)) :: (A 4, .inr (0, [.ref (A 13), .int zs])) :: (A 13, .inl (G.2.1.1, 60, .inl nu)) :: (A 6, .inr (4, [.ref (A 17), .int zl])) :: (A 17, .inl (G.2.1.1, 60, .inl lti)) :: r) (fun v w => ∃ t1 u1 nu1 lt1, AG lt1 ((lowF (ltF L F) (midV (lits L F 60) - d) (nts L 60)).1.map nI) ∧ v = some (.int 0) ∧ w = (x, .inr (7, [.ref (A 0), .int (nI ns), .ref (A 1), .int (nI nr), .ref (A 2), .ref (A 3), .ref (A 4), .ref (A 5), .ref (A 6), .ref (A 7), .ref (A 8), .ref (A 9), .long to, .int al, .int wa, .int lf, .ref (A 10)])) :: (A 0, .inl (G.2.1.2.2.1, 12, .inr (.inr (.inr (.inr sa))))) :: (s, .inr (6, [.int kd, .ref la, .int (1 : Int32), .int wc])) :: (la, .inl (G.2.1.1, 60, .inl L)) :: (A 2, .inl (G.2.1.1, 60, .inl F)) :: (A 3, .inr (1, [.ref (A 11), .ref (A 12), .int (nI (nN L))])) :: (A 11, .inl (G.2.1.1, 60, .inl t1)) :: (A 12, .inl (G.2.1.1, 60, .inl u1)) :: (A 4, .inr (0, [.ref (A 13), .int (nI (nN L))])) :: (A 13, .inl (G.2.1.1, 60, .inl nu1)) :: (A 6, .inr (4, [.ref (A 17), .int (nI ((lowF (ltF L F) (midV (lits L F 60) - d) (nts L 60)).1.length))])) :: (A 17, .inl (G.2.1.1, 60, .inl lt1)) :: r) := by
  refine Mt.of (by decide +kernel) rfl rfl (fun X B => ?_)
  show J G X mX7_gatherLowsOnClock ((x, .inr (7, [.ref (A 0), .int (nI ns), .ref (A 1), .int (nI nr), .ref (A 2), .ref (A 3), .ref (A 4), .ref (A 5), .ref (A 6), .ref (A 7), .ref (A 8), .ref (A 9), .long to, .int al, .int wa, .int lf, .ref (A 10)])) :: (A 0, .inl (G.2.1.2.2.1, 12, .inr (.inr (.inr (.inr sa))))) :: (s, .inr (6, [.int kd, .ref la, .int (1 : Int32), .int wc])) :: (la, .inl (G.2.1.1, 60, .inl L)) :: (A 2, .inl (G.2.1.1, 60, .inl F)) :: (A 3, .inr (1, [.ref (A 11), .ref (A 12), .int cz])) :: (A 11, .inl (G.2.1.1, 60, .inl t)) :: (A 12, .inl (G.2.1.1, 60, .inl u)) :: (A 4, .inr (0, [.ref (A 13), .int zs])) :: (A 13, .inl (G.2.1.1, 60, .inl nu)) :: (A 6, .inr (4, [.ref (A 17), .int zl])) :: (A 17, .inl (G.2.1.1, 60, .inl lti)) :: r) 0 0 0 [(0, .ref x), (1, .int (nI k)), (2, .int d), (3, .int c), (4, .int p), (5, .int q)] []
  obtain ⟨hc1, hc2⟩ := Bool.and_eq_true_iff.mp hc
  refine J.iload_n 3 dX7_gatherLowsOnClock_0 rfl ?_
  refine J.callS (st := []) B (c_X7_isNight l G _ (k := c)) ml_X7_132 mf_yX7_isNight mS_yX7_isNight dX7_gatherLowsOnClock_1 rfl rfl rfl (fun v_1 w_2 hp_3 => ?_)
  obtain ⟨rfl, rfl⟩ := hp_3
  show J G X mX7_gatherLowsOnClock _ _ _ 4 _ [.int (b01 (inR c 0 59))]
  refine J.if_eq dX7_gatherLowsOnClock_4 (fun z => absurd z (by rw [hc1]; decide)) (fun h9 => ?_)
  refine J.iload 4 dX7_gatherLowsOnClock_7 rfl ?_
  refine J.iload 5 dX7_gatherLowsOnClock_9 rfl ?_
  refine J.callS (st := []) B (c_X7_isPeriod l G _ (p := p) (q := q)) ml_X7_153 mf_yX7_isPeriod mS_yX7_isPeriod dX7_gatherLowsOnClock_11 rfl rfl rfl (fun v_4 w_5 hp_6 => ?_)
  obtain ⟨rfl, rfl⟩ := hp_6
  show J G X mX7_gatherLowsOnClock _ _ _ 14 _ [.int (b01 (inR p 1 600 && inR q 1 60))]
  refine J.if_eq dX7_gatherLowsOnClock_14 (fun z => absurd z (by rw [hc2]; decide)) (fun h8 => ?_)
  refine J.aload_n 0 dX7_gatherLowsOnClock_17 rfl ?_
  refine J.iload_n 1 dX7_gatherLowsOnClock_18 rfl ?_
  refine J.iload_n 2 dX7_gatherLowsOnClock_19 rfl ?_
  refine J.callV 0 (st := []) B (c_X7_gatherLows l G _ hk hns hsa hd hL) ml_X7_204 mf_yX7_gatherLows mi_yX7_gatherLows rfl dX7_gatherLowsOnClock_20 rfl rfl rfl rfl (fun v_7 w_8 hp_9 => ?_)
  obtain ⟨t1, u1, nu1, lt1, hlt, rfl, rfl⟩ := hp_9
  show J G X mX7_gatherLowsOnClock _ _ _ 23 _ [.int (0 : Int32)]
  refine J.goto dX7_gatherLowsOnClock_23 ?_
  exact J.iret B dX7_gatherLowsOnClock_27 rfl (⟨t1, u1, nu1, lt1, hlt, rfl, rfl⟩)
set_option maxHeartbeats 4000000 in
set_option maxRecDepth 100000 in
theorem c_X7_turnOfTime (l : Launch) (G : jG) (r : va_W) {k c p q : Nat} (hk : k < 60) (hc : c < 60) (hp1 : 1 ≤ p) (hp : p ≤ 600) (hq : q ≤ 60) : Mt l G yX7_turnOfTime mX7_turnOfTime 1 22 0 0 [.int (nI k), .int (nI c), .int (nI p), .int (nI q)] (r) (fun v w => v = some (.int (Int32.ofInt (tuI k c p q))) ∧ w = r) := by
  refine Mt.of (by decide +kernel) rfl rfl (fun X B => ?_)
  show J G X mX7_turnOfTime (r) 0 0 0 [(0, .int (nI k)), (1, .int (nI c)), (2, .int (nI p)), (3, .int (nI q))] []
  have hb2 : (0 : Int32) < 2 * nI p := by
    rw [show (2 : Int32) * nI p = nI (2 * p) from pk_mul 2 p]
    exact nI_lt (a := 0) (by omega) (by omega)
  refine J.iload_n 2 dX7_turnOfTime_0 rfl ?_
  refine J.iconst (1 : Int32) dX7_turnOfTime_1 rfl ?_
  refine J.icmp_ge dX7_turnOfTime_2 (fun h9 => ?_) (fun h9 => ?_)
  · skip
    have h9 : 1 ≤ p := (nI_leI (a := 1) (b := p) (by omega) (by omega)).mp h9
    refine J.iconst (2 : Int32) dX7_turnOfTime_9 rfl ?_
    refine J.iload_n 0 dX7_turnOfTime_10 rfl ?_
    refine J.iload_n 1 dX7_turnOfTime_11 rfl ?_
    refine J.isub dX7_turnOfTime_12 ?_
    refine J.imul dX7_turnOfTime_13 ?_
    refine J.iload_n 3 dX7_turnOfTime_14 rfl ?_
    refine J.imul dX7_turnOfTime_15 ?_
    refine J.iload_n 2 dX7_turnOfTime_16 rfl ?_
    refine J.iadd dX7_turnOfTime_17 ?_
    refine J.iconst (2 : Int32) dX7_turnOfTime_18 rfl ?_
    refine J.iload_n 2 dX7_turnOfTime_19 rfl ?_
    refine J.imul dX7_turnOfTime_20 ?_
    refine J.callS (st := []) B (c_J9_floorDiv_7cf53 l G _ (a := (((2 : Int32) * ((nI k) - (nI c))) * (nI q)) + (nI p)) (b := (2 : Int32) * (nI p)) hb2) ml_X7_294 mf_yJ9_floorDiv_7cf53 mS_yJ9_floorDiv_7cf53 dX7_turnOfTime_21 rfl rfl rfl (fun v_1 w_2 hp_3 => ?_)
    obtain ⟨rfl, rfl⟩ := hp_3
    rw [tu_cls hk hc hq hp]
    show J G X mX7_turnOfTime _ _ _ 24 _ [.int (Int32.ofInt (tuI k c p q))]
    exact J.iret B dX7_turnOfTime_24 rfl (⟨rfl, rfl⟩)
  · skip
    have h9 : ¬ 1 ≤ p := fun z => h9 ((nI_leI (a := 1) (b := p) (by omega) (by omega)).mpr z)
    omega
set_option maxHeartbeats 4000000 in
set_option maxRecDepth 100000 in
theorem c_X7_lateOfTime (l : Launch) (G : jG) (r : va_W) {k c p q : Nat} (hk : k < 60) (hc : c < 60) (hp1 : 1 ≤ p) (hp : p ≤ 600) (hq : q ≤ 60) : Mt l G yX7_lateOfTime mX7_lateOfTime 2 45 0 0 [.int (nI k), .int (nI c), .int (nI p), .int (nI q)] (r) (fun v w => v = some (.int (Int32.ofInt (laI k c p q))) ∧ w = r) := by
  refine Mt.of (by decide +kernel) rfl rfl (fun X B => ?_)
  show J G X mX7_lateOfTime (r) 0 0 0 [(0, .int (nI k)), (1, .int (nI c)), (2, .int (nI p)), (3, .int (nI q))] []
  refine J.iload_n 3 dX7_lateOfTime_0 rfl ?_
  refine J.iload_n 0 dX7_lateOfTime_1 rfl ?_
  refine J.iload_n 1 dX7_lateOfTime_2 rfl ?_
  refine J.isub dX7_lateOfTime_3 ?_
  refine J.imul dX7_lateOfTime_4 ?_
  refine J.iload_n 0 dX7_lateOfTime_5 rfl ?_
  refine J.iload_n 1 dX7_lateOfTime_6 rfl ?_
  refine J.iload_n 2 dX7_lateOfTime_7 rfl ?_
  refine J.iload_n 3 dX7_lateOfTime_8 rfl ?_
  refine J.callS (st := [.int ((nI q) * ((nI k) - (nI c)))]) B (c_X7_turnOfTime l G _ hk hc hp1 hp hq) ml_X7_216 mf_yX7_turnOfTime mS_yX7_turnOfTime dX7_lateOfTime_9 rfl rfl rfl (fun v_1 w_2 hp_3 => ?_)
  obtain ⟨rfl, rfl⟩ := hp_3
  show J G X mX7_lateOfTime _ _ _ 12 _ [.int (Int32.ofInt (tuI k c p q)), .int ((nI q) * ((nI k) - (nI c)))]
  refine J.iload_n 2 dX7_lateOfTime_12 rfl ?_
  refine J.imul dX7_lateOfTime_13 ?_
  refine J.isub dX7_lateOfTime_14 ?_
  refine J.topi (y := Int32.ofInt (laI k c p q)) (la_cls k c p q) ?_
  exact J.iret B dX7_lateOfTime_15 rfl (⟨rfl, rfl⟩)
set_option maxHeartbeats 4000000 in
set_option maxRecDepth 100000 in
theorem c_X7_fft_a (l : Launch) (G : jG) (r : va_W) {x : Nat} {A : Nat → Nat} {ns nr : Nat} {to : Int64} {al wa lf : Int32} {num : Int32} {q a b : Int32} (hf : (inR a 1 600 && inR q 1 60 && (inR b 1 600 && inR q 1 60) && decide (a ≤ b)) = false) : Mt l G yX7_foldFromTo mX7_foldFromTo 3 75 0 0 [.ref x, .int num, .int q, .int a, .int b] ((x, .inr (7, [.ref (A 0), .int (nI ns), .ref (A 1), .int (nI nr), .ref (A 2), .ref (A 3), .ref (A 4), .ref (A 5), .ref (A 6), .ref (A 7), .ref (A 8), .ref (A 9), .long to, .int al, .int wa, .int lf, .ref (A 10)])) :: r) (fun v w => v = some (.int (-1 : Int32)) ∧ w = (x, .inr (7, [.ref (A 0), .int (nI ns), .ref (A 1), .int (nI nr), .ref (A 2), .ref (A 3), .ref (A 4), .ref (A 5), .ref (A 6), .ref (A 7), .ref (A 8), .ref (A 9), .long to, .int al, .int wa, .int lf, .ref (A 10)])) :: r) := by
  refine Mt.of (by decide +kernel) rfl rfl (fun X B => ?_)
  show J G X mX7_foldFromTo ((x, .inr (7, [.ref (A 0), .int (nI ns), .ref (A 1), .int (nI nr), .ref (A 2), .ref (A 3), .ref (A 4), .ref (A 5), .ref (A 6), .ref (A 7), .ref (A 8), .ref (A 9), .long to, .int al, .int wa, .int lf, .ref (A 10)])) :: r) 0 0 0 [(0, .ref x), (1, .int num), (2, .int q), (3, .int a), (4, .int b)] []
  refine J.iload_n 3 dX7_foldFromTo_0 rfl ?_
  refine J.iload_n 2 dX7_foldFromTo_1 rfl ?_
  refine J.callS (st := []) B (c_X7_isPeriod l G _ (p := a) (q := q)) ml_X7_153 mf_yX7_isPeriod mS_yX7_isPeriod dX7_foldFromTo_2 rfl rfl rfl (fun v_1 w_2 hp_3 => ?_)
  obtain ⟨rfl, rfl⟩ := hp_3
  show J G X mX7_foldFromTo _ _ _ 5 _ [.int (b01 (inR a 1 600 && inR q 1 60))]
  refine J.if_eq dX7_foldFromTo_5 (fun h9 => ?_) (fun h9 => ?_)
  · skip
    refine J.iconst (-1 : Int32) dX7_foldFromTo_23 rfl ?_
    exact J.iret B dX7_foldFromTo_24 rfl (⟨rfl, rfl⟩)
  · skip
    refine J.iload 4 dX7_foldFromTo_8 rfl ?_
    refine J.iload_n 2 dX7_foldFromTo_10 rfl ?_
    refine J.callS (st := []) B (c_X7_isPeriod l G _ (p := b) (q := q)) ml_X7_153 mf_yX7_isPeriod mS_yX7_isPeriod dX7_foldFromTo_11 rfl rfl rfl (fun v_4 w_5 hp_6 => ?_)
    obtain ⟨rfl, rfl⟩ := hp_6
    show J G X mX7_foldFromTo _ _ _ 14 _ [.int (b01 (inR b 1 600 && inR q 1 60))]
    refine J.if_eq dX7_foldFromTo_14 (fun h8 => ?_) (fun h8 => ?_)
    · skip
      refine J.iconst (-1 : Int32) dX7_foldFromTo_23 rfl ?_
      exact J.iret B dX7_foldFromTo_24 rfl (⟨rfl, rfl⟩)
    · skip
      refine J.iload_n 3 dX7_foldFromTo_17 rfl ?_
      refine J.iload 4 dX7_foldFromTo_18 rfl ?_
      refine J.icmp_le dX7_foldFromTo_20 (fun h7 => ?_) (fun h7 => ?_)
      · skip
        exact absurd (by rw [b01_1 h9, b01_1 h8, decide_eq_true h7]; rfl) (Bool.eq_false_iff.mp hf)
      · skip
        refine J.iconst (-1 : Int32) dX7_foldFromTo_23 rfl ?_
        exact J.iret B dX7_foldFromTo_24 rfl (⟨rfl, rfl⟩)
set_option maxHeartbeats 4000000 in
set_option maxRecDepth 100000 in
theorem c_X7_fft_bad (l : Launch) (G : jG) (r : va_W) {x : Nat} {A : Nat → Nat} {ns nr : Nat} {to : Int64} {al wa lf : Int32} {sa : Nat → Option Nat} {num : Int32} (hns : ns ≤ 12) (hnum : inR num 0 ((ns : Int) - 1) = false) {q a b : Int32} (hf : (inR a 1 600 && inR q 1 60 && (inR b 1 600 && inR q 1 60) && decide (a ≤ b)) = true) : Mt l G yX7_foldFromTo mX7_foldFromTo 3 75 0 0 [.ref x, .int num, .int q, .int a, .int b] ((x, .inr (7, [.ref (A 0), .int (nI ns), .ref (A 1), .int (nI nr), .ref (A 2), .ref (A 3), .ref (A 4), .ref (A 5), .ref (A 6), .ref (A 7), .ref (A 8), .ref (A 9), .long to, .int al, .int wa, .int lf, .ref (A 10)])) :: (A 0, .inl (G.2.1.2.2.1, 12, .inr (.inr (.inr (.inr sa))))) :: r) (fun v w => v = some (.int (-1 : Int32)) ∧ w = (x, .inr (7, [.ref (A 0), .int (nI ns), .ref (A 1), .int (nI nr), .ref (A 2), .ref (A 3), .ref (A 4), .ref (A 5), .ref (A 6), .ref (A 7), .ref (A 8), .ref (A 9), .long to, .int al, .int wa, .int lf, .ref (A 10)])) :: (A 0, .inl (G.2.1.2.2.1, 12, .inr (.inr (.inr (.inr sa))))) :: r) := by
  refine Mt.of (by decide +kernel) rfl rfl (fun X B => ?_)
  show J G X mX7_foldFromTo ((x, .inr (7, [.ref (A 0), .int (nI ns), .ref (A 1), .int (nI nr), .ref (A 2), .ref (A 3), .ref (A 4), .ref (A 5), .ref (A 6), .ref (A 7), .ref (A 8), .ref (A 9), .long to, .int al, .int wa, .int lf, .ref (A 10)])) :: (A 0, .inl (G.2.1.2.2.1, 12, .inr (.inr (.inr (.inr sa))))) :: r) 0 0 0 [(0, .ref x), (1, .int num), (2, .int q), (3, .int a), (4, .int b)] []
  obtain ⟨hf0, hf3⟩ := Bool.and_eq_true_iff.mp hf
  obtain ⟨hf1, hf2⟩ := Bool.and_eq_true_iff.mp hf0
  have hf3 := of_decide_eq_true hf3
  refine J.iload_n 3 dX7_foldFromTo_0 rfl ?_
  refine J.iload_n 2 dX7_foldFromTo_1 rfl ?_
  refine J.callS (st := []) B (c_X7_isPeriod l G _ (p := a) (q := q)) ml_X7_153 mf_yX7_isPeriod mS_yX7_isPeriod dX7_foldFromTo_2 rfl rfl rfl (fun v_1 w_2 hp_3 => ?_)
  obtain ⟨rfl, rfl⟩ := hp_3
  show J G X mX7_foldFromTo _ _ _ 5 _ [.int (b01 (inR a 1 600 && inR q 1 60))]
  refine J.if_eq dX7_foldFromTo_5 (fun z => absurd z (by rw [hf1]; decide)) (fun h9 => ?_)
  refine J.iload 4 dX7_foldFromTo_8 rfl ?_
  refine J.iload_n 2 dX7_foldFromTo_10 rfl ?_
  refine J.callS (st := []) B (c_X7_isPeriod l G _ (p := b) (q := q)) ml_X7_153 mf_yX7_isPeriod mS_yX7_isPeriod dX7_foldFromTo_11 rfl rfl rfl (fun v_4 w_5 hp_6 => ?_)
  obtain ⟨rfl, rfl⟩ := hp_6
  show J G X mX7_foldFromTo _ _ _ 14 _ [.int (b01 (inR b 1 600 && inR q 1 60))]
  refine J.if_eq dX7_foldFromTo_14 (fun z => absurd z (by rw [hf2]; decide)) (fun h8 => ?_)
  refine J.iload_n 3 dX7_foldFromTo_17 rfl ?_
  refine J.iload 4 dX7_foldFromTo_18 rfl ?_
  refine J.icmp_le dX7_foldFromTo_20 (fun h7 => ?_) (fun z => absurd (hf3) z)
  refine J.aload_n 0 dX7_foldFromTo_25 rfl ?_
  refine J.iload_n 1 dX7_foldFromTo_26 rfl ?_
  refine J.callV 0 (st := []) B (c_X7_gatherRow_bad l G _ hns hnum) ml_X7_94 mf_yX7_gatherRow mi_yX7_gatherRow rfl dX7_foldFromTo_27 rfl rfl rfl rfl (fun v_7 w_8 hp_9 => ?_)
  obtain ⟨rfl, rfl⟩ := hp_9
  show J G X mX7_foldFromTo _ _ _ 30 _ [.int (-1 : Int32)]
  refine J.istore [1, 2, 3, 4, 5, 0] (lv' := [(0, .ref x), (1, .int num), (2, .int q), (3, .int a), (4, .int b), (5, .int (-1 : Int32))]) dX7_foldFromTo_30 rfl rfl ?_
  refine J.iload 5 dX7_foldFromTo_32 rfl ?_
  refine J.if_ne dX7_foldFromTo_34 (fun _ => ?_) (fun z => absurd z (by decide))
  refine J.iload 5 dX7_foldFromTo_52 rfl ?_
  exact J.iret B dX7_foldFromTo_54 rfl (⟨rfl, rfl⟩)
set_option maxHeartbeats 4000000 in
set_option maxRecDepth 100000 in
theorem c_X7_fft_no (l : Launch) (G : jG) (r : va_W) {x : Nat} {A : Nat → Nat} {ns nr : Nat} {to : Int64} {al wa lf : Int32} {sa : Nat → Option Nat} {la : Nat} {kd wc : Int32} {k s : Nat} (hk : k < ns) (hns : ns ≤ 12) (hsa : sa k = some s) {q a b : Int32} {fc : Nat → Int32} (hf : (inR a 1 600 && inR q 1 60 && (inR b 1 600 && inR q 1 60) && decide (a ≤ b)) = true) : Mt l G yX7_foldFromTo mX7_foldFromTo 3 75 0 0 [.ref x, .int (nI k), .int q, .int a, .int b] ((x, .inr (7, [.ref (A 0), .int (nI ns), .ref (A 1), .int (nI nr), .ref (A 2), .ref (A 3), .ref (A 4), .ref (A 5), .ref (A 6), .ref (A 7), .ref (A 8), .ref (A 9), .long to, .int al, .int wa, .int lf, .ref (A 10)])) :: (A 0, .inl (G.2.1.2.2.1, 12, .inr (.inr (.inr (.inr sa))))) :: (s, .inr (6, [.int kd, .ref la, .int (0 : Int32), .int wc])) :: (A 10, .inl (G.2.1.1, 6, .inl fc)) :: r) (fun v w => v = some (.int (-3 : Int32)) ∧ w = (x, .inr (7, [.ref (A 0), .int (nI ns), .ref (A 1), .int (nI nr), .ref (A 2), .ref (A 3), .ref (A 4), .ref (A 5), .ref (A 6), .ref (A 7), .ref (A 8), .ref (A 9), .long to, .int al, .int wa, .int (nI 1), .ref (A 10)])) :: (A 0, .inl (G.2.1.2.2.1, 12, .inr (.inr (.inr (.inr sa))))) :: (s, .inr (6, [.int kd, .ref la, .int (0 : Int32), .int wc])) :: (A 10, .inl (G.2.1.1, 6, .inl (upd fc 1 (fc 1 + 1)))) :: r) := by
  refine Mt.of (by decide +kernel) rfl rfl (fun X B => ?_)
  show J G X mX7_foldFromTo ((x, .inr (7, [.ref (A 0), .int (nI ns), .ref (A 1), .int (nI nr), .ref (A 2), .ref (A 3), .ref (A 4), .ref (A 5), .ref (A 6), .ref (A 7), .ref (A 8), .ref (A 9), .long to, .int al, .int wa, .int lf, .ref (A 10)])) :: (A 0, .inl (G.2.1.2.2.1, 12, .inr (.inr (.inr (.inr sa))))) :: (s, .inr (6, [.int kd, .ref la, .int (0 : Int32), .int wc])) :: (A 10, .inl (G.2.1.1, 6, .inl fc)) :: r) 0 0 0 [(0, .ref x), (1, .int (nI k)), (2, .int q), (3, .int a), (4, .int b)] []
  obtain ⟨hf0, hf3⟩ := Bool.and_eq_true_iff.mp hf
  obtain ⟨hf1, hf2⟩ := Bool.and_eq_true_iff.mp hf0
  have hf3 := of_decide_eq_true hf3
  refine J.iload_n 3 dX7_foldFromTo_0 rfl ?_
  refine J.iload_n 2 dX7_foldFromTo_1 rfl ?_
  refine J.callS (st := []) B (c_X7_isPeriod l G _ (p := a) (q := q)) ml_X7_153 mf_yX7_isPeriod mS_yX7_isPeriod dX7_foldFromTo_2 rfl rfl rfl (fun v_1 w_2 hp_3 => ?_)
  obtain ⟨rfl, rfl⟩ := hp_3
  show J G X mX7_foldFromTo _ _ _ 5 _ [.int (b01 (inR a 1 600 && inR q 1 60))]
  refine J.if_eq dX7_foldFromTo_5 (fun z => absurd z (by rw [hf1]; decide)) (fun h9 => ?_)
  refine J.iload 4 dX7_foldFromTo_8 rfl ?_
  refine J.iload_n 2 dX7_foldFromTo_10 rfl ?_
  refine J.callS (st := []) B (c_X7_isPeriod l G _ (p := b) (q := q)) ml_X7_153 mf_yX7_isPeriod mS_yX7_isPeriod dX7_foldFromTo_11 rfl rfl rfl (fun v_4 w_5 hp_6 => ?_)
  obtain ⟨rfl, rfl⟩ := hp_6
  show J G X mX7_foldFromTo _ _ _ 14 _ [.int (b01 (inR b 1 600 && inR q 1 60))]
  refine J.if_eq dX7_foldFromTo_14 (fun z => absurd z (by rw [hf2]; decide)) (fun h8 => ?_)
  refine J.iload_n 3 dX7_foldFromTo_17 rfl ?_
  refine J.iload 4 dX7_foldFromTo_18 rfl ?_
  refine J.icmp_le dX7_foldFromTo_20 (fun h7 => ?_) (fun z => absurd (hf3) z)
  refine J.aload_n 0 dX7_foldFromTo_25 rfl ?_
  refine J.iload_n 1 dX7_foldFromTo_26 rfl ?_
  refine J.callV 0 (st := []) B (c_X7_gatherRow_no l G _ hk hns hsa) ml_X7_94 mf_yX7_gatherRow mi_yX7_gatherRow rfl dX7_foldFromTo_27 rfl rfl rfl rfl (fun v_7 w_8 hp_9 => ?_)
  obtain ⟨rfl, rfl⟩ := hp_9
  show J G X mX7_foldFromTo _ _ _ 30 _ [.int (-3 : Int32)]
  refine J.istore [1, 2, 3, 4, 5, 0] (lv' := [(0, .ref x), (1, .int (nI k)), (2, .int q), (3, .int a), (4, .int b), (5, .int (-3 : Int32))]) dX7_foldFromTo_30 rfl rfl ?_
  refine J.iload 5 dX7_foldFromTo_32 rfl ?_
  refine J.if_ne dX7_foldFromTo_34 (fun _ => ?_) (fun z => absurd z (by decide))
  refine J.iload 5 dX7_foldFromTo_52 rfl ?_
  exact J.iret B dX7_foldFromTo_54 rfl (⟨rfl, rfl⟩)
set_option maxHeartbeats 4000000 in
set_option maxRecDepth 100000 in
theorem c_X7_fft (l : Launch) (G : jG) (r : va_W) {x : Nat} {A : Nat → Nat} {ns nr : Nat} {to : Int64} {al wa lf : Int32} {sa : Nat → Option Nat} {la : Nat} {kd wc : Int32} {k s : Nat} (hk : k < ns) (hns : ns ≤ 12) (hsa : sa k = some s) {L F : Nat → Int32} {cz : Int32} {t u : Nat → Int32} {fp fl fs : Nat → Int32} {q a b : Nat} (hb : BD L F) (ha : 1 ≤ a) (hb2 : b ≤ 600) (hab : a ≤ b) (hq1 : 1 ≤ q) (hq2 : q ≤ 60) : Mt l G yX7_foldFromTo mX7_foldFromTo 3 75 0 0 [.ref x, .int (nI k), .int (nI q), .int (nI a), .int (nI b)] ((x, .inr (7, [.ref (A 0), .int (nI ns), .ref (A 1), .int (nI nr), .ref (A 2), .ref (A 3), .ref (A 4), .ref (A 5), .ref (A 6), .ref (A 7), .ref (A 8), .ref (A 9), .long to, .int al, .int wa, .int lf, .ref (A 10)])) :: (A 0, .inl (G.2.1.2.2.1, 12, .inr (.inr (.inr (.inr sa))))) :: (s, .inr (6, [.int kd, .ref la, .int (1 : Int32), .int wc])) :: (la, .inl (G.2.1.1, 60, .inl L)) :: (A 2, .inl (G.2.1.1, 60, .inl F)) :: (A 3, .inr (1, [.ref (A 11), .ref (A 12), .int cz])) :: (A 11, .inl (G.2.1.1, 60, .inl t)) :: (A 12, .inl (G.2.1.1, 60, .inl u)) :: (A 5, .inr (3, [.ref (A 14), .ref (A 15), .ref (A 16)])) :: (A 14, .inl (G.2.1.1, 60, .inl fp)) :: (A 15, .inl (G.2.1.1, 60, .inl fl)) :: (A 16, .inl (G.2.1.1, 601, .inl fs)) :: r) (fun v w => ∃ t1 u1 fp1 fl1 fs1, (∀ j, a ≤ j → j ≤ b → fs1 j = Int32.ofInt (strV L F j q)) ∧ v = some (.int 0) ∧ w = (x, .inr (7, [.ref (A 0), .int (nI ns), .ref (A 1), .int (nI nr), .ref (A 2), .ref (A 3), .ref (A 4), .ref (A 5), .ref (A 6), .ref (A 7), .ref (A 8), .ref (A 9), .long to, .int al, .int wa, .int lf, .ref (A 10)])) :: (A 0, .inl (G.2.1.2.2.1, 12, .inr (.inr (.inr (.inr sa))))) :: (s, .inr (6, [.int kd, .ref la, .int (1 : Int32), .int wc])) :: (la, .inl (G.2.1.1, 60, .inl L)) :: (A 2, .inl (G.2.1.1, 60, .inl F)) :: (A 3, .inr (1, [.ref (A 11), .ref (A 12), .int (nI (nN L))])) :: (A 11, .inl (G.2.1.1, 60, .inl t1)) :: (A 12, .inl (G.2.1.1, 60, .inl u1)) :: (A 5, .inr (3, [.ref (A 14), .ref (A 15), .ref (A 16)])) :: (A 14, .inl (G.2.1.1, 60, .inl fp1)) :: (A 15, .inl (G.2.1.1, 60, .inl fl1)) :: (A 16, .inl (G.2.1.1, 601, .inl fs1)) :: r) := by
  refine Mt.of (by decide +kernel) rfl rfl (fun X B => ?_)
  show J G X mX7_foldFromTo ((x, .inr (7, [.ref (A 0), .int (nI ns), .ref (A 1), .int (nI nr), .ref (A 2), .ref (A 3), .ref (A 4), .ref (A 5), .ref (A 6), .ref (A 7), .ref (A 8), .ref (A 9), .long to, .int al, .int wa, .int lf, .ref (A 10)])) :: (A 0, .inl (G.2.1.2.2.1, 12, .inr (.inr (.inr (.inr sa))))) :: (s, .inr (6, [.int kd, .ref la, .int (1 : Int32), .int wc])) :: (la, .inl (G.2.1.1, 60, .inl L)) :: (A 2, .inl (G.2.1.1, 60, .inl F)) :: (A 3, .inr (1, [.ref (A 11), .ref (A 12), .int cz])) :: (A 11, .inl (G.2.1.1, 60, .inl t)) :: (A 12, .inl (G.2.1.1, 60, .inl u)) :: (A 5, .inr (3, [.ref (A 14), .ref (A 15), .ref (A 16)])) :: (A 14, .inl (G.2.1.1, 60, .inl fp)) :: (A 15, .inl (G.2.1.1, 60, .inl fl)) :: (A 16, .inl (G.2.1.1, 601, .inl fs)) :: r) 0 0 0 [(0, .ref x), (1, .int (nI k)), (2, .int (nI q)), (3, .int (nI a)), (4, .int (nI b))] []
  have hf : (inR (nI a) 1 600 && inR (nI q) 1 60 && (inR (nI b) 1 600 && inR (nI q) 1 60) && decide (nI a ≤ nI b)) = true := by
    rw [nI_inR (by omega), nI_inR (by omega), nI_inR (by omega), decide_eq_true (p := (1 : Int) ≤ (a : Int) ∧ (a : Int) ≤ 600) ⟨by omega, by omega⟩, decide_eq_true (p := (1 : Int) ≤ (b : Int) ∧ (b : Int) ≤ 600) ⟨by omega, by omega⟩, decide_eq_true (p := (1 : Int) ≤ (q : Int) ∧ (q : Int) ≤ 60) ⟨by omega, by omega⟩, decide_eq_true (nI_le hab (by omega))]
    rfl
  obtain ⟨hf0, hf3⟩ := Bool.and_eq_true_iff.mp hf
  obtain ⟨hf1, hf2⟩ := Bool.and_eq_true_iff.mp hf0
  have hf3 := of_decide_eq_true hf3
  refine J.iload_n 3 dX7_foldFromTo_0 rfl ?_
  refine J.iload_n 2 dX7_foldFromTo_1 rfl ?_
  refine J.callS (st := []) B (c_X7_isPeriod l G _ (p := nI a) (q := nI q)) ml_X7_153 mf_yX7_isPeriod mS_yX7_isPeriod dX7_foldFromTo_2 rfl rfl rfl (fun v_1 w_2 hp_3 => ?_)
  obtain ⟨rfl, rfl⟩ := hp_3
  show J G X mX7_foldFromTo _ _ _ 5 _ [.int (b01 (inR (nI a) 1 600 && inR (nI q) 1 60))]
  refine J.if_eq dX7_foldFromTo_5 (fun z => absurd z (by rw [hf1]; decide)) (fun h9 => ?_)
  refine J.iload 4 dX7_foldFromTo_8 rfl ?_
  refine J.iload_n 2 dX7_foldFromTo_10 rfl ?_
  refine J.callS (st := []) B (c_X7_isPeriod l G _ (p := nI b) (q := nI q)) ml_X7_153 mf_yX7_isPeriod mS_yX7_isPeriod dX7_foldFromTo_11 rfl rfl rfl (fun v_4 w_5 hp_6 => ?_)
  obtain ⟨rfl, rfl⟩ := hp_6
  show J G X mX7_foldFromTo _ _ _ 14 _ [.int (b01 (inR (nI b) 1 600 && inR (nI q) 1 60))]
  refine J.if_eq dX7_foldFromTo_14 (fun z => absurd z (by rw [hf2]; decide)) (fun h8 => ?_)
  refine J.iload_n 3 dX7_foldFromTo_17 rfl ?_
  refine J.iload 4 dX7_foldFromTo_18 rfl ?_
  refine J.icmp_le dX7_foldFromTo_20 (fun h7 => ?_) (fun z => absurd (hf3) z)
  refine J.aload_n 0 dX7_foldFromTo_25 rfl ?_
  refine J.iload_n 1 dX7_foldFromTo_26 rfl ?_
  refine J.callV 0 (st := []) B (c_X7_gatherRow l G _ hk hns hsa) ml_X7_94 mf_yX7_gatherRow mi_yX7_gatherRow rfl dX7_foldFromTo_27 rfl rfl rfl rfl (fun v_7 w_8 hp_9 => ?_)
  obtain ⟨t1, u1, hcv, rfl, rfl⟩ := hp_9
  show J G X mX7_foldFromTo _ _ _ 30 _ [.int (0 : Int32)]
  refine J.istore [1, 2, 3, 4, 5, 0] (lv' := [(0, .ref x), (1, .int (nI k)), (2, .int (nI q)), (3, .int (nI a)), (4, .int (nI b)), (5, .int (0 : Int32))]) dX7_foldFromTo_30 rfl rfl ?_
  refine J.iload 5 dX7_foldFromTo_32 rfl ?_
  refine J.if_ne dX7_foldFromTo_34 (fun z => absurd z (by decide)) (fun _ => ?_)
  refine J.aload_n 0 dX7_foldFromTo_37 rfl ?_
  refine J.get 0 fl_X7_42 dX7_foldFromTo_38 rfl rfl ?_
  refine J.aload_n 0 dX7_foldFromTo_41 rfl ?_
  refine J.get 0 fl_X7_28 dX7_foldFromTo_42 rfl rfl ?_
  refine J.iload_n 2 dX7_foldFromTo_45 rfl ?_
  refine J.iload_n 3 dX7_foldFromTo_46 rfl ?_
  refine J.iload 4 dX7_foldFromTo_47 rfl ?_
  refine J.re [8, 9, 10, 11, 5, 6, 7, 0, 1, 2, 3, 4] 12 (ws2 := (A 5, .inr (3, [.ref (A 14), .ref (A 15), .ref (A 16)])) :: (A 14, .inl (G.2.1.1, 60, .inl fp)) :: (A 15, .inl (G.2.1.1, 60, .inl fl)) :: (A 16, .inl (G.2.1.1, 601, .inl fs)) :: (A 3, .inr (1, [.ref (A 11), .ref (A 12), .int (nI (nN L))])) :: (A 11, .inl (G.2.1.1, 60, .inl t1)) :: (A 12, .inl (G.2.1.1, 60, .inl u1)) :: (x, .inr (7, [.ref (A 0), .int (nI ns), .ref (A 1), .int (nI nr), .ref (A 2), .ref (A 3), .ref (A 4), .ref (A 5), .ref (A 6), .ref (A 7), .ref (A 8), .ref (A 9), .long to, .int al, .int wa, .int lf, .ref (A 10)])) :: (A 0, .inl (G.2.1.2.2.1, 12, .inr (.inr (.inr (.inr sa))))) :: (s, .inr (6, [.int kd, .ref la, .int (1 : Int32), .int wc])) :: (la, .inl (G.2.1.1, 60, .inl L)) :: (A 2, .inl (G.2.1.1, 60, .inl F)) :: r) rfl rfl ?_
  refine J.callV 0 (st := []) B (c_X3_stringsFromTo l G _ hcv hb ha hb2 hq2 hab) ml_X7_268 mf_yX3_stringsFromTo mi_yX3_stringsFromTo rfl dX7_foldFromTo_49 rfl rfl rfl rfl (fun v_10 w_11 hp_12 => ?_)
  obtain ⟨fp1, fl1, fs1, hfs, rfl, rfl⟩ := hp_12
  refine J.re [7, 8, 9, 10, 11, 4, 5, 6, 0, 1, 2, 3] 12 (ws2 := (x, .inr (7, [.ref (A 0), .int (nI ns), .ref (A 1), .int (nI nr), .ref (A 2), .ref (A 3), .ref (A 4), .ref (A 5), .ref (A 6), .ref (A 7), .ref (A 8), .ref (A 9), .long to, .int al, .int wa, .int lf, .ref (A 10)])) :: (A 0, .inl (G.2.1.2.2.1, 12, .inr (.inr (.inr (.inr sa))))) :: (s, .inr (6, [.int kd, .ref la, .int (1 : Int32), .int wc])) :: (la, .inl (G.2.1.1, 60, .inl L)) :: (A 2, .inl (G.2.1.1, 60, .inl F)) :: (A 3, .inr (1, [.ref (A 11), .ref (A 12), .int (nI (nN L))])) :: (A 11, .inl (G.2.1.1, 60, .inl t1)) :: (A 12, .inl (G.2.1.1, 60, .inl u1)) :: (A 5, .inr (3, [.ref (A 14), .ref (A 15), .ref (A 16)])) :: (A 14, .inl (G.2.1.1, 60, .inl fp1)) :: (A 15, .inl (G.2.1.1, 60, .inl fl1)) :: (A 16, .inl (G.2.1.1, 601, .inl fs1)) :: r) rfl rfl ?_
  show J G X mX7_foldFromTo _ _ _ 52 _ []
  refine J.iload 5 dX7_foldFromTo_52 rfl ?_
  exact J.iret B dX7_foldFromTo_54 rfl (⟨t1, u1, fp1, fl1, fs1, hfs, rfl, rfl⟩)
