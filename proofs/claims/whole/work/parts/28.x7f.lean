set_option maxHeartbeats 4000000 in
set_option maxRecDepth 100000 in
theorem i_depth_a (l : Launch) (G : jG) (r : va_W) {x : Nat} {A : Nat → Nat} {ns nr : Nat} {to : Int64} {al wa lf : Int32} {num : Int32} {p d f : Int32} (hf : (inR p 2 600 && inR d 1 30 && decide (d < p) && (decide (0 ≤ f) && decide (f < p))) = false) : Mt l G yX7_depth mX7_depth 3 65 0 0 [.ref x, .int num, .int p, .int d, .int f] ((x, .inr (7, [.ref (A 0), .int (nI ns), .ref (A 1), .int (nI nr), .ref (A 2), .ref (A 3), .ref (A 4), .ref (A 5), .ref (A 6), .ref (A 7), .ref (A 8), .ref (A 9), .long to, .int al, .int wa, .int lf, .ref (A 10)])) :: r) (fun v w => v = some (.int (-1 : Int32)) ∧ w = (x, .inr (7, [.ref (A 0), .int (nI ns), .ref (A 1), .int (nI nr), .ref (A 2), .ref (A 3), .ref (A 4), .ref (A 5), .ref (A 6), .ref (A 7), .ref (A 8), .ref (A 9), .long to, .int al, .int wa, .int lf, .ref (A 10)])) :: r) := by
  refine Mt.of (by decide +kernel) rfl rfl (fun X B => ?_)
  show J G X mX7_depth ((x, .inr (7, [.ref (A 0), .int (nI ns), .ref (A 1), .int (nI nr), .ref (A 2), .ref (A 3), .ref (A 4), .ref (A 5), .ref (A 6), .ref (A 7), .ref (A 8), .ref (A 9), .long to, .int al, .int wa, .int lf, .ref (A 10)])) :: r) 0 0 0 [(0, .ref x), (1, .int num), (2, .int p), (3, .int d), (4, .int f)] []
  refine J.iload_n 2 dX7_depth_0 rfl ?_
  refine J.iconst (2 : Int32) dX7_depth_1 rfl ?_
  refine J.icmp_lt dX7_depth_2 (fun h9 => ?_) (fun h9 => ?_)
  · skip
    have h9 : p.toInt < (2 : Int) := (fa_lt _ _).mp h9
    refine J.iconst (-1 : Int32) dX7_depth_39 rfl ?_
    exact J.iret B dX7_depth_40 rfl (⟨rfl, rfl⟩)
  · skip
    have h9 : ¬ p.toInt < (2 : Int) := fun z => h9 ((fa_lt _ _).mpr z)
    refine J.iload_n 2 dX7_depth_5 rfl ?_
    refine J.sipush (600 : Int32) dX7_depth_6 rfl ?_
    refine J.icmp_gt dX7_depth_9 (fun h8 => ?_) (fun h8 => ?_)
    · skip
      have h8 : (600 : Int) < p.toInt := (fa_lt _ _).mp h8
      refine J.iconst (-1 : Int32) dX7_depth_39 rfl ?_
      exact J.iret B dX7_depth_40 rfl (⟨rfl, rfl⟩)
    · skip
      have h8 : ¬ (600 : Int) < p.toInt := fun z => h8 ((fa_lt _ _).mpr z)
      refine J.iload_n 3 dX7_depth_12 rfl ?_
      refine J.iconst (1 : Int32) dX7_depth_13 rfl ?_
      refine J.icmp_lt dX7_depth_14 (fun h7 => ?_) (fun h7 => ?_)
      · skip
        have h7 : d.toInt < (1 : Int) := (fa_lt _ _).mp h7
        refine J.iconst (-1 : Int32) dX7_depth_39 rfl ?_
        exact J.iret B dX7_depth_40 rfl (⟨rfl, rfl⟩)
      · skip
        have h7 : ¬ d.toInt < (1 : Int) := fun z => h7 ((fa_lt _ _).mpr z)
        refine J.iload_n 3 dX7_depth_17 rfl ?_
        refine J.bipush (30 : Int32) dX7_depth_18 rfl ?_
        refine J.icmp_gt dX7_depth_20 (fun h6 => ?_) (fun h6 => ?_)
        · skip
          have h6 : (30 : Int) < d.toInt := (fa_lt _ _).mp h6
          refine J.iconst (-1 : Int32) dX7_depth_39 rfl ?_
          exact J.iret B dX7_depth_40 rfl (⟨rfl, rfl⟩)
        · skip
          have h6 : ¬ (30 : Int) < d.toInt := fun z => h6 ((fa_lt _ _).mpr z)
          refine J.iload_n 3 dX7_depth_23 rfl ?_
          refine J.iload_n 2 dX7_depth_24 rfl ?_
          refine J.icmp_ge dX7_depth_25 (fun h5 => ?_) (fun h5 => ?_)
          · skip
            refine J.iconst (-1 : Int32) dX7_depth_39 rfl ?_
            exact J.iret B dX7_depth_40 rfl (⟨rfl, rfl⟩)
          · skip
            have h5 : d < p := Int32.not_le.mp h5
            refine J.iload 4 dX7_depth_28 rfl ?_
            refine J.if_lt dX7_depth_30 (fun h4 => ?_) (fun h4 => ?_)
            · skip
              refine J.iconst (-1 : Int32) dX7_depth_39 rfl ?_
              exact J.iret B dX7_depth_40 rfl (⟨rfl, rfl⟩)
            · skip
              have h4 : 0 ≤ f := Int32.not_lt.mp h4
              refine J.iload 4 dX7_depth_33 rfl ?_
              refine J.iload_n 2 dX7_depth_35 rfl ?_
              refine J.icmp_lt dX7_depth_36 (fun h3 => ?_) (fun h3 => ?_)
              · skip
                exact absurd (by rw [inR_t (v := p) ⟨by omega, by omega⟩, inR_t (v := d) ⟨by omega, by omega⟩, decide_eq_true h5, decide_eq_true h4, decide_eq_true h3]; rfl) (Bool.eq_false_iff.mp hf)
              · skip
                refine J.iconst (-1 : Int32) dX7_depth_39 rfl ?_
                exact J.iret B dX7_depth_40 rfl (⟨rfl, rfl⟩)
set_option maxHeartbeats 4000000 in
set_option maxRecDepth 100000 in
theorem i_depth_bad (l : Launch) (G : jG) (r : va_W) {x : Nat} {A : Nat → Nat} {ns nr : Nat} {to : Int64} {al wa lf : Int32} {sa : Nat → Option Nat} {num : Int32} (hns : ns ≤ 12) (hnum : inR num 0 ((ns : Int) - 1) = false) {p d f : Int32} (hf : (inR p 2 600 && inR d 1 30 && decide (d < p) && (decide (0 ≤ f) && decide (f < p))) = true) : Mt l G yX7_depth mX7_depth 3 65 0 0 [.ref x, .int num, .int p, .int d, .int f] ((x, .inr (7, [.ref (A 0), .int (nI ns), .ref (A 1), .int (nI nr), .ref (A 2), .ref (A 3), .ref (A 4), .ref (A 5), .ref (A 6), .ref (A 7), .ref (A 8), .ref (A 9), .long to, .int al, .int wa, .int lf, .ref (A 10)])) :: (A 0, .inl (G.2.1.2.2.1, 12, .inr (.inr (.inr (.inr sa))))) :: r) (fun v w => v = some (.int (-1 : Int32)) ∧ w = (x, .inr (7, [.ref (A 0), .int (nI ns), .ref (A 1), .int (nI nr), .ref (A 2), .ref (A 3), .ref (A 4), .ref (A 5), .ref (A 6), .ref (A 7), .ref (A 8), .ref (A 9), .long to, .int al, .int wa, .int lf, .ref (A 10)])) :: (A 0, .inl (G.2.1.2.2.1, 12, .inr (.inr (.inr (.inr sa))))) :: r) := by
  refine Mt.of (by decide +kernel) rfl rfl (fun X B => ?_)
  show J G X mX7_depth ((x, .inr (7, [.ref (A 0), .int (nI ns), .ref (A 1), .int (nI nr), .ref (A 2), .ref (A 3), .ref (A 4), .ref (A 5), .ref (A 6), .ref (A 7), .ref (A 8), .ref (A 9), .long to, .int al, .int wa, .int lf, .ref (A 10)])) :: (A 0, .inl (G.2.1.2.2.1, 12, .inr (.inr (.inr (.inr sa))))) :: r) 0 0 0 [(0, .ref x), (1, .int num), (2, .int p), (3, .int d), (4, .int f)] []
  simp only [Bool.and_eq_true] at hf
  obtain ⟨⟨⟨g1, g2⟩, g3⟩, g4, g5⟩ := hf
  have g1 := inR_of g1
  have g2 := inR_of g2
  have g3 := of_decide_eq_true g3
  have g4 := of_decide_eq_true g4
  have g5 := of_decide_eq_true g5
  refine J.iload_n 2 dX7_depth_0 rfl ?_
  refine J.iconst (2 : Int32) dX7_depth_1 rfl ?_
  refine J.icmp_lt dX7_depth_2 (fun h9 => ?_) (fun h9 => ?_)
  · skip
    have h9 : p.toInt < (2 : Int) := (fa_lt _ _).mp h9
    omega
  · skip
    have h9 : ¬ p.toInt < (2 : Int) := fun z => h9 ((fa_lt _ _).mpr z)
    refine J.iload_n 2 dX7_depth_5 rfl ?_
    refine J.sipush (600 : Int32) dX7_depth_6 rfl ?_
    refine J.icmp_gt dX7_depth_9 (fun h8 => ?_) (fun h8 => ?_)
    · skip
      have h8 : (600 : Int) < p.toInt := (fa_lt _ _).mp h8
      omega
    · skip
      have h8 : ¬ (600 : Int) < p.toInt := fun z => h8 ((fa_lt _ _).mpr z)
      refine J.iload_n 3 dX7_depth_12 rfl ?_
      refine J.iconst (1 : Int32) dX7_depth_13 rfl ?_
      refine J.icmp_lt dX7_depth_14 (fun h7 => ?_) (fun h7 => ?_)
      · skip
        have h7 : d.toInt < (1 : Int) := (fa_lt _ _).mp h7
        omega
      · skip
        have h7 : ¬ d.toInt < (1 : Int) := fun z => h7 ((fa_lt _ _).mpr z)
        refine J.iload_n 3 dX7_depth_17 rfl ?_
        refine J.bipush (30 : Int32) dX7_depth_18 rfl ?_
        refine J.icmp_gt dX7_depth_20 (fun h6 => ?_) (fun h6 => ?_)
        · skip
          have h6 : (30 : Int) < d.toInt := (fa_lt _ _).mp h6
          omega
        · skip
          have h6 : ¬ (30 : Int) < d.toInt := fun z => h6 ((fa_lt _ _).mpr z)
          refine J.iload_n 3 dX7_depth_23 rfl ?_
          refine J.iload_n 2 dX7_depth_24 rfl ?_
          refine J.icmp_ge dX7_depth_25 (fun z => absurd z (Int32.not_le.mpr g3)) (fun h5 => ?_)
          refine J.iload 4 dX7_depth_28 rfl ?_
          refine J.if_lt dX7_depth_30 (fun z => absurd z (Int32.not_lt.mpr g4)) (fun h4 => ?_)
          refine J.iload 4 dX7_depth_33 rfl ?_
          refine J.iload_n 2 dX7_depth_35 rfl ?_
          refine J.icmp_lt dX7_depth_36 (fun h3 => ?_) (fun z => absurd (g5) z)
          refine J.aload_n 0 dX7_depth_41 rfl ?_
          refine J.iload_n 1 dX7_depth_42 rfl ?_
          refine J.callV 0 (st := []) B (c_X7_gatherRow_bad l G _ hns hnum) ml_X7_94 mf_yX7_gatherRow mi_yX7_gatherRow rfl dX7_depth_43 rfl rfl rfl rfl (fun v_1 w_2 hp_3 => ?_)
          obtain ⟨rfl, rfl⟩ := hp_3
          show J G X mX7_depth _ _ _ 46 _ [.int (-1 : Int32)]
          refine J.istore [1, 2, 3, 4, 5, 0] (lv' := [(0, .ref x), (1, .int num), (2, .int p), (3, .int d), (4, .int f), (5, .int (-1 : Int32))]) dX7_depth_46 rfl rfl ?_
          refine J.iload 5 dX7_depth_48 rfl ?_
          refine J.if_eq dX7_depth_50 (fun z => absurd z (by decide)) (fun _ => ?_)
          refine J.iload 5 dX7_depth_53 rfl ?_
          exact J.iret B dX7_depth_55 rfl (⟨rfl, rfl⟩)
set_option maxHeartbeats 4000000 in
set_option maxRecDepth 100000 in
theorem i_depth_no (l : Launch) (G : jG) (r : va_W) {x : Nat} {A : Nat → Nat} {ns nr : Nat} {to : Int64} {al wa lf : Int32} {sa : Nat → Option Nat} {la : Nat} {kd wc : Int32} {k s : Nat} (hk : k < ns) (hns : ns ≤ 12) (hsa : sa k = some s) {p d f : Int32} {fc : Nat → Int32} (hf : (inR p 2 600 && inR d 1 30 && decide (d < p) && (decide (0 ≤ f) && decide (f < p))) = true) : Mt l G yX7_depth mX7_depth 3 65 0 0 [.ref x, .int (nI k), .int p, .int d, .int f] ((x, .inr (7, [.ref (A 0), .int (nI ns), .ref (A 1), .int (nI nr), .ref (A 2), .ref (A 3), .ref (A 4), .ref (A 5), .ref (A 6), .ref (A 7), .ref (A 8), .ref (A 9), .long to, .int al, .int wa, .int lf, .ref (A 10)])) :: (A 0, .inl (G.2.1.2.2.1, 12, .inr (.inr (.inr (.inr sa))))) :: (s, .inr (6, [.int kd, .ref la, .int (0 : Int32), .int wc])) :: (A 10, .inl (G.2.1.1, 6, .inl fc)) :: r) (fun v w => v = some (.int (-3 : Int32)) ∧ w = (x, .inr (7, [.ref (A 0), .int (nI ns), .ref (A 1), .int (nI nr), .ref (A 2), .ref (A 3), .ref (A 4), .ref (A 5), .ref (A 6), .ref (A 7), .ref (A 8), .ref (A 9), .long to, .int al, .int wa, .int (nI 1), .ref (A 10)])) :: (A 0, .inl (G.2.1.2.2.1, 12, .inr (.inr (.inr (.inr sa))))) :: (s, .inr (6, [.int kd, .ref la, .int (0 : Int32), .int wc])) :: (A 10, .inl (G.2.1.1, 6, .inl (upd fc 1 (fc 1 + 1)))) :: r) := by
  refine Mt.of (by decide +kernel) rfl rfl (fun X B => ?_)
  show J G X mX7_depth ((x, .inr (7, [.ref (A 0), .int (nI ns), .ref (A 1), .int (nI nr), .ref (A 2), .ref (A 3), .ref (A 4), .ref (A 5), .ref (A 6), .ref (A 7), .ref (A 8), .ref (A 9), .long to, .int al, .int wa, .int lf, .ref (A 10)])) :: (A 0, .inl (G.2.1.2.2.1, 12, .inr (.inr (.inr (.inr sa))))) :: (s, .inr (6, [.int kd, .ref la, .int (0 : Int32), .int wc])) :: (A 10, .inl (G.2.1.1, 6, .inl fc)) :: r) 0 0 0 [(0, .ref x), (1, .int (nI k)), (2, .int p), (3, .int d), (4, .int f)] []
  simp only [Bool.and_eq_true] at hf
  obtain ⟨⟨⟨g1, g2⟩, g3⟩, g4, g5⟩ := hf
  have g1 := inR_of g1
  have g2 := inR_of g2
  have g3 := of_decide_eq_true g3
  have g4 := of_decide_eq_true g4
  have g5 := of_decide_eq_true g5
  refine J.iload_n 2 dX7_depth_0 rfl ?_
  refine J.iconst (2 : Int32) dX7_depth_1 rfl ?_
  refine J.icmp_lt dX7_depth_2 (fun h9 => ?_) (fun h9 => ?_)
  · skip
    have h9 : p.toInt < (2 : Int) := (fa_lt _ _).mp h9
    omega
  · skip
    have h9 : ¬ p.toInt < (2 : Int) := fun z => h9 ((fa_lt _ _).mpr z)
    refine J.iload_n 2 dX7_depth_5 rfl ?_
    refine J.sipush (600 : Int32) dX7_depth_6 rfl ?_
    refine J.icmp_gt dX7_depth_9 (fun h8 => ?_) (fun h8 => ?_)
    · skip
      have h8 : (600 : Int) < p.toInt := (fa_lt _ _).mp h8
      omega
    · skip
      have h8 : ¬ (600 : Int) < p.toInt := fun z => h8 ((fa_lt _ _).mpr z)
      refine J.iload_n 3 dX7_depth_12 rfl ?_
      refine J.iconst (1 : Int32) dX7_depth_13 rfl ?_
      refine J.icmp_lt dX7_depth_14 (fun h7 => ?_) (fun h7 => ?_)
      · skip
        have h7 : d.toInt < (1 : Int) := (fa_lt _ _).mp h7
        omega
      · skip
        have h7 : ¬ d.toInt < (1 : Int) := fun z => h7 ((fa_lt _ _).mpr z)
        refine J.iload_n 3 dX7_depth_17 rfl ?_
        refine J.bipush (30 : Int32) dX7_depth_18 rfl ?_
        refine J.icmp_gt dX7_depth_20 (fun h6 => ?_) (fun h6 => ?_)
        · skip
          have h6 : (30 : Int) < d.toInt := (fa_lt _ _).mp h6
          omega
        · skip
          have h6 : ¬ (30 : Int) < d.toInt := fun z => h6 ((fa_lt _ _).mpr z)
          refine J.iload_n 3 dX7_depth_23 rfl ?_
          refine J.iload_n 2 dX7_depth_24 rfl ?_
          refine J.icmp_ge dX7_depth_25 (fun z => absurd z (Int32.not_le.mpr g3)) (fun h5 => ?_)
          refine J.iload 4 dX7_depth_28 rfl ?_
          refine J.if_lt dX7_depth_30 (fun z => absurd z (Int32.not_lt.mpr g4)) (fun h4 => ?_)
          refine J.iload 4 dX7_depth_33 rfl ?_
          refine J.iload_n 2 dX7_depth_35 rfl ?_
          refine J.icmp_lt dX7_depth_36 (fun h3 => ?_) (fun z => absurd (g5) z)
          refine J.aload_n 0 dX7_depth_41 rfl ?_
          refine J.iload_n 1 dX7_depth_42 rfl ?_
          refine J.callV 0 (st := []) B (c_X7_gatherRow_no l G _ hk hns hsa) ml_X7_94 mf_yX7_gatherRow mi_yX7_gatherRow rfl dX7_depth_43 rfl rfl rfl rfl (fun v_1 w_2 hp_3 => ?_)
          obtain ⟨rfl, rfl⟩ := hp_3
          show J G X mX7_depth _ _ _ 46 _ [.int (-3 : Int32)]
          refine J.istore [1, 2, 3, 4, 5, 0] (lv' := [(0, .ref x), (1, .int (nI k)), (2, .int p), (3, .int d), (4, .int f), (5, .int (-3 : Int32))]) dX7_depth_46 rfl rfl ?_
          refine J.iload 5 dX7_depth_48 rfl ?_
          refine J.if_eq dX7_depth_50 (fun z => absurd z (by decide)) (fun _ => ?_)
          refine J.iload 5 dX7_depth_53 rfl ?_
          exact J.iret B dX7_depth_55 rfl (⟨rfl, rfl⟩)
set_option maxHeartbeats 4000000 in
set_option maxRecDepth 100000 in
theorem X7_dep_lp {l : Launch} {G : jG} {X : jX} {r : va_W} {x : Nat} {A : Nat → Nat} {ns nr : Nat} {to : Int64} {al wa lf : Int32} {sa : Nat → Option Nat} {la k s p d f : Nat} {kd wc : Int32} {L F t1 u1 : Nat → Int32} (B : jB l G X 3 65 0 0 (fun v w => ∃ t1 u1, v = some (.int (if 0 < cI L p d f ∧ cI L p d f < nN L then 1 else -9)) ∧ w = (x, .inr (7, [.ref (A 0), .int (nI ns), .ref (A 1), .int (nI nr), .ref (A 2), .ref (A 3), .ref (A 4), .ref (A 5), .ref (A 6), .ref (A 7), .ref (A 8), .ref (A 9), .long (if 0 < cI L p d f ∧ cI L p d f < nN L then Int64.ofInt (dpI L F p d f) else to), .int al, .int wa, .int lf, .ref (A 10)])) :: (A 0, .inl (G.2.1.2.2.1, 12, .inr (.inr (.inr (.inr sa))))) :: (s, .inr (6, [.int kd, .ref la, .int (1 : Int32), .int wc])) :: (la, .inl (G.2.1.1, 60, .inl L)) :: (A 2, .inl (G.2.1.1, 60, .inl F)) :: (A 3, .inr (1, [.ref (A 11), .ref (A 12), .int (nI (nN L))])) :: (A 11, .inl (G.2.1.1, 60, .inl t1)) :: (A 12, .inl (G.2.1.1, 60, .inl u1)) :: r) "depth") (i : Nat) (hb : BD L F) (hcv : CV L F t1 u1) (hp : 2 ≤ p) (hp2 : p ≤ 600) (hd1 : 1 ≤ d) (hd2 : d ≤ 30) (hdp : d < p) (hfp : f < p) (hi : i ≤ nN L) : J G X mX7_depth ((x, .inr (7, [.ref (A 0), .int (nI ns), .ref (A 1), .int (nI nr), .ref (A 2), .ref (A 3), .ref (A 4), .ref (A 5), .ref (A 6), .ref (A 7), .ref (A 8), .ref (A 9), .long to, .int al, .int wa, .int lf, .ref (A 10)])) :: (A 0, .inl (G.2.1.2.2.1, 12, .inr (.inr (.inr (.inr sa))))) :: (s, .inr (6, [.int kd, .ref la, .int (1 : Int32), .int wc])) :: (la, .inl (G.2.1.1, 60, .inl L)) :: (A 2, .inl (G.2.1.1, 60, .inl F)) :: (A 3, .inr (1, [.ref (A 11), .ref (A 12), .int (nI (nN L))])) :: (A 11, .inl (G.2.1.1, 60, .inl t1)) :: (A 12, .inl (G.2.1.1, 60, .inl u1)) :: r) 0 0 65 [(0, .ref x), (1, .int (nI k)), (2, .int (nI p)), (3, .int (nI d)), (4, .int (nI f)), (5, .int (0 : Int32)), (6, .long (Int64.ofInt (smI (ltF L F) (inP p d f) ((nts L 60).take i)))), (8, .int (nI (cnt (inP p d f) ((nts L 60).take i)))), (9, .int (nI i))] [] := by
  have hn := nN_le L
  have hct : cnt (inP p d f) ((nts L 60).take i) ≤ i := Nat.le_trans (cnt_le _ _) (List.length_take_le ..)
  refine J.iload 8 dX7_depth_65 rfl ?_
  refine J.aload_n 0 dX7_depth_67 rfl ?_
  refine J.get 0 fl_X7_28 dX7_depth_68 rfl rfl ?_
  refine J.get 5 fl_X7_176 dX7_depth_71 rfl rfl ?_
  refine J.icmp_ge dX7_depth_74 (fun h9 => ?_) (fun h9 => ?_)
  · skip
    have h9 : (nN L) ≤ i := (nI_leI (a := (nN L)) (b := i) (by omega) (by omega)).mp h9
    have e : i = nN L := by omega
    subst e
    rw [List.take_length]
    rw [List.take_length] at hct
    refine J.aload_n 0 dX7_depth_128 rfl ?_
    refine J.get 0 fl_X7_28 dX7_depth_129 rfl rfl ?_
    refine J.get 5 fl_X7_176 dX7_depth_132 rfl rfl ?_
    refine J.iload 7 dX7_depth_135 rfl ?_
    have hcl : cnt (inP p d f) (nts L 60) ≤ nN L := cnt_le _ _
    refine J.isub dX7_depth_137 ?_
    refine J.topi (y := nI ((nN L) - (cnt (inP p d f) (nts L 60)))) (pk_sub (a := nN L) (b := cnt (inP p d f) (nts L 60)) (by omega)) ?_
    refine J.istore [1, 2, 3, 4, 5, 6, 7, 8, 0] (lv' := [(0, .ref x), (1, .int (nI k)), (2, .int (nI p)), (3, .int (nI d)), (4, .int (nI f)), (5, .int (0 : Int32)), (6, .long (Int64.ofInt (smI (ltF L F) (inP p d f) (nts L 60)))), (8, .int (nI (cnt (inP p d f) (nts L 60)))), (9, .int (nI ((nN L) - (cnt (inP p d f) (nts L 60)))))]) dX7_depth_138 rfl rfl ?_
    refine J.iload 7 dX7_depth_140 rfl ?_
    refine J.if_eq dX7_depth_142 (fun h6 => ?_) (fun h6 => ?_)
    · skip
      have h6 : (cnt (inP p d f) (nts L 60)) = 0 := (nI_eq (a := (cnt (inP p d f) (nts L 60))) (b := 0) (by omega) (by omega)).mp h6
      refine J.bipush (-9 : Int32) dX7_depth_150 rfl ?_
      have hno : ¬ (0 < cI L p d f ∧ cI L p d f < nN L) := fun z => by
        have z1 : 0 < cnt (inP p d f) (nts L 60) := z.1
        have z2 : cnt (inP p d f) (nts L 60) < nN L := z.2
        omega
      exact J.iret B dX7_depth_152 rfl (⟨t1, u1, by rw [if_neg hno], by rw [if_neg hno]⟩)
    · skip
      have h6 : ¬ (cnt (inP p d f) (nts L 60)) = 0 := fun z => h6 ((nI_eq (a := (cnt (inP p d f) (nts L 60))) (b := 0) (by omega) (by omega)).mpr z)
      refine J.iload 8 dX7_depth_145 rfl ?_
      refine J.if_ne dX7_depth_147 (fun h5 => ?_) (fun h5 => ?_)
      · skip
        have h5 : ¬ ((nN L) - (cnt (inP p d f) (nts L 60))) = 0 := fun z => h5 ((nI_eq (a := ((nN L) - (cnt (inP p d f) (nts L 60)))) (b := 0) (by omega) (by omega)).mpr z)
        refine J.aload_n 0 dX7_depth_153 rfl ?_
        refine J.aload_n 0 dX7_depth_154 rfl ?_
        refine J.get 0 fl_X7_28 dX7_depth_155 rfl rfl ?_
        refine J.re [5, 7, 0, 1, 2, 3, 4, 6] 8 (ws2 := (A 3, .inr (1, [.ref (A 11), .ref (A 12), .int (nI (nN L))])) :: (A 12, .inl (G.2.1.1, 60, .inl u1)) :: (x, .inr (7, [.ref (A 0), .int (nI ns), .ref (A 1), .int (nI nr), .ref (A 2), .ref (A 3), .ref (A 4), .ref (A 5), .ref (A 6), .ref (A 7), .ref (A 8), .ref (A 9), .long to, .int al, .int wa, .int lf, .ref (A 10)])) :: (A 0, .inl (G.2.1.2.2.1, 12, .inr (.inr (.inr (.inr sa))))) :: (s, .inr (6, [.int kd, .ref la, .int (1 : Int32), .int wc])) :: (la, .inl (G.2.1.1, 60, .inl L)) :: (A 2, .inl (G.2.1.1, 60, .inl F)) :: (A 11, .inl (G.2.1.1, 60, .inl t1)) :: r) rfl rfl ?_
        refine J.callV 0 (st := [.ref x]) B (c_X1_sum l G _ (n := nN L) (nN_le L)) ml_X7_188 mf_yX1_sum mi_yX1_sum rfl dX7_depth_158 rfl rfl rfl rfl (fun v_1 w_2 hp_3 => ?_)
        obtain ⟨rfl, rfl⟩ := hp_3
        rw [sm64_all hcv]
        refine J.re [2, 3, 4, 5, 6, 0, 7, 1] 8 (ws2 := (x, .inr (7, [.ref (A 0), .int (nI ns), .ref (A 1), .int (nI nr), .ref (A 2), .ref (A 3), .ref (A 4), .ref (A 5), .ref (A 6), .ref (A 7), .ref (A 8), .ref (A 9), .long to, .int al, .int wa, .int lf, .ref (A 10)])) :: (A 0, .inl (G.2.1.2.2.1, 12, .inr (.inr (.inr (.inr sa))))) :: (s, .inr (6, [.int kd, .ref la, .int (1 : Int32), .int wc])) :: (la, .inl (G.2.1.1, 60, .inl L)) :: (A 2, .inl (G.2.1.1, 60, .inl F)) :: (A 3, .inr (1, [.ref (A 11), .ref (A 12), .int (nI (nN L))])) :: (A 11, .inl (G.2.1.1, 60, .inl t1)) :: (A 12, .inl (G.2.1.1, 60, .inl u1)) :: r) rfl rfl ?_
        show J G X mX7_depth _ _ _ 161 _ [.long (Int64.ofInt (tI L F)), .ref x]
        refine J.lload 6 dX7_depth_161 rfl ?_
        refine J.lsub dX7_depth_163 ?_
        refine J.iload 7 dX7_depth_164 rfl ?_
        refine J.i2l dX7_depth_166 ?_
        refine J.lmul dX7_depth_167 ?_
        refine J.lload 6 dX7_depth_168 rfl ?_
        refine J.iload 8 dX7_depth_170 rfl ?_
        refine J.i2l dX7_depth_172 ?_
        refine J.lmul dX7_depth_173 ?_
        refine J.lsub dX7_depth_174 ?_
        rw [show Int64.ofInt (tI L F) - Int64.ofInt (smI (ltF L F) (inP p d f) (nts L 60)) = Int64.ofInt (tI L F - sI L F p d f) from (Int64.ofInt_sub _ _).symm]
        refine J.topl (y := Int64.ofInt (dpI L F p d f)) (dep_ref hb p d f) ?_
        have hyes : 0 < cI L p d f ∧ cI L p d f < nN L := by
          have z1 : 0 < cnt (inP p d f) (nts L 60) := by omega
          have z2 : cnt (inP p d f) (nts L 60) < nN L := by omega
          exact ⟨z1, z2⟩
        refine J.callV 0 (st := []) B (c_X7_tell l G _ (t0 := Int64.ofInt (dpI L F p d f))) ml_X7_115 mf_yX7_tell mi_yX7_tell rfl dX7_depth_175 rfl rfl rfl rfl (fun v_4 w_5 hp_6 => ?_)
        obtain ⟨rfl, rfl⟩ := hp_6
        show J G X mX7_depth _ _ _ 178 _ [.int (1 : Int32)]
        exact J.iret B dX7_depth_178 rfl (⟨t1, u1, by rw [if_pos hyes], by rw [if_pos hyes]⟩)
      · skip
        have h5 : ((nN L) - (cnt (inP p d f) (nts L 60))) = 0 := (nI_eq (a := ((nN L) - (cnt (inP p d f) (nts L 60)))) (b := 0) (by omega) (by omega)).mp h5
        refine J.bipush (-9 : Int32) dX7_depth_150 rfl ?_
        have hno : ¬ (0 < cI L p d f ∧ cI L p d f < nN L) := fun z => by
          have z1 : 0 < cnt (inP p d f) (nts L 60) := z.1
          have z2 : cnt (inP p d f) (nts L 60) < nN L := z.2
          omega
        exact J.iret B dX7_depth_152 rfl (⟨t1, u1, by rw [if_neg hno], by rw [if_neg hno]⟩)
  · skip
    have h9 : ¬ (nN L) ≤ i := fun z => h9 ((nI_leI (a := (nN L)) (b := i) (by omega) (by omega)).mpr z)
    have h9 : i < nN L := by omega
    refine J.aload_n 0 dX7_depth_77 rfl ?_
    refine J.get 0 fl_X7_28 dX7_depth_78 rfl rfl ?_
    refine J.get 5 fl_X7_179 dX7_depth_81 rfl rfl ?_
    refine J.iload 8 dX7_depth_84 rfl ?_
    refine J.iald 6 (i) dX7_depth_86 rfl (rfl) (by omega) (by decide) ?_
    refine J.topi (y := nI (ntN L i)) ((hcv i h9).1) ?_
    refine J.iload_n 2 dX7_depth_87 rfl ?_
    refine J.iconst (1 : Int32) dX7_depth_88 rfl ?_
    refine J.callS (st := []) B (c_X7_phaseOfTime l G _ (k := ntN L i) (p := p) (q := 1) (by omega) hp2 (ntN_lt h9).1 (by decide)) ml_X7_156 mf_yX7_phaseOfTime mS_yX7_phaseOfTime dX7_depth_89 rfl rfl rfl (fun v_7 w_8 hp_9 => ?_)
    obtain ⟨rfl, rfl⟩ := hp_9
    show J G X mX7_depth _ _ _ 92 _ [.int (nI (ntN L i * 1 % p))]
    refine J.iload 4 dX7_depth_92 rfl ?_
    refine J.isub dX7_depth_94 ?_
    refine J.iload_n 2 dX7_depth_95 rfl ?_
    refine J.callS (st := []) B (c_J9_floorMod_7cf53 l G _ (a := (nI (ntN L i * 1 % p)) - (nI f)) (b := nI p) (nI_lt (a := 0) (by omega) (by omega))) ml_X7_182 mf_yJ9_floorMod_7cf53 mS_yJ9_floorMod_7cf53 dX7_depth_96 rfl rfl rfl (fun v_10 w_11 hp_12 => ?_)
    obtain ⟨rfl, rfl⟩ := hp_12
    rw [fm_cls (by omega) hp2 hfp]
    have hm2 : (ntN L i % p + p - f) % p < p := Nat.mod_lt _ (by omega)
    show J G X mX7_depth _ _ _ 99 _ [.int (nI ((ntN L i % p + p - f) % p))]
    refine J.iload_n 3 dX7_depth_99 rfl ?_
    refine J.icmp_ge dX7_depth_100 (fun h7 => ?_) (fun h7 => ?_)
    · skip
      have h7 : d ≤ ((ntN L i % p + p - f) % p) := (nI_leI (a := d) (b := ((ntN L i % p + p - f) % p)) (by omega) (by omega)).mp h7
      have hin : inP p d f (ntN L i) = false := decide_eq_false (by omega)
      refine J.iinc 8 [1, 2, 3, 4, 5, 6, 7, 8, 0] (lv' := [(0, .ref x), (1, .int (nI k)), (2, .int (nI p)), (3, .int (nI d)), (4, .int (nI f)), (5, .int (0 : Int32)), (6, .long (Int64.ofInt (smI (ltF L F) (inP p d f) ((nts L 60).take i)))), (8, .int (nI (cnt (inP p d f) ((nts L 60).take i)))), (9, .int (nI (i + 1)))]) dX7_depth_122 rfl (jinc1 _) rfl rfl ?_
      refine J.goto dX7_depth_125 ?_
      rw [← dq_out (F := F) h9 hin, ← dc_out h9 hin]
      exact X7_dep_lp B (i + 1) hb hcv hp hp2 hd1 hd2 hdp hfp (by omega)
    · skip
      have h7 : ¬ d ≤ ((ntN L i % p + p - f) % p) := fun z => h7 ((nI_leI (a := d) (b := ((ntN L i % p + p - f) % p)) (by omega) (by omega)).mpr z)
      have hin : inP p d f (ntN L i) = true := decide_eq_true (by omega)
      refine J.lload 6 dX7_depth_103 rfl ?_
      refine J.aload_n 0 dX7_depth_105 rfl ?_
      refine J.get 0 fl_X7_28 dX7_depth_106 rfl rfl ?_
      refine J.get 5 fl_X7_187 dX7_depth_109 rfl rfl ?_
      refine J.iload 8 dX7_depth_112 rfl ?_
      refine J.iald 7 (i) dX7_depth_114 rfl (rfl) (by omega) (by decide) ?_
      refine J.topi (y := ltF L F (ntN L i)) ((hcv i h9).2) ?_
      refine J.i2l dX7_depth_115 ?_
      refine J.ladd dX7_depth_116 ?_
      refine J.lstore [1, 2, 3, 4, 5, 6, 0, 7, 8] (lv' := [(0, .ref x), (1, .int (nI k)), (2, .int (nI p)), (3, .int (nI d)), (4, .int (nI f)), (5, .int (0 : Int32)), (6, .long ((Int64.ofInt (smI (ltF L F) (inP p d f) ((nts L 60).take i))) + ((ltF L F (ntN L i)).toInt64))), (8, .int (nI (cnt (inP p d f) ((nts L 60).take i)))), (9, .int (nI i))]) dX7_depth_117 rfl rfl ?_
      refine J.iinc 7 [1, 2, 3, 4, 5, 6, 7, 0, 8] (lv' := [(0, .ref x), (1, .int (nI k)), (2, .int (nI p)), (3, .int (nI d)), (4, .int (nI f)), (5, .int (0 : Int32)), (6, .long ((Int64.ofInt (smI (ltF L F) (inP p d f) ((nts L 60).take i))) + ((ltF L F (ntN L i)).toInt64))), (8, .int (nI (cnt (inP p d f) ((nts L 60).take i) + 1))), (9, .int (nI i))]) dX7_depth_119 rfl (jinc1 _) rfl rfl ?_
      refine J.iinc 8 [1, 2, 3, 4, 5, 6, 7, 8, 0] (lv' := [(0, .ref x), (1, .int (nI k)), (2, .int (nI p)), (3, .int (nI d)), (4, .int (nI f)), (5, .int (0 : Int32)), (6, .long ((Int64.ofInt (smI (ltF L F) (inP p d f) ((nts L 60).take i))) + ((ltF L F (ntN L i)).toInt64))), (8, .int (nI (cnt (inP p d f) ((nts L 60).take i) + 1))), (9, .int (nI (i + 1)))]) dX7_depth_122 rfl (jinc1 _) rfl rfl ?_
      refine J.goto dX7_depth_125 ?_
      rw [dq_in h9 hin]
      rw [dc_in h9 hin]
      exact X7_dep_lp B (i + 1) hb hcv hp hp2 hd1 hd2 hdp hfp (by omega)
termination_by nN L - i
decreasing_by all_goals omega
set_option maxHeartbeats 4000000 in
set_option maxRecDepth 100000 in
theorem i_depth (l : Launch) (G : jG) (r : va_W) {x : Nat} {A : Nat → Nat} {ns nr : Nat} {to : Int64} {al wa lf : Int32} {sa : Nat → Option Nat} {la : Nat} {kd wc : Int32} {k s : Nat} (hk : k < ns) (hns : ns ≤ 12) (hsa : sa k = some s) {L F : Nat → Int32} {cz : Int32} {t u : Nat → Int32} (hb : BD L F) {p d f : Nat} (hp : 2 ≤ p) (hp2 : p ≤ 600) (hd1 : 1 ≤ d) (hd2 : d ≤ 30) (hdp : d < p) (hfp : f < p) : Mt l G yX7_depth mX7_depth 3 65 0 0 [.ref x, .int (nI k), .int (nI p), .int (nI d), .int (nI f)] ((x, .inr (7, [.ref (A 0), .int (nI ns), .ref (A 1), .int (nI nr), .ref (A 2), .ref (A 3), .ref (A 4), .ref (A 5), .ref (A 6), .ref (A 7), .ref (A 8), .ref (A 9), .long to, .int al, .int wa, .int lf, .ref (A 10)])) :: (A 0, .inl (G.2.1.2.2.1, 12, .inr (.inr (.inr (.inr sa))))) :: (s, .inr (6, [.int kd, .ref la, .int (1 : Int32), .int wc])) :: (la, .inl (G.2.1.1, 60, .inl L)) :: (A 2, .inl (G.2.1.1, 60, .inl F)) :: (A 3, .inr (1, [.ref (A 11), .ref (A 12), .int cz])) :: (A 11, .inl (G.2.1.1, 60, .inl t)) :: (A 12, .inl (G.2.1.1, 60, .inl u)) :: r) (fun v w => ∃ t1 u1, v = some (.int (if 0 < cI L p d f ∧ cI L p d f < nN L then 1 else -9)) ∧ w = (x, .inr (7, [.ref (A 0), .int (nI ns), .ref (A 1), .int (nI nr), .ref (A 2), .ref (A 3), .ref (A 4), .ref (A 5), .ref (A 6), .ref (A 7), .ref (A 8), .ref (A 9), .long (if 0 < cI L p d f ∧ cI L p d f < nN L then Int64.ofInt (dpI L F p d f) else to), .int al, .int wa, .int lf, .ref (A 10)])) :: (A 0, .inl (G.2.1.2.2.1, 12, .inr (.inr (.inr (.inr sa))))) :: (s, .inr (6, [.int kd, .ref la, .int (1 : Int32), .int wc])) :: (la, .inl (G.2.1.1, 60, .inl L)) :: (A 2, .inl (G.2.1.1, 60, .inl F)) :: (A 3, .inr (1, [.ref (A 11), .ref (A 12), .int (nI (nN L))])) :: (A 11, .inl (G.2.1.1, 60, .inl t1)) :: (A 12, .inl (G.2.1.1, 60, .inl u1)) :: r) := by
  refine Mt.of (by decide +kernel) rfl rfl (fun X B => ?_)
  show J G X mX7_depth ((x, .inr (7, [.ref (A 0), .int (nI ns), .ref (A 1), .int (nI nr), .ref (A 2), .ref (A 3), .ref (A 4), .ref (A 5), .ref (A 6), .ref (A 7), .ref (A 8), .ref (A 9), .long to, .int al, .int wa, .int lf, .ref (A 10)])) :: (A 0, .inl (G.2.1.2.2.1, 12, .inr (.inr (.inr (.inr sa))))) :: (s, .inr (6, [.int kd, .ref la, .int (1 : Int32), .int wc])) :: (la, .inl (G.2.1.1, 60, .inl L)) :: (A 2, .inl (G.2.1.1, 60, .inl F)) :: (A 3, .inr (1, [.ref (A 11), .ref (A 12), .int cz])) :: (A 11, .inl (G.2.1.1, 60, .inl t)) :: (A 12, .inl (G.2.1.1, 60, .inl u)) :: r) 0 0 0 [(0, .ref x), (1, .int (nI k)), (2, .int (nI p)), (3, .int (nI d)), (4, .int (nI f))] []
  refine J.iload_n 2 dX7_depth_0 rfl ?_
  refine J.iconst (2 : Int32) dX7_depth_1 rfl ?_
  refine J.icmp_lt dX7_depth_2 (fun h9 => ?_) (fun h9 => ?_)
  · skip
    have h9 : p < 2 := (nI_ltI (a := p) (b := 2) (by omega) (by omega)).mp h9
    omega
  · skip
    have h9 : ¬ p < 2 := fun z => h9 ((nI_ltI (a := p) (b := 2) (by omega) (by omega)).mpr z)
    refine J.iload_n 2 dX7_depth_5 rfl ?_
    refine J.sipush (600 : Int32) dX7_depth_6 rfl ?_
    refine J.icmp_gt dX7_depth_9 (fun h8 => ?_) (fun h8 => ?_)
    · skip
      have h8 : 600 < p := (nI_ltI (a := 600) (b := p) (by omega) (by omega)).mp h8
      omega
    · skip
      have h8 : ¬ 600 < p := fun z => h8 ((nI_ltI (a := 600) (b := p) (by omega) (by omega)).mpr z)
      refine J.iload_n 3 dX7_depth_12 rfl ?_
      refine J.iconst (1 : Int32) dX7_depth_13 rfl ?_
      refine J.icmp_lt dX7_depth_14 (fun h7 => ?_) (fun h7 => ?_)
      · skip
        have h7 : d < 1 := (nI_ltI (a := d) (b := 1) (by omega) (by omega)).mp h7
        omega
      · skip
        have h7 : ¬ d < 1 := fun z => h7 ((nI_ltI (a := d) (b := 1) (by omega) (by omega)).mpr z)
        refine J.iload_n 3 dX7_depth_17 rfl ?_
        refine J.bipush (30 : Int32) dX7_depth_18 rfl ?_
        refine J.icmp_gt dX7_depth_20 (fun h6 => ?_) (fun h6 => ?_)
        · skip
          have h6 : 30 < d := (nI_ltI (a := 30) (b := d) (by omega) (by omega)).mp h6
          omega
        · skip
          have h6 : ¬ 30 < d := fun z => h6 ((nI_ltI (a := 30) (b := d) (by omega) (by omega)).mpr z)
          refine J.iload_n 3 dX7_depth_23 rfl ?_
          refine J.iload_n 2 dX7_depth_24 rfl ?_
          refine J.icmp_ge dX7_depth_25 (fun h5 => ?_) (fun h5 => ?_)
          · skip
            have h5 : p ≤ d := (nI_leI (a := p) (b := d) (by omega) (by omega)).mp h5
            omega
          · skip
            have h5 : ¬ p ≤ d := fun z => h5 ((nI_leI (a := p) (b := d) (by omega) (by omega)).mpr z)
            refine J.iload 4 dX7_depth_28 rfl ?_
            refine J.if_lt dX7_depth_30 (fun h4 => ?_) (fun h4 => ?_)
            · skip
              have h4 : f < 0 := (nI_ltI (a := f) (b := 0) (by omega) (by omega)).mp h4
              omega
            · skip
              have h4 : ¬ f < 0 := fun z => h4 ((nI_ltI (a := f) (b := 0) (by omega) (by omega)).mpr z)
              refine J.iload 4 dX7_depth_33 rfl ?_
              refine J.iload_n 2 dX7_depth_35 rfl ?_
              refine J.icmp_lt dX7_depth_36 (fun h3 => ?_) (fun h3 => ?_)
              · skip
                have h3 : f < p := (nI_ltI (a := f) (b := p) (by omega) (by omega)).mp h3
                refine J.aload_n 0 dX7_depth_41 rfl ?_
                refine J.iload_n 1 dX7_depth_42 rfl ?_
                refine J.callV 0 (st := []) B (c_X7_gatherRow l G _ hk hns hsa) ml_X7_94 mf_yX7_gatherRow mi_yX7_gatherRow rfl dX7_depth_43 rfl rfl rfl rfl (fun v_1 w_2 hp_3 => ?_)
                obtain ⟨t1, u1, hcv, rfl, rfl⟩ := hp_3
                show J G X mX7_depth _ _ _ 46 _ [.int (0 : Int32)]
                refine J.istore [1, 2, 3, 4, 5, 0] (lv' := [(0, .ref x), (1, .int (nI k)), (2, .int (nI p)), (3, .int (nI d)), (4, .int (nI f)), (5, .int (0 : Int32))]) dX7_depth_46 rfl rfl ?_
                refine J.iload 5 dX7_depth_48 rfl ?_
                refine J.if_eq dX7_depth_50 (fun _ => ?_) (fun z => absurd z (by decide))
                refine J.lconst 0 dX7_depth_56 rfl ?_
                refine J.lstore [1, 2, 3, 4, 5, 6, 0] (lv' := [(0, .ref x), (1, .int (nI k)), (2, .int (nI p)), (3, .int (nI d)), (4, .int (nI f)), (5, .int (0 : Int32)), (6, .long (0 : Int64))]) dX7_depth_57 rfl rfl ?_
                refine J.iconst (0 : Int32) dX7_depth_59 rfl ?_
                refine J.istore [1, 2, 3, 4, 5, 6, 7, 0] (lv' := [(0, .ref x), (1, .int (nI k)), (2, .int (nI p)), (3, .int (nI d)), (4, .int (nI f)), (5, .int (0 : Int32)), (6, .long (0 : Int64)), (8, .int (0 : Int32))]) dX7_depth_60 rfl rfl ?_
                refine J.iconst (0 : Int32) dX7_depth_62 rfl ?_
                refine J.istore [1, 2, 3, 4, 5, 6, 7, 8, 0] (lv' := [(0, .ref x), (1, .int (nI k)), (2, .int (nI p)), (3, .int (nI d)), (4, .int (nI f)), (5, .int (0 : Int32)), (6, .long (0 : Int64)), (8, .int (0 : Int32)), (9, .int (0 : Int32))]) dX7_depth_63 rfl rfl ?_
                exact X7_dep_lp B 0 hb hcv hp hp2 hd1 hd2 hdp hfp (by omega)
              · skip
                have h3 : ¬ f < p := fun z => h3 ((nI_ltI (a := f) (b := p) (by omega) (by omega)).mpr z)
                omega
set_option maxHeartbeats 4000000 in
set_option maxRecDepth 100000 in
theorem i_dip_a (l : Launch) (G : jG) (r : va_W) {x : Nat} {A : Nat → Nat} {ns nr : Nat} {to : Int64} {al wa lf : Int32} {num : Int32} {p mo : Int32} (hf : (inR p 2 600 && inR mo 1 30) = false) : Mt l G yX7_dip mX7_dip 3 76 0 0 [.ref x, .int num, .int p, .int mo] ((x, .inr (7, [.ref (A 0), .int (nI ns), .ref (A 1), .int (nI nr), .ref (A 2), .ref (A 3), .ref (A 4), .ref (A 5), .ref (A 6), .ref (A 7), .ref (A 8), .ref (A 9), .long to, .int al, .int wa, .int lf, .ref (A 10)])) :: r) (fun v w => v = some (.int (-1 : Int32)) ∧ w = (x, .inr (7, [.ref (A 0), .int (nI ns), .ref (A 1), .int (nI nr), .ref (A 2), .ref (A 3), .ref (A 4), .ref (A 5), .ref (A 6), .ref (A 7), .ref (A 8), .ref (A 9), .long to, .int al, .int wa, .int lf, .ref (A 10)])) :: r) := by
  refine Mt.of (by decide +kernel) rfl rfl (fun X B => ?_)
  show J G X mX7_dip ((x, .inr (7, [.ref (A 0), .int (nI ns), .ref (A 1), .int (nI nr), .ref (A 2), .ref (A 3), .ref (A 4), .ref (A 5), .ref (A 6), .ref (A 7), .ref (A 8), .ref (A 9), .long to, .int al, .int wa, .int lf, .ref (A 10)])) :: r) 0 0 0 [(0, .ref x), (1, .int num), (2, .int p), (3, .int mo)] []
  refine J.iload_n 2 dX7_dip_0 rfl ?_
  refine J.iconst (2 : Int32) dX7_dip_1 rfl ?_
  refine J.icmp_lt dX7_dip_2 (fun h9 => ?_) (fun h9 => ?_)
  · skip
    have h9 : p.toInt < (2 : Int) := (fa_lt _ _).mp h9
    refine J.iconst (-1 : Int32) dX7_dip_23 rfl ?_
    exact J.iret B dX7_dip_24 rfl (⟨rfl, rfl⟩)
  · skip
    have h9 : ¬ p.toInt < (2 : Int) := fun z => h9 ((fa_lt _ _).mpr z)
    refine J.iload_n 2 dX7_dip_5 rfl ?_
    refine J.sipush (600 : Int32) dX7_dip_6 rfl ?_
    refine J.icmp_gt dX7_dip_9 (fun h8 => ?_) (fun h8 => ?_)
    · skip
      have h8 : (600 : Int) < p.toInt := (fa_lt _ _).mp h8
      refine J.iconst (-1 : Int32) dX7_dip_23 rfl ?_
      exact J.iret B dX7_dip_24 rfl (⟨rfl, rfl⟩)
    · skip
      have h8 : ¬ (600 : Int) < p.toInt := fun z => h8 ((fa_lt _ _).mpr z)
      refine J.iload_n 3 dX7_dip_12 rfl ?_
      refine J.iconst (1 : Int32) dX7_dip_13 rfl ?_
      refine J.icmp_lt dX7_dip_14 (fun h7 => ?_) (fun h7 => ?_)
      · skip
        have h7 : mo.toInt < (1 : Int) := (fa_lt _ _).mp h7
        refine J.iconst (-1 : Int32) dX7_dip_23 rfl ?_
        exact J.iret B dX7_dip_24 rfl (⟨rfl, rfl⟩)
      · skip
        have h7 : ¬ mo.toInt < (1 : Int) := fun z => h7 ((fa_lt _ _).mpr z)
        refine J.iload_n 3 dX7_dip_17 rfl ?_
        refine J.bipush (30 : Int32) dX7_dip_18 rfl ?_
        refine J.icmp_le dX7_dip_20 (fun h6 => ?_) (fun h6 => ?_)
        · skip
          have h6 : mo.toInt ≤ (30 : Int) := (fa_le _ _).mp h6
          exact absurd (by rw [inR_t (v := p) ⟨by omega, by omega⟩, inR_t (v := mo) ⟨by omega, by omega⟩]; rfl) (Bool.eq_false_iff.mp hf)
        · skip
          have h6 : ¬ mo.toInt ≤ (30 : Int) := fun z => h6 ((fa_le _ _).mpr z)
          refine J.iconst (-1 : Int32) dX7_dip_23 rfl ?_
          exact J.iret B dX7_dip_24 rfl (⟨rfl, rfl⟩)
set_option maxHeartbeats 4000000 in
set_option maxRecDepth 100000 in
theorem i_dip_bad (l : Launch) (G : jG) (r : va_W) {x : Nat} {A : Nat → Nat} {ns nr : Nat} {to : Int64} {al wa lf : Int32} {sa : Nat → Option Nat} {num : Int32} (hns : ns ≤ 12) (hnum : inR num 0 ((ns : Int) - 1) = false) {p mo : Int32} (hf : (inR p 2 600 && inR mo 1 30) = true) : Mt l G yX7_dip mX7_dip 3 76 0 0 [.ref x, .int num, .int p, .int mo] ((x, .inr (7, [.ref (A 0), .int (nI ns), .ref (A 1), .int (nI nr), .ref (A 2), .ref (A 3), .ref (A 4), .ref (A 5), .ref (A 6), .ref (A 7), .ref (A 8), .ref (A 9), .long to, .int al, .int wa, .int lf, .ref (A 10)])) :: (A 0, .inl (G.2.1.2.2.1, 12, .inr (.inr (.inr (.inr sa))))) :: r) (fun v w => v = some (.int (-1 : Int32)) ∧ w = (x, .inr (7, [.ref (A 0), .int (nI ns), .ref (A 1), .int (nI nr), .ref (A 2), .ref (A 3), .ref (A 4), .ref (A 5), .ref (A 6), .ref (A 7), .ref (A 8), .ref (A 9), .long to, .int al, .int wa, .int lf, .ref (A 10)])) :: (A 0, .inl (G.2.1.2.2.1, 12, .inr (.inr (.inr (.inr sa))))) :: r) := by
  refine Mt.of (by decide +kernel) rfl rfl (fun X B => ?_)
  show J G X mX7_dip ((x, .inr (7, [.ref (A 0), .int (nI ns), .ref (A 1), .int (nI nr), .ref (A 2), .ref (A 3), .ref (A 4), .ref (A 5), .ref (A 6), .ref (A 7), .ref (A 8), .ref (A 9), .long to, .int al, .int wa, .int lf, .ref (A 10)])) :: (A 0, .inl (G.2.1.2.2.1, 12, .inr (.inr (.inr (.inr sa))))) :: r) 0 0 0 [(0, .ref x), (1, .int num), (2, .int p), (3, .int mo)] []
  obtain ⟨g1, g2⟩ := Bool.and_eq_true_iff.mp hf
  have g1 := inR_of g1
  have g2 := inR_of g2
  refine J.iload_n 2 dX7_dip_0 rfl ?_
  refine J.iconst (2 : Int32) dX7_dip_1 rfl ?_
  refine J.icmp_lt dX7_dip_2 (fun h9 => ?_) (fun h9 => ?_)
  · skip
    have h9 : p.toInt < (2 : Int) := (fa_lt _ _).mp h9
    omega
  · skip
    have h9 : ¬ p.toInt < (2 : Int) := fun z => h9 ((fa_lt _ _).mpr z)
    refine J.iload_n 2 dX7_dip_5 rfl ?_
    refine J.sipush (600 : Int32) dX7_dip_6 rfl ?_
    refine J.icmp_gt dX7_dip_9 (fun h8 => ?_) (fun h8 => ?_)
    · skip
      have h8 : (600 : Int) < p.toInt := (fa_lt _ _).mp h8
      omega
    · skip
      have h8 : ¬ (600 : Int) < p.toInt := fun z => h8 ((fa_lt _ _).mpr z)
      refine J.iload_n 3 dX7_dip_12 rfl ?_
      refine J.iconst (1 : Int32) dX7_dip_13 rfl ?_
      refine J.icmp_lt dX7_dip_14 (fun h7 => ?_) (fun h7 => ?_)
      · skip
        have h7 : mo.toInt < (1 : Int) := (fa_lt _ _).mp h7
        omega
      · skip
        have h7 : ¬ mo.toInt < (1 : Int) := fun z => h7 ((fa_lt _ _).mpr z)
        refine J.iload_n 3 dX7_dip_17 rfl ?_
        refine J.bipush (30 : Int32) dX7_dip_18 rfl ?_
        refine J.icmp_le dX7_dip_20 (fun h6 => ?_) (fun h6 => ?_)
        · skip
          have h6 : mo.toInt ≤ (30 : Int) := (fa_le _ _).mp h6
          refine J.aload_n 0 dX7_dip_25 rfl ?_
          refine J.iload_n 1 dX7_dip_26 rfl ?_
          refine J.callV 0 (st := []) B (c_X7_gatherRow_bad l G _ hns hnum) ml_X7_94 mf_yX7_gatherRow mi_yX7_gatherRow rfl dX7_dip_27 rfl rfl rfl rfl (fun v_1 w_2 hp_3 => ?_)
          obtain ⟨rfl, rfl⟩ := hp_3
          show J G X mX7_dip _ _ _ 30 _ [.int (-1 : Int32)]
          refine J.istore [1, 2, 3, 4, 0] (lv' := [(0, .ref x), (1, .int num), (2, .int p), (3, .int mo), (4, .int (-1 : Int32))]) dX7_dip_30 rfl rfl ?_
          refine J.iload 4 dX7_dip_32 rfl ?_
          refine J.if_eq dX7_dip_34 (fun z => absurd z (by decide)) (fun _ => ?_)
          refine J.iload 4 dX7_dip_37 rfl ?_
          exact J.iret B dX7_dip_39 rfl (⟨rfl, rfl⟩)
        · skip
          have h6 : ¬ mo.toInt ≤ (30 : Int) := fun z => h6 ((fa_le _ _).mpr z)
          omega
set_option maxHeartbeats 4000000 in
set_option maxRecDepth 100000 in
theorem i_dip_no (l : Launch) (G : jG) (r : va_W) {x : Nat} {A : Nat → Nat} {ns nr : Nat} {to : Int64} {al wa lf : Int32} {sa : Nat → Option Nat} {la : Nat} {kd wc : Int32} {k s : Nat} (hk : k < ns) (hns : ns ≤ 12) (hsa : sa k = some s) {p mo : Int32} {fc : Nat → Int32} (hf : (inR p 2 600 && inR mo 1 30) = true) : Mt l G yX7_dip mX7_dip 3 76 0 0 [.ref x, .int (nI k), .int p, .int mo] ((x, .inr (7, [.ref (A 0), .int (nI ns), .ref (A 1), .int (nI nr), .ref (A 2), .ref (A 3), .ref (A 4), .ref (A 5), .ref (A 6), .ref (A 7), .ref (A 8), .ref (A 9), .long to, .int al, .int wa, .int lf, .ref (A 10)])) :: (A 0, .inl (G.2.1.2.2.1, 12, .inr (.inr (.inr (.inr sa))))) :: (s, .inr (6, [.int kd, .ref la, .int (0 : Int32), .int wc])) :: (A 10, .inl (G.2.1.1, 6, .inl fc)) :: r) (fun v w => v = some (.int (-3 : Int32)) ∧ w = (x, .inr (7, [.ref (A 0), .int (nI ns), .ref (A 1), .int (nI nr), .ref (A 2), .ref (A 3), .ref (A 4), .ref (A 5), .ref (A 6), .ref (A 7), .ref (A 8), .ref (A 9), .long to, .int al, .int wa, .int (nI 1), .ref (A 10)])) :: (A 0, .inl (G.2.1.2.2.1, 12, .inr (.inr (.inr (.inr sa))))) :: (s, .inr (6, [.int kd, .ref la, .int (0 : Int32), .int wc])) :: (A 10, .inl (G.2.1.1, 6, .inl (upd fc 1 (fc 1 + 1)))) :: r) := by
  refine Mt.of (by decide +kernel) rfl rfl (fun X B => ?_)
  show J G X mX7_dip ((x, .inr (7, [.ref (A 0), .int (nI ns), .ref (A 1), .int (nI nr), .ref (A 2), .ref (A 3), .ref (A 4), .ref (A 5), .ref (A 6), .ref (A 7), .ref (A 8), .ref (A 9), .long to, .int al, .int wa, .int lf, .ref (A 10)])) :: (A 0, .inl (G.2.1.2.2.1, 12, .inr (.inr (.inr (.inr sa))))) :: (s, .inr (6, [.int kd, .ref la, .int (0 : Int32), .int wc])) :: (A 10, .inl (G.2.1.1, 6, .inl fc)) :: r) 0 0 0 [(0, .ref x), (1, .int (nI k)), (2, .int p), (3, .int mo)] []
  obtain ⟨g1, g2⟩ := Bool.and_eq_true_iff.mp hf
  have g1 := inR_of g1
  have g2 := inR_of g2
  refine J.iload_n 2 dX7_dip_0 rfl ?_
  refine J.iconst (2 : Int32) dX7_dip_1 rfl ?_
  refine J.icmp_lt dX7_dip_2 (fun h9 => ?_) (fun h9 => ?_)
  · skip
    have h9 : p.toInt < (2 : Int) := (fa_lt _ _).mp h9
    omega
  · skip
    have h9 : ¬ p.toInt < (2 : Int) := fun z => h9 ((fa_lt _ _).mpr z)
    refine J.iload_n 2 dX7_dip_5 rfl ?_
    refine J.sipush (600 : Int32) dX7_dip_6 rfl ?_
    refine J.icmp_gt dX7_dip_9 (fun h8 => ?_) (fun h8 => ?_)
    · skip
      have h8 : (600 : Int) < p.toInt := (fa_lt _ _).mp h8
      omega
    · skip
      have h8 : ¬ (600 : Int) < p.toInt := fun z => h8 ((fa_lt _ _).mpr z)
      refine J.iload_n 3 dX7_dip_12 rfl ?_
      refine J.iconst (1 : Int32) dX7_dip_13 rfl ?_
      refine J.icmp_lt dX7_dip_14 (fun h7 => ?_) (fun h7 => ?_)
      · skip
        have h7 : mo.toInt < (1 : Int) := (fa_lt _ _).mp h7
        omega
      · skip
        have h7 : ¬ mo.toInt < (1 : Int) := fun z => h7 ((fa_lt _ _).mpr z)
        refine J.iload_n 3 dX7_dip_17 rfl ?_
        refine J.bipush (30 : Int32) dX7_dip_18 rfl ?_
        refine J.icmp_le dX7_dip_20 (fun h6 => ?_) (fun h6 => ?_)
        · skip
          have h6 : mo.toInt ≤ (30 : Int) := (fa_le _ _).mp h6
          refine J.aload_n 0 dX7_dip_25 rfl ?_
          refine J.iload_n 1 dX7_dip_26 rfl ?_
          refine J.callV 0 (st := []) B (c_X7_gatherRow_no l G _ hk hns hsa) ml_X7_94 mf_yX7_gatherRow mi_yX7_gatherRow rfl dX7_dip_27 rfl rfl rfl rfl (fun v_1 w_2 hp_3 => ?_)
          obtain ⟨rfl, rfl⟩ := hp_3
          show J G X mX7_dip _ _ _ 30 _ [.int (-3 : Int32)]
          refine J.istore [1, 2, 3, 4, 0] (lv' := [(0, .ref x), (1, .int (nI k)), (2, .int p), (3, .int mo), (4, .int (-3 : Int32))]) dX7_dip_30 rfl rfl ?_
          refine J.iload 4 dX7_dip_32 rfl ?_
          refine J.if_eq dX7_dip_34 (fun z => absurd z (by decide)) (fun _ => ?_)
          refine J.iload 4 dX7_dip_37 rfl ?_
          exact J.iret B dX7_dip_39 rfl (⟨rfl, rfl⟩)
        · skip
          have h6 : ¬ mo.toInt ≤ (30 : Int) := fun z => h6 ((fa_le _ _).mpr z)
          omega
set_option maxHeartbeats 4000000 in
set_option maxRecDepth 100000 in
theorem i_dip (l : Launch) (G : jG) (r : va_W) {x : Nat} {A : Nat → Nat} {ns nr : Nat} {to : Int64} {al wa lf : Int32} {sa : Nat → Option Nat} {la : Nat} {kd wc : Int32} {k s : Nat} (hk : k < ns) (hns : ns ≤ 12) (hsa : sa k = some s) {L F : Nat → Int32} {cz : Int32} {t u : Nat → Int32} {da dn dl dp dc : Int32} {d1 d2 d3 d4 : Nat → Int32} {p mo : Nat} (hb : BD L F) (hp : 2 ≤ p) (hp2 : p ≤ 600) (hm1 : 1 ≤ mo) (hmo : mo ≤ 30) : Mt l G yX7_dip mX7_dip 3 76 0 0 [.ref x, .int (nI k), .int (nI p), .int (nI mo)] ((x, .inr (7, [.ref (A 0), .int (nI ns), .ref (A 1), .int (nI nr), .ref (A 2), .ref (A 3), .ref (A 4), .ref (A 5), .ref (A 6), .ref (A 7), .ref (A 8), .ref (A 9), .long to, .int al, .int wa, .int lf, .ref (A 10)])) :: (A 0, .inl (G.2.1.2.2.1, 12, .inr (.inr (.inr (.inr sa))))) :: (s, .inr (6, [.int kd, .ref la, .int (1 : Int32), .int wc])) :: (la, .inl (G.2.1.1, 60, .inl L)) :: (A 2, .inl (G.2.1.1, 60, .inl F)) :: (A 3, .inr (1, [.ref (A 11), .ref (A 12), .int cz])) :: (A 11, .inl (G.2.1.1, 60, .inl t)) :: (A 12, .inl (G.2.1.1, 60, .inl u)) :: (A 7, .inr (2, [.ref (A 18), .ref (A 19), .ref (A 20), .ref (A 21), .int da, .int dn, .int dl, .int dp, .int dc])) :: (A 18, .inl (G.2.1.1, 600, .inl d1)) :: (A 19, .inl (G.2.1.1, 600, .inl d2)) :: (A 20, .inl (G.2.1.1, 600, .inl d3)) :: (A 21, .inl (G.2.1.1, 600, .inl d4)) :: r) (fun v w => ∃ t1 u1 e1 e2 e3 e4, v = some (.int (if (dpO L F p (min mo (p - 1))).1 then nI (dpO L F p (min mo (p - 1))).2.2.1 else -9)) ∧ w = (x, .inr (7, [.ref (A 0), .int (nI ns), .ref (A 1), .int (nI nr), .ref (A 2), .ref (A 3), .ref (A 4), .ref (A 5), .ref (A 6), .ref (A 7), .ref (A 8), .ref (A 9), .long to, .int al, .int wa, .int lf, .ref (A 10)])) :: (A 0, .inl (G.2.1.2.2.1, 12, .inr (.inr (.inr (.inr sa))))) :: (s, .inr (6, [.int kd, .ref la, .int (1 : Int32), .int wc])) :: (la, .inl (G.2.1.1, 60, .inl L)) :: (A 2, .inl (G.2.1.1, 60, .inl F)) :: (A 3, .inr (1, [.ref (A 11), .ref (A 12), .int (nI (nN L))])) :: (A 11, .inl (G.2.1.1, 60, .inl t1)) :: (A 12, .inl (G.2.1.1, 60, .inl u1)) :: (A 7, .inr (2, [.ref (A 18), .ref (A 19), .ref (A 20), .ref (A 21), .int (Int32.ofInt (tI L F)), .int (nI (nN L)), .int (dpV (dpO L F p (min mo (p - 1))).1 (dpO L F p (min mo (p - 1))).2.2.1 dl), .int (dpV (dpO L F p (min mo (p - 1))).1 (dpO L F p (min mo (p - 1))).2.2.2.1 dp), .int (dpV (dpO L F p (min mo (p - 1))).1 (dpO L F p (min mo (p - 1))).2.2.2.2 dc)])) :: (A 18, .inl (G.2.1.1, 600, .inl e1)) :: (A 19, .inl (G.2.1.1, 600, .inl e2)) :: (A 20, .inl (G.2.1.1, 600, .inl e3)) :: (A 21, .inl (G.2.1.1, 600, .inl e4)) :: r) := by
  refine Mt.of (by decide +kernel) rfl rfl (fun X B => ?_)
  show J G X mX7_dip ((x, .inr (7, [.ref (A 0), .int (nI ns), .ref (A 1), .int (nI nr), .ref (A 2), .ref (A 3), .ref (A 4), .ref (A 5), .ref (A 6), .ref (A 7), .ref (A 8), .ref (A 9), .long to, .int al, .int wa, .int lf, .ref (A 10)])) :: (A 0, .inl (G.2.1.2.2.1, 12, .inr (.inr (.inr (.inr sa))))) :: (s, .inr (6, [.int kd, .ref la, .int (1 : Int32), .int wc])) :: (la, .inl (G.2.1.1, 60, .inl L)) :: (A 2, .inl (G.2.1.1, 60, .inl F)) :: (A 3, .inr (1, [.ref (A 11), .ref (A 12), .int cz])) :: (A 11, .inl (G.2.1.1, 60, .inl t)) :: (A 12, .inl (G.2.1.1, 60, .inl u)) :: (A 7, .inr (2, [.ref (A 18), .ref (A 19), .ref (A 20), .ref (A 21), .int da, .int dn, .int dl, .int dp, .int dc])) :: (A 18, .inl (G.2.1.1, 600, .inl d1)) :: (A 19, .inl (G.2.1.1, 600, .inl d2)) :: (A 20, .inl (G.2.1.1, 600, .inl d3)) :: (A 21, .inl (G.2.1.1, 600, .inl d4)) :: r) 0 0 0 [(0, .ref x), (1, .int (nI k)), (2, .int (nI p)), (3, .int (nI mo))] []
  refine J.iload_n 2 dX7_dip_0 rfl ?_
  refine J.iconst (2 : Int32) dX7_dip_1 rfl ?_
  refine J.icmp_lt dX7_dip_2 (fun h9 => ?_) (fun h9 => ?_)
  · skip
    have h9 : p < 2 := (nI_ltI (a := p) (b := 2) (by omega) (by omega)).mp h9
    omega
  · skip
    have h9 : ¬ p < 2 := fun z => h9 ((nI_ltI (a := p) (b := 2) (by omega) (by omega)).mpr z)
    refine J.iload_n 2 dX7_dip_5 rfl ?_
    refine J.sipush (600 : Int32) dX7_dip_6 rfl ?_
    refine J.icmp_gt dX7_dip_9 (fun h8 => ?_) (fun h8 => ?_)
    · skip
      have h8 : 600 < p := (nI_ltI (a := 600) (b := p) (by omega) (by omega)).mp h8
      omega
    · skip
      have h8 : ¬ 600 < p := fun z => h8 ((nI_ltI (a := 600) (b := p) (by omega) (by omega)).mpr z)
      refine J.iload_n 3 dX7_dip_12 rfl ?_
      refine J.iconst (1 : Int32) dX7_dip_13 rfl ?_
      refine J.icmp_lt dX7_dip_14 (fun h7 => ?_) (fun h7 => ?_)
      · skip
        have h7 : mo < 1 := (nI_ltI (a := mo) (b := 1) (by omega) (by omega)).mp h7
        omega
      · skip
        have h7 : ¬ mo < 1 := fun z => h7 ((nI_ltI (a := mo) (b := 1) (by omega) (by omega)).mpr z)
        refine J.iload_n 3 dX7_dip_17 rfl ?_
        refine J.bipush (30 : Int32) dX7_dip_18 rfl ?_
        refine J.icmp_le dX7_dip_20 (fun h6 => ?_) (fun h6 => ?_)
        · skip
          have h6 : mo ≤ 30 := (nI_leI (a := mo) (b := 30) (by omega) (by omega)).mp h6
          refine J.aload_n 0 dX7_dip_25 rfl ?_
          refine J.iload_n 1 dX7_dip_26 rfl ?_
          refine J.callV 0 (st := []) B (c_X7_gatherRow l G _ hk hns hsa) ml_X7_94 mf_yX7_gatherRow mi_yX7_gatherRow rfl dX7_dip_27 rfl rfl rfl rfl (fun v_1 w_2 hp_3 => ?_)
          obtain ⟨t1, u1, hcv, rfl, rfl⟩ := hp_3
          show J G X mX7_dip _ _ _ 30 _ [.int (0 : Int32)]
          refine J.istore [1, 2, 3, 4, 0] (lv' := [(0, .ref x), (1, .int (nI k)), (2, .int (nI p)), (3, .int (nI mo)), (4, .int (0 : Int32))]) dX7_dip_30 rfl rfl ?_
          refine J.iload 4 dX7_dip_32 rfl ?_
          refine J.if_eq dX7_dip_34 (fun _ => ?_) (fun z => absurd z (by decide))
          refine J.aload_n 0 dX7_dip_40 rfl ?_
          refine J.get 0 fl_X7_56 dX7_dip_41 rfl rfl ?_
          refine J.aload_n 0 dX7_dip_44 rfl ?_
          refine J.get 0 fl_X7_28 dX7_dip_45 rfl rfl ?_
          refine J.iload_n 2 dX7_dip_48 rfl ?_
          refine J.iload_n 3 dX7_dip_49 rfl ?_
          refine J.re [8, 9, 10, 11, 12, 5, 6, 7, 0, 1, 2, 3, 4] 13 (ws2 := (A 7, .inr (2, [.ref (A 18), .ref (A 19), .ref (A 20), .ref (A 21), .int da, .int dn, .int dl, .int dp, .int dc])) :: (A 18, .inl (G.2.1.1, 600, .inl d1)) :: (A 19, .inl (G.2.1.1, 600, .inl d2)) :: (A 20, .inl (G.2.1.1, 600, .inl d3)) :: (A 21, .inl (G.2.1.1, 600, .inl d4)) :: (A 3, .inr (1, [.ref (A 11), .ref (A 12), .int (nI (nN L))])) :: (A 11, .inl (G.2.1.1, 60, .inl t1)) :: (A 12, .inl (G.2.1.1, 60, .inl u1)) :: (x, .inr (7, [.ref (A 0), .int (nI ns), .ref (A 1), .int (nI nr), .ref (A 2), .ref (A 3), .ref (A 4), .ref (A 5), .ref (A 6), .ref (A 7), .ref (A 8), .ref (A 9), .long to, .int al, .int wa, .int lf, .ref (A 10)])) :: (A 0, .inl (G.2.1.2.2.1, 12, .inr (.inr (.inr (.inr sa))))) :: (s, .inr (6, [.int kd, .ref la, .int (1 : Int32), .int wc])) :: (la, .inl (G.2.1.1, 60, .inl L)) :: (A 2, .inl (G.2.1.1, 60, .inl F)) :: r) rfl rfl ?_
          refine J.callV 0 (st := []) B (c_X2_search l G _ (p := p) (mo := mo) hcv hb hp hp2 hmo) ml_X7_191 mf_yX2_search mi_yX2_search rfl dX7_dip_50 rfl rfl rfl rfl (fun v_4 w_5 hp_6 => ?_)
          obtain ⟨rfl, e1, e2, e3, e4, rfl⟩ := hp_6
          refine J.re [8, 9, 10, 11, 12, 5, 6, 7, 0, 1, 2, 3, 4] 13 (ws2 := (x, .inr (7, [.ref (A 0), .int (nI ns), .ref (A 1), .int (nI nr), .ref (A 2), .ref (A 3), .ref (A 4), .ref (A 5), .ref (A 6), .ref (A 7), .ref (A 8), .ref (A 9), .long to, .int al, .int wa, .int lf, .ref (A 10)])) :: (A 0, .inl (G.2.1.2.2.1, 12, .inr (.inr (.inr (.inr sa))))) :: (s, .inr (6, [.int kd, .ref la, .int (1 : Int32), .int wc])) :: (la, .inl (G.2.1.1, 60, .inl L)) :: (A 2, .inl (G.2.1.1, 60, .inl F)) :: (A 3, .inr (1, [.ref (A 11), .ref (A 12), .int (nI (nN L))])) :: (A 11, .inl (G.2.1.1, 60, .inl t1)) :: (A 12, .inl (G.2.1.1, 60, .inl u1)) :: (A 7, .inr (2, [.ref (A 18), .ref (A 19), .ref (A 20), .ref (A 21), .int (Int32.ofInt (tI L F)), .int (nI (nN L)), .int (dpV (dpO L F p (min mo (p - 1))).1 (dpO L F p (min mo (p - 1))).2.2.1 dl), .int (dpV (dpO L F p (min mo (p - 1))).1 (dpO L F p (min mo (p - 1))).2.2.2.1 dp), .int (dpV (dpO L F p (min mo (p - 1))).1 (dpO L F p (min mo (p - 1))).2.2.2.2 dc)])) :: (A 18, .inl (G.2.1.1, 600, .inl e1)) :: (A 19, .inl (G.2.1.1, 600, .inl e2)) :: (A 20, .inl (G.2.1.1, 600, .inl e3)) :: (A 21, .inl (G.2.1.1, 600, .inl e4)) :: r) rfl rfl ?_
          show J G X mX7_dip _ _ _ 53 _ [.int (b01 (dpO L F p (min mo (p - 1))).1)]
          refine J.if_eq dX7_dip_53 (fun h5 => ?_) (fun h5 => ?_)
          · skip
            refine J.bipush (-9 : Int32) dX7_dip_66 rfl ?_
            exact J.iret B dX7_dip_68 rfl (⟨t1, u1, e1, e2, e3, e4, by rw [b01_0 h5]; rfl, rfl⟩)
          · skip
            refine J.aload_n 0 dX7_dip_56 rfl ?_
            refine J.get 0 fl_X7_56 dX7_dip_57 rfl rfl ?_
            refine J.get 8 fl_X7_195 dX7_dip_60 rfl rfl ?_
            refine J.goto dX7_dip_63 ?_
            exact J.iret B dX7_dip_68 rfl (⟨t1, u1, e1, e2, e3, e4, by rw [b01_1 h5]; rfl, rfl⟩)
        · skip
          have h6 : ¬ mo ≤ 30 := fun z => h6 ((nI_leI (a := mo) (b := 30) (by omega) (by omega)).mpr z)
          omega
set_option maxHeartbeats 4000000 in
set_option maxRecDepth 100000 in
theorem i_lows_d (l : Launch) (G : jG) (r : va_W) {x : Nat} {A : Nat → Nat} {ns nr : Nat} {to : Int64} {al wa lf : Int32} {num d : Int32} (hd : inR d 1 10000 = false) : Mt l G yX7_lows mX7_lows 5 110 0 0 [.ref x, .int num, .int d] ((x, .inr (7, [.ref (A 0), .int (nI ns), .ref (A 1), .int (nI nr), .ref (A 2), .ref (A 3), .ref (A 4), .ref (A 5), .ref (A 6), .ref (A 7), .ref (A 8), .ref (A 9), .long to, .int al, .int wa, .int lf, .ref (A 10)])) :: r) (fun v w => v = some (.int (-1 : Int32)) ∧ w = (x, .inr (7, [.ref (A 0), .int (nI ns), .ref (A 1), .int (nI nr), .ref (A 2), .ref (A 3), .ref (A 4), .ref (A 5), .ref (A 6), .ref (A 7), .ref (A 8), .ref (A 9), .long to, .int al, .int wa, .int lf, .ref (A 10)])) :: r) := by
  refine Mt.of (by decide +kernel) rfl rfl (fun X B => ?_)
  show J G X mX7_lows ((x, .inr (7, [.ref (A 0), .int (nI ns), .ref (A 1), .int (nI nr), .ref (A 2), .ref (A 3), .ref (A 4), .ref (A 5), .ref (A 6), .ref (A 7), .ref (A 8), .ref (A 9), .long to, .int al, .int wa, .int lf, .ref (A 10)])) :: r) 0 0 0 [(0, .ref x), (1, .int num), (2, .int d)] []
  refine J.aload_n 0 dX7_lows_0 rfl ?_
  refine J.iload_n 1 dX7_lows_1 rfl ?_
  refine J.iload_n 2 dX7_lows_2 rfl ?_
  refine J.callV 0 (st := []) B (c_X7_gatherLows_d l G _ hd) ml_X7_204 mf_yX7_gatherLows mi_yX7_gatherLows rfl dX7_lows_3 rfl rfl rfl rfl (fun v_1 w_2 hp_3 => ?_)
  obtain ⟨rfl, rfl⟩ := hp_3
  show J G X mX7_lows _ _ _ 6 _ [.int (-1 : Int32)]
  refine J.istore_n [1, 2, 3, 0] (lv' := [(0, .ref x), (1, .int num), (2, .int d), (3, .int (-1 : Int32))]) dX7_lows_6 rfl rfl ?_
  refine J.iload_n 3 dX7_lows_7 rfl ?_
  refine J.if_ne dX7_lows_8 (fun _ => ?_) (fun z => absurd z (by decide))
  refine J.iload_n 3 dX7_lows_21 rfl ?_
  exact J.iret B dX7_lows_22 rfl (⟨rfl, rfl⟩)
set_option maxHeartbeats 4000000 in
set_option maxRecDepth 100000 in
theorem i_lows_bad (l : Launch) (G : jG) (r : va_W) {x : Nat} {A : Nat → Nat} {ns nr : Nat} {to : Int64} {al wa lf : Int32} {sa : Nat → Option Nat} {num : Int32} (hns : ns ≤ 12) (hnum : inR num 0 ((ns : Int) - 1) = false) {d : Int32} (hd : inR d 1 10000 = true) : Mt l G yX7_lows mX7_lows 5 110 0 0 [.ref x, .int num, .int d] ((x, .inr (7, [.ref (A 0), .int (nI ns), .ref (A 1), .int (nI nr), .ref (A 2), .ref (A 3), .ref (A 4), .ref (A 5), .ref (A 6), .ref (A 7), .ref (A 8), .ref (A 9), .long to, .int al, .int wa, .int lf, .ref (A 10)])) :: (A 0, .inl (G.2.1.2.2.1, 12, .inr (.inr (.inr (.inr sa))))) :: r) (fun v w => v = some (.int (-1 : Int32)) ∧ w = (x, .inr (7, [.ref (A 0), .int (nI ns), .ref (A 1), .int (nI nr), .ref (A 2), .ref (A 3), .ref (A 4), .ref (A 5), .ref (A 6), .ref (A 7), .ref (A 8), .ref (A 9), .long to, .int al, .int wa, .int lf, .ref (A 10)])) :: (A 0, .inl (G.2.1.2.2.1, 12, .inr (.inr (.inr (.inr sa))))) :: r) := by
  refine Mt.of (by decide +kernel) rfl rfl (fun X B => ?_)
  show J G X mX7_lows ((x, .inr (7, [.ref (A 0), .int (nI ns), .ref (A 1), .int (nI nr), .ref (A 2), .ref (A 3), .ref (A 4), .ref (A 5), .ref (A 6), .ref (A 7), .ref (A 8), .ref (A 9), .long to, .int al, .int wa, .int lf, .ref (A 10)])) :: (A 0, .inl (G.2.1.2.2.1, 12, .inr (.inr (.inr (.inr sa))))) :: r) 0 0 0 [(0, .ref x), (1, .int num), (2, .int d)] []
  refine J.aload_n 0 dX7_lows_0 rfl ?_
  refine J.iload_n 1 dX7_lows_1 rfl ?_
  refine J.iload_n 2 dX7_lows_2 rfl ?_
  refine J.callV 0 (st := []) B (c_X7_gatherLows_bad l G _ hns hnum hd) ml_X7_204 mf_yX7_gatherLows mi_yX7_gatherLows rfl dX7_lows_3 rfl rfl rfl rfl (fun v_1 w_2 hp_3 => ?_)
  obtain ⟨rfl, rfl⟩ := hp_3
  show J G X mX7_lows _ _ _ 6 _ [.int (-1 : Int32)]
  refine J.istore_n [1, 2, 3, 0] (lv' := [(0, .ref x), (1, .int num), (2, .int d), (3, .int (-1 : Int32))]) dX7_lows_6 rfl rfl ?_
  refine J.iload_n 3 dX7_lows_7 rfl ?_
  refine J.if_ne dX7_lows_8 (fun _ => ?_) (fun z => absurd z (by decide))
  refine J.iload_n 3 dX7_lows_21 rfl ?_
  exact J.iret B dX7_lows_22 rfl (⟨rfl, rfl⟩)
set_option maxHeartbeats 4000000 in
set_option maxRecDepth 100000 in
theorem i_lows_no (l : Launch) (G : jG) (r : va_W) {x : Nat} {A : Nat → Nat} {ns nr : Nat} {to : Int64} {al wa lf : Int32} {sa : Nat → Option Nat} {la : Nat} {kd wc : Int32} {k s : Nat} (hk : k < ns) (hns : ns ≤ 12) (hsa : sa k = some s) {d : Int32} {fc : Nat → Int32} (hd : inR d 1 10000 = true) : Mt l G yX7_lows mX7_lows 5 110 0 0 [.ref x, .int (nI k), .int d] ((x, .inr (7, [.ref (A 0), .int (nI ns), .ref (A 1), .int (nI nr), .ref (A 2), .ref (A 3), .ref (A 4), .ref (A 5), .ref (A 6), .ref (A 7), .ref (A 8), .ref (A 9), .long to, .int al, .int wa, .int lf, .ref (A 10)])) :: (A 0, .inl (G.2.1.2.2.1, 12, .inr (.inr (.inr (.inr sa))))) :: (s, .inr (6, [.int kd, .ref la, .int (0 : Int32), .int wc])) :: (A 10, .inl (G.2.1.1, 6, .inl fc)) :: r) (fun v w => v = some (.int (-3 : Int32)) ∧ w = (x, .inr (7, [.ref (A 0), .int (nI ns), .ref (A 1), .int (nI nr), .ref (A 2), .ref (A 3), .ref (A 4), .ref (A 5), .ref (A 6), .ref (A 7), .ref (A 8), .ref (A 9), .long to, .int al, .int wa, .int (nI 1), .ref (A 10)])) :: (A 0, .inl (G.2.1.2.2.1, 12, .inr (.inr (.inr (.inr sa))))) :: (s, .inr (6, [.int kd, .ref la, .int (0 : Int32), .int wc])) :: (A 10, .inl (G.2.1.1, 6, .inl (upd fc 1 (fc 1 + 1)))) :: r) := by
  refine Mt.of (by decide +kernel) rfl rfl (fun X B => ?_)
  show J G X mX7_lows ((x, .inr (7, [.ref (A 0), .int (nI ns), .ref (A 1), .int (nI nr), .ref (A 2), .ref (A 3), .ref (A 4), .ref (A 5), .ref (A 6), .ref (A 7), .ref (A 8), .ref (A 9), .long to, .int al, .int wa, .int lf, .ref (A 10)])) :: (A 0, .inl (G.2.1.2.2.1, 12, .inr (.inr (.inr (.inr sa))))) :: (s, .inr (6, [.int kd, .ref la, .int (0 : Int32), .int wc])) :: (A 10, .inl (G.2.1.1, 6, .inl fc)) :: r) 0 0 0 [(0, .ref x), (1, .int (nI k)), (2, .int d)] []
  refine J.aload_n 0 dX7_lows_0 rfl ?_
  refine J.iload_n 1 dX7_lows_1 rfl ?_
  refine J.iload_n 2 dX7_lows_2 rfl ?_
  refine J.callV 0 (st := []) B (c_X7_gatherLows_no l G _ hk hns hsa hd) ml_X7_204 mf_yX7_gatherLows mi_yX7_gatherLows rfl dX7_lows_3 rfl rfl rfl rfl (fun v_1 w_2 hp_3 => ?_)
  obtain ⟨rfl, rfl⟩ := hp_3
  show J G X mX7_lows _ _ _ 6 _ [.int (-3 : Int32)]
  refine J.istore_n [1, 2, 3, 0] (lv' := [(0, .ref x), (1, .int (nI k)), (2, .int d), (3, .int (-3 : Int32))]) dX7_lows_6 rfl rfl ?_
  refine J.iload_n 3 dX7_lows_7 rfl ?_
  refine J.if_ne dX7_lows_8 (fun _ => ?_) (fun z => absurd z (by decide))
  refine J.iload_n 3 dX7_lows_21 rfl ?_
  exact J.iret B dX7_lows_22 rfl (⟨rfl, rfl⟩)
set_option maxHeartbeats 4000000 in
set_option maxRecDepth 100000 in
theorem i_lows_nought (l : Launch) (G : jG) (r : va_W) {x : Nat} {A : Nat → Nat} {ns nr : Nat} {to : Int64} {al wa lf : Int32} {sa : Nat → Option Nat} {la : Nat} {kd wc : Int32} {k s : Nat} (hk : k < ns) (hns : ns ≤ 12) (hsa : sa k = some s) {d : Int32} {L F : Nat → Int32} {cz : Int32} {t u : Nat → Int32} {fc : Nat → Int32} (hd : inR d 1 10000 = true) (hL : nN L = 0) : Mt l G yX7_lows mX7_lows 5 110 0 0 [.ref x, .int (nI k), .int d] ((x, .inr (7, [.ref (A 0), .int (nI ns), .ref (A 1), .int (nI nr), .ref (A 2), .ref (A 3), .ref (A 4), .ref (A 5), .ref (A 6), .ref (A 7), .ref (A 8), .ref (A 9), .long to, .int al, .int wa, .int lf, .ref (A 10)])) :: (A 0, .inl (G.2.1.2.2.1, 12, .inr (.inr (.inr (.inr sa))))) :: (s, .inr (6, [.int kd, .ref la, .int (1 : Int32), .int wc])) :: (la, .inl (G.2.1.1, 60, .inl L)) :: (A 2, .inl (G.2.1.1, 60, .inl F)) :: (A 3, .inr (1, [.ref (A 11), .ref (A 12), .int cz])) :: (A 11, .inl (G.2.1.1, 60, .inl t)) :: (A 12, .inl (G.2.1.1, 60, .inl u)) :: (A 10, .inl (G.2.1.1, 6, .inl fc)) :: r) (fun v w => ∃ t1 u1, v = some (.int (-3)) ∧ w = (x, .inr (7, [.ref (A 0), .int (nI ns), .ref (A 1), .int (nI nr), .ref (A 2), .ref (A 3), .ref (A 4), .ref (A 5), .ref (A 6), .ref (A 7), .ref (A 8), .ref (A 9), .long to, .int al, .int wa, .int (nI 4), .ref (A 10)])) :: (A 0, .inl (G.2.1.2.2.1, 12, .inr (.inr (.inr (.inr sa))))) :: (s, .inr (6, [.int kd, .ref la, .int (1 : Int32), .int wc])) :: (la, .inl (G.2.1.1, 60, .inl L)) :: (A 2, .inl (G.2.1.1, 60, .inl F)) :: (A 3, .inr (1, [.ref (A 11), .ref (A 12), .int (nI (nN L))])) :: (A 11, .inl (G.2.1.1, 60, .inl t1)) :: (A 12, .inl (G.2.1.1, 60, .inl u1)) :: (A 10, .inl (G.2.1.1, 6, .inl (upd fc 4 (fc 4 + 1)))) :: r) := by
  refine Mt.of (by decide +kernel) rfl rfl (fun X B => ?_)
  show J G X mX7_lows ((x, .inr (7, [.ref (A 0), .int (nI ns), .ref (A 1), .int (nI nr), .ref (A 2), .ref (A 3), .ref (A 4), .ref (A 5), .ref (A 6), .ref (A 7), .ref (A 8), .ref (A 9), .long to, .int al, .int wa, .int lf, .ref (A 10)])) :: (A 0, .inl (G.2.1.2.2.1, 12, .inr (.inr (.inr (.inr sa))))) :: (s, .inr (6, [.int kd, .ref la, .int (1 : Int32), .int wc])) :: (la, .inl (G.2.1.1, 60, .inl L)) :: (A 2, .inl (G.2.1.1, 60, .inl F)) :: (A 3, .inr (1, [.ref (A 11), .ref (A 12), .int cz])) :: (A 11, .inl (G.2.1.1, 60, .inl t)) :: (A 12, .inl (G.2.1.1, 60, .inl u)) :: (A 10, .inl (G.2.1.1, 6, .inl fc)) :: r) 0 0 0 [(0, .ref x), (1, .int (nI k)), (2, .int d)] []
  refine J.aload_n 0 dX7_lows_0 rfl ?_
  refine J.iload_n 1 dX7_lows_1 rfl ?_
  refine J.iload_n 2 dX7_lows_2 rfl ?_
  refine J.callV 0 (st := []) B (c_X7_gatherLows_nought l G _ hk hns hsa hd hL) ml_X7_204 mf_yX7_gatherLows mi_yX7_gatherLows rfl dX7_lows_3 rfl rfl rfl rfl (fun v_1 w_2 hp_3 => ?_)
  obtain ⟨t1, u1, rfl, rfl⟩ := hp_3
  show J G X mX7_lows _ _ _ 6 _ [.int (-3 : Int32)]
  refine J.istore_n [1, 2, 3, 0] (lv' := [(0, .ref x), (1, .int (nI k)), (2, .int d), (3, .int (-3 : Int32))]) dX7_lows_6 rfl rfl ?_
  refine J.iload_n 3 dX7_lows_7 rfl ?_
  refine J.if_ne dX7_lows_8 (fun _ => ?_) (fun z => absurd z (by decide))
  refine J.iload_n 3 dX7_lows_21 rfl ?_
  exact J.iret B dX7_lows_22 rfl (⟨t1, u1, rfl, rfl⟩)
set_option maxHeartbeats 4000000 in
set_option maxRecDepth 100000 in
theorem i_low_d (l : Launch) (G : jG) (r : va_W) {x : Nat} {A : Nat → Nat} {ns nr : Nat} {to : Int64} {al wa lf : Int32} {num d : Int32} {i : Int32} (hd : inR d 1 10000 = false) : Mt l G yX7_low mX7_low 5 110 0 0 [.ref x, .int num, .int d, .int i] ((x, .inr (7, [.ref (A 0), .int (nI ns), .ref (A 1), .int (nI nr), .ref (A 2), .ref (A 3), .ref (A 4), .ref (A 5), .ref (A 6), .ref (A 7), .ref (A 8), .ref (A 9), .long to, .int al, .int wa, .int lf, .ref (A 10)])) :: r) (fun v w => v = some (.int (-1 : Int32)) ∧ w = (x, .inr (7, [.ref (A 0), .int (nI ns), .ref (A 1), .int (nI nr), .ref (A 2), .ref (A 3), .ref (A 4), .ref (A 5), .ref (A 6), .ref (A 7), .ref (A 8), .ref (A 9), .long to, .int al, .int wa, .int lf, .ref (A 10)])) :: r) := by
  refine Mt.of (by decide +kernel) rfl rfl (fun X B => ?_)
  show J G X mX7_low ((x, .inr (7, [.ref (A 0), .int (nI ns), .ref (A 1), .int (nI nr), .ref (A 2), .ref (A 3), .ref (A 4), .ref (A 5), .ref (A 6), .ref (A 7), .ref (A 8), .ref (A 9), .long to, .int al, .int wa, .int lf, .ref (A 10)])) :: r) 0 0 0 [(0, .ref x), (1, .int num), (2, .int d), (3, .int i)] []
  refine J.aload_n 0 dX7_low_0 rfl ?_
  refine J.iload_n 1 dX7_low_1 rfl ?_
  refine J.iload_n 2 dX7_low_2 rfl ?_
  refine J.callV 0 (st := []) B (c_X7_gatherLows_d l G _ hd) ml_X7_204 mf_yX7_gatherLows mi_yX7_gatherLows rfl dX7_low_3 rfl rfl rfl rfl (fun v_1 w_2 hp_3 => ?_)
  obtain ⟨rfl, rfl⟩ := hp_3
  show J G X mX7_low _ _ _ 6 _ [.int (-1 : Int32)]
  refine J.istore [1, 2, 3, 4, 0] (lv' := [(0, .ref x), (1, .int num), (2, .int d), (3, .int i), (4, .int (-1 : Int32))]) dX7_low_6 rfl rfl ?_
  refine J.iload 4 dX7_low_8 rfl ?_
  refine J.if_eq dX7_low_10 (fun z => absurd z (by decide)) (fun _ => ?_)
  refine J.iload 4 dX7_low_13 rfl ?_
  exact J.iret B dX7_low_15 rfl (⟨rfl, rfl⟩)
set_option maxHeartbeats 4000000 in
set_option maxRecDepth 100000 in
theorem i_low_bad (l : Launch) (G : jG) (r : va_W) {x : Nat} {A : Nat → Nat} {ns nr : Nat} {to : Int64} {al wa lf : Int32} {sa : Nat → Option Nat} {num : Int32} (hns : ns ≤ 12) (hnum : inR num 0 ((ns : Int) - 1) = false) {d : Int32} {i : Int32} (hd : inR d 1 10000 = true) : Mt l G yX7_low mX7_low 5 110 0 0 [.ref x, .int num, .int d, .int i] ((x, .inr (7, [.ref (A 0), .int (nI ns), .ref (A 1), .int (nI nr), .ref (A 2), .ref (A 3), .ref (A 4), .ref (A 5), .ref (A 6), .ref (A 7), .ref (A 8), .ref (A 9), .long to, .int al, .int wa, .int lf, .ref (A 10)])) :: (A 0, .inl (G.2.1.2.2.1, 12, .inr (.inr (.inr (.inr sa))))) :: r) (fun v w => v = some (.int (-1 : Int32)) ∧ w = (x, .inr (7, [.ref (A 0), .int (nI ns), .ref (A 1), .int (nI nr), .ref (A 2), .ref (A 3), .ref (A 4), .ref (A 5), .ref (A 6), .ref (A 7), .ref (A 8), .ref (A 9), .long to, .int al, .int wa, .int lf, .ref (A 10)])) :: (A 0, .inl (G.2.1.2.2.1, 12, .inr (.inr (.inr (.inr sa))))) :: r) := by
  refine Mt.of (by decide +kernel) rfl rfl (fun X B => ?_)
  show J G X mX7_low ((x, .inr (7, [.ref (A 0), .int (nI ns), .ref (A 1), .int (nI nr), .ref (A 2), .ref (A 3), .ref (A 4), .ref (A 5), .ref (A 6), .ref (A 7), .ref (A 8), .ref (A 9), .long to, .int al, .int wa, .int lf, .ref (A 10)])) :: (A 0, .inl (G.2.1.2.2.1, 12, .inr (.inr (.inr (.inr sa))))) :: r) 0 0 0 [(0, .ref x), (1, .int num), (2, .int d), (3, .int i)] []
  refine J.aload_n 0 dX7_low_0 rfl ?_
  refine J.iload_n 1 dX7_low_1 rfl ?_
  refine J.iload_n 2 dX7_low_2 rfl ?_
  refine J.callV 0 (st := []) B (c_X7_gatherLows_bad l G _ hns hnum hd) ml_X7_204 mf_yX7_gatherLows mi_yX7_gatherLows rfl dX7_low_3 rfl rfl rfl rfl (fun v_1 w_2 hp_3 => ?_)
  obtain ⟨rfl, rfl⟩ := hp_3
  show J G X mX7_low _ _ _ 6 _ [.int (-1 : Int32)]
  refine J.istore [1, 2, 3, 4, 0] (lv' := [(0, .ref x), (1, .int num), (2, .int d), (3, .int i), (4, .int (-1 : Int32))]) dX7_low_6 rfl rfl ?_
  refine J.iload 4 dX7_low_8 rfl ?_
  refine J.if_eq dX7_low_10 (fun z => absurd z (by decide)) (fun _ => ?_)
  refine J.iload 4 dX7_low_13 rfl ?_
  exact J.iret B dX7_low_15 rfl (⟨rfl, rfl⟩)
set_option maxHeartbeats 4000000 in
set_option maxRecDepth 100000 in
theorem i_low_no (l : Launch) (G : jG) (r : va_W) {x : Nat} {A : Nat → Nat} {ns nr : Nat} {to : Int64} {al wa lf : Int32} {sa : Nat → Option Nat} {la : Nat} {kd wc : Int32} {k s : Nat} (hk : k < ns) (hns : ns ≤ 12) (hsa : sa k = some s) {d : Int32} {i : Int32} {fc : Nat → Int32} (hd : inR d 1 10000 = true) : Mt l G yX7_low mX7_low 5 110 0 0 [.ref x, .int (nI k), .int d, .int i] ((x, .inr (7, [.ref (A 0), .int (nI ns), .ref (A 1), .int (nI nr), .ref (A 2), .ref (A 3), .ref (A 4), .ref (A 5), .ref (A 6), .ref (A 7), .ref (A 8), .ref (A 9), .long to, .int al, .int wa, .int lf, .ref (A 10)])) :: (A 0, .inl (G.2.1.2.2.1, 12, .inr (.inr (.inr (.inr sa))))) :: (s, .inr (6, [.int kd, .ref la, .int (0 : Int32), .int wc])) :: (A 10, .inl (G.2.1.1, 6, .inl fc)) :: r) (fun v w => v = some (.int (-3 : Int32)) ∧ w = (x, .inr (7, [.ref (A 0), .int (nI ns), .ref (A 1), .int (nI nr), .ref (A 2), .ref (A 3), .ref (A 4), .ref (A 5), .ref (A 6), .ref (A 7), .ref (A 8), .ref (A 9), .long to, .int al, .int wa, .int (nI 1), .ref (A 10)])) :: (A 0, .inl (G.2.1.2.2.1, 12, .inr (.inr (.inr (.inr sa))))) :: (s, .inr (6, [.int kd, .ref la, .int (0 : Int32), .int wc])) :: (A 10, .inl (G.2.1.1, 6, .inl (upd fc 1 (fc 1 + 1)))) :: r) := by
  refine Mt.of (by decide +kernel) rfl rfl (fun X B => ?_)
  show J G X mX7_low ((x, .inr (7, [.ref (A 0), .int (nI ns), .ref (A 1), .int (nI nr), .ref (A 2), .ref (A 3), .ref (A 4), .ref (A 5), .ref (A 6), .ref (A 7), .ref (A 8), .ref (A 9), .long to, .int al, .int wa, .int lf, .ref (A 10)])) :: (A 0, .inl (G.2.1.2.2.1, 12, .inr (.inr (.inr (.inr sa))))) :: (s, .inr (6, [.int kd, .ref la, .int (0 : Int32), .int wc])) :: (A 10, .inl (G.2.1.1, 6, .inl fc)) :: r) 0 0 0 [(0, .ref x), (1, .int (nI k)), (2, .int d), (3, .int i)] []
  refine J.aload_n 0 dX7_low_0 rfl ?_
  refine J.iload_n 1 dX7_low_1 rfl ?_
  refine J.iload_n 2 dX7_low_2 rfl ?_
  refine J.callV 0 (st := []) B (c_X7_gatherLows_no l G _ hk hns hsa hd) ml_X7_204 mf_yX7_gatherLows mi_yX7_gatherLows rfl dX7_low_3 rfl rfl rfl rfl (fun v_1 w_2 hp_3 => ?_)
  obtain ⟨rfl, rfl⟩ := hp_3
  show J G X mX7_low _ _ _ 6 _ [.int (-3 : Int32)]
  refine J.istore [1, 2, 3, 4, 0] (lv' := [(0, .ref x), (1, .int (nI k)), (2, .int d), (3, .int i), (4, .int (-3 : Int32))]) dX7_low_6 rfl rfl ?_
  refine J.iload 4 dX7_low_8 rfl ?_
  refine J.if_eq dX7_low_10 (fun z => absurd z (by decide)) (fun _ => ?_)
  refine J.iload 4 dX7_low_13 rfl ?_
  exact J.iret B dX7_low_15 rfl (⟨rfl, rfl⟩)
set_option maxHeartbeats 4000000 in
set_option maxRecDepth 100000 in
theorem i_low_nought (l : Launch) (G : jG) (r : va_W) {x : Nat} {A : Nat → Nat} {ns nr : Nat} {to : Int64} {al wa lf : Int32} {sa : Nat → Option Nat} {la : Nat} {kd wc : Int32} {k s : Nat} (hk : k < ns) (hns : ns ≤ 12) (hsa : sa k = some s) {d : Int32} {i : Int32} {L F : Nat → Int32} {cz : Int32} {t u : Nat → Int32} {fc : Nat → Int32} (hd : inR d 1 10000 = true) (hL : nN L = 0) : Mt l G yX7_low mX7_low 5 110 0 0 [.ref x, .int (nI k), .int d, .int i] ((x, .inr (7, [.ref (A 0), .int (nI ns), .ref (A 1), .int (nI nr), .ref (A 2), .ref (A 3), .ref (A 4), .ref (A 5), .ref (A 6), .ref (A 7), .ref (A 8), .ref (A 9), .long to, .int al, .int wa, .int lf, .ref (A 10)])) :: (A 0, .inl (G.2.1.2.2.1, 12, .inr (.inr (.inr (.inr sa))))) :: (s, .inr (6, [.int kd, .ref la, .int (1 : Int32), .int wc])) :: (la, .inl (G.2.1.1, 60, .inl L)) :: (A 2, .inl (G.2.1.1, 60, .inl F)) :: (A 3, .inr (1, [.ref (A 11), .ref (A 12), .int cz])) :: (A 11, .inl (G.2.1.1, 60, .inl t)) :: (A 12, .inl (G.2.1.1, 60, .inl u)) :: (A 10, .inl (G.2.1.1, 6, .inl fc)) :: r) (fun v w => ∃ t1 u1, v = some (.int (-3)) ∧ w = (x, .inr (7, [.ref (A 0), .int (nI ns), .ref (A 1), .int (nI nr), .ref (A 2), .ref (A 3), .ref (A 4), .ref (A 5), .ref (A 6), .ref (A 7), .ref (A 8), .ref (A 9), .long to, .int al, .int wa, .int (nI 4), .ref (A 10)])) :: (A 0, .inl (G.2.1.2.2.1, 12, .inr (.inr (.inr (.inr sa))))) :: (s, .inr (6, [.int kd, .ref la, .int (1 : Int32), .int wc])) :: (la, .inl (G.2.1.1, 60, .inl L)) :: (A 2, .inl (G.2.1.1, 60, .inl F)) :: (A 3, .inr (1, [.ref (A 11), .ref (A 12), .int (nI (nN L))])) :: (A 11, .inl (G.2.1.1, 60, .inl t1)) :: (A 12, .inl (G.2.1.1, 60, .inl u1)) :: (A 10, .inl (G.2.1.1, 6, .inl (upd fc 4 (fc 4 + 1)))) :: r) := by
  refine Mt.of (by decide +kernel) rfl rfl (fun X B => ?_)
  show J G X mX7_low ((x, .inr (7, [.ref (A 0), .int (nI ns), .ref (A 1), .int (nI nr), .ref (A 2), .ref (A 3), .ref (A 4), .ref (A 5), .ref (A 6), .ref (A 7), .ref (A 8), .ref (A 9), .long to, .int al, .int wa, .int lf, .ref (A 10)])) :: (A 0, .inl (G.2.1.2.2.1, 12, .inr (.inr (.inr (.inr sa))))) :: (s, .inr (6, [.int kd, .ref la, .int (1 : Int32), .int wc])) :: (la, .inl (G.2.1.1, 60, .inl L)) :: (A 2, .inl (G.2.1.1, 60, .inl F)) :: (A 3, .inr (1, [.ref (A 11), .ref (A 12), .int cz])) :: (A 11, .inl (G.2.1.1, 60, .inl t)) :: (A 12, .inl (G.2.1.1, 60, .inl u)) :: (A 10, .inl (G.2.1.1, 6, .inl fc)) :: r) 0 0 0 [(0, .ref x), (1, .int (nI k)), (2, .int d), (3, .int i)] []
  refine J.aload_n 0 dX7_low_0 rfl ?_
  refine J.iload_n 1 dX7_low_1 rfl ?_
  refine J.iload_n 2 dX7_low_2 rfl ?_
  refine J.callV 0 (st := []) B (c_X7_gatherLows_nought l G _ hk hns hsa hd hL) ml_X7_204 mf_yX7_gatherLows mi_yX7_gatherLows rfl dX7_low_3 rfl rfl rfl rfl (fun v_1 w_2 hp_3 => ?_)
  obtain ⟨t1, u1, rfl, rfl⟩ := hp_3
  show J G X mX7_low _ _ _ 6 _ [.int (-3 : Int32)]
  refine J.istore [1, 2, 3, 4, 0] (lv' := [(0, .ref x), (1, .int (nI k)), (2, .int d), (3, .int i), (4, .int (-3 : Int32))]) dX7_low_6 rfl rfl ?_
  refine J.iload 4 dX7_low_8 rfl ?_
  refine J.if_eq dX7_low_10 (fun z => absurd z (by decide)) (fun _ => ?_)
  refine J.iload 4 dX7_low_13 rfl ?_
  exact J.iret B dX7_low_15 rfl (⟨t1, u1, rfl, rfl⟩)
set_option maxHeartbeats 4000000 in
set_option maxRecDepth 100000 in
theorem i_lows (l : Launch) (G : jG) (r : va_W) {x : Nat} {A : Nat → Nat} {ns nr : Nat} {to : Int64} {al wa lf : Int32} {sa : Nat → Option Nat} {la : Nat} {kd wc : Int32} {k s : Nat} (hk : k < ns) (hns : ns ≤ 12) (hsa : sa k = some s) {d : Int32} {L F : Nat → Int32} {cz : Int32} {t u : Nat → Int32} {zs zl : Int32} {nu lti : Nat → Int32} (hd : inR d 1 10000 = true) (hL : 0 < nN L) : Mt l G yX7_lows mX7_lows 5 110 0 0 [.ref x, .int (nI k), .int d] ((x, .inr (7, [.ref (A 0), .int (nI ns), .ref (A 1), .int (nI nr), .ref (A 2), .ref (A 3), .ref (A 4), .ref (A 5), .ref (A 6), .ref (A 7), .ref (A 8), .ref (A 9), .long to, .int al, .int wa, .int lf, .ref (A 10)])) :: (A 0, .inl (G.2.1.2.2.1, 12, .inr (.inr (.inr (.inr sa))))) :: (s, .inr (6, [.int kd, .ref la, .int (1 : Int32), .int wc])) :: (la, .inl (G.2.1.1, 60, .inl L)) :: (A 2, .inl (G.2.1.1, 60, .inl F)) :: (A 3, .inr (1, [.ref (A 11), .ref (A 12), .int cz])) :: (A 11, .inl (G.2.1.1, 60, .inl t)) :: (A 12, .inl (G.2.1.1, 60, .inl u)) :: (A 4, .inr (0, [.ref (A 13), .int zs])) :: (A 13, .inl (G.2.1.1, 60, .inl nu)) :: (A 6, .inr (4, [.ref (A 17), .int zl])) :: (A 17, .inl (G.2.1.1, 60, .inl lti)) :: r) (fun v w => ∃ t1 u1 nu1 lt1, v = some (.int (nI (lowF (ltF L F) (midV (lits L F 60) - d) (nts L 60)).1.length)) ∧ w = (x, .inr (7, [.ref (A 0), .int (nI ns), .ref (A 1), .int (nI nr), .ref (A 2), .ref (A 3), .ref (A 4), .ref (A 5), .ref (A 6), .ref (A 7), .ref (A 8), .ref (A 9), .long to, .int al, .int wa, .int lf, .ref (A 10)])) :: (A 0, .inl (G.2.1.2.2.1, 12, .inr (.inr (.inr (.inr sa))))) :: (s, .inr (6, [.int kd, .ref la, .int (1 : Int32), .int wc])) :: (la, .inl (G.2.1.1, 60, .inl L)) :: (A 2, .inl (G.2.1.1, 60, .inl F)) :: (A 3, .inr (1, [.ref (A 11), .ref (A 12), .int (nI (nN L))])) :: (A 11, .inl (G.2.1.1, 60, .inl t1)) :: (A 12, .inl (G.2.1.1, 60, .inl u1)) :: (A 4, .inr (0, [.ref (A 13), .int (nI (nN L))])) :: (A 13, .inl (G.2.1.1, 60, .inl nu1)) :: (A 6, .inr (4, [.ref (A 17), .int (nI ((lowF (ltF L F) (midV (lits L F 60) - d) (nts L 60)).1.length))])) :: (A 17, .inl (G.2.1.1, 60, .inl lt1)) :: r) := by
  refine Mt.of (by decide +kernel) rfl rfl (fun X B => ?_)
  show J G X mX7_lows ((x, .inr (7, [.ref (A 0), .int (nI ns), .ref (A 1), .int (nI nr), .ref (A 2), .ref (A 3), .ref (A 4), .ref (A 5), .ref (A 6), .ref (A 7), .ref (A 8), .ref (A 9), .long to, .int al, .int wa, .int lf, .ref (A 10)])) :: (A 0, .inl (G.2.1.2.2.1, 12, .inr (.inr (.inr (.inr sa))))) :: (s, .inr (6, [.int kd, .ref la, .int (1 : Int32), .int wc])) :: (la, .inl (G.2.1.1, 60, .inl L)) :: (A 2, .inl (G.2.1.1, 60, .inl F)) :: (A 3, .inr (1, [.ref (A 11), .ref (A 12), .int cz])) :: (A 11, .inl (G.2.1.1, 60, .inl t)) :: (A 12, .inl (G.2.1.1, 60, .inl u)) :: (A 4, .inr (0, [.ref (A 13), .int zs])) :: (A 13, .inl (G.2.1.1, 60, .inl nu)) :: (A 6, .inr (4, [.ref (A 17), .int zl])) :: (A 17, .inl (G.2.1.1, 60, .inl lti)) :: r) 0 0 0 [(0, .ref x), (1, .int (nI k)), (2, .int d)] []
  refine J.aload_n 0 dX7_lows_0 rfl ?_
  refine J.iload_n 1 dX7_lows_1 rfl ?_
  refine J.iload_n 2 dX7_lows_2 rfl ?_
  refine J.callV 0 (st := []) B (c_X7_gatherLows l G _ hk hns hsa hd hL) ml_X7_204 mf_yX7_gatherLows mi_yX7_gatherLows rfl dX7_lows_3 rfl rfl rfl rfl (fun v_1 w_2 hp_3 => ?_)
  obtain ⟨t1, u1, nu1, lt1, hlt, rfl, rfl⟩ := hp_3
  show J G X mX7_lows _ _ _ 6 _ [.int (0 : Int32)]
  refine J.istore_n [1, 2, 3, 0] (lv' := [(0, .ref x), (1, .int (nI k)), (2, .int d), (3, .int (0 : Int32))]) dX7_lows_6 rfl rfl ?_
  refine J.iload_n 3 dX7_lows_7 rfl ?_
  refine J.if_ne dX7_lows_8 (fun z => absurd z (by decide)) (fun _ => ?_)
  refine J.aload_n 0 dX7_lows_11 rfl ?_
  refine J.get 0 fl_X7_49 dX7_lows_12 rfl rfl ?_
  refine J.get 10 fl_X7_207 dX7_lows_15 rfl rfl ?_
  refine J.goto dX7_lows_18 ?_
  exact J.iret B dX7_lows_22 rfl (⟨t1, u1, nu1, lt1, rfl, rfl⟩)
set_option maxHeartbeats 4000000 in
set_option maxRecDepth 100000 in
theorem i_low_none (l : Launch) (G : jG) (r : va_W) {x : Nat} {A : Nat → Nat} {ns nr : Nat} {to : Int64} {al wa lf : Int32} {sa : Nat → Option Nat} {la : Nat} {kd wc : Int32} {k s : Nat} (hk : k < ns) (hns : ns ≤ 12) (hsa : sa k = some s) {d : Int32} {L F : Nat → Int32} {cz : Int32} {t u : Nat → Int32} {zs zl : Int32} {nu lti : Nat → Int32} (hd : inR d 1 10000 = true) (hL : 0 < nN L) {i : Int32} (hi : ¬ (0 ≤ i ∧ i < nI (lowF (ltF L F) (midV (lits L F 60) - d) (nts L 60)).1.length)) : Mt l G yX7_low mX7_low 5 110 0 0 [.ref x, .int (nI k), .int d, .int i] ((x, .inr (7, [.ref (A 0), .int (nI ns), .ref (A 1), .int (nI nr), .ref (A 2), .ref (A 3), .ref (A 4), .ref (A 5), .ref (A 6), .ref (A 7), .ref (A 8), .ref (A 9), .long to, .int al, .int wa, .int lf, .ref (A 10)])) :: (A 0, .inl (G.2.1.2.2.1, 12, .inr (.inr (.inr (.inr sa))))) :: (s, .inr (6, [.int kd, .ref la, .int (1 : Int32), .int wc])) :: (la, .inl (G.2.1.1, 60, .inl L)) :: (A 2, .inl (G.2.1.1, 60, .inl F)) :: (A 3, .inr (1, [.ref (A 11), .ref (A 12), .int cz])) :: (A 11, .inl (G.2.1.1, 60, .inl t)) :: (A 12, .inl (G.2.1.1, 60, .inl u)) :: (A 4, .inr (0, [.ref (A 13), .int zs])) :: (A 13, .inl (G.2.1.1, 60, .inl nu)) :: (A 6, .inr (4, [.ref (A 17), .int zl])) :: (A 17, .inl (G.2.1.1, 60, .inl lti)) :: r) (fun v w => ∃ t1 u1 nu1 lt1, v = some (.int (-9)) ∧ w = (x, .inr (7, [.ref (A 0), .int (nI ns), .ref (A 1), .int (nI nr), .ref (A 2), .ref (A 3), .ref (A 4), .ref (A 5), .ref (A 6), .ref (A 7), .ref (A 8), .ref (A 9), .long to, .int al, .int wa, .int lf, .ref (A 10)])) :: (A 0, .inl (G.2.1.2.2.1, 12, .inr (.inr (.inr (.inr sa))))) :: (s, .inr (6, [.int kd, .ref la, .int (1 : Int32), .int wc])) :: (la, .inl (G.2.1.1, 60, .inl L)) :: (A 2, .inl (G.2.1.1, 60, .inl F)) :: (A 3, .inr (1, [.ref (A 11), .ref (A 12), .int (nI (nN L))])) :: (A 11, .inl (G.2.1.1, 60, .inl t1)) :: (A 12, .inl (G.2.1.1, 60, .inl u1)) :: (A 4, .inr (0, [.ref (A 13), .int (nI (nN L))])) :: (A 13, .inl (G.2.1.1, 60, .inl nu1)) :: (A 6, .inr (4, [.ref (A 17), .int (nI ((lowF (ltF L F) (midV (lits L F 60) - d) (nts L 60)).1.length))])) :: (A 17, .inl (G.2.1.1, 60, .inl lt1)) :: r) := by
  refine Mt.of (by decide +kernel) rfl rfl (fun X B => ?_)
  show J G X mX7_low ((x, .inr (7, [.ref (A 0), .int (nI ns), .ref (A 1), .int (nI nr), .ref (A 2), .ref (A 3), .ref (A 4), .ref (A 5), .ref (A 6), .ref (A 7), .ref (A 8), .ref (A 9), .long to, .int al, .int wa, .int lf, .ref (A 10)])) :: (A 0, .inl (G.2.1.2.2.1, 12, .inr (.inr (.inr (.inr sa))))) :: (s, .inr (6, [.int kd, .ref la, .int (1 : Int32), .int wc])) :: (la, .inl (G.2.1.1, 60, .inl L)) :: (A 2, .inl (G.2.1.1, 60, .inl F)) :: (A 3, .inr (1, [.ref (A 11), .ref (A 12), .int cz])) :: (A 11, .inl (G.2.1.1, 60, .inl t)) :: (A 12, .inl (G.2.1.1, 60, .inl u)) :: (A 4, .inr (0, [.ref (A 13), .int zs])) :: (A 13, .inl (G.2.1.1, 60, .inl nu)) :: (A 6, .inr (4, [.ref (A 17), .int zl])) :: (A 17, .inl (G.2.1.1, 60, .inl lti)) :: r) 0 0 0 [(0, .ref x), (1, .int (nI k)), (2, .int d), (3, .int i)] []
  have hll : (lowF (ltF L F) (midV (lits L F 60) - d) (nts L 60)).1.length ≤ 60 := Nat.le_trans (lowF_le _ _ _) (nN_le L)
  refine J.aload_n 0 dX7_low_0 rfl ?_
  refine J.iload_n 1 dX7_low_1 rfl ?_
  refine J.iload_n 2 dX7_low_2 rfl ?_
  refine J.callV 0 (st := []) B (c_X7_gatherLows l G _ hk hns hsa hd hL) ml_X7_204 mf_yX7_gatherLows mi_yX7_gatherLows rfl dX7_low_3 rfl rfl rfl rfl (fun v_1 w_2 hp_3 => ?_)
  obtain ⟨t1, u1, nu1, lt1, hlt, rfl, rfl⟩ := hp_3
  show J G X mX7_low _ _ _ 6 _ [.int (0 : Int32)]
  refine J.istore [1, 2, 3, 4, 0] (lv' := [(0, .ref x), (1, .int (nI k)), (2, .int d), (3, .int i), (4, .int (0 : Int32))]) dX7_low_6 rfl rfl ?_
  refine J.iload 4 dX7_low_8 rfl ?_
  refine J.if_eq dX7_low_10 (fun _ => ?_) (fun z => absurd z (by decide))
  refine J.aload_n 0 dX7_low_16 rfl ?_
  refine J.get 0 fl_X7_49 dX7_low_17 rfl rfl ?_
  refine J.iload_n 3 dX7_low_20 rfl ?_
  refine J.re [10, 0, 1, 2, 3, 4, 5, 6, 7, 8, 9, 11] 12 (ws2 := (A 6, .inr (4, [.ref (A 17), .int (nI ((lowF (ltF L F) (midV (lits L F 60) - d) (nts L 60)).1.length))])) :: (x, .inr (7, [.ref (A 0), .int (nI ns), .ref (A 1), .int (nI nr), .ref (A 2), .ref (A 3), .ref (A 4), .ref (A 5), .ref (A 6), .ref (A 7), .ref (A 8), .ref (A 9), .long to, .int al, .int wa, .int lf, .ref (A 10)])) :: (A 0, .inl (G.2.1.2.2.1, 12, .inr (.inr (.inr (.inr sa))))) :: (s, .inr (6, [.int kd, .ref la, .int (1 : Int32), .int wc])) :: (la, .inl (G.2.1.1, 60, .inl L)) :: (A 2, .inl (G.2.1.1, 60, .inl F)) :: (A 3, .inr (1, [.ref (A 11), .ref (A 12), .int (nI (nN L))])) :: (A 11, .inl (G.2.1.1, 60, .inl t1)) :: (A 12, .inl (G.2.1.1, 60, .inl u1)) :: (A 4, .inr (0, [.ref (A 13), .int (nI (nN L))])) :: (A 13, .inl (G.2.1.1, 60, .inl nu1)) :: (A 17, .inl (G.2.1.1, 60, .inl lt1)) :: r) rfl rfl ?_
  refine J.callV 0 (st := []) B (c_X4_has l G _ (sz := (lowF (ltF L F) (midV (lits L F 60) - d) (nts L 60)).1.length) (i := i) hll) ml_X7_208 mf_yX4_has mi_yX4_has rfl dX7_low_21 rfl rfl rfl rfl (fun v_4 w_5 hp_6 => ?_)
  obtain ⟨rfl, rfl⟩ := hp_6
  refine J.re [1, 2, 3, 4, 5, 6, 7, 8, 9, 10, 0, 11] 12 (ws2 := (x, .inr (7, [.ref (A 0), .int (nI ns), .ref (A 1), .int (nI nr), .ref (A 2), .ref (A 3), .ref (A 4), .ref (A 5), .ref (A 6), .ref (A 7), .ref (A 8), .ref (A 9), .long to, .int al, .int wa, .int lf, .ref (A 10)])) :: (A 0, .inl (G.2.1.2.2.1, 12, .inr (.inr (.inr (.inr sa))))) :: (s, .inr (6, [.int kd, .ref la, .int (1 : Int32), .int wc])) :: (la, .inl (G.2.1.1, 60, .inl L)) :: (A 2, .inl (G.2.1.1, 60, .inl F)) :: (A 3, .inr (1, [.ref (A 11), .ref (A 12), .int (nI (nN L))])) :: (A 11, .inl (G.2.1.1, 60, .inl t1)) :: (A 12, .inl (G.2.1.1, 60, .inl u1)) :: (A 4, .inr (0, [.ref (A 13), .int (nI (nN L))])) :: (A 13, .inl (G.2.1.1, 60, .inl nu1)) :: (A 6, .inr (4, [.ref (A 17), .int (nI ((lowF (ltF L F) (midV (lits L F 60) - d) (nts L 60)).1.length))])) :: (A 17, .inl (G.2.1.1, 60, .inl lt1)) :: r) rfl rfl ?_
  show J G X mX7_low _ _ _ 24 _ [.int (b01 (decide (0 ≤ i ∧ i < nI (lowF (ltF L F) (midV (lits L F 60) - d) (nts L 60)).1.length)))]
  refine J.if_eq dX7_low_24 (fun h9 => ?_) (fun z => absurd (by rw [decide_eq_false hi]; rfl) z)
  refine J.bipush (-9 : Int32) dX7_low_39 rfl ?_
  exact J.iret B dX7_low_41 rfl (⟨t1, u1, nu1, lt1, rfl, rfl⟩)
set_option maxHeartbeats 4000000 in
set_option maxRecDepth 100000 in
theorem i_low (l : Launch) (G : jG) (r : va_W) {x : Nat} {A : Nat → Nat} {ns nr : Nat} {to : Int64} {al wa lf : Int32} {sa : Nat → Option Nat} {la : Nat} {kd wc : Int32} {k s : Nat} (hk : k < ns) (hns : ns ≤ 12) (hsa : sa k = some s) {d : Int32} {L F : Nat → Int32} {cz : Int32} {t u : Nat → Int32} {zs zl : Int32} {nu lti : Nat → Int32} (hd : inR d 1 10000 = true) (hL : 0 < nN L) {i : Nat} (hi : i < (lowF (ltF L F) (midV (lits L F 60) - d) (nts L 60)).1.length) : Mt l G yX7_low mX7_low 5 110 0 0 [.ref x, .int (nI k), .int d, .int (nI i)] ((x, .inr (7, [.ref (A 0), .int (nI ns), .ref (A 1), .int (nI nr), .ref (A 2), .ref (A 3), .ref (A 4), .ref (A 5), .ref (A 6), .ref (A 7), .ref (A 8), .ref (A 9), .long to, .int al, .int wa, .int lf, .ref (A 10)])) :: (A 0, .inl (G.2.1.2.2.1, 12, .inr (.inr (.inr (.inr sa))))) :: (s, .inr (6, [.int kd, .ref la, .int (1 : Int32), .int wc])) :: (la, .inl (G.2.1.1, 60, .inl L)) :: (A 2, .inl (G.2.1.1, 60, .inl F)) :: (A 3, .inr (1, [.ref (A 11), .ref (A 12), .int cz])) :: (A 11, .inl (G.2.1.1, 60, .inl t)) :: (A 12, .inl (G.2.1.1, 60, .inl u)) :: (A 4, .inr (0, [.ref (A 13), .int zs])) :: (A 13, .inl (G.2.1.1, 60, .inl nu)) :: (A 6, .inr (4, [.ref (A 17), .int zl])) :: (A 17, .inl (G.2.1.1, 60, .inl lti)) :: r) (fun v w => ∃ t1 u1 nu1 lt1, v = some (.int (nI (rg (lowF (ltF L F) (midV (lits L F 60) - d) (nts L 60)).1 i))) ∧ w = (x, .inr (7, [.ref (A 0), .int (nI ns), .ref (A 1), .int (nI nr), .ref (A 2), .ref (A 3), .ref (A 4), .ref (A 5), .ref (A 6), .ref (A 7), .ref (A 8), .ref (A 9), .long to, .int al, .int wa, .int lf, .ref (A 10)])) :: (A 0, .inl (G.2.1.2.2.1, 12, .inr (.inr (.inr (.inr sa))))) :: (s, .inr (6, [.int kd, .ref la, .int (1 : Int32), .int wc])) :: (la, .inl (G.2.1.1, 60, .inl L)) :: (A 2, .inl (G.2.1.1, 60, .inl F)) :: (A 3, .inr (1, [.ref (A 11), .ref (A 12), .int (nI (nN L))])) :: (A 11, .inl (G.2.1.1, 60, .inl t1)) :: (A 12, .inl (G.2.1.1, 60, .inl u1)) :: (A 4, .inr (0, [.ref (A 13), .int (nI (nN L))])) :: (A 13, .inl (G.2.1.1, 60, .inl nu1)) :: (A 6, .inr (4, [.ref (A 17), .int (nI ((lowF (ltF L F) (midV (lits L F 60) - d) (nts L 60)).1.length))])) :: (A 17, .inl (G.2.1.1, 60, .inl lt1)) :: r) := by
  refine Mt.of (by decide +kernel) rfl rfl (fun X B => ?_)
  show J G X mX7_low ((x, .inr (7, [.ref (A 0), .int (nI ns), .ref (A 1), .int (nI nr), .ref (A 2), .ref (A 3), .ref (A 4), .ref (A 5), .ref (A 6), .ref (A 7), .ref (A 8), .ref (A 9), .long to, .int al, .int wa, .int lf, .ref (A 10)])) :: (A 0, .inl (G.2.1.2.2.1, 12, .inr (.inr (.inr (.inr sa))))) :: (s, .inr (6, [.int kd, .ref la, .int (1 : Int32), .int wc])) :: (la, .inl (G.2.1.1, 60, .inl L)) :: (A 2, .inl (G.2.1.1, 60, .inl F)) :: (A 3, .inr (1, [.ref (A 11), .ref (A 12), .int cz])) :: (A 11, .inl (G.2.1.1, 60, .inl t)) :: (A 12, .inl (G.2.1.1, 60, .inl u)) :: (A 4, .inr (0, [.ref (A 13), .int zs])) :: (A 13, .inl (G.2.1.1, 60, .inl nu)) :: (A 6, .inr (4, [.ref (A 17), .int zl])) :: (A 17, .inl (G.2.1.1, 60, .inl lti)) :: r) 0 0 0 [(0, .ref x), (1, .int (nI k)), (2, .int d), (3, .int (nI i))] []
  have hll : (lowF (ltF L F) (midV (lits L F 60) - d) (nts L 60)).1.length ≤ 60 := Nat.le_trans (lowF_le _ _ _) (nN_le L)
  have hi2 : (0 : Int32) ≤ nI i ∧ nI i < nI (lowF (ltF L F) (midV (lits L F 60) - d) (nts L 60)).1.length := ⟨nI_pos' (by omega), nI_lt hi (by omega)⟩
  have hlw : rg (lowF (ltF L F) (midV (lits L F 60) - d) (nts L 60)).1 i < 60 := (mem_nts.mp (lowF_mem (rg_mem hi))).1
  refine J.aload_n 0 dX7_low_0 rfl ?_
  refine J.iload_n 1 dX7_low_1 rfl ?_
  refine J.iload_n 2 dX7_low_2 rfl ?_
  refine J.callV 0 (st := []) B (c_X7_gatherLows l G _ hk hns hsa hd hL) ml_X7_204 mf_yX7_gatherLows mi_yX7_gatherLows rfl dX7_low_3 rfl rfl rfl rfl (fun v_1 w_2 hp_3 => ?_)
  obtain ⟨t1, u1, nu1, lt1, hlt, rfl, rfl⟩ := hp_3
  show J G X mX7_low _ _ _ 6 _ [.int (0 : Int32)]
  refine J.istore [1, 2, 3, 4, 0] (lv' := [(0, .ref x), (1, .int (nI k)), (2, .int d), (3, .int (nI i)), (4, .int (0 : Int32))]) dX7_low_6 rfl rfl ?_
  refine J.iload 4 dX7_low_8 rfl ?_
  refine J.if_eq dX7_low_10 (fun _ => ?_) (fun z => absurd z (by decide))
  refine J.aload_n 0 dX7_low_16 rfl ?_
  refine J.get 0 fl_X7_49 dX7_low_17 rfl rfl ?_
  refine J.iload_n 3 dX7_low_20 rfl ?_
  refine J.re [10, 0, 1, 2, 3, 4, 5, 6, 7, 8, 9, 11] 12 (ws2 := (A 6, .inr (4, [.ref (A 17), .int (nI ((lowF (ltF L F) (midV (lits L F 60) - d) (nts L 60)).1.length))])) :: (x, .inr (7, [.ref (A 0), .int (nI ns), .ref (A 1), .int (nI nr), .ref (A 2), .ref (A 3), .ref (A 4), .ref (A 5), .ref (A 6), .ref (A 7), .ref (A 8), .ref (A 9), .long to, .int al, .int wa, .int lf, .ref (A 10)])) :: (A 0, .inl (G.2.1.2.2.1, 12, .inr (.inr (.inr (.inr sa))))) :: (s, .inr (6, [.int kd, .ref la, .int (1 : Int32), .int wc])) :: (la, .inl (G.2.1.1, 60, .inl L)) :: (A 2, .inl (G.2.1.1, 60, .inl F)) :: (A 3, .inr (1, [.ref (A 11), .ref (A 12), .int (nI (nN L))])) :: (A 11, .inl (G.2.1.1, 60, .inl t1)) :: (A 12, .inl (G.2.1.1, 60, .inl u1)) :: (A 4, .inr (0, [.ref (A 13), .int (nI (nN L))])) :: (A 13, .inl (G.2.1.1, 60, .inl nu1)) :: (A 17, .inl (G.2.1.1, 60, .inl lt1)) :: r) rfl rfl ?_
  refine J.callV 0 (st := []) B (c_X4_has l G _ (sz := (lowF (ltF L F) (midV (lits L F 60) - d) (nts L 60)).1.length) (i := nI i) hll) ml_X7_208 mf_yX4_has mi_yX4_has rfl dX7_low_21 rfl rfl rfl rfl (fun v_4 w_5 hp_6 => ?_)
  obtain ⟨rfl, rfl⟩ := hp_6
  refine J.re [1, 2, 3, 4, 5, 6, 7, 8, 9, 10, 0, 11] 12 (ws2 := (x, .inr (7, [.ref (A 0), .int (nI ns), .ref (A 1), .int (nI nr), .ref (A 2), .ref (A 3), .ref (A 4), .ref (A 5), .ref (A 6), .ref (A 7), .ref (A 8), .ref (A 9), .long to, .int al, .int wa, .int lf, .ref (A 10)])) :: (A 0, .inl (G.2.1.2.2.1, 12, .inr (.inr (.inr (.inr sa))))) :: (s, .inr (6, [.int kd, .ref la, .int (1 : Int32), .int wc])) :: (la, .inl (G.2.1.1, 60, .inl L)) :: (A 2, .inl (G.2.1.1, 60, .inl F)) :: (A 3, .inr (1, [.ref (A 11), .ref (A 12), .int (nI (nN L))])) :: (A 11, .inl (G.2.1.1, 60, .inl t1)) :: (A 12, .inl (G.2.1.1, 60, .inl u1)) :: (A 4, .inr (0, [.ref (A 13), .int (nI (nN L))])) :: (A 13, .inl (G.2.1.1, 60, .inl nu1)) :: (A 6, .inr (4, [.ref (A 17), .int (nI ((lowF (ltF L F) (midV (lits L F 60) - d) (nts L 60)).1.length))])) :: (A 17, .inl (G.2.1.1, 60, .inl lt1)) :: r) rfl rfl ?_
  show J G X mX7_low _ _ _ 24 _ [.int (b01 (decide (0 ≤ (nI i) ∧ (nI i) < nI (lowF (ltF L F) (midV (lits L F 60) - d) (nts L 60)).1.length)))]
  refine J.if_eq dX7_low_24 (fun z => absurd z (by rw [decide_eq_true hi2]; decide)) (fun h9 => ?_)
  refine J.aload_n 0 dX7_low_27 rfl ?_
  refine J.get 0 fl_X7_49 dX7_low_28 rfl rfl ?_
  refine J.get 10 fl_X7_211 dX7_low_31 rfl rfl ?_
  refine J.iload_n 3 dX7_low_34 rfl ?_
  refine J.iald 11 (i) dX7_low_35 rfl (rfl) (by omega) (by decide) ?_
  refine J.topi (y := nI (rg (lowF (ltF L F) (midV (lits L F 60) - d) (nts L 60)).1 i)) (AG_rg hlt (by omega)) ?_
  refine J.goto dX7_low_36 ?_
  exact J.iret B dX7_low_41 rfl (⟨t1, u1, nu1, lt1, rfl, rfl⟩)
