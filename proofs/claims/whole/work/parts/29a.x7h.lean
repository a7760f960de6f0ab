set_option maxHeartbeats 4000000 in
set_option maxRecDepth 100000 in
theorem i_rule_bad (l : Launch) (G : jG) (r : va_W) {x : Nat} {A : Nat → Nat} {ns nr : Nat} {to : Int64} {al wa lf : Int32} {a lo hi c : Int32} (hf : (inR a 0 3 && inR c 0 9 && decide (lo ≤ hi)) = false) : Mt l G yX7_rule mX7_rule 2 44 0 0 [.ref x, .int a, .int lo, .int hi, .int c] ((x, .inr (7, [.ref (A 0), .int (nI ns), .ref (A 1), .int (nI nr), .ref (A 2), .ref (A 3), .ref (A 4), .ref (A 5), .ref (A 6), .ref (A 7), .ref (A 8), .ref (A 9), .long to, .int al, .int wa, .int lf, .ref (A 10)])) :: r) (fun v w => v = some (.int (-1 : Int32)) ∧ w = (x, .inr (7, [.ref (A 0), .int (nI ns), .ref (A 1), .int (nI nr), .ref (A 2), .ref (A 3), .ref (A 4), .ref (A 5), .ref (A 6), .ref (A 7), .ref (A 8), .ref (A 9), .long to, .int al, .int wa, .int lf, .ref (A 10)])) :: r) := by
  refine Mt.of (by decide +kernel) rfl rfl (fun X B => ?_)
  show J G X mX7_rule ((x, .inr (7, [.ref (A 0), .int (nI ns), .ref (A 1), .int (nI nr), .ref (A 2), .ref (A 3), .ref (A 4), .ref (A 5), .ref (A 6), .ref (A 7), .ref (A 8), .ref (A 9), .long to, .int al, .int wa, .int lf, .ref (A 10)])) :: r) 0 0 0 [(0, .ref x), (1, .int a), (2, .int lo), (3, .int hi), (4, .int c)] []
  refine J.iload_n 1 dX7_rule_0 rfl ?_
  refine J.if_lt dX7_rule_1 (fun h9 => ?_) (fun h9 => ?_)
  · skip
    have h9 : a.toInt < (0 : Int) := (fa_lt _ _).mp h9
    refine J.iconst (-1 : Int32) dX7_rule_26 rfl ?_
    exact J.iret B dX7_rule_27 rfl (⟨rfl, rfl⟩)
  · skip
    have h9 : ¬ a.toInt < (0 : Int) := fun z => h9 ((fa_lt _ _).mpr z)
    refine J.iload_n 1 dX7_rule_4 rfl ?_
    refine J.iconst (3 : Int32) dX7_rule_5 rfl ?_
    refine J.icmp_gt dX7_rule_6 (fun h8 => ?_) (fun h8 => ?_)
    · skip
      have h8 : (3 : Int) < a.toInt := (fa_lt _ _).mp h8
      refine J.iconst (-1 : Int32) dX7_rule_26 rfl ?_
      exact J.iret B dX7_rule_27 rfl (⟨rfl, rfl⟩)
    · skip
      have h8 : ¬ (3 : Int) < a.toInt := fun z => h8 ((fa_lt _ _).mpr z)
      refine J.iload 4 dX7_rule_9 rfl ?_
      refine J.if_lt dX7_rule_11 (fun h7 => ?_) (fun h7 => ?_)
      · skip
        have h7 : c.toInt < (0 : Int) := (fa_lt _ _).mp h7
        refine J.iconst (-1 : Int32) dX7_rule_26 rfl ?_
        exact J.iret B dX7_rule_27 rfl (⟨rfl, rfl⟩)
      · skip
        have h7 : ¬ c.toInt < (0 : Int) := fun z => h7 ((fa_lt _ _).mpr z)
        refine J.iload 4 dX7_rule_14 rfl ?_
        refine J.bipush (9 : Int32) dX7_rule_16 rfl ?_
        refine J.icmp_gt dX7_rule_18 (fun h6 => ?_) (fun h6 => ?_)
        · skip
          have h6 : (9 : Int) < c.toInt := (fa_lt _ _).mp h6
          refine J.iconst (-1 : Int32) dX7_rule_26 rfl ?_
          exact J.iret B dX7_rule_27 rfl (⟨rfl, rfl⟩)
        · skip
          have h6 : ¬ (9 : Int) < c.toInt := fun z => h6 ((fa_lt _ _).mpr z)
          refine J.iload_n 2 dX7_rule_21 rfl ?_
          refine J.iload_n 3 dX7_rule_22 rfl ?_
          refine J.icmp_le dX7_rule_23 (fun h5 => ?_) (fun h5 => ?_)
          · skip
            exact absurd (by rw [inR_t (v := a) ⟨by omega, by omega⟩, inR_t (v := c) ⟨by omega, by omega⟩, decide_eq_true h5]; rfl) (Bool.eq_false_iff.mp hf)
          · skip
            refine J.iconst (-1 : Int32) dX7_rule_26 rfl ?_
            exact J.iret B dX7_rule_27 rfl (⟨rfl, rfl⟩)
set_option maxHeartbeats 4000000 in
set_option maxRecDepth 100000 in
theorem i_rule_full (l : Launch) (G : jG) (r : va_W) {x : Nat} {A : Nat → Nat} {ns nr : Nat} {to : Int64} {al wa lf : Int32} {a lo hi c : Int32} (hf : (inR a 0 3 && inR c 0 9 && decide (lo ≤ hi)) = true) (hn : nr = 10) : Mt l G yX7_rule mX7_rule 2 44 0 0 [.ref x, .int a, .int lo, .int hi, .int c] ((x, .inr (7, [.ref (A 0), .int (nI ns), .ref (A 1), .int (nI nr), .ref (A 2), .ref (A 3), .ref (A 4), .ref (A 5), .ref (A 6), .ref (A 7), .ref (A 8), .ref (A 9), .long to, .int al, .int wa, .int lf, .ref (A 10)])) :: r) (fun v w => v = some (.int (-2 : Int32)) ∧ w = (x, .inr (7, [.ref (A 0), .int (nI ns), .ref (A 1), .int (nI nr), .ref (A 2), .ref (A 3), .ref (A 4), .ref (A 5), .ref (A 6), .ref (A 7), .ref (A 8), .ref (A 9), .long to, .int al, .int wa, .int lf, .ref (A 10)])) :: r) := by
  refine Mt.of (by decide +kernel) rfl rfl (fun X B => ?_)
  show J G X mX7_rule ((x, .inr (7, [.ref (A 0), .int (nI ns), .ref (A 1), .int (nI nr), .ref (A 2), .ref (A 3), .ref (A 4), .ref (A 5), .ref (A 6), .ref (A 7), .ref (A 8), .ref (A 9), .long to, .int al, .int wa, .int lf, .ref (A 10)])) :: r) 0 0 0 [(0, .ref x), (1, .int a), (2, .int lo), (3, .int hi), (4, .int c)] []
  simp only [Bool.and_eq_true] at hf
  obtain ⟨⟨g1, g2⟩, g3⟩ := hf
  have g1 := inR_of g1
  have g2 := inR_of g2
  have g3 := of_decide_eq_true g3
  refine J.iload_n 1 dX7_rule_0 rfl ?_
  refine J.if_lt dX7_rule_1 (fun h9 => ?_) (fun h9 => ?_)
  · skip
    have h9 : a.toInt < (0 : Int) := (fa_lt _ _).mp h9
    omega
  · skip
    have h9 : ¬ a.toInt < (0 : Int) := fun z => h9 ((fa_lt _ _).mpr z)
    refine J.iload_n 1 dX7_rule_4 rfl ?_
    refine J.iconst (3 : Int32) dX7_rule_5 rfl ?_
    refine J.icmp_gt dX7_rule_6 (fun h8 => ?_) (fun h8 => ?_)
    · skip
      have h8 : (3 : Int) < a.toInt := (fa_lt _ _).mp h8
      omega
    · skip
      have h8 : ¬ (3 : Int) < a.toInt := fun z => h8 ((fa_lt _ _).mpr z)
      refine J.iload 4 dX7_rule_9 rfl ?_
      refine J.if_lt dX7_rule_11 (fun h7 => ?_) (fun h7 => ?_)
      · skip
        have h7 : c.toInt < (0 : Int) := (fa_lt _ _).mp h7
        omega
      · skip
        have h7 : ¬ c.toInt < (0 : Int) := fun z => h7 ((fa_lt _ _).mpr z)
        refine J.iload 4 dX7_rule_14 rfl ?_
        refine J.bipush (9 : Int32) dX7_rule_16 rfl ?_
        refine J.icmp_gt dX7_rule_18 (fun h6 => ?_) (fun h6 => ?_)
        · skip
          have h6 : (9 : Int) < c.toInt := (fa_lt _ _).mp h6
          omega
        · skip
          have h6 : ¬ (9 : Int) < c.toInt := fun z => h6 ((fa_lt _ _).mpr z)
          refine J.iload_n 2 dX7_rule_21 rfl ?_
          refine J.iload_n 3 dX7_rule_22 rfl ?_
          refine J.icmp_le dX7_rule_23 (fun h5 => ?_) (fun z => absurd (g3) z)
          refine J.aload_n 0 dX7_rule_28 rfl ?_
          refine J.get 0 fl_X7_222 dX7_rule_29 rfl rfl ?_
          refine J.bipush (10 : Int32) dX7_rule_32 rfl ?_
          refine J.icmp_lt dX7_rule_34 (fun h4 => ?_) (fun h4 => ?_)
          · skip
            have h4 : nr < 10 := (nI_ltI (a := nr) (b := 10) (by omega) (by omega)).mp h4
            omega
          · skip
            have h4 : ¬ nr < 10 := fun z => h4 ((nI_ltI (a := nr) (b := 10) (by omega) (by omega)).mpr z)
            refine J.bipush (-2 : Int32) dX7_rule_37 rfl ?_
            exact J.iret B dX7_rule_39 rfl (⟨rfl, rfl⟩)
set_option maxHeartbeats 4000000 in
set_option maxRecDepth 100000 in
theorem i_rule (l : Launch) (G : jG) (r : va_W) {x : Nat} {A : Nat → Nat} {ns nr : Nat} {to : Int64} {al wa lf : Int32} {ra : Nat → Option Nat} {a lo hi c : Int32} (hf : (inR a 0 3 && inR c 0 9 && decide (lo ≤ hi)) = true) (hn : nr < 10) : Mt l G yX7_rule mX7_rule 2 44 1 4 [.ref x, .int a, .int lo, .int hi, .int c] ((x, .inr (7, [.ref (A 0), .int (nI ns), .ref (A 1), .int (nI nr), .ref (A 2), .ref (A 3), .ref (A 4), .ref (A 5), .ref (A 6), .ref (A 7), .ref (A 8), .ref (A 9), .long to, .int al, .int wa, .int lf, .ref (A 10)])) :: (A 1, .inl (G.2.1.2.2.2, 10, .inr (.inr (.inr (.inr ra))))) :: r) (fun v w => ∃ q : Nat, v = some (.int (nI nr)) ∧ w = (q, .inr (5, [.int a, .int lo, .int hi, .int c])) :: (x, .inr (7, [.ref (A 0), .int (nI ns), .ref (A 1), .int (nI (nr + 1)), .ref (A 2), .ref (A 3), .ref (A 4), .ref (A 5), .ref (A 6), .ref (A 7), .ref (A 8), .ref (A 9), .long to, .int al, .int wa, .int lf, .ref (A 10)])) :: (A 1, .inl (G.2.1.2.2.2, 10, .inr (.inr (.inr (.inr (va_up ra nr (some q))))))) :: r) := by
  refine Mt.of (by decide +kernel) rfl rfl (fun X B => ?_)
  show J G X mX7_rule ((x, .inr (7, [.ref (A 0), .int (nI ns), .ref (A 1), .int (nI nr), .ref (A 2), .ref (A 3), .ref (A 4), .ref (A 5), .ref (A 6), .ref (A 7), .ref (A 8), .ref (A 9), .long to, .int al, .int wa, .int lf, .ref (A 10)])) :: (A 1, .inl (G.2.1.2.2.2, 10, .inr (.inr (.inr (.inr ra))))) :: r) 0 0 0 [(0, .ref x), (1, .int a), (2, .int lo), (3, .int hi), (4, .int c)] []
  simp only [Bool.and_eq_true] at hf
  obtain ⟨⟨g1, g2⟩, g3⟩ := hf
  have g1 := inR_of g1
  have g2 := inR_of g2
  have g3 := of_decide_eq_true g3
  refine J.iload_n 1 dX7_rule_0 rfl ?_
  refine J.if_lt dX7_rule_1 (fun h9 => ?_) (fun h9 => ?_)
  · skip
    have h9 : a.toInt < (0 : Int) := (fa_lt _ _).mp h9
    omega
  · skip
    have h9 : ¬ a.toInt < (0 : Int) := fun z => h9 ((fa_lt _ _).mpr z)
    refine J.iload_n 1 dX7_rule_4 rfl ?_
    refine J.iconst (3 : Int32) dX7_rule_5 rfl ?_
    refine J.icmp_gt dX7_rule_6 (fun h8 => ?_) (fun h8 => ?_)
    · skip
      have h8 : (3 : Int) < a.toInt := (fa_lt _ _).mp h8
      omega
    · skip
      have h8 : ¬ (3 : Int) < a.toInt := fun z => h8 ((fa_lt _ _).mpr z)
      refine J.iload 4 dX7_rule_9 rfl ?_
      refine J.if_lt dX7_rule_11 (fun h7 => ?_) (fun h7 => ?_)
      · skip
        have h7 : c.toInt < (0 : Int) := (fa_lt _ _).mp h7
        omega
      · skip
        have h7 : ¬ c.toInt < (0 : Int) := fun z => h7 ((fa_lt _ _).mpr z)
        refine J.iload 4 dX7_rule_14 rfl ?_
        refine J.bipush (9 : Int32) dX7_rule_16 rfl ?_
        refine J.icmp_gt dX7_rule_18 (fun h6 => ?_) (fun h6 => ?_)
        · skip
          have h6 : (9 : Int) < c.toInt := (fa_lt _ _).mp h6
          omega
        · skip
          have h6 : ¬ (9 : Int) < c.toInt := fun z => h6 ((fa_lt _ _).mpr z)
          refine J.iload_n 2 dX7_rule_21 rfl ?_
          refine J.iload_n 3 dX7_rule_22 rfl ?_
          refine J.icmp_le dX7_rule_23 (fun h5 => ?_) (fun z => absurd (g3) z)
          refine J.aload_n 0 dX7_rule_28 rfl ?_
          refine J.get 0 fl_X7_222 dX7_rule_29 rfl rfl ?_
          refine J.bipush (10 : Int32) dX7_rule_32 rfl ?_
          refine J.icmp_lt dX7_rule_34 (fun h4 => ?_) (fun h4 => ?_)
          · skip
            have h4 : nr < 10 := (nI_ltI (a := nr) (b := 10) (by omega) (by omega)).mp h4
            refine J.aload_n 0 dX7_rule_40 rfl ?_
            refine J.get 0 fl_X7_17 dX7_rule_41 rfl rfl ?_
            refine J.aload_n 0 dX7_rule_44 rfl ?_
            refine J.get 0 fl_X7_222 dX7_rule_45 rfl rfl ?_
            refine J.new B (fs := [.int (0 : Int32), .int (0 : Int32), .int (0 : Int32), .int (0 : Int32)]) dX7_rule_48 clX5 tyX5_ok ck_X7_15 wn_X5 wi_X5 df_X5 rfl rfl (fun q_1 => ?_)
            refine J.dup dX7_rule_51 rfl ?_
            refine J.iload_n 1 dX7_rule_52 rfl ?_
            refine J.iload_n 2 dX7_rule_53 rfl ?_
            refine J.iload_n 3 dX7_rule_54 rfl ?_
            refine J.iload 4 dX7_rule_55 rfl ?_
            refine J.callI (st := [.ref q_1, .int (nI nr), .ref (A 1)]) B (c_X5_init l G _) ml_X7_225 mf_yX5_init mI_yX5_init rfl dX7_rule_57 rfl rfl rfl (fun v_2 w_3 hp_4 => ?_)
            obtain ⟨rfl, rfl⟩ := hp_4
            show J G X mX7_rule _ _ _ 60 _ [.ref q_1, .int (nI nr), .ref (A 1)]
            refine J.aast 2 3 0 5 (nr) dX7_rule_60 rfl rfl rfl rfl (rfl) (by omega) (by decide) (ws' := (q_1, .inr (5, [.int a, .int lo, .int hi, .int c])) :: (x, .inr (7, [.ref (A 0), .int (nI ns), .ref (A 1), .int (nI nr), .ref (A 2), .ref (A 3), .ref (A 4), .ref (A 5), .ref (A 6), .ref (A 7), .ref (A 8), .ref (A 9), .long to, .int al, .int wa, .int lf, .ref (A 10)])) :: (A 1, .inl (G.2.1.2.2.2, 10, .inr (.inr (.inr (.inr (va_up ra nr (some q_1))))))) :: r) rfl ?_
            refine J.aload_n 0 dX7_rule_61 rfl ?_
            refine J.dup dX7_rule_62 rfl ?_
            refine J.get 1 fl_X7_222 dX7_rule_63 rfl rfl ?_
            refine J.iconst (1 : Int32) dX7_rule_66 rfl ?_
            refine J.iadd dX7_rule_67 ?_
            refine J.topi (y := nI (nr + 1)) (nI_add nr 1) ?_
            refine J.put 1 fp_X7_222 dX7_rule_68 rfl (rfl) (rfl) rfl (ws' := (q_1, .inr (5, [.int a, .int lo, .int hi, .int c])) :: (x, .inr (7, [.ref (A 0), .int (nI ns), .ref (A 1), .int (nI (nr + 1)), .ref (A 2), .ref (A 3), .ref (A 4), .ref (A 5), .ref (A 6), .ref (A 7), .ref (A 8), .ref (A 9), .long to, .int al, .int wa, .int lf, .ref (A 10)])) :: (A 1, .inl (G.2.1.2.2.2, 10, .inr (.inr (.inr (.inr (va_up ra nr (some q_1))))))) :: r) rfl ?_
            refine J.aload_n 0 dX7_rule_71 rfl ?_
            refine J.get 1 fl_X7_222 dX7_rule_72 rfl rfl ?_
            refine J.iconst (1 : Int32) dX7_rule_75 rfl ?_
            refine J.isub dX7_rule_76 ?_
            refine J.topi (y := nI nr) (pk_sub (a := nr + 1) (b := 1) (by omega)) ?_
            exact J.iret B dX7_rule_77 rfl (⟨q_1, rfl, rfl⟩)
          · skip
            have h4 : ¬ nr < 10 := fun z => h4 ((nI_ltI (a := nr) (b := 10) (by omega) (by omega)).mpr z)
            omega
set_option maxHeartbeats 4000000 in
set_option maxRecDepth 100000 in
theorem i_star_bad (l : Launch) (G : jG) (r : va_W) {x : Nat} {A : Nat → Nat} {ns nr : Nat} {to : Int64} {al wa lf : Int32} {a : Int32} (ha : inR a 0 3 = false) : Mt l G yX7_star mX7_star 2 44 0 0 [.ref x, .int a] ((x, .inr (7, [.ref (A 0), .int (nI ns), .ref (A 1), .int (nI nr), .ref (A 2), .ref (A 3), .ref (A 4), .ref (A 5), .ref (A 6), .ref (A 7), .ref (A 8), .ref (A 9), .long to, .int al, .int wa, .int lf, .ref (A 10)])) :: r) (fun v w => v = some (.int (-1 : Int32)) ∧ w = (x, .inr (7, [.ref (A 0), .int (nI ns), .ref (A 1), .int (nI nr), .ref (A 2), .ref (A 3), .ref (A 4), .ref (A 5), .ref (A 6), .ref (A 7), .ref (A 8), .ref (A 9), .long to, .int al, .int wa, .int lf, .ref (A 10)])) :: r) := by
  refine Mt.of (by decide +kernel) rfl rfl (fun X B => ?_)
  show J G X mX7_star ((x, .inr (7, [.ref (A 0), .int (nI ns), .ref (A 1), .int (nI nr), .ref (A 2), .ref (A 3), .ref (A 4), .ref (A 5), .ref (A 6), .ref (A 7), .ref (A 8), .ref (A 9), .long to, .int al, .int wa, .int lf, .ref (A 10)])) :: r) 0 0 0 [(0, .ref x), (1, .int a)] []
  refine J.iload_n 1 dX7_star_0 rfl ?_
  refine J.callS (st := []) B (c_X7_isKind l G _ (k := a)) ml_X7_69 mf_yX7_isKind mS_yX7_isKind dX7_star_1 rfl rfl rfl (fun v_1 w_2 hp_3 => ?_)
  obtain ⟨rfl, rfl⟩ := hp_3
  show J G X mX7_star _ _ _ 4 _ [.int (b01 (inR a 0 3))]
  refine J.if_ne dX7_star_4 (fun z => absurd (by rw [ha]; rfl) z) (fun h9 => ?_)
  refine J.iconst (-1 : Int32) dX7_star_7 rfl ?_
  exact J.iret B dX7_star_8 rfl (⟨rfl, rfl⟩)
set_option maxHeartbeats 4000000 in
set_option maxRecDepth 100000 in
theorem i_star_full (l : Launch) (G : jG) (r : va_W) {x : Nat} {A : Nat → Nat} {ns nr : Nat} {to : Int64} {al wa lf : Int32} {a : Int32} (ha : inR a 0 3 = true) (hn : ns = 12) : Mt l G yX7_star mX7_star 2 44 0 0 [.ref x, .int a] ((x, .inr (7, [.ref (A 0), .int (nI ns), .ref (A 1), .int (nI nr), .ref (A 2), .ref (A 3), .ref (A 4), .ref (A 5), .ref (A 6), .ref (A 7), .ref (A 8), .ref (A 9), .long to, .int al, .int wa, .int lf, .ref (A 10)])) :: r) (fun v w => v = some (.int (-2 : Int32)) ∧ w = (x, .inr (7, [.ref (A 0), .int (nI ns), .ref (A 1), .int (nI nr), .ref (A 2), .ref (A 3), .ref (A 4), .ref (A 5), .ref (A 6), .ref (A 7), .ref (A 8), .ref (A 9), .long to, .int al, .int wa, .int lf, .ref (A 10)])) :: r) := by
  refine Mt.of (by decide +kernel) rfl rfl (fun X B => ?_)
  show J G X mX7_star ((x, .inr (7, [.ref (A 0), .int (nI ns), .ref (A 1), .int (nI nr), .ref (A 2), .ref (A 3), .ref (A 4), .ref (A 5), .ref (A 6), .ref (A 7), .ref (A 8), .ref (A 9), .long to, .int al, .int wa, .int lf, .ref (A 10)])) :: r) 0 0 0 [(0, .ref x), (1, .int a)] []
  refine J.iload_n 1 dX7_star_0 rfl ?_
  refine J.callS (st := []) B (c_X7_isKind l G _ (k := a)) ml_X7_69 mf_yX7_isKind mS_yX7_isKind dX7_star_1 rfl rfl rfl (fun v_1 w_2 hp_3 => ?_)
  obtain ⟨rfl, rfl⟩ := hp_3
  show J G X mX7_star _ _ _ 4 _ [.int (b01 (inR a 0 3))]
  refine J.if_ne dX7_star_4 (fun h9 => ?_) (fun z => absurd z (by rw [ha]; decide))
  refine J.aload_n 0 dX7_star_9 rfl ?_
  refine J.get 0 fl_X7_73 dX7_star_10 rfl rfl ?_
  refine J.bipush (12 : Int32) dX7_star_13 rfl ?_
  refine J.icmp_lt dX7_star_15 (fun h8 => ?_) (fun h8 => ?_)
  · skip
    have h8 : ns < 12 := (nI_ltI (a := ns) (b := 12) (by omega) (by omega)).mp h8
    omega
  · skip
    have h8 : ¬ ns < 12 := fun z => h8 ((nI_ltI (a := ns) (b := 12) (by omega) (by omega)).mpr z)
    refine J.bipush (-2 : Int32) dX7_star_18 rfl ?_
    exact J.iret B dX7_star_20 rfl (⟨rfl, rfl⟩)
set_option maxHeartbeats 4000000 in
set_option maxRecDepth 100000 in
theorem i_star (l : Launch) (G : jG) (r : va_W) {x : Nat} {A : Nat → Nat} {ns nr : Nat} {to : Int64} {al wa lf : Int32} {sa : Nat → Option Nat} {a : Int32} (ha : inR a 0 3 = true) (hn : ns < 12) : Mt l G yX7_star mX7_star 2 44 2 64 [.ref x, .int a] ((x, .inr (7, [.ref (A 0), .int (nI ns), .ref (A 1), .int (nI nr), .ref (A 2), .ref (A 3), .ref (A 4), .ref (A 5), .ref (A 6), .ref (A 7), .ref (A 8), .ref (A 9), .long to, .int al, .int wa, .int lf, .ref (A 10)])) :: (A 0, .inl (G.2.1.2.2.1, 12, .inr (.inr (.inr (.inr sa))))) :: r) (fun v w => ∃ q q2 : Nat, v = some (.int (nI ns)) ∧ w = (q2, .inl (G.2.1.1, 60, .inl (flA (fun _ => 0) (-9) 60))) :: (q, .inr (6, [.int a, .ref q2, .int (0 : Int32), .int (-9 : Int32)])) :: (x, .inr (7, [.ref (A 0), .int (nI (ns + 1)), .ref (A 1), .int (nI nr), .ref (A 2), .ref (A 3), .ref (A 4), .ref (A 5), .ref (A 6), .ref (A 7), .ref (A 8), .ref (A 9), .long to, .int al, .int wa, .int lf, .ref (A 10)])) :: (A 0, .inl (G.2.1.2.2.1, 12, .inr (.inr (.inr (.inr (va_up sa ns (some q))))))) :: r) := by
  refine Mt.of (by decide +kernel) rfl rfl (fun X B => ?_)
  show J G X mX7_star ((x, .inr (7, [.ref (A 0), .int (nI ns), .ref (A 1), .int (nI nr), .ref (A 2), .ref (A 3), .ref (A 4), .ref (A 5), .ref (A 6), .ref (A 7), .ref (A 8), .ref (A 9), .long to, .int al, .int wa, .int lf, .ref (A 10)])) :: (A 0, .inl (G.2.1.2.2.1, 12, .inr (.inr (.inr (.inr sa))))) :: r) 0 0 0 [(0, .ref x), (1, .int a)] []
  refine J.iload_n 1 dX7_star_0 rfl ?_
  refine J.callS (st := []) B (c_X7_isKind l G _ (k := a)) ml_X7_69 mf_yX7_isKind mS_yX7_isKind dX7_star_1 rfl rfl rfl (fun v_1 w_2 hp_3 => ?_)
  obtain ⟨rfl, rfl⟩ := hp_3
  show J G X mX7_star _ _ _ 4 _ [.int (b01 (inR a 0 3))]
  refine J.if_ne dX7_star_4 (fun h9 => ?_) (fun z => absurd z (by rw [ha]; decide))
  refine J.aload_n 0 dX7_star_9 rfl ?_
  refine J.get 0 fl_X7_73 dX7_star_10 rfl rfl ?_
  refine J.bipush (12 : Int32) dX7_star_13 rfl ?_
  refine J.icmp_lt dX7_star_15 (fun h8 => ?_) (fun h8 => ?_)
  · skip
    have h8 : ns < 12 := (nI_ltI (a := ns) (b := 12) (by omega) (by omega)).mp h8
    refine J.aload_n 0 dX7_star_21 rfl ?_
    refine J.get 0 fl_X7_11 dX7_star_22 rfl rfl ?_
    refine J.aload_n 0 dX7_star_25 rfl ?_
    refine J.get 0 fl_X7_73 dX7_star_26 rfl rfl ?_
    refine J.new B (fs := [.int (0 : Int32), .null, .int (0 : Int32), .int (0 : Int32)]) dX7_star_29 clX6 tyX6_ok ck_X7_9 wn_X6 wi_X6 df_X6 rfl rfl (fun q_4 => ?_)
    refine J.dup dX7_star_32 rfl ?_
    refine J.iload_n 1 dX7_star_33 rfl ?_
    refine J.callI (st := [.ref q_4, .int (nI ns), .ref (A 0)]) B (c_X6_init l G _) ml_X7_77 mf_yX6_init mI_yX6_init rfl dX7_star_34 rfl rfl rfl (fun v_5 w_6 hp_7 => ?_)
    obtain ⟨q_4_0, rfl, rfl⟩ := hp_7
    show J G X mX7_star ((q_4_0, .inl (G.2.1.1, 60, .inl (flA (fun _ => 0) (-9) 60))) :: (q_4, .inr (6, [.int a, .ref q_4_0, .int (0 : Int32), .int (-9 : Int32)])) :: (x, .inr (7, [.ref (A 0), .int (nI ns), .ref (A 1), .int (nI nr), .ref (A 2), .ref (A 3), .ref (A 4), .ref (A 5), .ref (A 6), .ref (A 7), .ref (A 8), .ref (A 9), .long to, .int al, .int wa, .int lf, .ref (A 10)])) :: (A 0, .inl (G.2.1.2.2.1, 12, .inr (.inr (.inr (.inr sa))))) :: r) _ _ 37 _ [.ref q_4, .int (nI ns), .ref (A 0)]
    refine J.aast 3 2 1 6 (ns) dX7_star_37 rfl rfl rfl rfl (rfl) (by omega) (by decide) (ws' := (q_4_0, .inl (G.2.1.1, 60, .inl (flA (fun _ => 0) (-9) 60))) :: (q_4, .inr (6, [.int a, .ref q_4_0, .int (0 : Int32), .int (-9 : Int32)])) :: (x, .inr (7, [.ref (A 0), .int (nI ns), .ref (A 1), .int (nI nr), .ref (A 2), .ref (A 3), .ref (A 4), .ref (A 5), .ref (A 6), .ref (A 7), .ref (A 8), .ref (A 9), .long to, .int al, .int wa, .int lf, .ref (A 10)])) :: (A 0, .inl (G.2.1.2.2.1, 12, .inr (.inr (.inr (.inr (va_up sa ns (some q_4))))))) :: r) rfl ?_
    refine J.aload_n 0 dX7_star_38 rfl ?_
    refine J.dup dX7_star_39 rfl ?_
    refine J.get 2 fl_X7_73 dX7_star_40 rfl rfl ?_
    refine J.iconst (1 : Int32) dX7_star_43 rfl ?_
    refine J.iadd dX7_star_44 ?_
    refine J.topi (y := nI (ns + 1)) (nI_add ns 1) ?_
    refine J.put 2 fp_X7_73 dX7_star_45 rfl (rfl) (rfl) rfl (ws' := (q_4_0, .inl (G.2.1.1, 60, .inl (flA (fun _ => 0) (-9) 60))) :: (q_4, .inr (6, [.int a, .ref q_4_0, .int (0 : Int32), .int (-9 : Int32)])) :: (x, .inr (7, [.ref (A 0), .int (nI (ns + 1)), .ref (A 1), .int (nI nr), .ref (A 2), .ref (A 3), .ref (A 4), .ref (A 5), .ref (A 6), .ref (A 7), .ref (A 8), .ref (A 9), .long to, .int al, .int wa, .int lf, .ref (A 10)])) :: (A 0, .inl (G.2.1.2.2.1, 12, .inr (.inr (.inr (.inr (va_up sa ns (some q_4))))))) :: r) rfl ?_
    refine J.aload_n 0 dX7_star_48 rfl ?_
    refine J.get 2 fl_X7_73 dX7_star_49 rfl rfl ?_
    refine J.iconst (1 : Int32) dX7_star_52 rfl ?_
    refine J.isub dX7_star_53 ?_
    refine J.topi (y := nI ns) (pk_sub (a := ns + 1) (b := 1) (by omega)) ?_
    exact J.iret B dX7_star_54 rfl (⟨q_4, q_4_0, rfl, rfl⟩)
  · skip
    have h8 : ¬ ns < 12 := fun z => h8 ((nI_ltI (a := ns) (b := 12) (by omega) (by omega)).mpr z)
    omega
set_option maxHeartbeats 4000000 in
set_option maxRecDepth 100000 in
theorem c_X7_markOfCurve1 (l : Launch) (G : jG) (r : va_W) {x : Nat} {A : Nat → Nat} {ns nr : Nat} {to : Int64} {al wa lf : Int32} {L F : Nat → Int32} {t u : Nat → Int32} {zs zl : Int32} {nu lti ms : Nat → Int32} (hc : CV L F t u) : Mt l G yX7_markOfCurve mX7_markOfCurve 3 64 0 0 [.ref x, .int (1 : Int32)] ((x, .inr (7, [.ref (A 0), .int (nI ns), .ref (A 1), .int (nI nr), .ref (A 2), .ref (A 3), .ref (A 4), .ref (A 5), .ref (A 6), .ref (A 7), .ref (A 8), .ref (A 9), .long to, .int al, .int wa, .int lf, .ref (A 10)])) :: (A 3, .inr (1, [.ref (A 11), .ref (A 12), .int (nI (nN L))])) :: (A 11, .inl (G.2.1.1, 60, .inl t)) :: (A 12, .inl (G.2.1.1, 60, .inl u)) :: (A 4, .inr (0, [.ref (A 13), .int zs])) :: (A 13, .inl (G.2.1.1, 60, .inl nu)) :: (A 6, .inr (4, [.ref (A 17), .int zl])) :: (A 17, .inl (G.2.1.1, 60, .inl lti)) :: (A 8, .inl (G.2.1.1, 4, .inl ms)) :: r) (fun v w => ∃ nu1 lt1, v = some (.int (nI (nN L))) ∧ w = (x, .inr (7, [.ref (A 0), .int (nI ns), .ref (A 1), .int (nI nr), .ref (A 2), .ref (A 3), .ref (A 4), .ref (A 5), .ref (A 6), .ref (A 7), .ref (A 8), .ref (A 9), .long to, .int al, .int wa, .int lf, .ref (A 10)])) :: (A 3, .inr (1, [.ref (A 11), .ref (A 12), .int (nI (nN L))])) :: (A 11, .inl (G.2.1.1, 60, .inl t)) :: (A 12, .inl (G.2.1.1, 60, .inl u)) :: (A 4, .inr (0, [.ref (A 13), .int (nI (nN L))])) :: (A 13, .inl (G.2.1.1, 60, .inl nu1)) :: (A 6, .inr (4, [.ref (A 17), .int (nI ((lowF (ltF L F) (midV (lits L F 60) - 100) (nts L 60)).1.length))])) :: (A 17, .inl (G.2.1.1, 60, .inl lt1)) :: (A 8, .inl (G.2.1.1, 4, .inl (upd (upd (upd (upd ms 0 (midV (lits L F 60))) 1 (swg (lits L F 60))) 2 (nI (nN L))) 3 (nI (lowF (ltF L F) (midV (lits L F 60) - 100) (nts L 60)).1.length)))) :: r) := by
  refine Mt.of (by decide +kernel) rfl rfl (fun X B => ?_)
  show J G X mX7_markOfCurve ((x, .inr (7, [.ref (A 0), .int (nI ns), .ref (A 1), .int (nI nr), .ref (A 2), .ref (A 3), .ref (A 4), .ref (A 5), .ref (A 6), .ref (A 7), .ref (A 8), .ref (A 9), .long to, .int al, .int wa, .int lf, .ref (A 10)])) :: (A 3, .inr (1, [.ref (A 11), .ref (A 12), .int (nI (nN L))])) :: (A 11, .inl (G.2.1.1, 60, .inl t)) :: (A 12, .inl (G.2.1.1, 60, .inl u)) :: (A 4, .inr (0, [.ref (A 13), .int zs])) :: (A 13, .inl (G.2.1.1, 60, .inl nu)) :: (A 6, .inr (4, [.ref (A 17), .int zl])) :: (A 17, .inl (G.2.1.1, 60, .inl lti)) :: (A 8, .inl (G.2.1.1, 4, .inl ms)) :: r) 0 0 0 [(0, .ref x), (1, .int (1 : Int32))] []
  refine J.aload_n 0 dX7_markOfCurve_0 rfl ?_
  refine J.callV 0 (st := []) B (c_X7_measureCurve l G _ hc) ml_X7_284 mf_yX7_measureCurve mi_yX7_measureCurve rfl dX7_markOfCurve_1 rfl rfl rfl rfl (fun v_1 w_2 hp_3 => ?_)
  obtain ⟨nu1, lt1, rfl, rfl⟩ := hp_3
  show J G X mX7_markOfCurve _ _ _ 4 _ []
  refine J.iload_n 1 dX7_markOfCurve_4 rfl ?_
  refine J.lookup dX7_markOfCurve_5 (by decide) (off := 27) rfl (tgt := 32) rfl ?_
  refine J.aload_n 0 dX7_markOfCurve_32 rfl ?_
  refine J.get 0 fl_X7_60 dX7_markOfCurve_33 rfl rfl ?_
  refine J.iconst (2 : Int32) dX7_markOfCurve_36 rfl ?_
  refine J.iald 8 (2) dX7_markOfCurve_37 rfl (rfl) (by omega) (by decide) ?_
  refine J.topi (y := nI (nN L)) (rfl) ?_
  exact J.iret B dX7_markOfCurve_38 rfl (⟨nu1, lt1, rfl, rfl⟩)
set_option maxHeartbeats 4000000 in
set_option maxRecDepth 100000 in
theorem c_X7_markOfCurve2 (l : Launch) (G : jG) (r : va_W) {x : Nat} {A : Nat → Nat} {ns nr : Nat} {to : Int64} {al wa lf : Int32} {L F : Nat → Int32} {t u : Nat → Int32} {zs zl : Int32} {nu lti ms : Nat → Int32} (hc : CV L F t u) : Mt l G yX7_markOfCurve mX7_markOfCurve 3 64 0 0 [.ref x, .int (2 : Int32)] ((x, .inr (7, [.ref (A 0), .int (nI ns), .ref (A 1), .int (nI nr), .ref (A 2), .ref (A 3), .ref (A 4), .ref (A 5), .ref (A 6), .ref (A 7), .ref (A 8), .ref (A 9), .long to, .int al, .int wa, .int lf, .ref (A 10)])) :: (A 3, .inr (1, [.ref (A 11), .ref (A 12), .int (nI (nN L))])) :: (A 11, .inl (G.2.1.1, 60, .inl t)) :: (A 12, .inl (G.2.1.1, 60, .inl u)) :: (A 4, .inr (0, [.ref (A 13), .int zs])) :: (A 13, .inl (G.2.1.1, 60, .inl nu)) :: (A 6, .inr (4, [.ref (A 17), .int zl])) :: (A 17, .inl (G.2.1.1, 60, .inl lti)) :: (A 8, .inl (G.2.1.1, 4, .inl ms)) :: r) (fun v w => ∃ nu1 lt1, v = some (.int (swg (lits L F 60))) ∧ w = (x, .inr (7, [.ref (A 0), .int (nI ns), .ref (A 1), .int (nI nr), .ref (A 2), .ref (A 3), .ref (A 4), .ref (A 5), .ref (A 6), .ref (A 7), .ref (A 8), .ref (A 9), .long to, .int al, .int wa, .int lf, .ref (A 10)])) :: (A 3, .inr (1, [.ref (A 11), .ref (A 12), .int (nI (nN L))])) :: (A 11, .inl (G.2.1.1, 60, .inl t)) :: (A 12, .inl (G.2.1.1, 60, .inl u)) :: (A 4, .inr (0, [.ref (A 13), .int (nI (nN L))])) :: (A 13, .inl (G.2.1.1, 60, .inl nu1)) :: (A 6, .inr (4, [.ref (A 17), .int (nI ((lowF (ltF L F) (midV (lits L F 60) - 100) (nts L 60)).1.length))])) :: (A 17, .inl (G.2.1.1, 60, .inl lt1)) :: (A 8, .inl (G.2.1.1, 4, .inl (upd (upd (upd (upd ms 0 (midV (lits L F 60))) 1 (swg (lits L F 60))) 2 (nI (nN L))) 3 (nI (lowF (ltF L F) (midV (lits L F 60) - 100) (nts L 60)).1.length)))) :: r) := by
  refine Mt.of (by decide +kernel) rfl rfl (fun X B => ?_)
  show J G X mX7_markOfCurve ((x, .inr (7, [.ref (A 0), .int (nI ns), .ref (A 1), .int (nI nr), .ref (A 2), .ref (A 3), .ref (A 4), .ref (A 5), .ref (A 6), .ref (A 7), .ref (A 8), .ref (A 9), .long to, .int al, .int wa, .int lf, .ref (A 10)])) :: (A 3, .inr (1, [.ref (A 11), .ref (A 12), .int (nI (nN L))])) :: (A 11, .inl (G.2.1.1, 60, .inl t)) :: (A 12, .inl (G.2.1.1, 60, .inl u)) :: (A 4, .inr (0, [.ref (A 13), .int zs])) :: (A 13, .inl (G.2.1.1, 60, .inl nu)) :: (A 6, .inr (4, [.ref (A 17), .int zl])) :: (A 17, .inl (G.2.1.1, 60, .inl lti)) :: (A 8, .inl (G.2.1.1, 4, .inl ms)) :: r) 0 0 0 [(0, .ref x), (1, .int (2 : Int32))] []
  refine J.aload_n 0 dX7_markOfCurve_0 rfl ?_
  refine J.callV 0 (st := []) B (c_X7_measureCurve l G _ hc) ml_X7_284 mf_yX7_measureCurve mi_yX7_measureCurve rfl dX7_markOfCurve_1 rfl rfl rfl rfl (fun v_1 w_2 hp_3 => ?_)
  obtain ⟨nu1, lt1, rfl, rfl⟩ := hp_3
  show J G X mX7_markOfCurve _ _ _ 4 _ []
  refine J.iload_n 1 dX7_markOfCurve_4 rfl ?_
  refine J.lookup dX7_markOfCurve_5 (by decide) (off := 34) rfl (tgt := 39) rfl ?_
  refine J.aload_n 0 dX7_markOfCurve_39 rfl ?_
  refine J.get 0 fl_X7_60 dX7_markOfCurve_40 rfl rfl ?_
  refine J.iconst (1 : Int32) dX7_markOfCurve_43 rfl ?_
  refine J.iald 8 (1) dX7_markOfCurve_44 rfl (rfl) (by omega) (by decide) ?_
  refine J.topi (y := swg (lits L F 60)) (rfl) ?_
  exact J.iret B dX7_markOfCurve_45 rfl (⟨nu1, lt1, rfl, rfl⟩)
set_option maxHeartbeats 4000000 in
set_option maxRecDepth 100000 in
theorem c_X7_markOfCurve3 (l : Launch) (G : jG) (r : va_W) {x : Nat} {A : Nat → Nat} {ns nr : Nat} {to : Int64} {al wa lf : Int32} {L F : Nat → Int32} {t u : Nat → Int32} {zs zl : Int32} {nu lti ms : Nat → Int32} (hc : CV L F t u) : Mt l G yX7_markOfCurve mX7_markOfCurve 3 64 0 0 [.ref x, .int (3 : Int32)] ((x, .inr (7, [.ref (A 0), .int (nI ns), .ref (A 1), .int (nI nr), .ref (A 2), .ref (A 3), .ref (A 4), .ref (A 5), .ref (A 6), .ref (A 7), .ref (A 8), .ref (A 9), .long to, .int al, .int wa, .int lf, .ref (A 10)])) :: (A 3, .inr (1, [.ref (A 11), .ref (A 12), .int (nI (nN L))])) :: (A 11, .inl (G.2.1.1, 60, .inl t)) :: (A 12, .inl (G.2.1.1, 60, .inl u)) :: (A 4, .inr (0, [.ref (A 13), .int zs])) :: (A 13, .inl (G.2.1.1, 60, .inl nu)) :: (A 6, .inr (4, [.ref (A 17), .int zl])) :: (A 17, .inl (G.2.1.1, 60, .inl lti)) :: (A 8, .inl (G.2.1.1, 4, .inl ms)) :: r) (fun v w => ∃ nu1 lt1, v = some (.int (nI (lowF (ltF L F) (midV (lits L F 60) - 100) (nts L 60)).1.length)) ∧ w = (x, .inr (7, [.ref (A 0), .int (nI ns), .ref (A 1), .int (nI nr), .ref (A 2), .ref (A 3), .ref (A 4), .ref (A 5), .ref (A 6), .ref (A 7), .ref (A 8), .ref (A 9), .long to, .int al, .int wa, .int lf, .ref (A 10)])) :: (A 3, .inr (1, [.ref (A 11), .ref (A 12), .int (nI (nN L))])) :: (A 11, .inl (G.2.1.1, 60, .inl t)) :: (A 12, .inl (G.2.1.1, 60, .inl u)) :: (A 4, .inr (0, [.ref (A 13), .int (nI (nN L))])) :: (A 13, .inl (G.2.1.1, 60, .inl nu1)) :: (A 6, .inr (4, [.ref (A 17), .int (nI ((lowF (ltF L F) (midV (lits L F 60) - 100) (nts L 60)).1.length))])) :: (A 17, .inl (G.2.1.1, 60, .inl lt1)) :: (A 8, .inl (G.2.1.1, 4, .inl (upd (upd (upd (upd ms 0 (midV (lits L F 60))) 1 (swg (lits L F 60))) 2 (nI (nN L))) 3 (nI (lowF (ltF L F) (midV (lits L F 60) - 100) (nts L 60)).1.length)))) :: r) := by
  refine Mt.of (by decide +kernel) rfl rfl (fun X B => ?_)
  show J G X mX7_markOfCurve ((x, .inr (7, [.ref (A 0), .int (nI ns), .ref (A 1), .int (nI nr), .ref (A 2), .ref (A 3), .ref (A 4), .ref (A 5), .ref (A 6), .ref (A 7), .ref (A 8), .ref (A 9), .long to, .int al, .int wa, .int lf, .ref (A 10)])) :: (A 3, .inr (1, [.ref (A 11), .ref (A 12), .int (nI (nN L))])) :: (A 11, .inl (G.2.1.1, 60, .inl t)) :: (A 12, .inl (G.2.1.1, 60, .inl u)) :: (A 4, .inr (0, [.ref (A 13), .int zs])) :: (A 13, .inl (G.2.1.1, 60, .inl nu)) :: (A 6, .inr (4, [.ref (A 17), .int zl])) :: (A 17, .inl (G.2.1.1, 60, .inl lti)) :: (A 8, .inl (G.2.1.1, 4, .inl ms)) :: r) 0 0 0 [(0, .ref x), (1, .int (3 : Int32))] []
  refine J.aload_n 0 dX7_markOfCurve_0 rfl ?_
  refine J.callV 0 (st := []) B (c_X7_measureCurve l G _ hc) ml_X7_284 mf_yX7_measureCurve mi_yX7_measureCurve rfl dX7_markOfCurve_1 rfl rfl rfl rfl (fun v_1 w_2 hp_3 => ?_)
  obtain ⟨nu1, lt1, rfl, rfl⟩ := hp_3
  show J G X mX7_markOfCurve _ _ _ 4 _ []
  refine J.iload_n 1 dX7_markOfCurve_4 rfl ?_
  refine J.lookup dX7_markOfCurve_5 (by decide) (off := 41) rfl (tgt := 46) rfl ?_
  refine J.aload_n 0 dX7_markOfCurve_46 rfl ?_
  refine J.get 0 fl_X7_60 dX7_markOfCurve_47 rfl rfl ?_
  refine J.iconst (3 : Int32) dX7_markOfCurve_50 rfl ?_
  refine J.iald 8 (3) dX7_markOfCurve_51 rfl (rfl) (by omega) (by decide) ?_
  refine J.topi (y := nI (lowF (ltF L F) (midV (lits L F 60) - 100) (nts L 60)).1.length) (rfl) ?_
  exact J.iret B dX7_markOfCurve_52 rfl (⟨nu1, lt1, rfl, rfl⟩)
set_option maxHeartbeats 4000000 in
set_option maxRecDepth 100000 in
theorem i_mark_bad (l : Launch) (G : jG) (r : va_W) {x : Nat} {A : Nat → Nat} {ns nr : Nat} {to : Int64} {al wa lf : Int32} {sa : Nat → Option Nat} {num : Int32} (hns : ns ≤ 12) (hnum : inR num 0 ((ns : Int) - 1) = false) {a : Int32} : Mt l G yX7_mark mX7_mark 4 85 0 0 [.ref x, .int num, .int a] ((x, .inr (7, [.ref (A 0), .int (nI ns), .ref (A 1), .int (nI nr), .ref (A 2), .ref (A 3), .ref (A 4), .ref (A 5), .ref (A 6), .ref (A 7), .ref (A 8), .ref (A 9), .long to, .int al, .int wa, .int lf, .ref (A 10)])) :: (A 0, .inl (G.2.1.2.2.1, 12, .inr (.inr (.inr (.inr sa))))) :: r) (fun v w => v = some (.int (-1 : Int32)) ∧ w = (x, .inr (7, [.ref (A 0), .int (nI ns), .ref (A 1), .int (nI nr), .ref (A 2), .ref (A 3), .ref (A 4), .ref (A 5), .ref (A 6), .ref (A 7), .ref (A 8), .ref (A 9), .long to, .int al, .int wa, .int lf, .ref (A 10)])) :: (A 0, .inl (G.2.1.2.2.1, 12, .inr (.inr (.inr (.inr sa))))) :: r) := by
  refine Mt.of (by decide +kernel) rfl rfl (fun X B => ?_)
  show J G X mX7_mark ((x, .inr (7, [.ref (A 0), .int (nI ns), .ref (A 1), .int (nI nr), .ref (A 2), .ref (A 3), .ref (A 4), .ref (A 5), .ref (A 6), .ref (A 7), .ref (A 8), .ref (A 9), .long to, .int al, .int wa, .int lf, .ref (A 10)])) :: (A 0, .inl (G.2.1.2.2.1, 12, .inr (.inr (.inr (.inr sa))))) :: r) 0 0 0 [(0, .ref x), (1, .int num), (2, .int a)] []
  refine J.aload_n 0 dX7_mark_0 rfl ?_
  refine J.iload_n 1 dX7_mark_1 rfl ?_
  refine J.callV 0 (st := []) B (c_X7_starNumbered_bad l G _ hns hnum) ml_X7_80 mf_yX7_starNumbered mi_yX7_starNumbered rfl dX7_mark_2 rfl rfl rfl rfl (fun v_1 w_2 hp_3 => ?_)
  obtain ⟨rfl, rfl⟩ := hp_3
  show J G X mX7_mark _ _ _ 5 _ [.null]
  refine J.astore_nN [1, 2, 3, 0] (lv' := [(0, .ref x), (1, .int num), (2, .int a), (3, .null)]) dX7_mark_5 rfl rfl ?_
  refine J.aload_nN 3 dX7_mark_6 rfl ?_
  refine J.ifnullN dX7_mark_7 ?_
  refine J.iconst (-1 : Int32) dX7_mark_17 rfl ?_
  exact J.iret B dX7_mark_18 rfl (⟨rfl, rfl⟩)
set_option maxHeartbeats 4000000 in
set_option maxRecDepth 100000 in
theorem i_mark_kind (l : Launch) (G : jG) (r : va_W) {x : Nat} {A : Nat → Nat} {ns nr : Nat} {to : Int64} {al wa lf : Int32} {sa : Nat → Option Nat} {k s : Nat} (hk : k < ns) (hns : ns ≤ 12) (hsa : sa k = some s) {a : Int32} (ha : inR a 0 3 = false) : Mt l G yX7_mark mX7_mark 4 85 0 0 [.ref x, .int (nI k), .int a] ((x, .inr (7, [.ref (A 0), .int (nI ns), .ref (A 1), .int (nI nr), .ref (A 2), .ref (A 3), .ref (A 4), .ref (A 5), .ref (A 6), .ref (A 7), .ref (A 8), .ref (A 9), .long to, .int al, .int wa, .int lf, .ref (A 10)])) :: (A 0, .inl (G.2.1.2.2.1, 12, .inr (.inr (.inr (.inr sa))))) :: r) (fun v w => v = some (.int (-1 : Int32)) ∧ w = (x, .inr (7, [.ref (A 0), .int (nI ns), .ref (A 1), .int (nI nr), .ref (A 2), .ref (A 3), .ref (A 4), .ref (A 5), .ref (A 6), .ref (A 7), .ref (A 8), .ref (A 9), .long to, .int al, .int wa, .int lf, .ref (A 10)])) :: (A 0, .inl (G.2.1.2.2.1, 12, .inr (.inr (.inr (.inr sa))))) :: r) := by
  refine Mt.of (by decide +kernel) rfl rfl (fun X B => ?_)
  show J G X mX7_mark ((x, .inr (7, [.ref (A 0), .int (nI ns), .ref (A 1), .int (nI nr), .ref (A 2), .ref (A 3), .ref (A 4), .ref (A 5), .ref (A 6), .ref (A 7), .ref (A 8), .ref (A 9), .long to, .int al, .int wa, .int lf, .ref (A 10)])) :: (A 0, .inl (G.2.1.2.2.1, 12, .inr (.inr (.inr (.inr sa))))) :: r) 0 0 0 [(0, .ref x), (1, .int (nI k)), (2, .int a)] []
  refine J.aload_n 0 dX7_mark_0 rfl ?_
  refine J.iload_n 1 dX7_mark_1 rfl ?_
  refine J.callV 0 (st := []) B (c_X7_starNumbered l G _ hk hns hsa) ml_X7_80 mf_yX7_starNumbered mi_yX7_starNumbered rfl dX7_mark_2 rfl rfl rfl rfl (fun v_1 w_2 hp_3 => ?_)
  obtain ⟨rfl, rfl⟩ := hp_3
  show J G X mX7_mark _ _ _ 5 _ [.ref s]
  refine J.astore_n [1, 2, 3, 0] (lv' := [(0, .ref x), (1, .int (nI k)), (2, .int a), (3, .ref s)]) dX7_mark_5 rfl rfl ?_
  refine J.aload_n 3 dX7_mark_6 rfl ?_
  refine J.ifnull dX7_mark_7 ?_
  refine J.iload_n 2 dX7_mark_10 rfl ?_
  refine J.callS (st := []) B (c_X7_isKind l G _ (k := a)) ml_X7_69 mf_yX7_isKind mS_yX7_isKind dX7_mark_11 rfl rfl rfl (fun v_4 w_5 hp_6 => ?_)
  obtain ⟨rfl, rfl⟩ := hp_6
  show J G X mX7_mark _ _ _ 14 _ [.int (b01 (inR a 0 3))]
  refine J.if_ne dX7_mark_14 (fun z => absurd (by rw [ha]; rfl) z) (fun h9 => ?_)
  refine J.iconst (-1 : Int32) dX7_mark_17 rfl ?_
  exact J.iret B dX7_mark_18 rfl (⟨rfl, rfl⟩)
set_option maxHeartbeats 4000000 in
set_option maxRecDepth 100000 in
theorem i_mark_unlike (l : Launch) (G : jG) (r : va_W) {x : Nat} {A : Nat → Nat} {ns nr : Nat} {to : Int64} {al wa lf : Int32} {sa : Nat → Option Nat} {la : Nat} {kd wc : Int32} {k s : Nat} (hk : k < ns) (hns : ns ≤ 12) (hsa : sa k = some s) {b : Bool} {fc : Nat → Int32} {a : Int32} (ha : inR a 0 3 = true) (ho : ofK kd a = false) : Mt l G yX7_mark mX7_mark 4 85 0 0 [.ref x, .int (nI k), .int a] ((x, .inr (7, [.ref (A 0), .int (nI ns), .ref (A 1), .int (nI nr), .ref (A 2), .ref (A 3), .ref (A 4), .ref (A 5), .ref (A 6), .ref (A 7), .ref (A 8), .ref (A 9), .long to, .int al, .int wa, .int lf, .ref (A 10)])) :: (A 0, .inl (G.2.1.2.2.1, 12, .inr (.inr (.inr (.inr sa))))) :: (s, .inr (6, [.int kd, .ref la, .int (b01 b), .int wc])) :: (A 10, .inl (G.2.1.1, 6, .inl fc)) :: r) (fun v w => v = some (.int (-3 : Int32)) ∧ w = (x, .inr (7, [.ref (A 0), .int (nI ns), .ref (A 1), .int (nI nr), .ref (A 2), .ref (A 3), .ref (A 4), .ref (A 5), .ref (A 6), .ref (A 7), .ref (A 8), .ref (A 9), .long to, .int al, .int wa, .int (nI 3), .ref (A 10)])) :: (A 0, .inl (G.2.1.2.2.1, 12, .inr (.inr (.inr (.inr sa))))) :: (s, .inr (6, [.int kd, .ref la, .int (b01 b), .int wc])) :: (A 10, .inl (G.2.1.1, 6, .inl (upd fc 3 (fc 3 + 1)))) :: r) := by
  refine Mt.of (by decide +kernel) rfl rfl (fun X B => ?_)
  show J G X mX7_mark ((x, .inr (7, [.ref (A 0), .int (nI ns), .ref (A 1), .int (nI nr), .ref (A 2), .ref (A 3), .ref (A 4), .ref (A 5), .ref (A 6), .ref (A 7), .ref (A 8), .ref (A 9), .long to, .int al, .int wa, .int lf, .ref (A 10)])) :: (A 0, .inl (G.2.1.2.2.1, 12, .inr (.inr (.inr (.inr sa))))) :: (s, .inr (6, [.int kd, .ref la, .int (b01 b), .int wc])) :: (A 10, .inl (G.2.1.1, 6, .inl fc)) :: r) 0 0 0 [(0, .ref x), (1, .int (nI k)), (2, .int a)] []
  refine J.aload_n 0 dX7_mark_0 rfl ?_
  refine J.iload_n 1 dX7_mark_1 rfl ?_
  refine J.callV 0 (st := []) B (c_X7_starNumbered l G _ hk hns hsa) ml_X7_80 mf_yX7_starNumbered mi_yX7_starNumbered rfl dX7_mark_2 rfl rfl rfl rfl (fun v_1 w_2 hp_3 => ?_)
  obtain ⟨rfl, rfl⟩ := hp_3
  show J G X mX7_mark _ _ _ 5 _ [.ref s]
  refine J.astore_n [1, 2, 3, 0] (lv' := [(0, .ref x), (1, .int (nI k)), (2, .int a), (3, .ref s)]) dX7_mark_5 rfl rfl ?_
  refine J.aload_n 3 dX7_mark_6 rfl ?_
  refine J.ifnull dX7_mark_7 ?_
  refine J.iload_n 2 dX7_mark_10 rfl ?_
  refine J.callS (st := []) B (c_X7_isKind l G _ (k := a)) ml_X7_69 mf_yX7_isKind mS_yX7_isKind dX7_mark_11 rfl rfl rfl (fun v_4 w_5 hp_6 => ?_)
  obtain ⟨rfl, rfl⟩ := hp_6
  show J G X mX7_mark _ _ _ 14 _ [.int (b01 (inR a 0 3))]
  refine J.if_ne dX7_mark_14 (fun h9 => ?_) (fun z => absurd z (by rw [ha]; decide))
  refine J.aload_n 3 dX7_mark_19 rfl ?_
  refine J.iload_n 2 dX7_mark_20 rfl ?_
  refine J.re [2, 0, 1, 3] 4 (ws2 := (s, .inr (6, [.int kd, .ref la, .int (b01 b), .int wc])) :: (x, .inr (7, [.ref (A 0), .int (nI ns), .ref (A 1), .int (nI nr), .ref (A 2), .ref (A 3), .ref (A 4), .ref (A 5), .ref (A 6), .ref (A 7), .ref (A 8), .ref (A 9), .long to, .int al, .int wa, .int lf, .ref (A 10)])) :: (A 0, .inl (G.2.1.2.2.1, 12, .inr (.inr (.inr (.inr sa))))) :: (A 10, .inl (G.2.1.1, 6, .inl fc)) :: r) rfl rfl ?_
  refine J.callV 0 (st := []) B (c_X6_isOfKind l G _ (a := a)) ml_X7_84 mf_yX6_isOfKind mi_yX6_isOfKind rfl dX7_mark_21 rfl rfl rfl rfl (fun v_7 w_8 hp_9 => ?_)
  obtain ⟨rfl, rfl⟩ := hp_9
  refine J.re [1, 2, 0, 3] 4 (ws2 := (x, .inr (7, [.ref (A 0), .int (nI ns), .ref (A 1), .int (nI nr), .ref (A 2), .ref (A 3), .ref (A 4), .ref (A 5), .ref (A 6), .ref (A 7), .ref (A 8), .ref (A 9), .long to, .int al, .int wa, .int lf, .ref (A 10)])) :: (A 0, .inl (G.2.1.2.2.1, 12, .inr (.inr (.inr (.inr sa))))) :: (s, .inr (6, [.int kd, .ref la, .int (b01 b), .int wc])) :: (A 10, .inl (G.2.1.1, 6, .inl fc)) :: r) rfl rfl ?_
  show J G X mX7_mark _ _ _ 24 _ [.int (b01 (ofK kd a))]
  refine J.if_ne dX7_mark_24 (fun z => absurd (by rw [ho]; rfl) z) (fun h8 => ?_)
  refine J.aload_n 0 dX7_mark_27 rfl ?_
  refine J.iconst (3 : Int32) dX7_mark_28 rfl ?_
  refine J.re [0, 3, 1, 2] 4 (ws2 := (x, .inr (7, [.ref (A 0), .int (nI ns), .ref (A 1), .int (nI nr), .ref (A 2), .ref (A 3), .ref (A 4), .ref (A 5), .ref (A 6), .ref (A 7), .ref (A 8), .ref (A 9), .long to, .int al, .int wa, .int lf, .ref (A 10)])) :: (A 10, .inl (G.2.1.1, 6, .inl fc)) :: (A 0, .inl (G.2.1.2.2.1, 12, .inr (.inr (.inr (.inr sa))))) :: (s, .inr (6, [.int kd, .ref la, .int (b01 b), .int wc])) :: r) rfl rfl ?_
  refine J.callV 0 (st := []) B (c_X7_found l G _ (c := 3) (by decide) (by decide)) ml_X7_87 mf_yX7_found mi_yX7_found rfl dX7_mark_29 rfl rfl rfl rfl (fun v_10 w_11 hp_12 => ?_)
  obtain ⟨rfl, rfl⟩ := hp_12
  refine J.re [0, 2, 3, 1] 4 (ws2 := (x, .inr (7, [.ref (A 0), .int (nI ns), .ref (A 1), .int (nI nr), .ref (A 2), .ref (A 3), .ref (A 4), .ref (A 5), .ref (A 6), .ref (A 7), .ref (A 8), .ref (A 9), .long to, .int al, .int wa, .int (nI 3), .ref (A 10)])) :: (A 0, .inl (G.2.1.2.2.1, 12, .inr (.inr (.inr (.inr sa))))) :: (s, .inr (6, [.int kd, .ref la, .int (b01 b), .int wc])) :: (A 10, .inl (G.2.1.1, 6, .inl (upd fc 3 (fc 3 + 1)))) :: r) rfl rfl ?_
  show J G X mX7_mark _ _ _ 32 _ [.int (-3 : Int32)]
  exact J.iret B dX7_mark_32 rfl (⟨rfl, rfl⟩)
set_option maxHeartbeats 4000000 in
set_option maxRecDepth 100000 in
theorem i_mark0 (l : Launch) (G : jG) (r : va_W) {x : Nat} {A : Nat → Nat} {ns nr : Nat} {to : Int64} {al wa lf : Int32} {sa : Nat → Option Nat} {la : Nat} {kd wc : Int32} {k s : Nat} (hk : k < ns) (hns : ns ≤ 12) (hsa : sa k = some s) {b : Bool} : Mt l G yX7_mark mX7_mark 4 85 0 0 [.ref x, .int (nI k), .int (0 : Int32)] ((x, .inr (7, [.ref (A 0), .int (nI ns), .ref (A 1), .int (nI nr), .ref (A 2), .ref (A 3), .ref (A 4), .ref (A 5), .ref (A 6), .ref (A 7), .ref (A 8), .ref (A 9), .long to, .int al, .int wa, .int lf, .ref (A 10)])) :: (A 0, .inl (G.2.1.2.2.1, 12, .inr (.inr (.inr (.inr sa))))) :: (s, .inr (6, [.int kd, .ref la, .int (b01 b), .int wc])) :: r) (fun v w => v = some (.int kd) ∧ w = (x, .inr (7, [.ref (A 0), .int (nI ns), .ref (A 1), .int (nI nr), .ref (A 2), .ref (A 3), .ref (A 4), .ref (A 5), .ref (A 6), .ref (A 7), .ref (A 8), .ref (A 9), .long to, .int al, .int wa, .int lf, .ref (A 10)])) :: (A 0, .inl (G.2.1.2.2.1, 12, .inr (.inr (.inr (.inr sa))))) :: (s, .inr (6, [.int kd, .ref la, .int (b01 b), .int wc])) :: r) := by
  refine Mt.of (by decide +kernel) rfl rfl (fun X B => ?_)
  show J G X mX7_mark ((x, .inr (7, [.ref (A 0), .int (nI ns), .ref (A 1), .int (nI nr), .ref (A 2), .ref (A 3), .ref (A 4), .ref (A 5), .ref (A 6), .ref (A 7), .ref (A 8), .ref (A 9), .long to, .int al, .int wa, .int lf, .ref (A 10)])) :: (A 0, .inl (G.2.1.2.2.1, 12, .inr (.inr (.inr (.inr sa))))) :: (s, .inr (6, [.int kd, .ref la, .int (b01 b), .int wc])) :: r) 0 0 0 [(0, .ref x), (1, .int (nI k)), (2, .int (0 : Int32))] []
  refine J.aload_n 0 dX7_mark_0 rfl ?_
  refine J.iload_n 1 dX7_mark_1 rfl ?_
  refine J.callV 0 (st := []) B (c_X7_starNumbered l G _ hk hns hsa) ml_X7_80 mf_yX7_starNumbered mi_yX7_starNumbered rfl dX7_mark_2 rfl rfl rfl rfl (fun v_1 w_2 hp_3 => ?_)
  obtain ⟨rfl, rfl⟩ := hp_3
  show J G X mX7_mark _ _ _ 5 _ [.ref s]
  refine J.astore_n [1, 2, 3, 0] (lv' := [(0, .ref x), (1, .int (nI k)), (2, .int (0 : Int32)), (3, .ref s)]) dX7_mark_5 rfl rfl ?_
  refine J.aload_n 3 dX7_mark_6 rfl ?_
  refine J.ifnull dX7_mark_7 ?_
  refine J.iload_n 2 dX7_mark_10 rfl ?_
  refine J.callS (st := []) B (c_X7_isKind l G _ (k := 0)) ml_X7_69 mf_yX7_isKind mS_yX7_isKind dX7_mark_11 rfl rfl rfl (fun v_4 w_5 hp_6 => ?_)
  obtain ⟨rfl, rfl⟩ := hp_6
  show J G X mX7_mark _ _ _ 14 _ [.int (b01 (inR 0 0 3))]
  refine J.if_ne dX7_mark_14 (fun h9 => ?_) (fun z => absurd z (by decide))
  refine J.aload_n 3 dX7_mark_19 rfl ?_
  refine J.iload_n 2 dX7_mark_20 rfl ?_
  refine J.re [2, 0, 1] 3 (ws2 := (s, .inr (6, [.int kd, .ref la, .int (b01 b), .int wc])) :: (x, .inr (7, [.ref (A 0), .int (nI ns), .ref (A 1), .int (nI nr), .ref (A 2), .ref (A 3), .ref (A 4), .ref (A 5), .ref (A 6), .ref (A 7), .ref (A 8), .ref (A 9), .long to, .int al, .int wa, .int lf, .ref (A 10)])) :: (A 0, .inl (G.2.1.2.2.1, 12, .inr (.inr (.inr (.inr sa))))) :: r) rfl rfl ?_
  refine J.callV 0 (st := []) B (c_X6_isOfKind l G _ (a := 0)) ml_X7_84 mf_yX6_isOfKind mi_yX6_isOfKind rfl dX7_mark_21 rfl rfl rfl rfl (fun v_7 w_8 hp_9 => ?_)
  obtain ⟨rfl, rfl⟩ := hp_9
  refine J.re [1, 2, 0] 3 (ws2 := (x, .inr (7, [.ref (A 0), .int (nI ns), .ref (A 1), .int (nI nr), .ref (A 2), .ref (A 3), .ref (A 4), .ref (A 5), .ref (A 6), .ref (A 7), .ref (A 8), .ref (A 9), .long to, .int al, .int wa, .int lf, .ref (A 10)])) :: (A 0, .inl (G.2.1.2.2.1, 12, .inr (.inr (.inr (.inr sa))))) :: (s, .inr (6, [.int kd, .ref la, .int (b01 b), .int wc])) :: r) rfl rfl ?_
  show J G X mX7_mark _ _ _ 24 _ [.int (b01 (ofK kd 0))]
  refine J.if_ne dX7_mark_24 (fun h8 => ?_) (fun z => absurd z (by rw [show ofK kd 0 = true from decide_eq_true (Or.inl rfl)]; decide))
  refine J.iload_n 2 dX7_mark_33 rfl ?_
  refine J.if_ne dX7_mark_34 (fun z => absurd z (by decide)) (fun _ => ?_)
  refine J.aload_n 3 dX7_mark_37 rfl ?_
  refine J.get 2 fl_X7_91 dX7_mark_38 rfl rfl ?_
  exact J.iret B dX7_mark_41 rfl (⟨rfl, rfl⟩)
set_option maxHeartbeats 4000000 in
set_option maxRecDepth 100000 in
theorem i_mark_no (l : Launch) (G : jG) (r : va_W) {x : Nat} {A : Nat → Nat} {ns nr : Nat} {to : Int64} {al wa lf : Int32} {sa : Nat → Option Nat} {la : Nat} {kd wc : Int32} {k s : Nat} (hk : k < ns) (hns : ns ≤ 12) (hsa : sa k = some s) {fc : Nat → Int32} {a : Int32} (ha : inR a 0 3 = true) (ho : ofK kd a = true) (h0 : ¬ a = 0) : Mt l G yX7_mark mX7_mark 4 85 0 0 [.ref x, .int (nI k), .int a] ((x, .inr (7, [.ref (A 0), .int (nI ns), .ref (A 1), .int (nI nr), .ref (A 2), .ref (A 3), .ref (A 4), .ref (A 5), .ref (A 6), .ref (A 7), .ref (A 8), .ref (A 9), .long to, .int al, .int wa, .int lf, .ref (A 10)])) :: (A 0, .inl (G.2.1.2.2.1, 12, .inr (.inr (.inr (.inr sa))))) :: (s, .inr (6, [.int kd, .ref la, .int (0 : Int32), .int wc])) :: (A 10, .inl (G.2.1.1, 6, .inl fc)) :: r) (fun v w => v = some (.int (-3 : Int32)) ∧ w = (x, .inr (7, [.ref (A 0), .int (nI ns), .ref (A 1), .int (nI nr), .ref (A 2), .ref (A 3), .ref (A 4), .ref (A 5), .ref (A 6), .ref (A 7), .ref (A 8), .ref (A 9), .long to, .int al, .int wa, .int (nI 1), .ref (A 10)])) :: (A 0, .inl (G.2.1.2.2.1, 12, .inr (.inr (.inr (.inr sa))))) :: (s, .inr (6, [.int kd, .ref la, .int (0 : Int32), .int wc])) :: (A 10, .inl (G.2.1.1, 6, .inl (upd fc 1 (fc 1 + 1)))) :: r) := by
  refine Mt.of (by decide +kernel) rfl rfl (fun X B => ?_)
  show J G X mX7_mark ((x, .inr (7, [.ref (A 0), .int (nI ns), .ref (A 1), .int (nI nr), .ref (A 2), .ref (A 3), .ref (A 4), .ref (A 5), .ref (A 6), .ref (A 7), .ref (A 8), .ref (A 9), .long to, .int al, .int wa, .int lf, .ref (A 10)])) :: (A 0, .inl (G.2.1.2.2.1, 12, .inr (.inr (.inr (.inr sa))))) :: (s, .inr (6, [.int kd, .ref la, .int (0 : Int32), .int wc])) :: (A 10, .inl (G.2.1.1, 6, .inl fc)) :: r) 0 0 0 [(0, .ref x), (1, .int (nI k)), (2, .int a)] []
  refine J.aload_n 0 dX7_mark_0 rfl ?_
  refine J.iload_n 1 dX7_mark_1 rfl ?_
  refine J.callV 0 (st := []) B (c_X7_starNumbered l G _ hk hns hsa) ml_X7_80 mf_yX7_starNumbered mi_yX7_starNumbered rfl dX7_mark_2 rfl rfl rfl rfl (fun v_1 w_2 hp_3 => ?_)
  obtain ⟨rfl, rfl⟩ := hp_3
  show J G X mX7_mark _ _ _ 5 _ [.ref s]
  refine J.astore_n [1, 2, 3, 0] (lv' := [(0, .ref x), (1, .int (nI k)), (2, .int a), (3, .ref s)]) dX7_mark_5 rfl rfl ?_
  refine J.aload_n 3 dX7_mark_6 rfl ?_
  refine J.ifnull dX7_mark_7 ?_
  refine J.iload_n 2 dX7_mark_10 rfl ?_
  refine J.callS (st := []) B (c_X7_isKind l G _ (k := a)) ml_X7_69 mf_yX7_isKind mS_yX7_isKind dX7_mark_11 rfl rfl rfl (fun v_4 w_5 hp_6 => ?_)
  obtain ⟨rfl, rfl⟩ := hp_6
  show J G X mX7_mark _ _ _ 14 _ [.int (b01 (inR a 0 3))]
  refine J.if_ne dX7_mark_14 (fun h9 => ?_) (fun z => absurd z (by rw [ha]; decide))
  refine J.aload_n 3 dX7_mark_19 rfl ?_
  refine J.iload_n 2 dX7_mark_20 rfl ?_
  refine J.re [2, 0, 1, 3] 4 (ws2 := (s, .inr (6, [.int kd, .ref la, .int (0 : Int32), .int wc])) :: (x, .inr (7, [.ref (A 0), .int (nI ns), .ref (A 1), .int (nI nr), .ref (A 2), .ref (A 3), .ref (A 4), .ref (A 5), .ref (A 6), .ref (A 7), .ref (A 8), .ref (A 9), .long to, .int al, .int wa, .int lf, .ref (A 10)])) :: (A 0, .inl (G.2.1.2.2.1, 12, .inr (.inr (.inr (.inr sa))))) :: (A 10, .inl (G.2.1.1, 6, .inl fc)) :: r) rfl rfl ?_
  refine J.callV 0 (st := []) B (c_X6_isOfKind l G _ (a := a)) ml_X7_84 mf_yX6_isOfKind mi_yX6_isOfKind rfl dX7_mark_21 rfl rfl rfl rfl (fun v_7 w_8 hp_9 => ?_)
  obtain ⟨rfl, rfl⟩ := hp_9
  refine J.re [1, 2, 0, 3] 4 (ws2 := (x, .inr (7, [.ref (A 0), .int (nI ns), .ref (A 1), .int (nI nr), .ref (A 2), .ref (A 3), .ref (A 4), .ref (A 5), .ref (A 6), .ref (A 7), .ref (A 8), .ref (A 9), .long to, .int al, .int wa, .int lf, .ref (A 10)])) :: (A 0, .inl (G.2.1.2.2.1, 12, .inr (.inr (.inr (.inr sa))))) :: (s, .inr (6, [.int kd, .ref la, .int (0 : Int32), .int wc])) :: (A 10, .inl (G.2.1.1, 6, .inl fc)) :: r) rfl rfl ?_
  show J G X mX7_mark _ _ _ 24 _ [.int (b01 (ofK kd a))]
  refine J.if_ne dX7_mark_24 (fun h8 => ?_) (fun z => absurd z (by rw [ho]; decide))
  refine J.iload_n 2 dX7_mark_33 rfl ?_
  refine J.if_ne dX7_mark_34 (fun h7 => ?_) (fun z => absurd z (h0))
  refine J.aload_n 0 dX7_mark_42 rfl ?_
  refine J.iload_n 1 dX7_mark_43 rfl ?_
  refine J.callV 0 (st := []) B (c_X7_gatherRow_no l G _ hk hns hsa) ml_X7_94 mf_yX7_gatherRow mi_yX7_gatherRow rfl dX7_mark_44 rfl rfl rfl rfl (fun v_10 w_11 hp_12 => ?_)
  obtain ⟨rfl, rfl⟩ := hp_12
  show J G X mX7_mark _ _ _ 47 _ [.int (-3 : Int32)]
  refine J.istore [1, 2, 3, 4, 0] (lv' := [(0, .ref x), (1, .int (nI k)), (2, .int a), (3, .ref s), (4, .int (-3 : Int32))]) dX7_mark_47 rfl rfl ?_
  refine J.iload 4 dX7_mark_49 rfl ?_
  refine J.if_ne dX7_mark_51 (fun _ => ?_) (fun z => absurd z (by decide))
  refine J.iload 4 dX7_mark_62 rfl ?_
  exact J.iret B dX7_mark_64 rfl (⟨rfl, rfl⟩)
set_option maxHeartbeats 4000000 in
set_option maxRecDepth 100000 in
theorem i_mark1 (l : Launch) (G : jG) (r : va_W) {x : Nat} {A : Nat → Nat} {ns nr : Nat} {to : Int64} {al wa lf : Int32} {sa : Nat → Option Nat} {la : Nat} {kd wc : Int32} {k s : Nat} (hk : k < ns) (hns : ns ≤ 12) (hsa : sa k = some s) {L F : Nat → Int32} {cz : Int32} {t u : Nat → Int32} {zs zl : Int32} {nu lti : Nat → Int32} {ms : Nat → Int32} (ho : ofK kd 1 = true) : Mt l G yX7_mark mX7_mark 4 85 0 0 [.ref x, .int (nI k), .int (1 : Int32)] ((x, .inr (7, [.ref (A 0), .int (nI ns), .ref (A 1), .int (nI nr), .ref (A 2), .ref (A 3), .ref (A 4), .ref (A 5), .ref (A 6), .ref (A 7), .ref (A 8), .ref (A 9), .long to, .int al, .int wa, .int lf, .ref (A 10)])) :: (A 0, .inl (G.2.1.2.2.1, 12, .inr (.inr (.inr (.inr sa))))) :: (s, .inr (6, [.int kd, .ref la, .int (1 : Int32), .int wc])) :: (la, .inl (G.2.1.1, 60, .inl L)) :: (A 2, .inl (G.2.1.1, 60, .inl F)) :: (A 3, .inr (1, [.ref (A 11), .ref (A 12), .int cz])) :: (A 11, .inl (G.2.1.1, 60, .inl t)) :: (A 12, .inl (G.2.1.1, 60, .inl u)) :: (A 4, .inr (0, [.ref (A 13), .int zs])) :: (A 13, .inl (G.2.1.1, 60, .inl nu)) :: (A 6, .inr (4, [.ref (A 17), .int zl])) :: (A 17, .inl (G.2.1.1, 60, .inl lti)) :: (A 8, .inl (G.2.1.1, 4, .inl ms)) :: r) (fun v w => ∃ t1 u1 nu1 lt1, v = some (.int (nI (nN L))) ∧ w = (x, .inr (7, [.ref (A 0), .int (nI ns), .ref (A 1), .int (nI nr), .ref (A 2), .ref (A 3), .ref (A 4), .ref (A 5), .ref (A 6), .ref (A 7), .ref (A 8), .ref (A 9), .long to, .int al, .int wa, .int lf, .ref (A 10)])) :: (A 0, .inl (G.2.1.2.2.1, 12, .inr (.inr (.inr (.inr sa))))) :: (s, .inr (6, [.int kd, .ref la, .int (1 : Int32), .int wc])) :: (la, .inl (G.2.1.1, 60, .inl L)) :: (A 2, .inl (G.2.1.1, 60, .inl F)) :: (A 3, .inr (1, [.ref (A 11), .ref (A 12), .int (nI (nN L))])) :: (A 11, .inl (G.2.1.1, 60, .inl t1)) :: (A 12, .inl (G.2.1.1, 60, .inl u1)) :: (A 4, .inr (0, [.ref (A 13), .int (nI (nN L))])) :: (A 13, .inl (G.2.1.1, 60, .inl nu1)) :: (A 6, .inr (4, [.ref (A 17), .int (nI ((lowF (ltF L F) (midV (lits L F 60) - 100) (nts L 60)).1.length))])) :: (A 17, .inl (G.2.1.1, 60, .inl lt1)) :: (A 8, .inl (G.2.1.1, 4, .inl (upd (upd (upd (upd ms 0 (midV (lits L F 60))) 1 (swg (lits L F 60))) 2 (nI (nN L))) 3 (nI (lowF (ltF L F) (midV (lits L F 60) - 100) (nts L 60)).1.length)))) :: r) := by
  refine Mt.of (by decide +kernel) rfl rfl (fun X B => ?_)
  show J G X mX7_mark ((x, .inr (7, [.ref (A 0), .int (nI ns), .ref (A 1), .int (nI nr), .ref (A 2), .ref (A 3), .ref (A 4), .ref (A 5), .ref (A 6), .ref (A 7), .ref (A 8), .ref (A 9), .long to, .int al, .int wa, .int lf, .ref (A 10)])) :: (A 0, .inl (G.2.1.2.2.1, 12, .inr (.inr (.inr (.inr sa))))) :: (s, .inr (6, [.int kd, .ref la, .int (1 : Int32), .int wc])) :: (la, .inl (G.2.1.1, 60, .inl L)) :: (A 2, .inl (G.2.1.1, 60, .inl F)) :: (A 3, .inr (1, [.ref (A 11), .ref (A 12), .int cz])) :: (A 11, .inl (G.2.1.1, 60, .inl t)) :: (A 12, .inl (G.2.1.1, 60, .inl u)) :: (A 4, .inr (0, [.ref (A 13), .int zs])) :: (A 13, .inl (G.2.1.1, 60, .inl nu)) :: (A 6, .inr (4, [.ref (A 17), .int zl])) :: (A 17, .inl (G.2.1.1, 60, .inl lti)) :: (A 8, .inl (G.2.1.1, 4, .inl ms)) :: r) 0 0 0 [(0, .ref x), (1, .int (nI k)), (2, .int (1 : Int32))] []
  refine J.aload_n 0 dX7_mark_0 rfl ?_
  refine J.iload_n 1 dX7_mark_1 rfl ?_
  refine J.callV 0 (st := []) B (c_X7_starNumbered l G _ hk hns hsa) ml_X7_80 mf_yX7_starNumbered mi_yX7_starNumbered rfl dX7_mark_2 rfl rfl rfl rfl (fun v_1 w_2 hp_3 => ?_)
  obtain ⟨rfl, rfl⟩ := hp_3
  show J G X mX7_mark _ _ _ 5 _ [.ref s]
  refine J.astore_n [1, 2, 3, 0] (lv' := [(0, .ref x), (1, .int (nI k)), (2, .int (1 : Int32)), (3, .ref s)]) dX7_mark_5 rfl rfl ?_
  refine J.aload_n 3 dX7_mark_6 rfl ?_
  refine J.ifnull dX7_mark_7 ?_
  refine J.iload_n 2 dX7_mark_10 rfl ?_
  refine J.callS (st := []) B (c_X7_isKind l G _ (k := 1)) ml_X7_69 mf_yX7_isKind mS_yX7_isKind dX7_mark_11 rfl rfl rfl (fun v_4 w_5 hp_6 => ?_)
  obtain ⟨rfl, rfl⟩ := hp_6
  show J G X mX7_mark _ _ _ 14 _ [.int (b01 (inR 1 0 3))]
  refine J.if_ne dX7_mark_14 (fun h9 => ?_) (fun z => absurd z (by decide))
  refine J.aload_n 3 dX7_mark_19 rfl ?_
  refine J.iload_n 2 dX7_mark_20 rfl ?_
  refine J.re [2, 0, 1, 3, 4, 5, 6, 7, 8, 9, 10, 11, 12] 13 (ws2 := (s, .inr (6, [.int kd, .ref la, .int (1 : Int32), .int wc])) :: (x, .inr (7, [.ref (A 0), .int (nI ns), .ref (A 1), .int (nI nr), .ref (A 2), .ref (A 3), .ref (A 4), .ref (A 5), .ref (A 6), .ref (A 7), .ref (A 8), .ref (A 9), .long to, .int al, .int wa, .int lf, .ref (A 10)])) :: (A 0, .inl (G.2.1.2.2.1, 12, .inr (.inr (.inr (.inr sa))))) :: (la, .inl (G.2.1.1, 60, .inl L)) :: (A 2, .inl (G.2.1.1, 60, .inl F)) :: (A 3, .inr (1, [.ref (A 11), .ref (A 12), .int cz])) :: (A 11, .inl (G.2.1.1, 60, .inl t)) :: (A 12, .inl (G.2.1.1, 60, .inl u)) :: (A 4, .inr (0, [.ref (A 13), .int zs])) :: (A 13, .inl (G.2.1.1, 60, .inl nu)) :: (A 6, .inr (4, [.ref (A 17), .int zl])) :: (A 17, .inl (G.2.1.1, 60, .inl lti)) :: (A 8, .inl (G.2.1.1, 4, .inl ms)) :: r) rfl rfl ?_
  refine J.callV 0 (st := []) B (c_X6_isOfKind l G _ (a := 1)) ml_X7_84 mf_yX6_isOfKind mi_yX6_isOfKind rfl dX7_mark_21 rfl rfl rfl rfl (fun v_7 w_8 hp_9 => ?_)
  obtain ⟨rfl, rfl⟩ := hp_9
  refine J.re [1, 2, 0, 3, 4, 5, 6, 7, 8, 9, 10, 11, 12] 13 (ws2 := (x, .inr (7, [.ref (A 0), .int (nI ns), .ref (A 1), .int (nI nr), .ref (A 2), .ref (A 3), .ref (A 4), .ref (A 5), .ref (A 6), .ref (A 7), .ref (A 8), .ref (A 9), .long to, .int al, .int wa, .int lf, .ref (A 10)])) :: (A 0, .inl (G.2.1.2.2.1, 12, .inr (.inr (.inr (.inr sa))))) :: (s, .inr (6, [.int kd, .ref la, .int (1 : Int32), .int wc])) :: (la, .inl (G.2.1.1, 60, .inl L)) :: (A 2, .inl (G.2.1.1, 60, .inl F)) :: (A 3, .inr (1, [.ref (A 11), .ref (A 12), .int cz])) :: (A 11, .inl (G.2.1.1, 60, .inl t)) :: (A 12, .inl (G.2.1.1, 60, .inl u)) :: (A 4, .inr (0, [.ref (A 13), .int zs])) :: (A 13, .inl (G.2.1.1, 60, .inl nu)) :: (A 6, .inr (4, [.ref (A 17), .int zl])) :: (A 17, .inl (G.2.1.1, 60, .inl lti)) :: (A 8, .inl (G.2.1.1, 4, .inl ms)) :: r) rfl rfl ?_
  show J G X mX7_mark _ _ _ 24 _ [.int (b01 (ofK kd 1))]
  refine J.if_ne dX7_mark_24 (fun h8 => ?_) (fun z => absurd z (by rw [ho]; decide))
  refine J.iload_n 2 dX7_mark_33 rfl ?_
  refine J.if_ne dX7_mark_34 (fun _ => ?_) (fun z => absurd z (by decide))
  refine J.aload_n 0 dX7_mark_42 rfl ?_
  refine J.iload_n 1 dX7_mark_43 rfl ?_
  refine J.callV 0 (st := []) B (c_X7_gatherRow l G _ hk hns hsa) ml_X7_94 mf_yX7_gatherRow mi_yX7_gatherRow rfl dX7_mark_44 rfl rfl rfl rfl (fun v_10 w_11 hp_12 => ?_)
  obtain ⟨t1, u1, hcv, rfl, rfl⟩ := hp_12
  show J G X mX7_mark _ _ _ 47 _ [.int (0 : Int32)]
  refine J.istore [1, 2, 3, 4, 0] (lv' := [(0, .ref x), (1, .int (nI k)), (2, .int (1 : Int32)), (3, .ref s), (4, .int (0 : Int32))]) dX7_mark_47 rfl rfl ?_
  refine J.iload 4 dX7_mark_49 rfl ?_
  refine J.if_ne dX7_mark_51 (fun z => absurd z (by decide)) (fun _ => ?_)
  refine J.aload_n 0 dX7_mark_54 rfl ?_
  refine J.iload_n 2 dX7_mark_55 rfl ?_
  refine J.re [0, 5, 6, 7, 8, 9, 10, 11, 12, 1, 2, 3, 4] 13 (ws2 := (x, .inr (7, [.ref (A 0), .int (nI ns), .ref (A 1), .int (nI nr), .ref (A 2), .ref (A 3), .ref (A 4), .ref (A 5), .ref (A 6), .ref (A 7), .ref (A 8), .ref (A 9), .long to, .int al, .int wa, .int lf, .ref (A 10)])) :: (A 3, .inr (1, [.ref (A 11), .ref (A 12), .int (nI (nN L))])) :: (A 11, .inl (G.2.1.1, 60, .inl t1)) :: (A 12, .inl (G.2.1.1, 60, .inl u1)) :: (A 4, .inr (0, [.ref (A 13), .int zs])) :: (A 13, .inl (G.2.1.1, 60, .inl nu)) :: (A 6, .inr (4, [.ref (A 17), .int zl])) :: (A 17, .inl (G.2.1.1, 60, .inl lti)) :: (A 8, .inl (G.2.1.1, 4, .inl ms)) :: (A 0, .inl (G.2.1.2.2.1, 12, .inr (.inr (.inr (.inr sa))))) :: (s, .inr (6, [.int kd, .ref la, .int (1 : Int32), .int wc])) :: (la, .inl (G.2.1.1, 60, .inl L)) :: (A 2, .inl (G.2.1.1, 60, .inl F)) :: r) rfl rfl ?_
  refine J.callV 0 (st := []) B (c_X7_markOfCurve1 l G _ hcv) ml_X7_97 mf_yX7_markOfCurve mi_yX7_markOfCurve rfl dX7_mark_56 rfl rfl rfl rfl (fun v_13 w_14 hp_15 => ?_)
  obtain ⟨nu1, lt1, rfl, rfl⟩ := hp_15
  refine J.re [0, 9, 10, 11, 12, 1, 2, 3, 4, 5, 6, 7, 8] 13 (ws2 := (x, .inr (7, [.ref (A 0), .int (nI ns), .ref (A 1), .int (nI nr), .ref (A 2), .ref (A 3), .ref (A 4), .ref (A 5), .ref (A 6), .ref (A 7), .ref (A 8), .ref (A 9), .long to, .int al, .int wa, .int lf, .ref (A 10)])) :: (A 0, .inl (G.2.1.2.2.1, 12, .inr (.inr (.inr (.inr sa))))) :: (s, .inr (6, [.int kd, .ref la, .int (1 : Int32), .int wc])) :: (la, .inl (G.2.1.1, 60, .inl L)) :: (A 2, .inl (G.2.1.1, 60, .inl F)) :: (A 3, .inr (1, [.ref (A 11), .ref (A 12), .int (nI (nN L))])) :: (A 11, .inl (G.2.1.1, 60, .inl t1)) :: (A 12, .inl (G.2.1.1, 60, .inl u1)) :: (A 4, .inr (0, [.ref (A 13), .int (nI (nN L))])) :: (A 13, .inl (G.2.1.1, 60, .inl nu1)) :: (A 6, .inr (4, [.ref (A 17), .int (nI ((lowF (ltF L F) (midV (lits L F 60) - 100) (nts L 60)).1.length))])) :: (A 17, .inl (G.2.1.1, 60, .inl lt1)) :: (A 8, .inl (G.2.1.1, 4, .inl (upd (upd (upd (upd ms 0 (midV (lits L F 60))) 1 (swg (lits L F 60))) 2 (nI (nN L))) 3 (nI (lowF (ltF L F) (midV (lits L F 60) - 100) (nts L 60)).1.length)))) :: r) rfl rfl ?_
  show J G X mX7_mark _ _ _ 59 _ [.int (nI (nN L))]
  refine J.goto dX7_mark_59 ?_
  exact J.iret B dX7_mark_64 rfl (⟨t1, u1, nu1, lt1, rfl, rfl⟩)
set_option maxHeartbeats 4000000 in
set_option maxRecDepth 100000 in
theorem i_mark2 (l : Launch) (G : jG) (r : va_W) {x : Nat} {A : Nat → Nat} {ns nr : Nat} {to : Int64} {al wa lf : Int32} {sa : Nat → Option Nat} {la : Nat} {kd wc : Int32} {k s : Nat} (hk : k < ns) (hns : ns ≤ 12) (hsa : sa k = some s) {L F : Nat → Int32} {cz : Int32} {t u : Nat → Int32} {zs zl : Int32} {nu lti : Nat → Int32} {ms : Nat → Int32} (ho : ofK kd 2 = true) : Mt l G yX7_mark mX7_mark 4 85 0 0 [.ref x, .int (nI k), .int (2 : Int32)] ((x, .inr (7, [.ref (A 0), .int (nI ns), .ref (A 1), .int (nI nr), .ref (A 2), .ref (A 3), .ref (A 4), .ref (A 5), .ref (A 6), .ref (A 7), .ref (A 8), .ref (A 9), .long to, .int al, .int wa, .int lf, .ref (A 10)])) :: (A 0, .inl (G.2.1.2.2.1, 12, .inr (.inr (.inr (.inr sa))))) :: (s, .inr (6, [.int kd, .ref la, .int (1 : Int32), .int wc])) :: (la, .inl (G.2.1.1, 60, .inl L)) :: (A 2, .inl (G.2.1.1, 60, .inl F)) :: (A 3, .inr (1, [.ref (A 11), .ref (A 12), .int cz])) :: (A 11, .inl (G.2.1.1, 60, .inl t)) :: (A 12, .inl (G.2.1.1, 60, .inl u)) :: (A 4, .inr (0, [.ref (A 13), .int zs])) :: (A 13, .inl (G.2.1.1, 60, .inl nu)) :: (A 6, .inr (4, [.ref (A 17), .int zl])) :: (A 17, .inl (G.2.1.1, 60, .inl lti)) :: (A 8, .inl (G.2.1.1, 4, .inl ms)) :: r) (fun v w => ∃ t1 u1 nu1 lt1, v = some (.int (swg (lits L F 60))) ∧ w = (x, .inr (7, [.ref (A 0), .int (nI ns), .ref (A 1), .int (nI nr), .ref (A 2), .ref (A 3), .ref (A 4), .ref (A 5), .ref (A 6), .ref (A 7), .ref (A 8), .ref (A 9), .long to, .int al, .int wa, .int lf, .ref (A 10)])) :: (A 0, .inl (G.2.1.2.2.1, 12, .inr (.inr (.inr (.inr sa))))) :: (s, .inr (6, [.int kd, .ref la, .int (1 : Int32), .int wc])) :: (la, .inl (G.2.1.1, 60, .inl L)) :: (A 2, .inl (G.2.1.1, 60, .inl F)) :: (A 3, .inr (1, [.ref (A 11), .ref (A 12), .int (nI (nN L))])) :: (A 11, .inl (G.2.1.1, 60, .inl t1)) :: (A 12, .inl (G.2.1.1, 60, .inl u1)) :: (A 4, .inr (0, [.ref (A 13), .int (nI (nN L))])) :: (A 13, .inl (G.2.1.1, 60, .inl nu1)) :: (A 6, .inr (4, [.ref (A 17), .int (nI ((lowF (ltF L F) (midV (lits L F 60) - 100) (nts L 60)).1.length))])) :: (A 17, .inl (G.2.1.1, 60, .inl lt1)) :: (A 8, .inl (G.2.1.1, 4, .inl (upd (upd (upd (upd ms 0 (midV (lits L F 60))) 1 (swg (lits L F 60))) 2 (nI (nN L))) 3 (nI (lowF (ltF L F) (midV (lits L F 60) - 100) (nts L 60)).1.length)))) :: r) := by
  refine Mt.of (by decide +kernel) rfl rfl (fun X B => ?_)
  show J G X mX7_mark ((x, .inr (7, [.ref (A 0), .int (nI ns), .ref (A 1), .int (nI nr), .ref (A 2), .ref (A 3), .ref (A 4), .ref (A 5), .ref (A 6), .ref (A 7), .ref (A 8), .ref (A 9), .long to, .int al, .int wa, .int lf, .ref (A 10)])) :: (A 0, .inl (G.2.1.2.2.1, 12, .inr (.inr (.inr (.inr sa))))) :: (s, .inr (6, [.int kd, .ref la, .int (1 : Int32), .int wc])) :: (la, .inl (G.2.1.1, 60, .inl L)) :: (A 2, .inl (G.2.1.1, 60, .inl F)) :: (A 3, .inr (1, [.ref (A 11), .ref (A 12), .int cz])) :: (A 11, .inl (G.2.1.1, 60, .inl t)) :: (A 12, .inl (G.2.1.1, 60, .inl u)) :: (A 4, .inr (0, [.ref (A 13), .int zs])) :: (A 13, .inl (G.2.1.1, 60, .inl nu)) :: (A 6, .inr (4, [.ref (A 17), .int zl])) :: (A 17, .inl (G.2.1.1, 60, .inl lti)) :: (A 8, .inl (G.2.1.1, 4, .inl ms)) :: r) 0 0 0 [(0, .ref x), (1, .int (nI k)), (2, .int (2 : Int32))] []
  refine J.aload_n 0 dX7_mark_0 rfl ?_
  refine J.iload_n 1 dX7_mark_1 rfl ?_
  refine J.callV 0 (st := []) B (c_X7_starNumbered l G _ hk hns hsa) ml_X7_80 mf_yX7_starNumbered mi_yX7_starNumbered rfl dX7_mark_2 rfl rfl rfl rfl (fun v_1 w_2 hp_3 => ?_)
  obtain ⟨rfl, rfl⟩ := hp_3
  show J G X mX7_mark _ _ _ 5 _ [.ref s]
  refine J.astore_n [1, 2, 3, 0] (lv' := [(0, .ref x), (1, .int (nI k)), (2, .int (2 : Int32)), (3, .ref s)]) dX7_mark_5 rfl rfl ?_
  refine J.aload_n 3 dX7_mark_6 rfl ?_
  refine J.ifnull dX7_mark_7 ?_
  refine J.iload_n 2 dX7_mark_10 rfl ?_
  refine J.callS (st := []) B (c_X7_isKind l G _ (k := 2)) ml_X7_69 mf_yX7_isKind mS_yX7_isKind dX7_mark_11 rfl rfl rfl (fun v_4 w_5 hp_6 => ?_)
  obtain ⟨rfl, rfl⟩ := hp_6
  show J G X mX7_mark _ _ _ 14 _ [.int (b01 (inR 2 0 3))]
  refine J.if_ne dX7_mark_14 (fun h9 => ?_) (fun z => absurd z (by decide))
  refine J.aload_n 3 dX7_mark_19 rfl ?_
  refine J.iload_n 2 dX7_mark_20 rfl ?_
  refine J.re [2, 0, 1, 3, 4, 5, 6, 7, 8, 9, 10, 11, 12] 13 (ws2 := (s, .inr (6, [.int kd, .ref la, .int (1 : Int32), .int wc])) :: (x, .inr (7, [.ref (A 0), .int (nI ns), .ref (A 1), .int (nI nr), .ref (A 2), .ref (A 3), .ref (A 4), .ref (A 5), .ref (A 6), .ref (A 7), .ref (A 8), .ref (A 9), .long to, .int al, .int wa, .int lf, .ref (A 10)])) :: (A 0, .inl (G.2.1.2.2.1, 12, .inr (.inr (.inr (.inr sa))))) :: (la, .inl (G.2.1.1, 60, .inl L)) :: (A 2, .inl (G.2.1.1, 60, .inl F)) :: (A 3, .inr (1, [.ref (A 11), .ref (A 12), .int cz])) :: (A 11, .inl (G.2.1.1, 60, .inl t)) :: (A 12, .inl (G.2.1.1, 60, .inl u)) :: (A 4, .inr (0, [.ref (A 13), .int zs])) :: (A 13, .inl (G.2.1.1, 60, .inl nu)) :: (A 6, .inr (4, [.ref (A 17), .int zl])) :: (A 17, .inl (G.2.1.1, 60, .inl lti)) :: (A 8, .inl (G.2.1.1, 4, .inl ms)) :: r) rfl rfl ?_
  refine J.callV 0 (st := []) B (c_X6_isOfKind l G _ (a := 2)) ml_X7_84 mf_yX6_isOfKind mi_yX6_isOfKind rfl dX7_mark_21 rfl rfl rfl rfl (fun v_7 w_8 hp_9 => ?_)
  obtain ⟨rfl, rfl⟩ := hp_9
  refine J.re [1, 2, 0, 3, 4, 5, 6, 7, 8, 9, 10, 11, 12] 13 (ws2 := (x, .inr (7, [.ref (A 0), .int (nI ns), .ref (A 1), .int (nI nr), .ref (A 2), .ref (A 3), .ref (A 4), .ref (A 5), .ref (A 6), .ref (A 7), .ref (A 8), .ref (A 9), .long to, .int al, .int wa, .int lf, .ref (A 10)])) :: (A 0, .inl (G.2.1.2.2.1, 12, .inr (.inr (.inr (.inr sa))))) :: (s, .inr (6, [.int kd, .ref la, .int (1 : Int32), .int wc])) :: (la, .inl (G.2.1.1, 60, .inl L)) :: (A 2, .inl (G.2.1.1, 60, .inl F)) :: (A 3, .inr (1, [.ref (A 11), .ref (A 12), .int cz])) :: (A 11, .inl (G.2.1.1, 60, .inl t)) :: (A 12, .inl (G.2.1.1, 60, .inl u)) :: (A 4, .inr (0, [.ref (A 13), .int zs])) :: (A 13, .inl (G.2.1.1, 60, .inl nu)) :: (A 6, .inr (4, [.ref (A 17), .int zl])) :: (A 17, .inl (G.2.1.1, 60, .inl lti)) :: (A 8, .inl (G.2.1.1, 4, .inl ms)) :: r) rfl rfl ?_
  show J G X mX7_mark _ _ _ 24 _ [.int (b01 (ofK kd 2))]
  refine J.if_ne dX7_mark_24 (fun h8 => ?_) (fun z => absurd z (by rw [ho]; decide))
  refine J.iload_n 2 dX7_mark_33 rfl ?_
  refine J.if_ne dX7_mark_34 (fun _ => ?_) (fun z => absurd z (by decide))
  refine J.aload_n 0 dX7_mark_42 rfl ?_
  refine J.iload_n 1 dX7_mark_43 rfl ?_
  refine J.callV 0 (st := []) B (c_X7_gatherRow l G _ hk hns hsa) ml_X7_94 mf_yX7_gatherRow mi_yX7_gatherRow rfl dX7_mark_44 rfl rfl rfl rfl (fun v_10 w_11 hp_12 => ?_)
  obtain ⟨t1, u1, hcv, rfl, rfl⟩ := hp_12
  show J G X mX7_mark _ _ _ 47 _ [.int (0 : Int32)]
  refine J.istore [1, 2, 3, 4, 0] (lv' := [(0, .ref x), (1, .int (nI k)), (2, .int (2 : Int32)), (3, .ref s), (4, .int (0 : Int32))]) dX7_mark_47 rfl rfl ?_
  refine J.iload 4 dX7_mark_49 rfl ?_
  refine J.if_ne dX7_mark_51 (fun z => absurd z (by decide)) (fun _ => ?_)
  refine J.aload_n 0 dX7_mark_54 rfl ?_
  refine J.iload_n 2 dX7_mark_55 rfl ?_
  refine J.re [0, 5, 6, 7, 8, 9, 10, 11, 12, 1, 2, 3, 4] 13 (ws2 := (x, .inr (7, [.ref (A 0), .int (nI ns), .ref (A 1), .int (nI nr), .ref (A 2), .ref (A 3), .ref (A 4), .ref (A 5), .ref (A 6), .ref (A 7), .ref (A 8), .ref (A 9), .long to, .int al, .int wa, .int lf, .ref (A 10)])) :: (A 3, .inr (1, [.ref (A 11), .ref (A 12), .int (nI (nN L))])) :: (A 11, .inl (G.2.1.1, 60, .inl t1)) :: (A 12, .inl (G.2.1.1, 60, .inl u1)) :: (A 4, .inr (0, [.ref (A 13), .int zs])) :: (A 13, .inl (G.2.1.1, 60, .inl nu)) :: (A 6, .inr (4, [.ref (A 17), .int zl])) :: (A 17, .inl (G.2.1.1, 60, .inl lti)) :: (A 8, .inl (G.2.1.1, 4, .inl ms)) :: (A 0, .inl (G.2.1.2.2.1, 12, .inr (.inr (.inr (.inr sa))))) :: (s, .inr (6, [.int kd, .ref la, .int (1 : Int32), .int wc])) :: (la, .inl (G.2.1.1, 60, .inl L)) :: (A 2, .inl (G.2.1.1, 60, .inl F)) :: r) rfl rfl ?_
  refine J.callV 0 (st := []) B (c_X7_markOfCurve2 l G _ hcv) ml_X7_97 mf_yX7_markOfCurve mi_yX7_markOfCurve rfl dX7_mark_56 rfl rfl rfl rfl (fun v_13 w_14 hp_15 => ?_)
  obtain ⟨nu1, lt1, rfl, rfl⟩ := hp_15
  refine J.re [0, 9, 10, 11, 12, 1, 2, 3, 4, 5, 6, 7, 8] 13 (ws2 := (x, .inr (7, [.ref (A 0), .int (nI ns), .ref (A 1), .int (nI nr), .ref (A 2), .ref (A 3), .ref (A 4), .ref (A 5), .ref (A 6), .ref (A 7), .ref (A 8), .ref (A 9), .long to, .int al, .int wa, .int lf, .ref (A 10)])) :: (A 0, .inl (G.2.1.2.2.1, 12, .inr (.inr (.inr (.inr sa))))) :: (s, .inr (6, [.int kd, .ref la, .int (1 : Int32), .int wc])) :: (la, .inl (G.2.1.1, 60, .inl L)) :: (A 2, .inl (G.2.1.1, 60, .inl F)) :: (A 3, .inr (1, [.ref (A 11), .ref (A 12), .int (nI (nN L))])) :: (A 11, .inl (G.2.1.1, 60, .inl t1)) :: (A 12, .inl (G.2.1.1, 60, .inl u1)) :: (A 4, .inr (0, [.ref (A 13), .int (nI (nN L))])) :: (A 13, .inl (G.2.1.1, 60, .inl nu1)) :: (A 6, .inr (4, [.ref (A 17), .int (nI ((lowF (ltF L F) (midV (lits L F 60) - 100) (nts L 60)).1.length))])) :: (A 17, .inl (G.2.1.1, 60, .inl lt1)) :: (A 8, .inl (G.2.1.1, 4, .inl (upd (upd (upd (upd ms 0 (midV (lits L F 60))) 1 (swg (lits L F 60))) 2 (nI (nN L))) 3 (nI (lowF (ltF L F) (midV (lits L F 60) - 100) (nts L 60)).1.length)))) :: r) rfl rfl ?_
  show J G X mX7_mark _ _ _ 59 _ [.int (swg (lits L F 60))]
  refine J.goto dX7_mark_59 ?_
  exact J.iret B dX7_mark_64 rfl (⟨t1, u1, nu1, lt1, rfl, rfl⟩)
set_option maxHeartbeats 4000000 in
set_option maxRecDepth 100000 in
theorem i_mark3 (l : Launch) (G : jG) (r : va_W) {x : Nat} {A : Nat → Nat} {ns nr : Nat} {to : Int64} {al wa lf : Int32} {sa : Nat → Option Nat} {la : Nat} {kd wc : Int32} {k s : Nat} (hk : k < ns) (hns : ns ≤ 12) (hsa : sa k = some s) {L F : Nat → Int32} {cz : Int32} {t u : Nat → Int32} {zs zl : Int32} {nu lti : Nat → Int32} {ms : Nat → Int32} (ho : ofK kd 3 = true) : Mt l G yX7_mark mX7_mark 4 85 0 0 [.ref x, .int (nI k), .int (3 : Int32)] ((x, .inr (7, [.ref (A 0), .int (nI ns), .ref (A 1), .int (nI nr), .ref (A 2), .ref (A 3), .ref (A 4), .ref (A 5), .ref (A 6), .ref (A 7), .ref (A 8), .ref (A 9), .long to, .int al, .int wa, .int lf, .ref (A 10)])) :: (A 0, .inl (G.2.1.2.2.1, 12, .inr (.inr (.inr (.inr sa))))) :: (s, .inr (6, [.int kd, .ref la, .int (1 : Int32), .int wc])) :: (la, .inl (G.2.1.1, 60, .inl L)) :: (A 2, .inl (G.2.1.1, 60, .inl F)) :: (A 3, .inr (1, [.ref (A 11), .ref (A 12), .int cz])) :: (A 11, .inl (G.2.1.1, 60, .inl t)) :: (A 12, .inl (G.2.1.1, 60, .inl u)) :: (A 4, .inr (0, [.ref (A 13), .int zs])) :: (A 13, .inl (G.2.1.1, 60, .inl nu)) :: (A 6, .inr (4, [.ref (A 17), .int zl])) :: (A 17, .inl (G.2.1.1, 60, .inl lti)) :: (A 8, .inl (G.2.1.1, 4, .inl ms)) :: r) (fun v w => ∃ t1 u1 nu1 lt1, v = some (.int (nI (lowF (ltF L F) (midV (lits L F 60) - 100) (nts L 60)).1.length)) ∧ w = (x, .inr (7, [.ref (A 0), .int (nI ns), .ref (A 1), .int (nI nr), .ref (A 2), .ref (A 3), .ref (A 4), .ref (A 5), .ref (A 6), .ref (A 7), .ref (A 8), .ref (A 9), .long to, .int al, .int wa, .int lf, .ref (A 10)])) :: (A 0, .inl (G.2.1.2.2.1, 12, .inr (.inr (.inr (.inr sa))))) :: (s, .inr (6, [.int kd, .ref la, .int (1 : Int32), .int wc])) :: (la, .inl (G.2.1.1, 60, .inl L)) :: (A 2, .inl (G.2.1.1, 60, .inl F)) :: (A 3, .inr (1, [.ref (A 11), .ref (A 12), .int (nI (nN L))])) :: (A 11, .inl (G.2.1.1, 60, .inl t1)) :: (A 12, .inl (G.2.1.1, 60, .inl u1)) :: (A 4, .inr (0, [.ref (A 13), .int (nI (nN L))])) :: (A 13, .inl (G.2.1.1, 60, .inl nu1)) :: (A 6, .inr (4, [.ref (A 17), .int (nI ((lowF (ltF L F) (midV (lits L F 60) - 100) (nts L 60)).1.length))])) :: (A 17, .inl (G.2.1.1, 60, .inl lt1)) :: (A 8, .inl (G.2.1.1, 4, .inl (upd (upd (upd (upd ms 0 (midV (lits L F 60))) 1 (swg (lits L F 60))) 2 (nI (nN L))) 3 (nI (lowF (ltF L F) (midV (lits L F 60) - 100) (nts L 60)).1.length)))) :: r) := by
  refine Mt.of (by decide +kernel) rfl rfl (fun X B => ?_)
  show J G X mX7_mark ((x, .inr (7, [.ref (A 0), .int (nI ns), .ref (A 1), .int (nI nr), .ref (A 2), .ref (A 3), .ref (A 4), .ref (A 5), .ref (A 6), .ref (A 7), .ref (A 8), .ref (A 9), .long to, .int al, .int wa, .int lf, .ref (A 10)])) :: (A 0, .inl (G.2.1.2.2.1, 12, .inr (.inr (.inr (.inr sa))))) :: (s, .inr (6, [.int kd, .ref la, .int (1 : Int32), .int wc])) :: (la, .inl (G.2.1.1, 60, .inl L)) :: (A 2, .inl (G.2.1.1, 60, .inl F)) :: (A 3, .inr (1, [.ref (A 11), .ref (A 12), .int cz])) :: (A 11, .inl (G.2.1.1, 60, .inl t)) :: (A 12, .inl (G.2.1.1, 60, .inl u)) :: (A 4, .inr (0, [.ref (A 13), .int zs])) :: (A 13, .inl (G.2.1.1, 60, .inl nu)) :: (A 6, .inr (4, [.ref (A 17), .int zl])) :: (A 17, .inl (G.2.1.1, 60, .inl lti)) :: (A 8, .inl (G.2.1.1, 4, .inl ms)) :: r) 0 0 0 [(0, .ref x), (1, .int (nI k)), (2, .int (3 : Int32))] []
  refine J.aload_n 0 dX7_mark_0 rfl ?_
  refine J.iload_n 1 dX7_mark_1 rfl ?_
  refine J.callV 0 (st := []) B (c_X7_starNumbered l G _ hk hns hsa) ml_X7_80 mf_yX7_starNumbered mi_yX7_starNumbered rfl dX7_mark_2 rfl rfl rfl rfl (fun v_1 w_2 hp_3 => ?_)
  obtain ⟨rfl, rfl⟩ := hp_3
  show J G X mX7_mark _ _ _ 5 _ [.ref s]
  refine J.astore_n [1, 2, 3, 0] (lv' := [(0, .ref x), (1, .int (nI k)), (2, .int (3 : Int32)), (3, .ref s)]) dX7_mark_5 rfl rfl ?_
  refine J.aload_n 3 dX7_mark_6 rfl ?_
  refine J.ifnull dX7_mark_7 ?_
  refine J.iload_n 2 dX7_mark_10 rfl ?_
  refine J.callS (st := []) B (c_X7_isKind l G _ (k := 3)) ml_X7_69 mf_yX7_isKind mS_yX7_isKind dX7_mark_11 rfl rfl rfl (fun v_4 w_5 hp_6 => ?_)
  obtain ⟨rfl, rfl⟩ := hp_6
  show J G X mX7_mark _ _ _ 14 _ [.int (b01 (inR 3 0 3))]
  refine J.if_ne dX7_mark_14 (fun h9 => ?_) (fun z => absurd z (by decide))
  refine J.aload_n 3 dX7_mark_19 rfl ?_
  refine J.iload_n 2 dX7_mark_20 rfl ?_
  refine J.re [2, 0, 1, 3, 4, 5, 6, 7, 8, 9, 10, 11, 12] 13 (ws2 := (s, .inr (6, [.int kd, .ref la, .int (1 : Int32), .int wc])) :: (x, .inr (7, [.ref (A 0), .int (nI ns), .ref (A 1), .int (nI nr), .ref (A 2), .ref (A 3), .ref (A 4), .ref (A 5), .ref (A 6), .ref (A 7), .ref (A 8), .ref (A 9), .long to, .int al, .int wa, .int lf, .ref (A 10)])) :: (A 0, .inl (G.2.1.2.2.1, 12, .inr (.inr (.inr (.inr sa))))) :: (la, .inl (G.2.1.1, 60, .inl L)) :: (A 2, .inl (G.2.1.1, 60, .inl F)) :: (A 3, .inr (1, [.ref (A 11), .ref (A 12), .int cz])) :: (A 11, .inl (G.2.1.1, 60, .inl t)) :: (A 12, .inl (G.2.1.1, 60, .inl u)) :: (A 4, .inr (0, [.ref (A 13), .int zs])) :: (A 13, .inl (G.2.1.1, 60, .inl nu)) :: (A 6, .inr (4, [.ref (A 17), .int zl])) :: (A 17, .inl (G.2.1.1, 60, .inl lti)) :: (A 8, .inl (G.2.1.1, 4, .inl ms)) :: r) rfl rfl ?_
  refine J.callV 0 (st := []) B (c_X6_isOfKind l G _ (a := 3)) ml_X7_84 mf_yX6_isOfKind mi_yX6_isOfKind rfl dX7_mark_21 rfl rfl rfl rfl (fun v_7 w_8 hp_9 => ?_)
  obtain ⟨rfl, rfl⟩ := hp_9
  refine J.re [1, 2, 0, 3, 4, 5, 6, 7, 8, 9, 10, 11, 12] 13 (ws2 := (x, .inr (7, [.ref (A 0), .int (nI ns), .ref (A 1), .int (nI nr), .ref (A 2), .ref (A 3), .ref (A 4), .ref (A 5), .ref (A 6), .ref (A 7), .ref (A 8), .ref (A 9), .long to, .int al, .int wa, .int lf, .ref (A 10)])) :: (A 0, .inl (G.2.1.2.2.1, 12, .inr (.inr (.inr (.inr sa))))) :: (s, .inr (6, [.int kd, .ref la, .int (1 : Int32), .int wc])) :: (la, .inl (G.2.1.1, 60, .inl L)) :: (A 2, .inl (G.2.1.1, 60, .inl F)) :: (A 3, .inr (1, [.ref (A 11), .ref (A 12), .int cz])) :: (A 11, .inl (G.2.1.1, 60, .inl t)) :: (A 12, .inl (G.2.1.1, 60, .inl u)) :: (A 4, .inr (0, [.ref (A 13), .int zs])) :: (A 13, .inl (G.2.1.1, 60, .inl nu)) :: (A 6, .inr (4, [.ref (A 17), .int zl])) :: (A 17, .inl (G.2.1.1, 60, .inl lti)) :: (A 8, .inl (G.2.1.1, 4, .inl ms)) :: r) rfl rfl ?_
  show J G X mX7_mark _ _ _ 24 _ [.int (b01 (ofK kd 3))]
  refine J.if_ne dX7_mark_24 (fun h8 => ?_) (fun z => absurd z (by rw [ho]; decide))
  refine J.iload_n 2 dX7_mark_33 rfl ?_
  refine J.if_ne dX7_mark_34 (fun _ => ?_) (fun z => absurd z (by decide))
  refine J.aload_n 0 dX7_mark_42 rfl ?_
  refine J.iload_n 1 dX7_mark_43 rfl ?_
  refine J.callV 0 (st := []) B (c_X7_gatherRow l G _ hk hns hsa) ml_X7_94 mf_yX7_gatherRow mi_yX7_gatherRow rfl dX7_mark_44 rfl rfl rfl rfl (fun v_10 w_11 hp_12 => ?_)
  obtain ⟨t1, u1, hcv, rfl, rfl⟩ := hp_12
  show J G X mX7_mark _ _ _ 47 _ [.int (0 : Int32)]
  refine J.istore [1, 2, 3, 4, 0] (lv' := [(0, .ref x), (1, .int (nI k)), (2, .int (3 : Int32)), (3, .ref s), (4, .int (0 : Int32))]) dX7_mark_47 rfl rfl ?_
  refine J.iload 4 dX7_mark_49 rfl ?_
  refine J.if_ne dX7_mark_51 (fun z => absurd z (by decide)) (fun _ => ?_)
  refine J.aload_n 0 dX7_mark_54 rfl ?_
  refine J.iload_n 2 dX7_mark_55 rfl ?_
  refine J.re [0, 5, 6, 7, 8, 9, 10, 11, 12, 1, 2, 3, 4] 13 (ws2 := (x, .inr (7, [.ref (A 0), .int (nI ns), .ref (A 1), .int (nI nr), .ref (A 2), .ref (A 3), .ref (A 4), .ref (A 5), .ref (A 6), .ref (A 7), .ref (A 8), .ref (A 9), .long to, .int al, .int wa, .int lf, .ref (A 10)])) :: (A 3, .inr (1, [.ref (A 11), .ref (A 12), .int (nI (nN L))])) :: (A 11, .inl (G.2.1.1, 60, .inl t1)) :: (A 12, .inl (G.2.1.1, 60, .inl u1)) :: (A 4, .inr (0, [.ref (A 13), .int zs])) :: (A 13, .inl (G.2.1.1, 60, .inl nu)) :: (A 6, .inr (4, [.ref (A 17), .int zl])) :: (A 17, .inl (G.2.1.1, 60, .inl lti)) :: (A 8, .inl (G.2.1.1, 4, .inl ms)) :: (A 0, .inl (G.2.1.2.2.1, 12, .inr (.inr (.inr (.inr sa))))) :: (s, .inr (6, [.int kd, .ref la, .int (1 : Int32), .int wc])) :: (la, .inl (G.2.1.1, 60, .inl L)) :: (A 2, .inl (G.2.1.1, 60, .inl F)) :: r) rfl rfl ?_
  refine J.callV 0 (st := []) B (c_X7_markOfCurve3 l G _ hcv) ml_X7_97 mf_yX7_markOfCurve mi_yX7_markOfCurve rfl dX7_mark_56 rfl rfl rfl rfl (fun v_13 w_14 hp_15 => ?_)
  obtain ⟨nu1, lt1, rfl, rfl⟩ := hp_15
  refine J.re [0, 9, 10, 11, 12, 1, 2, 3, 4, 5, 6, 7, 8] 13 (ws2 := (x, .inr (7, [.ref (A 0), .int (nI ns), .ref (A 1), .int (nI nr), .ref (A 2), .ref (A 3), .ref (A 4), .ref (A 5), .ref (A 6), .ref (A 7), .ref (A 8), .ref (A 9), .long to, .int al, .int wa, .int lf, .ref (A 10)])) :: (A 0, .inl (G.2.1.2.2.1, 12, .inr (.inr (.inr (.inr sa))))) :: (s, .inr (6, [.int kd, .ref la, .int (1 : Int32), .int wc])) :: (la, .inl (G.2.1.1, 60, .inl L)) :: (A 2, .inl (G.2.1.1, 60, .inl F)) :: (A 3, .inr (1, [.ref (A 11), .ref (A 12), .int (nI (nN L))])) :: (A 11, .inl (G.2.1.1, 60, .inl t1)) :: (A 12, .inl (G.2.1.1, 60, .inl u1)) :: (A 4, .inr (0, [.ref (A 13), .int (nI (nN L))])) :: (A 13, .inl (G.2.1.1, 60, .inl nu1)) :: (A 6, .inr (4, [.ref (A 17), .int (nI ((lowF (ltF L F) (midV (lits L F 60) - 100) (nts L 60)).1.length))])) :: (A 17, .inl (G.2.1.1, 60, .inl lt1)) :: (A 8, .inl (G.2.1.1, 4, .inl (upd (upd (upd (upd ms 0 (midV (lits L F 60))) 1 (swg (lits L F 60))) 2 (nI (nN L))) 3 (nI (lowF (ltF L F) (midV (lits L F 60) - 100) (nts L 60)).1.length)))) :: r) rfl rfl ?_
  show J G X mX7_mark _ _ _ 59 _ [.int (nI (lowF (ltF L F) (midV (lits L F 60) - 100) (nts L 60)).1.length)]
  refine J.goto dX7_mark_59 ?_
  exact J.iret B dX7_mark_64 rfl (⟨t1, u1, nu1, lt1, rfl, rfl⟩)
