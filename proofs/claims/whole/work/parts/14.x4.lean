set_option maxHeartbeats 4000000 in
set_option maxRecDepth 100000 in
theorem c_X4_has (l : Launch) (G : jG) (r : va_W) {o ta sz : Nat} {i : Int32} (hs : sz ≤ 60) : Mt l G yX4_has mX4_has 0 0 0 0 [.ref o, .int i] ((o, .inr (4, [.ref ta, .int (nI sz)])) :: r) (fun v w => v = some (.int (b01 (decide (0 ≤ i ∧ i < nI sz)))) ∧ w = oX4 o ta (nI sz) :: r) := by
  refine Mt.of (by decide +kernel) rfl rfl (fun X B => ?_)
  show J G X mX4_has ((o, .inr (4, [.ref ta, .int (nI sz)])) :: r) 0 0 0 [(0, .ref o), (1, .int i)] []
  refine J.iload_n 1 dX4_has_0 rfl ?_
  refine J.if_lt dX4_has_1 (fun h9 => ?_) (fun h9 => ?_)
  · skip
    refine J.iconst (0 : Int32) dX4_has_16 rfl ?_
    exact J.zret B dX4_has_17 rfl (by decide) (⟨by rw [decide_eq_false (fun z => by first | exact absurd h9 (Int32.not_lt.mpr z.1) | exact absurd h8 (Int32.not_le.mpr z.2))]; rfl, rfl⟩)
  · skip
    refine J.iload_n 1 dX4_has_4 rfl ?_
    refine J.aload_n 0 dX4_has_5 rfl ?_
    refine J.get 0 fl_X4_15 dX4_has_6 rfl rfl ?_
    refine J.icmp_ge dX4_has_9 (fun h8 => ?_) (fun h8 => ?_)
    · skip
      refine J.iconst (0 : Int32) dX4_has_16 rfl ?_
      exact J.zret B dX4_has_17 rfl (by decide) (⟨by rw [decide_eq_false (fun z => by first | exact absurd h9 (Int32.not_lt.mpr z.1) | exact absurd h8 (Int32.not_le.mpr z.2))]; rfl, rfl⟩)
    · skip
      refine J.iconst (1 : Int32) dX4_has_12 rfl ?_
      refine J.goto dX4_has_13 ?_
      exact J.zret B dX4_has_17 rfl (by decide) (⟨by rw [decide_eq_true ⟨Int32.not_lt.mp h9, Int32.not_le.mp h8⟩]; rfl, rfl⟩)
set_option maxHeartbeats 4000000 in
set_option maxRecDepth 100000 in
theorem X4_gather_lp {l : Launch} {G : jG} {X : jX} {r : va_W} {o ta c cta cua : Nat} {L F t u : Nat → Int32} {due : Int32} (B : jB l G X 0 0 0 0 (fun v w => ∃ T, AG T ((lowF (ltF L F) due (nts L 60)).1.map nI) ∧ v = none ∧ w = oX4 o ta (nI (lowF (ltF L F) due (nts L 60)).1.length) :: iA G ta 60 T :: oX1 c cta cua (nI (nN L)) :: iA G cta 60 t :: iA G cua 60 u :: r) "gather") (i : Nat) (rl : List Nat) (run : Bool) (le : Int32) (T : Nat → Int32) (hc : CV L F t u) (hi : i ≤ nN L) (hs : lowF (ltF L F) due ((nts L 60).take i) = (rl, run)) (hle : run = true → ∃ x xs, rl = x :: xs ∧ le = ltF L F x) (hT : AG T (rl.map nI)) : J G X mX4_gather ((o, .inr (4, [.ref ta, .int (nI rl.length)])) :: (ta, .inl (G.2.1.1, 60, .inl T)) :: (c, .inr (1, [.ref cta, .ref cua, .int (nI (nN L))])) :: (cta, .inl (G.2.1.1, 60, .inl t)) :: (cua, .inl (G.2.1.1, 60, .inl u)) :: r) 0 0 13 [(0, .ref o), (1, .ref c), (2, .int due), (3, .int (b01 run)), (4, .int le), (5, .int (nI i))] [] := by
  have hn := nN_le L
  have hlen : rl.length ≤ i := lowF_take_len hs
  cases run with
  | false =>
    show J G X mX4_gather ((o, .inr (4, [.ref ta, .int (nI rl.length)])) :: (ta, .inl (G.2.1.1, 60, .inl T)) :: (c, .inr (1, [.ref cta, .ref cua, .int (nI (nN L))])) :: (cta, .inl (G.2.1.1, 60, .inl t)) :: (cua, .inl (G.2.1.1, 60, .inl u)) :: r) 0 0 13 [(0, .ref o), (1, .ref c), (2, .int due), (3, .int (0 : Int32)), (4, .int le), (5, .int (nI i))] []
    refine J.iload 5 dX4_gather_13 rfl ?_
    refine J.aload_n 1 dX4_gather_15 rfl ?_
    refine J.get 2 fl_X4_19 dX4_gather_16 rfl rfl ?_
    refine J.icmp_ge dX4_gather_19 (fun h9 => ?_) (fun h9 => ?_)
    · skip
      have h9 : (nN L) ≤ i := (nI_leI (a := (nN L)) (b := i) (by omega) (by omega)).mp h9
      have e : i = nN L := by omega
      subst e
      rw [List.take_length] at hs
      exact J.vret B dX4_gather_116 rfl (⟨T, by rw [hs]; exact hT, rfl, by first | (rw [hs]; done) | (rw [hs]; rfl)⟩)
    · skip
      have h9 : ¬ (nN L) ≤ i := fun z => h9 ((nI_leI (a := (nN L)) (b := i) (by omega) (by omega)).mpr z)
      have h9 : i < nN L := by omega
      refine J.aload_n 1 dX4_gather_22 rfl ?_
      refine J.get 2 fl_X4_22 dX4_gather_23 rfl rfl ?_
      refine J.iload 5 dX4_gather_26 rfl ?_
      refine J.iald 4 (i) dX4_gather_28 rfl (rfl) (by omega) (by decide) ?_
      refine J.topi (y := ltF L F (ntN L i)) ((hc i h9).2) ?_
      refine J.iload_n 2 dX4_gather_29 rfl ?_
      refine J.icmp_gt dX4_gather_30 (fun h8 => ?_) (fun h8 => ?_)
      · skip
        refine J.iconst (0 : Int32) dX4_gather_37 rfl ?_
        refine J.istore [1, 2, 3, 4, 5, 6, 0] (lv' := [(0, .ref o), (1, .ref c), (2, .int due), (3, .int (0 : Int32)), (4, .int le), (5, .int (nI i)), (6, .int (0 : Int32))]) dX4_gather_38 rfl rfl ?_
        refine J.iload 6 dX4_gather_40 rfl ?_
        refine J.if_eq dX4_gather_42 (fun _ => ?_) (fun z => absurd z (by decide))
        refine J.iload 6 dX4_gather_59 rfl ?_
        refine J.if_eq dX4_gather_61 (fun _ => ?_) (fun z => absurd z (by decide))
        refine J.iload 6 dX4_gather_107 rfl ?_
        refine J.istore_n [1, 2, 3, 0, 4, 5, 6] (lv' := [(0, .ref o), (1, .ref c), (2, .int due), (3, .int (0 : Int32)), (4, .int le), (5, .int (nI i)), (6, .int (0 : Int32))]) dX4_gather_109 rfl rfl ?_
        refine J.iinc 5 [1, 2, 3, 4, 5, 0, 6] (lv' := [(0, .ref o), (1, .ref c), (2, .int due), (3, .int (0 : Int32)), (4, .int le), (5, .int (nI (i + 1))), (6, .int (0 : Int32))]) dX4_gather_110 rfl (jinc1 _) rfl rfl ?_
        refine J.goto dX4_gather_113 ?_
        refine J.loc [0, 1, 2, 3, 4, 5] (lv' := [(0, .ref o), (1, .ref c), (2, .int due), (3, .int (0 : Int32)), (4, .int le), (5, .int (nI (i + 1)))]) rfl ?_
        exact X4_gather_lp B (i + 1) rl false _ T hc (by omega) (by rw [take_lowF h9, hs]; exact lowG_no h8) (fun z => by cases z) hT
      · skip
        refine J.iconst (1 : Int32) dX4_gather_33 rfl ?_
        refine J.goto dX4_gather_34 ?_
        refine J.istore [1, 2, 3, 4, 5, 6, 0] (lv' := [(0, .ref o), (1, .ref c), (2, .int due), (3, .int (0 : Int32)), (4, .int le), (5, .int (nI i)), (6, .int (1 : Int32))]) dX4_gather_38 rfl rfl ?_
        refine J.iload 6 dX4_gather_40 rfl ?_
        refine J.if_eq dX4_gather_42 (fun z => absurd z (by decide)) (fun _ => ?_)
        refine J.iload_n 3 dX4_gather_45 rfl ?_
        refine J.if_ne dX4_gather_46 (fun z => absurd z (by decide)) (fun _ => ?_)
        refine J.aload_n 0 dX4_gather_49 rfl ?_
        refine J.dup dX4_gather_50 rfl ?_
        refine J.get 0 fl_X4_15 dX4_gather_51 rfl rfl ?_
        refine J.iconst (1 : Int32) dX4_gather_54 rfl ?_
        refine J.iadd dX4_gather_55 ?_
        refine J.topi (y := nI ((rl.length) + 1)) (nI_add (rl.length) 1) ?_
        refine J.put 0 fp_X4_15 dX4_gather_56 rfl (rfl) (rfl) rfl (ws' := (o, .inr (4, [.ref ta, .int (nI ((rl.length) + 1))])) :: (ta, .inl (G.2.1.1, 60, .inl T)) :: (c, .inr (1, [.ref cta, .ref cua, .int (nI (nN L))])) :: (cta, .inl (G.2.1.1, 60, .inl t)) :: (cua, .inl (G.2.1.1, 60, .inl u)) :: r) rfl ?_
        refine J.iload 6 dX4_gather_59 rfl ?_
        refine J.if_eq dX4_gather_61 (fun z => absurd z (by decide)) (fun _ => ?_)
        refine J.iload_n 3 dX4_gather_64 rfl ?_
        refine J.if_eq dX4_gather_65 (fun _ => ?_) (fun z => absurd z (by decide))
        refine J.aload_n 1 dX4_gather_80 rfl ?_
        refine J.get 2 fl_X4_22 dX4_gather_81 rfl rfl ?_
        refine J.iload 5 dX4_gather_84 rfl ?_
        refine J.iald 4 (i) dX4_gather_86 rfl (rfl) (by omega) (by decide) ?_
        refine J.topi (y := ltF L F (ntN L i)) ((hc i h9).2) ?_
        refine J.istore [1, 2, 3, 4, 0, 5, 6] (lv' := [(0, .ref o), (1, .ref c), (2, .int due), (3, .int (0 : Int32)), (4, .int (ltF L F (ntN L i))), (5, .int (nI i)), (6, .int (1 : Int32))]) dX4_gather_87 rfl rfl ?_
        refine J.aload_n 0 dX4_gather_89 rfl ?_
        refine J.get 0 fl_X4_9 dX4_gather_90 rfl rfl ?_
        refine J.aload_n 0 dX4_gather_93 rfl ?_
        refine J.get 0 fl_X4_15 dX4_gather_94 rfl rfl ?_
        refine J.iconst (1 : Int32) dX4_gather_97 rfl ?_
        refine J.isub dX4_gather_98 ?_
        refine J.topi (y := nI (rl.length)) (pk_sub (a := (rl.length) + 1) (b := 1) (by omega)) ?_
        refine J.aload_n 1 dX4_gather_99 rfl ?_
        refine J.get 2 fl_X4_25 dX4_gather_100 rfl rfl ?_
        refine J.iload 5 dX4_gather_103 rfl ?_
        refine J.iald 3 (i) dX4_gather_105 rfl (rfl) (by omega) (by decide) ?_
        refine J.topi (y := nI (ntN L i)) ((hc i h9).1) ?_
        refine J.iast 1 ((rl.length)) dX4_gather_106 rfl (rfl) (by omega) (by decide) (ws' := (o, .inr (4, [.ref ta, .int (nI ((rl.length) + 1))])) :: (ta, .inl (G.2.1.1, 60, .inl (upd T (rl.length) (nI (ntN L i))))) :: (c, .inr (1, [.ref cta, .ref cua, .int (nI (nN L))])) :: (cta, .inl (G.2.1.1, 60, .inl t)) :: (cua, .inl (G.2.1.1, 60, .inl u)) :: r) rfl ?_
        refine J.iload 6 dX4_gather_107 rfl ?_
        refine J.istore_n [1, 2, 3, 0, 4, 5, 6] (lv' := [(0, .ref o), (1, .ref c), (2, .int due), (3, .int (1 : Int32)), (4, .int (ltF L F (ntN L i))), (5, .int (nI i)), (6, .int (1 : Int32))]) dX4_gather_109 rfl rfl ?_
        refine J.iinc 5 [1, 2, 3, 4, 5, 0, 6] (lv' := [(0, .ref o), (1, .ref c), (2, .int due), (3, .int (1 : Int32)), (4, .int (ltF L F (ntN L i))), (5, .int (nI (i + 1))), (6, .int (1 : Int32))]) dX4_gather_110 rfl (jinc1 _) rfl rfl ?_
        refine J.goto dX4_gather_113 ?_
        refine J.loc [0, 1, 2, 3, 4, 5] (lv' := [(0, .ref o), (1, .ref c), (2, .int due), (3, .int (1 : Int32)), (4, .int (ltF L F (ntN L i))), (5, .int (nI (i + 1)))]) rfl ?_
        exact X4_gather_lp B (i + 1) (ntN L i :: rl) true _ _ hc (by omega) (by rw [take_lowF h9, hs]; exact lowG_new h8) (fun _ => ⟨_, _, rfl, rfl⟩) (AGm_push hT)
  | true =>
    obtain ⟨x, xs, rfl, rfl⟩ := hle rfl
    show J G X mX4_gather ((o, .inr (4, [.ref ta, .int (nI (xs.length + 1))])) :: (ta, .inl (G.2.1.1, 60, .inl T)) :: (c, .inr (1, [.ref cta, .ref cua, .int (nI (nN L))])) :: (cta, .inl (G.2.1.1, 60, .inl t)) :: (cua, .inl (G.2.1.1, 60, .inl u)) :: r) 0 0 13 [(0, .ref o), (1, .ref c), (2, .int due), (3, .int (1 : Int32)), (4, .int (ltF L F x)), (5, .int (nI i))] []
    rw [List.length_cons] at hlen
    refine J.iload 5 dX4_gather_13 rfl ?_
    refine J.aload_n 1 dX4_gather_15 rfl ?_
    refine J.get 2 fl_X4_19 dX4_gather_16 rfl rfl ?_
    refine J.icmp_ge dX4_gather_19 (fun h9 => ?_) (fun h9 => ?_)
    · skip
      have h9 : (nN L) ≤ i := (nI_leI (a := (nN L)) (b := i) (by omega) (by omega)).mp h9
      have e : i = nN L := by omega
      subst e
      rw [List.take_length] at hs
      exact J.vret B dX4_gather_116 rfl (⟨T, by rw [hs]; exact hT, rfl, by first | (rw [hs]; done) | (rw [hs]; rfl)⟩)
    · skip
      have h9 : ¬ (nN L) ≤ i := fun z => h9 ((nI_leI (a := (nN L)) (b := i) (by omega) (by omega)).mpr z)
      have h9 : i < nN L := by omega
      refine J.aload_n 1 dX4_gather_22 rfl ?_
      refine J.get 2 fl_X4_22 dX4_gather_23 rfl rfl ?_
      refine J.iload 5 dX4_gather_26 rfl ?_
      refine J.iald 4 (i) dX4_gather_28 rfl (rfl) (by omega) (by decide) ?_
      refine J.topi (y := ltF L F (ntN L i)) ((hc i h9).2) ?_
      refine J.iload_n 2 dX4_gather_29 rfl ?_
      refine J.icmp_gt dX4_gather_30 (fun h8 => ?_) (fun h8 => ?_)
      · skip
        refine J.iconst (0 : Int32) dX4_gather_37 rfl ?_
        refine J.istore [1, 2, 3, 4, 5, 6, 0] (lv' := [(0, .ref o), (1, .ref c), (2, .int due), (3, .int (1 : Int32)), (4, .int (ltF L F x)), (5, .int (nI i)), (6, .int (0 : Int32))]) dX4_gather_38 rfl rfl ?_
        refine J.iload 6 dX4_gather_40 rfl ?_
        refine J.if_eq dX4_gather_42 (fun _ => ?_) (fun z => absurd z (by decide))
        refine J.iload 6 dX4_gather_59 rfl ?_
        refine J.if_eq dX4_gather_61 (fun _ => ?_) (fun z => absurd z (by decide))
        refine J.iload 6 dX4_gather_107 rfl ?_
        refine J.istore_n [1, 2, 3, 0, 4, 5, 6] (lv' := [(0, .ref o), (1, .ref c), (2, .int due), (3, .int (0 : Int32)), (4, .int (ltF L F x)), (5, .int (nI i)), (6, .int (0 : Int32))]) dX4_gather_109 rfl rfl ?_
        refine J.iinc 5 [1, 2, 3, 4, 5, 0, 6] (lv' := [(0, .ref o), (1, .ref c), (2, .int due), (3, .int (0 : Int32)), (4, .int (ltF L F x)), (5, .int (nI (i + 1))), (6, .int (0 : Int32))]) dX4_gather_110 rfl (jinc1 _) rfl rfl ?_
        refine J.goto dX4_gather_113 ?_
        refine J.loc [0, 1, 2, 3, 4, 5] (lv' := [(0, .ref o), (1, .ref c), (2, .int due), (3, .int (0 : Int32)), (4, .int (ltF L F x)), (5, .int (nI (i + 1)))]) rfl ?_
        exact X4_gather_lp B (i + 1) (x :: xs) false _ T hc (by omega) (by rw [take_lowF h9, hs]; exact lowG_no h8) (fun z => by cases z) hT
      · skip
        refine J.iconst (1 : Int32) dX4_gather_33 rfl ?_
        refine J.goto dX4_gather_34 ?_
        refine J.istore [1, 2, 3, 4, 5, 6, 0] (lv' := [(0, .ref o), (1, .ref c), (2, .int due), (3, .int (1 : Int32)), (4, .int (ltF L F x)), (5, .int (nI i)), (6, .int (1 : Int32))]) dX4_gather_38 rfl rfl ?_
        refine J.iload 6 dX4_gather_40 rfl ?_
        refine J.if_eq dX4_gather_42 (fun z => absurd z (by decide)) (fun _ => ?_)
        refine J.iload_n 3 dX4_gather_45 rfl ?_
        refine J.if_ne dX4_gather_46 (fun _ => ?_) (fun z => absurd z (by decide))
        refine J.iload 6 dX4_gather_59 rfl ?_
        refine J.if_eq dX4_gather_61 (fun z => absurd z (by decide)) (fun _ => ?_)
        refine J.iload_n 3 dX4_gather_64 rfl ?_
        refine J.if_eq dX4_gather_65 (fun z => absurd z (by decide)) (fun _ => ?_)
        refine J.aload_n 1 dX4_gather_68 rfl ?_
        refine J.get 2 fl_X4_22 dX4_gather_69 rfl rfl ?_
        refine J.iload 5 dX4_gather_72 rfl ?_
        refine J.iald 4 (i) dX4_gather_74 rfl (rfl) (by omega) (by decide) ?_
        refine J.topi (y := ltF L F (ntN L i)) ((hc i h9).2) ?_
        refine J.iload 4 dX4_gather_75 rfl ?_
        refine J.icmp_ge dX4_gather_77 (fun h7 => ?_) (fun h7 => ?_)
        · skip
          refine J.iload 6 dX4_gather_107 rfl ?_
          refine J.istore_n [1, 2, 3, 0, 4, 5, 6] (lv' := [(0, .ref o), (1, .ref c), (2, .int due), (3, .int (1 : Int32)), (4, .int (ltF L F x)), (5, .int (nI i)), (6, .int (1 : Int32))]) dX4_gather_109 rfl rfl ?_
          refine J.iinc 5 [1, 2, 3, 4, 5, 0, 6] (lv' := [(0, .ref o), (1, .ref c), (2, .int due), (3, .int (1 : Int32)), (4, .int (ltF L F x)), (5, .int (nI (i + 1))), (6, .int (1 : Int32))]) dX4_gather_110 rfl (jinc1 _) rfl rfl ?_
          refine J.goto dX4_gather_113 ?_
          refine J.loc [0, 1, 2, 3, 4, 5] (lv' := [(0, .ref o), (1, .ref c), (2, .int due), (3, .int (1 : Int32)), (4, .int (ltF L F x)), (5, .int (nI (i + 1)))]) rfl ?_
          exact X4_gather_lp B (i + 1) (x :: xs) true _ T hc (by omega) (by rw [take_lowF h9, hs]; exact lowG_keep h8 h7) (fun _ => ⟨_, _, rfl, rfl⟩) hT
        · skip
          refine J.aload_n 1 dX4_gather_80 rfl ?_
          refine J.get 2 fl_X4_22 dX4_gather_81 rfl rfl ?_
          refine J.iload 5 dX4_gather_84 rfl ?_
          refine J.iald 4 (i) dX4_gather_86 rfl (rfl) (by omega) (by decide) ?_
          refine J.topi (y := ltF L F (ntN L i)) ((hc i h9).2) ?_
          refine J.istore [1, 2, 3, 4, 0, 5, 6] (lv' := [(0, .ref o), (1, .ref c), (2, .int due), (3, .int (1 : Int32)), (4, .int (ltF L F (ntN L i))), (5, .int (nI i)), (6, .int (1 : Int32))]) dX4_gather_87 rfl rfl ?_
          refine J.aload_n 0 dX4_gather_89 rfl ?_
          refine J.get 0 fl_X4_9 dX4_gather_90 rfl rfl ?_
          refine J.aload_n 0 dX4_gather_93 rfl ?_
          refine J.get 0 fl_X4_15 dX4_gather_94 rfl rfl ?_
          refine J.iconst (1 : Int32) dX4_gather_97 rfl ?_
          refine J.isub dX4_gather_98 ?_
          refine J.topi (y := nI xs.length) (pk_sub (a := xs.length + 1) (b := 1) (by omega)) ?_
          refine J.aload_n 1 dX4_gather_99 rfl ?_
          refine J.get 2 fl_X4_25 dX4_gather_100 rfl rfl ?_
          refine J.iload 5 dX4_gather_103 rfl ?_
          refine J.iald 3 (i) dX4_gather_105 rfl (rfl) (by omega) (by decide) ?_
          refine J.topi (y := nI (ntN L i)) ((hc i h9).1) ?_
          refine J.iast 1 (xs.length) dX4_gather_106 rfl (rfl) (by omega) (by decide) (ws' := (o, .inr (4, [.ref ta, .int (nI (xs.length + 1))])) :: (ta, .inl (G.2.1.1, 60, .inl (upd T xs.length (nI (ntN L i))))) :: (c, .inr (1, [.ref cta, .ref cua, .int (nI (nN L))])) :: (cta, .inl (G.2.1.1, 60, .inl t)) :: (cua, .inl (G.2.1.1, 60, .inl u)) :: r) rfl ?_
          refine J.iload 6 dX4_gather_107 rfl ?_
          refine J.istore_n [1, 2, 3, 0, 4, 5, 6] (lv' := [(0, .ref o), (1, .ref c), (2, .int due), (3, .int (1 : Int32)), (4, .int (ltF L F (ntN L i))), (5, .int (nI i)), (6, .int (1 : Int32))]) dX4_gather_109 rfl rfl ?_
          refine J.iinc 5 [1, 2, 3, 4, 5, 0, 6] (lv' := [(0, .ref o), (1, .ref c), (2, .int due), (3, .int (1 : Int32)), (4, .int (ltF L F (ntN L i))), (5, .int (nI (i + 1))), (6, .int (1 : Int32))]) dX4_gather_110 rfl (jinc1 _) rfl rfl ?_
          refine J.goto dX4_gather_113 ?_
          refine J.loc [0, 1, 2, 3, 4, 5] (lv' := [(0, .ref o), (1, .ref c), (2, .int due), (3, .int (1 : Int32)), (4, .int (ltF L F (ntN L i))), (5, .int (nI (i + 1)))]) rfl ?_
          exact X4_gather_lp B (i + 1) (ntN L i :: xs) true _ _ hc (by omega) (by rw [take_lowF h9, hs]; exact lowG_less h8 h7) (fun _ => ⟨_, _, rfl, rfl⟩) (AGm_push hT.2)
termination_by nN L - i
decreasing_by all_goals omega
set_option maxHeartbeats 4000000 in
set_option maxRecDepth 100000 in
theorem c_X4_gather (l : Launch) (G : jG) (r : va_W) {o ta c cta cua : Nat} {L F t u : Nat → Int32} {due : Int32} {T : Nat → Int32} {sz : Int32} (hc : CV L F t u) : Mt l G yX4_gather mX4_gather 0 0 0 0 [.ref o, .ref c, .int due] ((o, .inr (4, [.ref ta, .int sz])) :: (ta, .inl (G.2.1.1, 60, .inl T)) :: (c, .inr (1, [.ref cta, .ref cua, .int (nI (nN L))])) :: (cta, .inl (G.2.1.1, 60, .inl t)) :: (cua, .inl (G.2.1.1, 60, .inl u)) :: r) (fun v w => ∃ T, AG T ((lowF (ltF L F) due (nts L 60)).1.map nI) ∧ v = none ∧ w = oX4 o ta (nI (lowF (ltF L F) due (nts L 60)).1.length) :: iA G ta 60 T :: oX1 c cta cua (nI (nN L)) :: iA G cta 60 t :: iA G cua 60 u :: r) := by
  refine Mt.of (by decide +kernel) rfl rfl (fun X B => ?_)
  show J G X mX4_gather ((o, .inr (4, [.ref ta, .int sz])) :: (ta, .inl (G.2.1.1, 60, .inl T)) :: (c, .inr (1, [.ref cta, .ref cua, .int (nI (nN L))])) :: (cta, .inl (G.2.1.1, 60, .inl t)) :: (cua, .inl (G.2.1.1, 60, .inl u)) :: r) 0 0 0 [(0, .ref o), (1, .ref c), (2, .int due)] []
  refine J.aload_n 0 dX4_gather_0 rfl ?_
  refine J.iconst (0 : Int32) dX4_gather_1 rfl ?_
  refine J.put 0 fp_X4_15 dX4_gather_2 rfl (rfl) (rfl) rfl (ws' := (o, .inr (4, [.ref ta, .int (0 : Int32)])) :: (ta, .inl (G.2.1.1, 60, .inl T)) :: (c, .inr (1, [.ref cta, .ref cua, .int (nI (nN L))])) :: (cta, .inl (G.2.1.1, 60, .inl t)) :: (cua, .inl (G.2.1.1, 60, .inl u)) :: r) rfl ?_
  refine J.iconst (0 : Int32) dX4_gather_5 rfl ?_
  refine J.istore_n [1, 2, 3, 0] (lv' := [(0, .ref o), (1, .ref c), (2, .int due), (3, .int (0 : Int32))]) dX4_gather_6 rfl rfl ?_
  refine J.iconst (0 : Int32) dX4_gather_7 rfl ?_
  refine J.istore [1, 2, 3, 4, 0] (lv' := [(0, .ref o), (1, .ref c), (2, .int due), (3, .int (0 : Int32)), (4, .int (0 : Int32))]) dX4_gather_8 rfl rfl ?_
  refine J.iconst (0 : Int32) dX4_gather_10 rfl ?_
  refine J.istore [1, 2, 3, 4, 5, 0] (lv' := [(0, .ref o), (1, .ref c), (2, .int due), (3, .int (0 : Int32)), (4, .int (0 : Int32)), (5, .int (0 : Int32))]) dX4_gather_11 rfl rfl ?_
  exact X4_gather_lp B 0 [] false 0 T hc (by omega) rfl (fun z => by cases z) trivial
