set_option maxHeartbeats 4000000 in
set_option maxRecDepth 100000 in
theorem X2_share_lp {l : Launch} {G : jG} {X : jX} {r : va_W} {o sa ca sia cia : Nat} {x0 y0 z0 : Int32} {c cta cua p : Nat} {L F t u : Nat → Int32} {SI CI : Nat → Int32} (B : jB l G X 1 23 0 0 (fun v w => ∃ S C, SC L F p (nts L 60) S C ∧ v = none ∧ w = (o, .inr (2, [.ref sa, .ref ca, .ref sia, .ref cia, .int (Int32.ofInt (tI L F)), .int (nI (nN L)), .int x0, .int y0, .int z0])) :: iA G sa 600 S :: iA G ca 600 C :: iA G sia 600 SI :: iA G cia 600 CI :: oX1 c cta cua (nI (nN L)) :: iA G cta 60 t :: iA G cua 60 u :: r) "share") (i : Nat) (S C : Nat → Int32) (hc : CV L F t u) (hb : BD L F) (hp : 1 ≤ p) (hp2 : p ≤ 600) (hi : i ≤ nN L) (hS : SC L F p ((nts L 60).take i) S C) : J G X mX2_share ((o, .inr (2, [.ref sa, .ref ca, .ref sia, .ref cia, .int (Int32.ofInt (smI (ltF L F) allK ((nts L 60).take i))), .int (nI (nN L)), .int x0, .int y0, .int z0])) :: (sa, .inl (G.2.1.1, 600, .inl S)) :: (ca, .inl (G.2.1.1, 600, .inl C)) :: (sia, .inl (G.2.1.1, 600, .inl SI)) :: (cia, .inl (G.2.1.1, 600, .inl CI)) :: (c, .inr (1, [.ref cta, .ref cua, .int (nI (nN L))])) :: (cta, .inl (G.2.1.1, 60, .inl t)) :: (cua, .inl (G.2.1.1, 60, .inl u)) :: r) 0 0 47 [(0, .ref o), (1, .ref c), (2, .int (nI p)), (3, .int (nI i))] [] := by
  have hn := nN_le L
  refine J.iload_n 3 dX2_share_47 rfl ?_
  refine J.aload_n 1 dX2_share_48 rfl ?_
  refine J.get 5 fl_X2_68 dX2_share_49 rfl rfl ?_
  refine J.icmp_ge dX2_share_52 (fun h9 => ?_) (fun h9 => ?_)
  · skip
    have h9 : (nN L) ≤ i := (nI_leI (a := (nN L)) (b := i) (by omega) (by omega)).mp h9
    have e : i = nN L := by omega
    subst e
    rw [List.take_length] at hS
    rw [List.take_length]
    exact J.vret B dX2_share_116 rfl (⟨S, C, hS, rfl, rfl⟩)
  · skip
    have h9 : ¬ (nN L) ≤ i := fun z => h9 ((nI_leI (a := (nN L)) (b := i) (by omega) (by omega)).mpr z)
    have h9 : i < nN L := by omega
    refine J.aload_n 1 dX2_share_55 rfl ?_
    refine J.get 5 fl_X2_76 dX2_share_56 rfl rfl ?_
    refine J.iload_n 3 dX2_share_59 rfl ?_
    refine J.iald 6 (i) dX2_share_60 rfl (rfl) (by omega) (by decide) ?_
    refine J.topi (y := nI (ntN L i)) ((hc i h9).1) ?_
    refine J.iload_n 2 dX2_share_61 rfl ?_
    refine J.iconst (1 : Int32) dX2_share_62 rfl ?_
    refine J.callS (st := []) B (c_X7_phaseOfTime l G _ (k := ntN L i) (p := p) (q := 1) hp hp2 (ntN_lt h9).1 (by decide)) ml_X2_79 mf_yX7_phaseOfTime mS_yX7_phaseOfTime dX2_share_63 rfl rfl rfl (fun v_1 w_2 hp_3 => ?_)
    obtain ⟨rfl, rfl⟩ := hp_3
    show J G X mX2_share _ _ _ 66 _ [.int (nI ((ntN L i) * 1 % p))]
    refine J.istore [1, 2, 3, 4, 0] (lv' := [(0, .ref o), (1, .ref c), (2, .int (nI p)), (3, .int (nI i)), (4, .int (nI ((ntN L i) * 1 % p)))]) dX2_share_66 rfl rfl ?_
    refine J.aload_n 0 dX2_share_68 rfl ?_
    refine J.get 0 fl_X2_9 dX2_share_69 rfl rfl ?_
    refine J.iload 4 dX2_share_72 rfl ?_
    refine J.dup2 dX2_share_74 rfl rfl ?_
    refine J.iald 1 ((ntN L i) * 1 % p) dX2_share_75 rfl (rfl) (Nat.lt_of_lt_of_le (Nat.mod_lt _ (by omega)) hp2) (by decide) ?_
    refine J.aload_n 1 dX2_share_76 rfl ?_
    refine J.get 5 fl_X2_83 dX2_share_77 rfl rfl ?_
    refine J.iload_n 3 dX2_share_80 rfl ?_
    refine J.iald 7 (i) dX2_share_81 rfl (rfl) (by omega) (by decide) ?_
    refine J.topi (y := ltF L F (ntN L i)) ((hc i h9).2) ?_
    refine J.iadd dX2_share_82 ?_
    refine J.iast 1 ((ntN L i) * 1 % p) dX2_share_83 rfl (rfl) (Nat.lt_of_lt_of_le (Nat.mod_lt _ (by omega)) hp2) (by decide) (ws' := (o, .inr (2, [.ref sa, .ref ca, .ref sia, .ref cia, .int (Int32.ofInt (smI (ltF L F) allK ((nts L 60).take i))), .int (nI (nN L)), .int x0, .int y0, .int z0])) :: (sa, .inl (G.2.1.1, 600, .inl (upd S ((ntN L i) * 1 % p) ((S ((ntN L i) * 1 % p)) + (ltF L F (ntN L i)))))) :: (ca, .inl (G.2.1.1, 600, .inl C)) :: (sia, .inl (G.2.1.1, 600, .inl SI)) :: (cia, .inl (G.2.1.1, 600, .inl CI)) :: (c, .inr (1, [.ref cta, .ref cua, .int (nI (nN L))])) :: (cta, .inl (G.2.1.1, 60, .inl t)) :: (cua, .inl (G.2.1.1, 60, .inl u)) :: r) rfl ?_
    refine J.aload_n 0 dX2_share_84 rfl ?_
    refine J.get 0 fl_X2_15 dX2_share_85 rfl rfl ?_
    refine J.iload 4 dX2_share_88 rfl ?_
    refine J.dup2 dX2_share_90 rfl rfl ?_
    refine J.iald 2 ((ntN L i) * 1 % p) dX2_share_91 rfl (rfl) (Nat.lt_of_lt_of_le (Nat.mod_lt _ (by omega)) hp2) (by decide) ?_
    refine J.iconst (1 : Int32) dX2_share_92 rfl ?_
    refine J.iadd dX2_share_93 ?_
    refine J.iast 2 ((ntN L i) * 1 % p) dX2_share_94 rfl (rfl) (Nat.lt_of_lt_of_le (Nat.mod_lt _ (by omega)) hp2) (by decide) (ws' := (o, .inr (2, [.ref sa, .ref ca, .ref sia, .ref cia, .int (Int32.ofInt (smI (ltF L F) allK ((nts L 60).take i))), .int (nI (nN L)), .int x0, .int y0, .int z0])) :: (sa, .inl (G.2.1.1, 600, .inl (upd S ((ntN L i) * 1 % p) ((S ((ntN L i) * 1 % p)) + (ltF L F (ntN L i)))))) :: (ca, .inl (G.2.1.1, 600, .inl (upd C ((ntN L i) * 1 % p) ((C ((ntN L i) * 1 % p)) + (1 : Int32))))) :: (sia, .inl (G.2.1.1, 600, .inl SI)) :: (cia, .inl (G.2.1.1, 600, .inl CI)) :: (c, .inr (1, [.ref cta, .ref cua, .int (nI (nN L))])) :: (cta, .inl (G.2.1.1, 60, .inl t)) :: (cua, .inl (G.2.1.1, 60, .inl u)) :: r) rfl ?_
    refine J.aload_n 0 dX2_share_95 rfl ?_
    refine J.dup dX2_share_96 rfl ?_
    refine J.get 0 fl_X2_65 dX2_share_97 rfl rfl ?_
    refine J.aload_n 1 dX2_share_100 rfl ?_
    refine J.get 5 fl_X2_83 dX2_share_101 rfl rfl ?_
    refine J.iload_n 3 dX2_share_104 rfl ?_
    refine J.iald 7 (i) dX2_share_105 rfl (rfl) (by omega) (by decide) ?_
    refine J.topi (y := ltF L F (ntN L i)) ((hc i h9).2) ?_
    refine J.iadd dX2_share_106 ?_
    refine J.put 0 fp_X2_65 dX2_share_107 rfl (rfl) (rfl) rfl (ws' := (o, .inr (2, [.ref sa, .ref ca, .ref sia, .ref cia, .int ((Int32.ofInt (smI (ltF L F) allK ((nts L 60).take i))) + (ltF L F (ntN L i))), .int (nI (nN L)), .int x0, .int y0, .int z0])) :: (sa, .inl (G.2.1.1, 600, .inl (upd S ((ntN L i) * 1 % p) ((S ((ntN L i) * 1 % p)) + (ltF L F (ntN L i)))))) :: (ca, .inl (G.2.1.1, 600, .inl (upd C ((ntN L i) * 1 % p) ((C ((ntN L i) * 1 % p)) + (1 : Int32))))) :: (sia, .inl (G.2.1.1, 600, .inl SI)) :: (cia, .inl (G.2.1.1, 600, .inl CI)) :: (c, .inr (1, [.ref cta, .ref cua, .int (nI (nN L))])) :: (cta, .inl (G.2.1.1, 60, .inl t)) :: (cua, .inl (G.2.1.1, 60, .inl u)) :: r) rfl ?_
    refine J.iinc 3 [1, 2, 3, 0, 4] (lv' := [(0, .ref o), (1, .ref c), (2, .int (nI p)), (3, .int (nI (i + 1))), (4, .int (nI ((ntN L i) * 1 % p)))]) dX2_share_110 rfl (jinc1 _) rfl rfl ?_
    refine J.goto dX2_share_113 ?_
    refine J.loc [0, 1, 2, 3] (lv' := [(0, .ref o), (1, .ref c), (2, .int (nI p)), (3, .int (nI (i + 1)))]) rfl ?_
    rw [all_s h9]
    exact X2_share_lp B (i + 1) _ _ hc hb hp hp2 (by omega) (SC_s hS h9 hp hp2)
termination_by nN L - i
decreasing_by all_goals omega
set_option maxHeartbeats 4000000 in
set_option maxRecDepth 100000 in
theorem c_X2_share (l : Launch) (G : jG) (r : va_W) {o sa ca sia cia : Nat} {x0 y0 z0 : Int32} {c cta cua p : Nat} {L F t u : Nat → Int32} {A n : Int32} {S C SI CI : Nat → Int32} (hc : CV L F t u) (hb : BD L F) (hp : 1 ≤ p) (hp2 : p ≤ 600) : Mt l G yX2_share mX2_share 1 23 0 0 [.ref o, .ref c, .int (nI p)] ((o, .inr (2, [.ref sa, .ref ca, .ref sia, .ref cia, .int A, .int n, .int x0, .int y0, .int z0])) :: (sa, .inl (G.2.1.1, 600, .inl S)) :: (ca, .inl (G.2.1.1, 600, .inl C)) :: (sia, .inl (G.2.1.1, 600, .inl SI)) :: (cia, .inl (G.2.1.1, 600, .inl CI)) :: (c, .inr (1, [.ref cta, .ref cua, .int (nI (nN L))])) :: (cta, .inl (G.2.1.1, 60, .inl t)) :: (cua, .inl (G.2.1.1, 60, .inl u)) :: r) (fun v w => ∃ S C, SC L F p (nts L 60) S C ∧ v = none ∧ w = (o, .inr (2, [.ref sa, .ref ca, .ref sia, .ref cia, .int (Int32.ofInt (tI L F)), .int (nI (nN L)), .int x0, .int y0, .int z0])) :: iA G sa 600 S :: iA G ca 600 C :: iA G sia 600 (flA SI 0 600) :: iA G cia 600 (flA CI 0 600) :: oX1 c cta cua (nI (nN L)) :: iA G cta 60 t :: iA G cua 60 u :: r) := by
  refine Mt.of (by decide +kernel) rfl rfl (fun X B => ?_)
  show J G X mX2_share ((o, .inr (2, [.ref sa, .ref ca, .ref sia, .ref cia, .int A, .int n, .int x0, .int y0, .int z0])) :: (sa, .inl (G.2.1.1, 600, .inl S)) :: (ca, .inl (G.2.1.1, 600, .inl C)) :: (sia, .inl (G.2.1.1, 600, .inl SI)) :: (cia, .inl (G.2.1.1, 600, .inl CI)) :: (c, .inr (1, [.ref cta, .ref cua, .int (nI (nN L))])) :: (cta, .inl (G.2.1.1, 60, .inl t)) :: (cua, .inl (G.2.1.1, 60, .inl u)) :: r) 0 0 0 [(0, .ref o), (1, .ref c), (2, .int (nI p))] []
  refine J.aload_n 0 dX2_share_0 rfl ?_
  refine J.get 0 fl_X2_9 dX2_share_1 rfl rfl ?_
  refine J.iconst (0 : Int32) dX2_share_4 rfl ?_
  refine J.re [1, 0, 2, 3, 4, 5, 6, 7] 8 (ws2 := (sa, .inl (G.2.1.1, 600, .inl S)) :: (o, .inr (2, [.ref sa, .ref ca, .ref sia, .ref cia, .int A, .int n, .int x0, .int y0, .int z0])) :: (ca, .inl (G.2.1.1, 600, .inl C)) :: (sia, .inl (G.2.1.1, 600, .inl SI)) :: (cia, .inl (G.2.1.1, 600, .inl CI)) :: (c, .inr (1, [.ref cta, .ref cua, .int (nI (nN L))])) :: (cta, .inl (G.2.1.1, 60, .inl t)) :: (cua, .inl (G.2.1.1, 60, .inl u)) :: r) rfl rfl ?_
  refine J.callS (st := []) B (c_J7_fill_53178 l G _ (n := 600) (by decide)) ml_X2_59 mf_yJ7_fill_53178 mS_yJ7_fill_53178 dX2_share_5 rfl rfl rfl (fun v_1 w_2 hp_3 => ?_)
  obtain ⟨rfl, rfl⟩ := hp_3
  refine J.re [1, 0, 2, 3, 4, 5, 6, 7] 8 (ws2 := (o, .inr (2, [.ref sa, .ref ca, .ref sia, .ref cia, .int A, .int n, .int x0, .int y0, .int z0])) :: (sa, .inl (G.2.1.1, 600, .inl (flA S (0 : Int32) 600))) :: (ca, .inl (G.2.1.1, 600, .inl C)) :: (sia, .inl (G.2.1.1, 600, .inl SI)) :: (cia, .inl (G.2.1.1, 600, .inl CI)) :: (c, .inr (1, [.ref cta, .ref cua, .int (nI (nN L))])) :: (cta, .inl (G.2.1.1, 60, .inl t)) :: (cua, .inl (G.2.1.1, 60, .inl u)) :: r) rfl rfl ?_
  show J G X mX2_share _ _ _ 8 _ []
  refine J.aload_n 0 dX2_share_8 rfl ?_
  refine J.get 0 fl_X2_15 dX2_share_9 rfl rfl ?_
  refine J.iconst (0 : Int32) dX2_share_12 rfl ?_
  refine J.re [2, 0, 1, 3, 4, 5, 6, 7] 8 (ws2 := (ca, .inl (G.2.1.1, 600, .inl C)) :: (o, .inr (2, [.ref sa, .ref ca, .ref sia, .ref cia, .int A, .int n, .int x0, .int y0, .int z0])) :: (sa, .inl (G.2.1.1, 600, .inl (flA S (0 : Int32) 600))) :: (sia, .inl (G.2.1.1, 600, .inl SI)) :: (cia, .inl (G.2.1.1, 600, .inl CI)) :: (c, .inr (1, [.ref cta, .ref cua, .int (nI (nN L))])) :: (cta, .inl (G.2.1.1, 60, .inl t)) :: (cua, .inl (G.2.1.1, 60, .inl u)) :: r) rfl rfl ?_
  refine J.callS (st := []) B (c_J7_fill_53178 l G _ (n := 600) (by decide)) ml_X2_59 mf_yJ7_fill_53178 mS_yJ7_fill_53178 dX2_share_13 rfl rfl rfl (fun v_4 w_5 hp_6 => ?_)
  obtain ⟨rfl, rfl⟩ := hp_6
  refine J.re [1, 2, 0, 3, 4, 5, 6, 7] 8 (ws2 := (o, .inr (2, [.ref sa, .ref ca, .ref sia, .ref cia, .int A, .int n, .int x0, .int y0, .int z0])) :: (sa, .inl (G.2.1.1, 600, .inl (flA S (0 : Int32) 600))) :: (ca, .inl (G.2.1.1, 600, .inl (flA C (0 : Int32) 600))) :: (sia, .inl (G.2.1.1, 600, .inl SI)) :: (cia, .inl (G.2.1.1, 600, .inl CI)) :: (c, .inr (1, [.ref cta, .ref cua, .int (nI (nN L))])) :: (cta, .inl (G.2.1.1, 60, .inl t)) :: (cua, .inl (G.2.1.1, 60, .inl u)) :: r) rfl rfl ?_
  show J G X mX2_share _ _ _ 16 _ []
  refine J.aload_n 0 dX2_share_16 rfl ?_
  refine J.get 0 fl_X2_18 dX2_share_17 rfl rfl ?_
  refine J.iconst (0 : Int32) dX2_share_20 rfl ?_
  refine J.re [3, 0, 1, 2, 4, 5, 6, 7] 8 (ws2 := (sia, .inl (G.2.1.1, 600, .inl SI)) :: (o, .inr (2, [.ref sa, .ref ca, .ref sia, .ref cia, .int A, .int n, .int x0, .int y0, .int z0])) :: (sa, .inl (G.2.1.1, 600, .inl (flA S (0 : Int32) 600))) :: (ca, .inl (G.2.1.1, 600, .inl (flA C (0 : Int32) 600))) :: (cia, .inl (G.2.1.1, 600, .inl CI)) :: (c, .inr (1, [.ref cta, .ref cua, .int (nI (nN L))])) :: (cta, .inl (G.2.1.1, 60, .inl t)) :: (cua, .inl (G.2.1.1, 60, .inl u)) :: r) rfl rfl ?_
  refine J.callS (st := []) B (c_J7_fill_53178 l G _ (n := 600) (by decide)) ml_X2_59 mf_yJ7_fill_53178 mS_yJ7_fill_53178 dX2_share_21 rfl rfl rfl (fun v_7 w_8 hp_9 => ?_)
  obtain ⟨rfl, rfl⟩ := hp_9
  refine J.re [1, 2, 3, 0, 4, 5, 6, 7] 8 (ws2 := (o, .inr (2, [.ref sa, .ref ca, .ref sia, .ref cia, .int A, .int n, .int x0, .int y0, .int z0])) :: (sa, .inl (G.2.1.1, 600, .inl (flA S (0 : Int32) 600))) :: (ca, .inl (G.2.1.1, 600, .inl (flA C (0 : Int32) 600))) :: (sia, .inl (G.2.1.1, 600, .inl (flA SI (0 : Int32) 600))) :: (cia, .inl (G.2.1.1, 600, .inl CI)) :: (c, .inr (1, [.ref cta, .ref cua, .int (nI (nN L))])) :: (cta, .inl (G.2.1.1, 60, .inl t)) :: (cua, .inl (G.2.1.1, 60, .inl u)) :: r) rfl rfl ?_
  show J G X mX2_share _ _ _ 24 _ []
  refine J.aload_n 0 dX2_share_24 rfl ?_
  refine J.get 0 fl_X2_21 dX2_share_25 rfl rfl ?_
  refine J.iconst (0 : Int32) dX2_share_28 rfl ?_
  refine J.re [4, 0, 1, 2, 3, 5, 6, 7] 8 (ws2 := (cia, .inl (G.2.1.1, 600, .inl CI)) :: (o, .inr (2, [.ref sa, .ref ca, .ref sia, .ref cia, .int A, .int n, .int x0, .int y0, .int z0])) :: (sa, .inl (G.2.1.1, 600, .inl (flA S (0 : Int32) 600))) :: (ca, .inl (G.2.1.1, 600, .inl (flA C (0 : Int32) 600))) :: (sia, .inl (G.2.1.1, 600, .inl (flA SI (0 : Int32) 600))) :: (c, .inr (1, [.ref cta, .ref cua, .int (nI (nN L))])) :: (cta, .inl (G.2.1.1, 60, .inl t)) :: (cua, .inl (G.2.1.1, 60, .inl u)) :: r) rfl rfl ?_
  refine J.callS (st := []) B (c_J7_fill_53178 l G _ (n := 600) (by decide)) ml_X2_59 mf_yJ7_fill_53178 mS_yJ7_fill_53178 dX2_share_29 rfl rfl rfl (fun v_10 w_11 hp_12 => ?_)
  obtain ⟨rfl, rfl⟩ := hp_12
  refine J.re [1, 2, 3, 4, 0, 5, 6, 7] 8 (ws2 := (o, .inr (2, [.ref sa, .ref ca, .ref sia, .ref cia, .int A, .int n, .int x0, .int y0, .int z0])) :: (sa, .inl (G.2.1.1, 600, .inl (flA S (0 : Int32) 600))) :: (ca, .inl (G.2.1.1, 600, .inl (flA C (0 : Int32) 600))) :: (sia, .inl (G.2.1.1, 600, .inl (flA SI (0 : Int32) 600))) :: (cia, .inl (G.2.1.1, 600, .inl (flA CI (0 : Int32) 600))) :: (c, .inr (1, [.ref cta, .ref cua, .int (nI (nN L))])) :: (cta, .inl (G.2.1.1, 60, .inl t)) :: (cua, .inl (G.2.1.1, 60, .inl u)) :: r) rfl rfl ?_
  show J G X mX2_share _ _ _ 32 _ []
  refine J.aload_n 0 dX2_share_32 rfl ?_
  refine J.iconst (0 : Int32) dX2_share_33 rfl ?_
  refine J.put 0 fp_X2_65 dX2_share_34 rfl (rfl) (rfl) rfl (ws' := (o, .inr (2, [.ref sa, .ref ca, .ref sia, .ref cia, .int (0 : Int32), .int n, .int x0, .int y0, .int z0])) :: (sa, .inl (G.2.1.1, 600, .inl (flA S (0 : Int32) 600))) :: (ca, .inl (G.2.1.1, 600, .inl (flA C (0 : Int32) 600))) :: (sia, .inl (G.2.1.1, 600, .inl (flA SI (0 : Int32) 600))) :: (cia, .inl (G.2.1.1, 600, .inl (flA CI (0 : Int32) 600))) :: (c, .inr (1, [.ref cta, .ref cua, .int (nI (nN L))])) :: (cta, .inl (G.2.1.1, 60, .inl t)) :: (cua, .inl (G.2.1.1, 60, .inl u)) :: r) rfl ?_
  refine J.aload_n 0 dX2_share_37 rfl ?_
  refine J.aload_n 1 dX2_share_38 rfl ?_
  refine J.get 5 fl_X2_68 dX2_share_39 rfl rfl ?_
  refine J.put 0 fp_X2_73 dX2_share_42 rfl (rfl) (rfl) rfl (ws' := (o, .inr (2, [.ref sa, .ref ca, .ref sia, .ref cia, .int (0 : Int32), .int (nI (nN L)), .int x0, .int y0, .int z0])) :: (sa, .inl (G.2.1.1, 600, .inl (flA S (0 : Int32) 600))) :: (ca, .inl (G.2.1.1, 600, .inl (flA C (0 : Int32) 600))) :: (sia, .inl (G.2.1.1, 600, .inl (flA SI (0 : Int32) 600))) :: (cia, .inl (G.2.1.1, 600, .inl (flA CI (0 : Int32) 600))) :: (c, .inr (1, [.ref cta, .ref cua, .int (nI (nN L))])) :: (cta, .inl (G.2.1.1, 60, .inl t)) :: (cua, .inl (G.2.1.1, 60, .inl u)) :: r) rfl ?_
  refine J.iconst (0 : Int32) dX2_share_45 rfl ?_
  refine J.istore_n [1, 2, 3, 0] (lv' := [(0, .ref o), (1, .ref c), (2, .int (nI p)), (3, .int (0 : Int32))]) dX2_share_46 rfl rfl ?_
  exact X2_share_lp B 0 _ _ hc hb hp hp2 (by omega) SC_0
set_option maxHeartbeats 4000000 in
set_option maxRecDepth 100000 in
theorem c_X2_widen (l : Launch) (G : jG) (r : va_W) {o sa ca sia cia : Nat} {x0 y0 z0 : Int32} {A n : Int32} {S C SI CI : Nat → Int32} {f h : Nat} (hf : f < 600) (hh : h < 600) : Mt l G yX2_widen mX2_widen 0 0 0 0 [.ref o, .int (nI f), .int (nI h)] ((o, .inr (2, [.ref sa, .ref ca, .ref sia, .ref cia, .int A, .int n, .int x0, .int y0, .int z0])) :: (sa, .inl (G.2.1.1, 600, .inl S)) :: (ca, .inl (G.2.1.1, 600, .inl C)) :: (sia, .inl (G.2.1.1, 600, .inl SI)) :: (cia, .inl (G.2.1.1, 600, .inl CI)) :: r) (fun v w => v = none ∧ w = (o, .inr (2, [.ref sa, .ref ca, .ref sia, .ref cia, .int A, .int n, .int x0, .int y0, .int z0])) :: iA G sa 600 S :: iA G ca 600 C :: iA G sia 600 (upd SI f (SI f + S h)) :: iA G cia 600 (upd CI f (CI f + C h)) :: r) := by
  refine Mt.of (by decide +kernel) rfl rfl (fun X B => ?_)
  show J G X mX2_widen ((o, .inr (2, [.ref sa, .ref ca, .ref sia, .ref cia, .int A, .int n, .int x0, .int y0, .int z0])) :: (sa, .inl (G.2.1.1, 600, .inl S)) :: (ca, .inl (G.2.1.1, 600, .inl C)) :: (sia, .inl (G.2.1.1, 600, .inl SI)) :: (cia, .inl (G.2.1.1, 600, .inl CI)) :: r) 0 0 0 [(0, .ref o), (1, .int (nI f)), (2, .int (nI h))] []
  refine J.aload_n 0 dX2_widen_0 rfl ?_
  refine J.get 0 fl_X2_18 dX2_widen_1 rfl rfl ?_
  refine J.iload_n 1 dX2_widen_4 rfl ?_
  refine J.dup2 dX2_widen_5 rfl rfl ?_
  refine J.iald 3 (f) dX2_widen_6 rfl (rfl) (by omega) (by decide) ?_
  refine J.aload_n 0 dX2_widen_7 rfl ?_
  refine J.get 0 fl_X2_9 dX2_widen_8 rfl rfl ?_
  refine J.iload_n 2 dX2_widen_11 rfl ?_
  refine J.iald 1 (h) dX2_widen_12 rfl (rfl) (by omega) (by decide) ?_
  refine J.iadd dX2_widen_13 ?_
  refine J.iast 3 (f) dX2_widen_14 rfl (rfl) (by omega) (by decide) (ws' := (o, .inr (2, [.ref sa, .ref ca, .ref sia, .ref cia, .int A, .int n, .int x0, .int y0, .int z0])) :: (sa, .inl (G.2.1.1, 600, .inl S)) :: (ca, .inl (G.2.1.1, 600, .inl C)) :: (sia, .inl (G.2.1.1, 600, .inl (upd SI f ((SI f) + (S h))))) :: (cia, .inl (G.2.1.1, 600, .inl CI)) :: r) rfl ?_
  refine J.aload_n 0 dX2_widen_15 rfl ?_
  refine J.get 0 fl_X2_21 dX2_widen_16 rfl rfl ?_
  refine J.iload_n 1 dX2_widen_19 rfl ?_
  refine J.dup2 dX2_widen_20 rfl rfl ?_
  refine J.iald 4 (f) dX2_widen_21 rfl (rfl) (by omega) (by decide) ?_
  refine J.aload_n 0 dX2_widen_22 rfl ?_
  refine J.get 0 fl_X2_15 dX2_widen_23 rfl rfl ?_
  refine J.iload_n 2 dX2_widen_26 rfl ?_
  refine J.iald 2 (h) dX2_widen_27 rfl (rfl) (by omega) (by decide) ?_
  refine J.iadd dX2_widen_28 ?_
  refine J.iast 4 (f) dX2_widen_29 rfl (rfl) (by omega) (by decide) (ws' := (o, .inr (2, [.ref sa, .ref ca, .ref sia, .ref cia, .int A, .int n, .int x0, .int y0, .int z0])) :: (sa, .inl (G.2.1.1, 600, .inl S)) :: (ca, .inl (G.2.1.1, 600, .inl C)) :: (sia, .inl (G.2.1.1, 600, .inl (upd SI f ((SI f) + (S h))))) :: (cia, .inl (G.2.1.1, 600, .inl (upd CI f ((CI f) + (C h))))) :: r) rfl ?_
  exact J.vret B dX2_widen_30 rfl (⟨rfl, rfl⟩)
set_option maxHeartbeats 4000000 in
set_option maxRecDepth 100000 in
theorem c_X2_countsHere (l : Launch) (G : jG) (r : va_W) {o sa ca sia cia : Nat} {x0 y0 z0 : Int32} {A : Int32} {CI : Nat → Int32} {f cc n : Nat} (hf : f < 600) (hc : CI f = nI cc) (h1 : cc ≤ 60) (h2 : n ≤ 60) : Mt l G yX2_countsHere mX2_countsHere 0 0 0 0 [.ref o, .int (nI f)] ((o, .inr (2, [.ref sa, .ref ca, .ref sia, .ref cia, .int A, .int (nI n), .int x0, .int y0, .int z0])) :: (cia, .inl (G.2.1.1, 600, .inl CI)) :: r) (fun v w => v = some (.int (b01 (decide (0 < cc ∧ cc < n)))) ∧ w = (o, .inr (2, [.ref sa, .ref ca, .ref sia, .ref cia, .int A, .int (nI n), .int x0, .int y0, .int z0])) :: iA G cia 600 CI :: r) := by
  refine Mt.of (by decide +kernel) rfl rfl (fun X B => ?_)
  show J G X mX2_countsHere ((o, .inr (2, [.ref sa, .ref ca, .ref sia, .ref cia, .int A, .int (nI n), .int x0, .int y0, .int z0])) :: (cia, .inl (G.2.1.1, 600, .inl CI)) :: r) 0 0 0 [(0, .ref o), (1, .int (nI f))] []
  refine J.aload_n 0 dX2_countsHere_0 rfl ?_
  refine J.get 0 fl_X2_21 dX2_countsHere_1 rfl rfl ?_
  refine J.iload_n 1 dX2_countsHere_4 rfl ?_
  refine J.iald 1 (f) dX2_countsHere_5 rfl (rfl) (by omega) (by decide) ?_
  refine J.topi (y := nI cc) (hc) ?_
  refine J.if_le dX2_countsHere_6 (fun h9 => ?_) (fun h9 => ?_)
  · skip
    have h9 : cc ≤ 0 := (nI_leI (a := cc) (b := 0) (by omega) (by omega)).mp h9
    refine J.iconst (0 : Int32) dX2_countsHere_26 rfl ?_
    exact J.zret B dX2_countsHere_27 rfl (by decide) (⟨by rw [decide_eq_false (by omega)]; rfl, rfl⟩)
  · skip
    have h9 : ¬ cc ≤ 0 := fun z => h9 ((nI_leI (a := cc) (b := 0) (by omega) (by omega)).mpr z)
    refine J.aload_n 0 dX2_countsHere_9 rfl ?_
    refine J.get 0 fl_X2_21 dX2_countsHere_10 rfl rfl ?_
    refine J.iload_n 1 dX2_countsHere_13 rfl ?_
    refine J.iald 1 (f) dX2_countsHere_14 rfl (rfl) (by omega) (by decide) ?_
    refine J.topi (y := nI cc) (hc) ?_
    refine J.aload_n 0 dX2_countsHere_15 rfl ?_
    refine J.get 0 fl_X2_73 dX2_countsHere_16 rfl rfl ?_
    refine J.icmp_ge dX2_countsHere_19 (fun h8 => ?_) (fun h8 => ?_)
    · skip
      have h8 : n ≤ cc := (nI_leI (a := n) (b := cc) (by omega) (by omega)).mp h8
      refine J.iconst (0 : Int32) dX2_countsHere_26 rfl ?_
      exact J.zret B dX2_countsHere_27 rfl (by decide) (⟨by rw [decide_eq_false (by omega)]; rfl, rfl⟩)
    · skip
      have h8 : ¬ n ≤ cc := fun z => h8 ((nI_leI (a := n) (b := cc) (by omega) (by omega)).mpr z)
      refine J.iconst (1 : Int32) dX2_countsHere_22 rfl ?_
      refine J.goto dX2_countsHere_23 ?_
      exact J.zret B dX2_countsHere_27 rfl (by decide) (⟨by rw [decide_eq_true ⟨by omega, by omega⟩]; rfl, rfl⟩)
set_option maxHeartbeats 4000000 in
set_option maxRecDepth 100000 in
theorem c_X2_depthFrom (l : Launch) (G : jG) (r : va_W) {o sa ca sia cia : Nat} {x0 y0 z0 : Int32} {L F SI CI : Nat → Int32} {p d f : Nat} (hb : BD L F) (hf : f < 600) (hS : SI f = Int32.ofInt (sI L F p d f)) (hC : CI f = nI (cI L p d f)) : Mt l G yX2_depthFrom mX2_depthFrom 0 0 0 0 [.ref o, .int (nI f)] ((o, .inr (2, [.ref sa, .ref ca, .ref sia, .ref cia, .int (Int32.ofInt (tI L F)), .int (nI (nN L)), .int x0, .int y0, .int z0])) :: (sia, .inl (G.2.1.1, 600, .inl SI)) :: (cia, .inl (G.2.1.1, 600, .inl CI)) :: r) (fun v w => v = some (.long (Int64.ofInt (dpI L F p d f))) ∧ w = (o, .inr (2, [.ref sa, .ref ca, .ref sia, .ref cia, .int (Int32.ofInt (tI L F)), .int (nI (nN L)), .int x0, .int y0, .int z0])) :: iA G sia 600 SI :: iA G cia 600 CI :: r) := by
  refine Mt.of (by decide +kernel) rfl rfl (fun X B => ?_)
  show J G X mX2_depthFrom ((o, .inr (2, [.ref sa, .ref ca, .ref sia, .ref cia, .int (Int32.ofInt (tI L F)), .int (nI (nN L)), .int x0, .int y0, .int z0])) :: (sia, .inl (G.2.1.1, 600, .inl SI)) :: (cia, .inl (G.2.1.1, 600, .inl CI)) :: r) 0 0 0 [(0, .ref o), (1, .int (nI f))] []
  refine J.aload_n 0 dX2_depthFrom_0 rfl ?_
  refine J.get 0 fl_X2_65 dX2_depthFrom_1 rfl rfl ?_
  refine J.aload_n 0 dX2_depthFrom_4 rfl ?_
  refine J.get 0 fl_X2_18 dX2_depthFrom_5 rfl rfl ?_
  refine J.iload_n 1 dX2_depthFrom_8 rfl ?_
  refine J.iald 1 (f) dX2_depthFrom_9 rfl (rfl) (by omega) (by decide) ?_
  refine J.topi (y := Int32.ofInt (sI L F p d f)) (hS) ?_
  refine J.isub dX2_depthFrom_10 ?_
  refine J.i2l dX2_depthFrom_11 ?_
  refine J.lstore_n [1, 2, 0] (lv' := [(0, .ref o), (1, .int (nI f)), (2, .long (((Int32.ofInt (tI L F)) - (Int32.ofInt (sI L F p d f))).toInt64))]) dX2_depthFrom_12 rfl rfl ?_
  refine J.aload_n 0 dX2_depthFrom_13 rfl ?_
  refine J.get 0 fl_X2_18 dX2_depthFrom_14 rfl rfl ?_
  refine J.iload_n 1 dX2_depthFrom_17 rfl ?_
  refine J.iald 1 (f) dX2_depthFrom_18 rfl (rfl) (by omega) (by decide) ?_
  refine J.topi (y := Int32.ofInt (sI L F p d f)) (hS) ?_
  refine J.i2l dX2_depthFrom_19 ?_
  refine J.lstore [1, 2, 3, 0] (lv' := [(0, .ref o), (1, .int (nI f)), (2, .long (((Int32.ofInt (tI L F)) - (Int32.ofInt (sI L F p d f))).toInt64)), (4, .long ((Int32.ofInt (sI L F p d f)).toInt64))]) dX2_depthFrom_20 rfl rfl ?_
  refine J.lload_n 2 dX2_depthFrom_22 rfl ?_
  refine J.aload_n 0 dX2_depthFrom_23 rfl ?_
  refine J.get 0 fl_X2_21 dX2_depthFrom_24 rfl rfl ?_
  refine J.iload_n 1 dX2_depthFrom_27 rfl ?_
  refine J.iald 2 (f) dX2_depthFrom_28 rfl (rfl) (by omega) (by decide) ?_
  refine J.topi (y := nI (cI L p d f)) (hC) ?_
  refine J.i2l dX2_depthFrom_29 ?_
  refine J.lmul dX2_depthFrom_30 ?_
  refine J.lload 3 dX2_depthFrom_31 rfl ?_
  refine J.aload_n 0 dX2_depthFrom_33 rfl ?_
  refine J.get 0 fl_X2_73 dX2_depthFrom_34 rfl rfl ?_
  refine J.aload_n 0 dX2_depthFrom_37 rfl ?_
  refine J.get 0 fl_X2_21 dX2_depthFrom_38 rfl rfl ?_
  refine J.iload_n 1 dX2_depthFrom_41 rfl ?_
  refine J.iald 2 (f) dX2_depthFrom_42 rfl (rfl) (by omega) (by decide) ?_
  refine J.topi (y := nI (cI L p d f)) (hC) ?_
  refine J.isub dX2_depthFrom_43 ?_
  refine J.i2l dX2_depthFrom_44 ?_
  refine J.lmul dX2_depthFrom_45 ?_
  refine J.lsub dX2_depthFrom_46 ?_
  exact J.lret B dX2_depthFrom_47 rfl (⟨by rw [dep_cls hb], rfl⟩)
set_option maxHeartbeats 4000000 in
set_option maxRecDepth 100000 in
theorem c_X2_keep (l : Launch) (G : jG) (r : va_W) {o sa ca sia cia : Nat} {x0 y0 z0 : Int32} {A n : Int32} {CI : Nat → Int32} {d f cc : Nat} (hf : f < 600) (hC : CI f = nI cc) : Mt l G yX2_keep mX2_keep 0 0 0 0 [.ref o, .int (nI d), .int (nI f)] ((o, .inr (2, [.ref sa, .ref ca, .ref sia, .ref cia, .int A, .int n, .int x0, .int y0, .int z0])) :: (cia, .inl (G.2.1.1, 600, .inl CI)) :: r) (fun v w => v = none ∧ w = (o, .inr (2, [.ref sa, .ref ca, .ref sia, .ref cia, .int A, .int n, .int (nI d), .int (nI f), .int (nI cc)])) :: iA G cia 600 CI :: r) := by
  refine Mt.of (by decide +kernel) rfl rfl (fun X B => ?_)
  show J G X mX2_keep ((o, .inr (2, [.ref sa, .ref ca, .ref sia, .ref cia, .int A, .int n, .int x0, .int y0, .int z0])) :: (cia, .inl (G.2.1.1, 600, .inl CI)) :: r) 0 0 0 [(0, .ref o), (1, .int (nI d)), (2, .int (nI f))] []
  refine J.aload_n 0 dX2_keep_0 rfl ?_
  refine J.iload_n 1 dX2_keep_1 rfl ?_
  refine J.put 0 fp_X2_24 dX2_keep_2 rfl (rfl) (rfl) rfl (ws' := (o, .inr (2, [.ref sa, .ref ca, .ref sia, .ref cia, .int A, .int n, .int (nI d), .int y0, .int z0])) :: (cia, .inl (G.2.1.1, 600, .inl CI)) :: r) rfl ?_
  refine J.aload_n 0 dX2_keep_5 rfl ?_
  refine J.iload_n 2 dX2_keep_6 rfl ?_
  refine J.put 0 fp_X2_28 dX2_keep_7 rfl (rfl) (rfl) rfl (ws' := (o, .inr (2, [.ref sa, .ref ca, .ref sia, .ref cia, .int A, .int n, .int (nI d), .int (nI f), .int z0])) :: (cia, .inl (G.2.1.1, 600, .inl CI)) :: r) rfl ?_
  refine J.aload_n 0 dX2_keep_10 rfl ?_
  refine J.aload_n 0 dX2_keep_11 rfl ?_
  refine J.get 0 fl_X2_21 dX2_keep_12 rfl rfl ?_
  refine J.iload_n 2 dX2_keep_15 rfl ?_
  refine J.iald 1 (f) dX2_keep_16 rfl (rfl) (by omega) (by decide) ?_
  refine J.topi (y := nI cc) (hC) ?_
  refine J.put 0 fp_X2_31 dX2_keep_17 rfl (rfl) (rfl) rfl (ws' := (o, .inr (2, [.ref sa, .ref ca, .ref sia, .ref cia, .int A, .int n, .int (nI d), .int (nI f), .int (nI cc)])) :: (cia, .inl (G.2.1.1, 600, .inl CI)) :: r) rfl ?_
  exact J.vret B dX2_keep_20 rfl (⟨rfl, rfl⟩)
set_option maxHeartbeats 4000000 in
set_option maxRecDepth 100000 in
theorem X2_search_in {l : Launch} {G : jG} {X : jX} {r : va_W} {o sa ca sia cia : Nat} {x0 y0 z0 : Int32} {c cta cua p mo M : Nat} {L F t u S C : Nat → Int32} (B : jB l G X 2 47 0 0 (fun v w => v = some (.int (b01 (dpO L F p M).1)) ∧ ∃ S C SI CI, w = (o, .inr (2, [.ref sa, .ref ca, .ref sia, .ref cia, .int (Int32.ofInt (tI L F)), .int (nI (nN L)), .int (dpV (dpO L F p M).1 (dpO L F p M).2.2.1 x0), .int (dpV (dpO L F p M).1 (dpO L F p M).2.2.2.1 y0), .int (dpV (dpO L F p M).1 (dpO L F p M).2.2.2.2 z0)])) :: iA G sa 600 S :: iA G ca 600 C :: iA G sia 600 SI :: iA G cia 600 CI :: oX1 c cta cua (nI (nN L)) :: iA G cta 60 t :: iA G cua 60 u :: r) "search") (hc : CV L F t u) (hb : BD L F) (hp : 2 ≤ p) (hp2 : p ≤ 600) (hM : M < p) (hmo : mo ≤ 30) (hS : SC L F p (nts L 60) S C) (m : Nat) (hm : m + 1 ≤ M) (hK : ∀ (s : dpT) (SI CI : Nat → Int32), s = dpN L F p (m + 1) (dpO L F p m) p → SIC L F p m p SI CI → J G X mX2_search ((o, .inr (2, [.ref sa, .ref ca, .ref sia, .ref cia, .int (Int32.ofInt (tI L F)), .int (nI (nN L)), .int (dpV s.1 s.2.2.1 x0), .int (dpV s.1 s.2.2.2.1 y0), .int (dpV s.1 s.2.2.2.2 z0)])) :: (sa, .inl (G.2.1.1, 600, .inl S)) :: (ca, .inl (G.2.1.1, 600, .inl C)) :: (sia, .inl (G.2.1.1, 600, .inl SI)) :: (cia, .inl (G.2.1.1, 600, .inl CI)) :: (c, .inr (1, [.ref cta, .ref cua, .int (nI (nN L))])) :: (cta, .inl (G.2.1.1, 60, .inl t)) :: (cua, .inl (G.2.1.1, 60, .inl u)) :: r) 0 0 127 [(0, .ref o), (1, .ref c), (2, .int (nI p)), (3, .int (nI mo)), (4, .int (nI M)), (5, .int (b01 s.1)), (6, .long (Int64.ofInt s.2.1)), (8, .int (nI (m + 1)))] []) (f : Nat) (s : dpT) (SI CI : Nat → Int32) (hf : f ≤ p) (hs : s = dpN L F p (m + 1) (dpO L F p m) f) (hI : SIC L F p m f SI CI) : J G X mX2_search ((o, .inr (2, [.ref sa, .ref ca, .ref sia, .ref cia, .int (Int32.ofInt (tI L F)), .int (nI (nN L)), .int (dpV s.1 s.2.2.1 x0), .int (dpV s.1 s.2.2.2.1 y0), .int (dpV s.1 s.2.2.2.2 z0)])) :: (sa, .inl (G.2.1.1, 600, .inl S)) :: (ca, .inl (G.2.1.1, 600, .inl C)) :: (sia, .inl (G.2.1.1, 600, .inl SI)) :: (cia, .inl (G.2.1.1, 600, .inl CI)) :: (c, .inr (1, [.ref cta, .ref cua, .int (nI (nN L))])) :: (cta, .inl (G.2.1.1, 60, .inl t)) :: (cua, .inl (G.2.1.1, 60, .inl u)) :: r) 0 0 34 [(0, .ref o), (1, .ref c), (2, .int (nI p)), (3, .int (nI mo)), (4, .int (nI M)), (5, .int (b01 s.1)), (6, .long (Int64.ofInt s.2.1)), (8, .int (nI (m + 1))), (9, .int (nI f))] [] := by
  have hn := nN_le L
  have hgb : dgb s := by rw [hs]; exact dpN_bd hb (dpO_bd hb m) f
  obtain ⟨sb, g, x, y, z⟩ := s
  cases sb with
  | false =>
    have hgb : -1000000000 ≤ g ∧ g ≤ 1000000000 := hgb
    show J G X mX2_search ((o, .inr (2, [.ref sa, .ref ca, .ref sia, .ref cia, .int (Int32.ofInt (tI L F)), .int (nI (nN L)), .int x0, .int y0, .int z0])) :: (sa, .inl (G.2.1.1, 600, .inl S)) :: (ca, .inl (G.2.1.1, 600, .inl C)) :: (sia, .inl (G.2.1.1, 600, .inl SI)) :: (cia, .inl (G.2.1.1, 600, .inl CI)) :: (c, .inr (1, [.ref cta, .ref cua, .int (nI (nN L))])) :: (cta, .inl (G.2.1.1, 60, .inl t)) :: (cua, .inl (G.2.1.1, 60, .inl u)) :: r) 0 0 34 [(0, .ref o), (1, .ref c), (2, .int (nI p)), (3, .int (nI mo)), (4, .int (nI M)), (5, .int (0 : Int32)), (6, .long (Int64.ofInt g)), (8, .int (nI (m + 1))), (9, .int (nI f))] []
    refine J.iload 8 dX2_search_34 rfl ?_
    refine J.iload_n 2 dX2_search_36 rfl ?_
    refine J.icmp_ge dX2_search_37 (fun h9 => ?_) (fun h9 => ?_)
    · skip
      have h9 : p ≤ f := (nI_leI (a := p) (b := f) (by omega) (by omega)).mp h9
      have e : p = f := by omega
      subst e
      refine J.loc [0, 1, 2, 3, 4, 5, 6, 7] (lv' := [(0, .ref o), (1, .ref c), (2, .int (nI p)), (3, .int (nI mo)), (4, .int (nI M)), (5, .int (0 : Int32)), (6, .long (Int64.ofInt g)), (8, .int (nI (m + 1)))]) rfl ?_
      exact hK (false, g, x, y, z) SI CI hs hI
    · skip
      have h9 : ¬ p ≤ f := fun z => h9 ((nI_leI (a := p) (b := f) (by omega) (by omega)).mpr z)
      have h9 : f < p := by omega
      refine J.aload_n 0 dX2_search_40 rfl ?_
      refine J.iload 8 dX2_search_41 rfl ?_
      refine J.iload 8 dX2_search_43 rfl ?_
      refine J.iload 7 dX2_search_45 rfl ?_
      refine J.iadd dX2_search_47 ?_
      refine J.topi (y := nI (f + (m + 1))) (nI_add f (m + 1)) ?_
      refine J.iconst (1 : Int32) dX2_search_48 rfl ?_
      refine J.isub dX2_search_49 ?_
      refine J.topi (y := nI ((f + (m + 1)) - 1)) (pk_sub (a := f + (m + 1)) (b := 1) (by omega)) ?_
      refine J.iload_n 2 dX2_search_50 rfl ?_
      refine J.icmp_ge dX2_search_51 (fun h8 => ?_) (fun h8 => ?_)
      · skip
        have h8 : p ≤ ((f + (m + 1)) - 1) := (nI_leI (a := p) (b := ((f + (m + 1)) - 1)) (by omega) (by omega)).mp h8
        refine J.iload 8 dX2_search_64 rfl ?_
        refine J.iload 7 dX2_search_66 rfl ?_
        refine J.iadd dX2_search_68 ?_
        refine J.topi (y := nI (f + (m + 1))) (nI_add f (m + 1)) ?_
        refine J.iconst (1 : Int32) dX2_search_69 rfl ?_
        refine J.isub dX2_search_70 ?_
        refine J.topi (y := nI ((f + (m + 1)) - 1)) (pk_sub (a := f + (m + 1)) (b := 1) (by omega)) ?_
        refine J.iload_n 2 dX2_search_71 rfl ?_
        refine J.isub dX2_search_72 ?_
        refine J.topi (y := nI (((f + (m + 1)) - 1) - p)) (pk_sub (a := (f + (m + 1)) - 1) (b := p) (by omega)) ?_
        refine J.callV 0 (st := []) B (c_X2_widen l G _ (f := f) (h := ((f + (m + 1)) - 1) - p) (by omega) (by omega)) ml_X2_44 mf_yX2_widen mi_yX2_widen rfl dX2_search_73 rfl rfl rfl rfl (fun v_1 w_2 hp_3 => ?_)
        obtain ⟨rfl, rfl⟩ := hp_3
        have hI1 := SIC_s (ph := ((f + (m + 1)) - 1) - p) hI hS h9 (by omega) hp2 (by split <;> omega)
        generalize upd SI f (SI f + S (((f + (m + 1)) - 1) - p)) = SI1 at hI1 ⊢
        generalize upd CI f (CI f + C (((f + (m + 1)) - 1) - p)) = CI1 at hI1 ⊢
        have hat := SIC_at hI1 h9
        have hcle := cI_le L p (m + 1) f
        show J G X mX2_search ((o, .inr (2, [.ref sa, .ref ca, .ref sia, .ref cia, .int (Int32.ofInt (tI L F)), .int (nI (nN L)), .int x0, .int y0, .int z0])) :: (sa, .inl (G.2.1.1, 600, .inl S)) :: (ca, .inl (G.2.1.1, 600, .inl C)) :: (sia, .inl (G.2.1.1, 600, .inl SI1)) :: (cia, .inl (G.2.1.1, 600, .inl CI1)) :: (c, .inr (1, [.ref cta, .ref cua, .int (nI (nN L))])) :: (cta, .inl (G.2.1.1, 60, .inl t)) :: (cua, .inl (G.2.1.1, 60, .inl u)) :: r) 0 0 76 [(0, .ref o), (1, .ref c), (2, .int (nI p)), (3, .int (nI mo)), (4, .int (nI M)), (5, .int (0 : Int32)), (6, .long (Int64.ofInt g)), (8, .int (nI (m + 1))), (9, .int (nI f))] []
        refine J.aload_n 0 dX2_search_76 rfl ?_
        refine J.iload 8 dX2_search_77 rfl ?_
        refine J.re [0, 4, 1, 2, 3, 5, 6, 7] 8 (ws2 := (o, .inr (2, [.ref sa, .ref ca, .ref sia, .ref cia, .int (Int32.ofInt (tI L F)), .int (nI (nN L)), .int x0, .int y0, .int z0])) :: (cia, .inl (G.2.1.1, 600, .inl CI1)) :: (sa, .inl (G.2.1.1, 600, .inl S)) :: (ca, .inl (G.2.1.1, 600, .inl C)) :: (sia, .inl (G.2.1.1, 600, .inl SI1)) :: (c, .inr (1, [.ref cta, .ref cua, .int (nI (nN L))])) :: (cta, .inl (G.2.1.1, 60, .inl t)) :: (cua, .inl (G.2.1.1, 60, .inl u)) :: r) rfl rfl ?_
        refine J.callV 0 (st := []) B (c_X2_countsHere l G _ (f := f) (cc := cI L p (m + 1) f) (n := nN L) (by omega) hat.2 (by omega) (by omega)) ml_X2_48 mf_yX2_countsHere mi_yX2_countsHere rfl dX2_search_79 rfl rfl rfl rfl (fun v_4 w_5 hp_6 => ?_)
        obtain ⟨rfl, rfl⟩ := hp_6
        refine J.re [0, 2, 3, 4, 1, 5, 6, 7] 8 (ws2 := (o, .inr (2, [.ref sa, .ref ca, .ref sia, .ref cia, .int (Int32.ofInt (tI L F)), .int (nI (nN L)), .int x0, .int y0, .int z0])) :: (sa, .inl (G.2.1.1, 600, .inl S)) :: (ca, .inl (G.2.1.1, 600, .inl C)) :: (sia, .inl (G.2.1.1, 600, .inl SI1)) :: (cia, .inl (G.2.1.1, 600, .inl CI1)) :: (c, .inr (1, [.ref cta, .ref cua, .int (nI (nN L))])) :: (cta, .inl (G.2.1.1, 60, .inl t)) :: (cua, .inl (G.2.1.1, 60, .inl u)) :: r) rfl rfl ?_
        show J G X mX2_search _ _ _ 82 _ [.int (b01 (decide (0 < cI L p (m + 1) f ∧ cI L p (m + 1) f < nN L)))]
        refine J.if_eq dX2_search_82 (fun h7 => ?_) (fun h7 => ?_)
        · skip
          have h7 := of_decide_eq_false (b01_0 h7)
          refine J.iinc 8 [1, 2, 3, 4, 5, 6, 7, 8, 0] (lv' := [(0, .ref o), (1, .ref c), (2, .int (nI p)), (3, .int (nI mo)), (4, .int (nI M)), (5, .int (0 : Int32)), (6, .long (Int64.ofInt g)), (8, .int (nI (m + 1))), (9, .int (nI (f + 1)))]) dX2_search_121 rfl (jinc1 _) rfl rfl ?_
          refine J.goto dX2_search_124 ?_
          exact X2_search_in B hc hb hp hp2 hM hmo hS m hm hK (f + 1) (false, g, x, y, z) SI1 CI1 (by omega) (by rw [dpN_s, ← hs]; unfold dpG; rw [if_neg (fun z => by first | exact h7 ⟨z.1, z.2.1⟩ | exact z.2.2.elim (fun q => by cases q) (fun q => absurd (show g < dpI L F p (m + 1) f from q) (by omega)))]) hI1
        · skip
          have h7 := of_decide_eq_true (b01_1 h7)
          refine J.iload 5 dX2_search_85 rfl ?_
          refine J.if_eq dX2_search_87 (fun _ => ?_) (fun z => absurd z (by decide))
          refine J.iconst (1 : Int32) dX2_search_102 rfl ?_
          refine J.istore [1, 2, 3, 4, 5, 0, 6, 7, 8] (lv' := [(0, .ref o), (1, .ref c), (2, .int (nI p)), (3, .int (nI mo)), (4, .int (nI M)), (5, .int (1 : Int32)), (6, .long (Int64.ofInt g)), (8, .int (nI (m + 1))), (9, .int (nI f))]) dX2_search_103 rfl rfl ?_
          refine J.aload_n 0 dX2_search_105 rfl ?_
          refine J.iload 8 dX2_search_106 rfl ?_
          refine J.re [0, 3, 4, 1, 2, 5, 6, 7] 8 (ws2 := (o, .inr (2, [.ref sa, .ref ca, .ref sia, .ref cia, .int (Int32.ofInt (tI L F)), .int (nI (nN L)), .int x0, .int y0, .int z0])) :: (sia, .inl (G.2.1.1, 600, .inl SI1)) :: (cia, .inl (G.2.1.1, 600, .inl CI1)) :: (sa, .inl (G.2.1.1, 600, .inl S)) :: (ca, .inl (G.2.1.1, 600, .inl C)) :: (c, .inr (1, [.ref cta, .ref cua, .int (nI (nN L))])) :: (cta, .inl (G.2.1.1, 60, .inl t)) :: (cua, .inl (G.2.1.1, 60, .inl u)) :: r) rfl rfl ?_
          refine J.callV 0 (st := []) B (c_X2_depthFrom l G _ (p := p) (d := m + 1) (f := f) hb (by omega) hat.1 hat.2) ml_X2_52 mf_yX2_depthFrom mi_yX2_depthFrom rfl dX2_search_108 rfl rfl rfl rfl (fun v_7 w_8 hp_9 => ?_)
          obtain ⟨rfl, rfl⟩ := hp_9
          refine J.re [0, 3, 4, 1, 2, 5, 6, 7] 8 (ws2 := (o, .inr (2, [.ref sa, .ref ca, .ref sia, .ref cia, .int (Int32.ofInt (tI L F)), .int (nI (nN L)), .int x0, .int y0, .int z0])) :: (sa, .inl (G.2.1.1, 600, .inl S)) :: (ca, .inl (G.2.1.1, 600, .inl C)) :: (sia, .inl (G.2.1.1, 600, .inl SI1)) :: (cia, .inl (G.2.1.1, 600, .inl CI1)) :: (c, .inr (1, [.ref cta, .ref cua, .int (nI (nN L))])) :: (cta, .inl (G.2.1.1, 60, .inl t)) :: (cua, .inl (G.2.1.1, 60, .inl u)) :: r) rfl rfl ?_
          show J G X mX2_search _ _ _ 111 _ [.long (Int64.ofInt (dpI L F p (m + 1) f))]
          refine J.lstore [1, 2, 3, 4, 5, 6, 0, 7, 8] (lv' := [(0, .ref o), (1, .ref c), (2, .int (nI p)), (3, .int (nI mo)), (4, .int (nI M)), (5, .int (1 : Int32)), (6, .long (Int64.ofInt (dpI L F p (m + 1) f))), (8, .int (nI (m + 1))), (9, .int (nI f))]) dX2_search_111 rfl rfl ?_
          refine J.aload_n 0 dX2_search_113 rfl ?_
          refine J.iload 7 dX2_search_114 rfl ?_
          refine J.iload 8 dX2_search_116 rfl ?_
          refine J.re [0, 4, 1, 2, 3, 5, 6, 7] 8 (ws2 := (o, .inr (2, [.ref sa, .ref ca, .ref sia, .ref cia, .int (Int32.ofInt (tI L F)), .int (nI (nN L)), .int x0, .int y0, .int z0])) :: (cia, .inl (G.2.1.1, 600, .inl CI1)) :: (sa, .inl (G.2.1.1, 600, .inl S)) :: (ca, .inl (G.2.1.1, 600, .inl C)) :: (sia, .inl (G.2.1.1, 600, .inl SI1)) :: (c, .inr (1, [.ref cta, .ref cua, .int (nI (nN L))])) :: (cta, .inl (G.2.1.1, 60, .inl t)) :: (cua, .inl (G.2.1.1, 60, .inl u)) :: r) rfl rfl ?_
          refine J.callV 0 (st := []) B (c_X2_keep l G _ (d := m + 1) (f := f) (cc := cI L p (m + 1) f) (by omega) hat.2) ml_X2_56 mf_yX2_keep mi_yX2_keep rfl dX2_search_118 rfl rfl rfl rfl (fun v_10 w_11 hp_12 => ?_)
          obtain ⟨rfl, rfl⟩ := hp_12
          refine J.re [0, 2, 3, 4, 1, 5, 6, 7] 8 (ws2 := (o, .inr (2, [.ref sa, .ref ca, .ref sia, .ref cia, .int (Int32.ofInt (tI L F)), .int (nI (nN L)), .int (nI (m + 1)), .int (nI f), .int (nI (cI L p (m + 1) f))])) :: (sa, .inl (G.2.1.1, 600, .inl S)) :: (ca, .inl (G.2.1.1, 600, .inl C)) :: (sia, .inl (G.2.1.1, 600, .inl SI1)) :: (cia, .inl (G.2.1.1, 600, .inl CI1)) :: (c, .inr (1, [.ref cta, .ref cua, .int (nI (nN L))])) :: (cta, .inl (G.2.1.1, 60, .inl t)) :: (cua, .inl (G.2.1.1, 60, .inl u)) :: r) rfl rfl ?_
          show J G X mX2_search _ _ _ 121 _ []
          refine J.iinc 8 [1, 2, 3, 4, 5, 6, 7, 8, 0] (lv' := [(0, .ref o), (1, .ref c), (2, .int (nI p)), (3, .int (nI mo)), (4, .int (nI M)), (5, .int (1 : Int32)), (6, .long (Int64.ofInt (dpI L F p (m + 1) f))), (8, .int (nI (m + 1))), (9, .int (nI (f + 1)))]) dX2_search_121 rfl (jinc1 _) rfl rfl ?_
          refine J.goto dX2_search_124 ?_
          exact X2_search_in B hc hb hp hp2 hM hmo hS m hm hK (f + 1) (true, dpI L F p (m + 1) f, m + 1, f, cI L p (m + 1) f) SI1 CI1 (by omega) (by rw [dpN_s, ← hs]; unfold dpG; rw [if_pos ⟨h7.1, h7.2, Or.inl rfl⟩]) hI1
      · skip
        have h8 : ¬ p ≤ ((f + (m + 1)) - 1) := fun z => h8 ((nI_leI (a := p) (b := ((f + (m + 1)) - 1)) (by omega) (by omega)).mpr z)
        refine J.iload 8 dX2_search_54 rfl ?_
        refine J.iload 7 dX2_search_56 rfl ?_
        refine J.iadd dX2_search_58 ?_
        refine J.topi (y := nI (f + (m + 1))) (nI_add f (m + 1)) ?_
        refine J.iconst (1 : Int32) dX2_search_59 rfl ?_
        refine J.isub dX2_search_60 ?_
        refine J.topi (y := nI ((f + (m + 1)) - 1)) (pk_sub (a := f + (m + 1)) (b := 1) (by omega)) ?_
        refine J.goto dX2_search_61 ?_
        refine J.callV 0 (st := []) B (c_X2_widen l G _ (f := f) (h := (f + (m + 1)) - 1) (by omega) (by omega)) ml_X2_44 mf_yX2_widen mi_yX2_widen rfl dX2_search_73 rfl rfl rfl rfl (fun v_13 w_14 hp_15 => ?_)
        obtain ⟨rfl, rfl⟩ := hp_15
        have hI1 := SIC_s (ph := (f + (m + 1)) - 1) hI hS h9 (by omega) hp2 (by split <;> omega)
        generalize upd SI f (SI f + S ((f + (m + 1)) - 1)) = SI1 at hI1 ⊢
        generalize upd CI f (CI f + C ((f + (m + 1)) - 1)) = CI1 at hI1 ⊢
        have hat := SIC_at hI1 h9
        have hcle := cI_le L p (m + 1) f
        show J G X mX2_search ((o, .inr (2, [.ref sa, .ref ca, .ref sia, .ref cia, .int (Int32.ofInt (tI L F)), .int (nI (nN L)), .int x0, .int y0, .int z0])) :: (sa, .inl (G.2.1.1, 600, .inl S)) :: (ca, .inl (G.2.1.1, 600, .inl C)) :: (sia, .inl (G.2.1.1, 600, .inl SI1)) :: (cia, .inl (G.2.1.1, 600, .inl CI1)) :: (c, .inr (1, [.ref cta, .ref cua, .int (nI (nN L))])) :: (cta, .inl (G.2.1.1, 60, .inl t)) :: (cua, .inl (G.2.1.1, 60, .inl u)) :: r) 0 0 76 [(0, .ref o), (1, .ref c), (2, .int (nI p)), (3, .int (nI mo)), (4, .int (nI M)), (5, .int (0 : Int32)), (6, .long (Int64.ofInt g)), (8, .int (nI (m + 1))), (9, .int (nI f))] []
        refine J.aload_n 0 dX2_search_76 rfl ?_
        refine J.iload 8 dX2_search_77 rfl ?_
        refine J.re [0, 4, 1, 2, 3, 5, 6, 7] 8 (ws2 := (o, .inr (2, [.ref sa, .ref ca, .ref sia, .ref cia, .int (Int32.ofInt (tI L F)), .int (nI (nN L)), .int x0, .int y0, .int z0])) :: (cia, .inl (G.2.1.1, 600, .inl CI1)) :: (sa, .inl (G.2.1.1, 600, .inl S)) :: (ca, .inl (G.2.1.1, 600, .inl C)) :: (sia, .inl (G.2.1.1, 600, .inl SI1)) :: (c, .inr (1, [.ref cta, .ref cua, .int (nI (nN L))])) :: (cta, .inl (G.2.1.1, 60, .inl t)) :: (cua, .inl (G.2.1.1, 60, .inl u)) :: r) rfl rfl ?_
        refine J.callV 0 (st := []) B (c_X2_countsHere l G _ (f := f) (cc := cI L p (m + 1) f) (n := nN L) (by omega) hat.2 (by omega) (by omega)) ml_X2_48 mf_yX2_countsHere mi_yX2_countsHere rfl dX2_search_79 rfl rfl rfl rfl (fun v_16 w_17 hp_18 => ?_)
        obtain ⟨rfl, rfl⟩ := hp_18
        refine J.re [0, 2, 3, 4, 1, 5, 6, 7] 8 (ws2 := (o, .inr (2, [.ref sa, .ref ca, .ref sia, .ref cia, .int (Int32.ofInt (tI L F)), .int (nI (nN L)), .int x0, .int y0, .int z0])) :: (sa, .inl (G.2.1.1, 600, .inl S)) :: (ca, .inl (G.2.1.1, 600, .inl C)) :: (sia, .inl (G.2.1.1, 600, .inl SI1)) :: (cia, .inl (G.2.1.1, 600, .inl CI1)) :: (c, .inr (1, [.ref cta, .ref cua, .int (nI (nN L))])) :: (cta, .inl (G.2.1.1, 60, .inl t)) :: (cua, .inl (G.2.1.1, 60, .inl u)) :: r) rfl rfl ?_
        show J G X mX2_search _ _ _ 82 _ [.int (b01 (decide (0 < cI L p (m + 1) f ∧ cI L p (m + 1) f < nN L)))]
        refine J.if_eq dX2_search_82 (fun h7 => ?_) (fun h7 => ?_)
        · skip
          have h7 := of_decide_eq_false (b01_0 h7)
          refine J.iinc 8 [1, 2, 3, 4, 5, 6, 7, 8, 0] (lv' := [(0, .ref o), (1, .ref c), (2, .int (nI p)), (3, .int (nI mo)), (4, .int (nI M)), (5, .int (0 : Int32)), (6, .long (Int64.ofInt g)), (8, .int (nI (m + 1))), (9, .int (nI (f + 1)))]) dX2_search_121 rfl (jinc1 _) rfl rfl ?_
          refine J.goto dX2_search_124 ?_
          exact X2_search_in B hc hb hp hp2 hM hmo hS m hm hK (f + 1) (false, g, x, y, z) SI1 CI1 (by omega) (by rw [dpN_s, ← hs]; unfold dpG; rw [if_neg (fun z => by first | exact h7 ⟨z.1, z.2.1⟩ | exact z.2.2.elim (fun q => by cases q) (fun q => absurd (show g < dpI L F p (m + 1) f from q) (by omega)))]) hI1
        · skip
          have h7 := of_decide_eq_true (b01_1 h7)
          refine J.iload 5 dX2_search_85 rfl ?_
          refine J.if_eq dX2_search_87 (fun _ => ?_) (fun z => absurd z (by decide))
          refine J.iconst (1 : Int32) dX2_search_102 rfl ?_
          refine J.istore [1, 2, 3, 4, 5, 0, 6, 7, 8] (lv' := [(0, .ref o), (1, .ref c), (2, .int (nI p)), (3, .int (nI mo)), (4, .int (nI M)), (5, .int (1 : Int32)), (6, .long (Int64.ofInt g)), (8, .int (nI (m + 1))), (9, .int (nI f))]) dX2_search_103 rfl rfl ?_
          refine J.aload_n 0 dX2_search_105 rfl ?_
          refine J.iload 8 dX2_search_106 rfl ?_
          refine J.re [0, 3, 4, 1, 2, 5, 6, 7] 8 (ws2 := (o, .inr (2, [.ref sa, .ref ca, .ref sia, .ref cia, .int (Int32.ofInt (tI L F)), .int (nI (nN L)), .int x0, .int y0, .int z0])) :: (sia, .inl (G.2.1.1, 600, .inl SI1)) :: (cia, .inl (G.2.1.1, 600, .inl CI1)) :: (sa, .inl (G.2.1.1, 600, .inl S)) :: (ca, .inl (G.2.1.1, 600, .inl C)) :: (c, .inr (1, [.ref cta, .ref cua, .int (nI (nN L))])) :: (cta, .inl (G.2.1.1, 60, .inl t)) :: (cua, .inl (G.2.1.1, 60, .inl u)) :: r) rfl rfl ?_
          refine J.callV 0 (st := []) B (c_X2_depthFrom l G _ (p := p) (d := m + 1) (f := f) hb (by omega) hat.1 hat.2) ml_X2_52 mf_yX2_depthFrom mi_yX2_depthFrom rfl dX2_search_108 rfl rfl rfl rfl (fun v_19 w_20 hp_21 => ?_)
          obtain ⟨rfl, rfl⟩ := hp_21
          refine J.re [0, 3, 4, 1, 2, 5, 6, 7] 8 (ws2 := (o, .inr (2, [.ref sa, .ref ca, .ref sia, .ref cia, .int (Int32.ofInt (tI L F)), .int (nI (nN L)), .int x0, .int y0, .int z0])) :: (sa, .inl (G.2.1.1, 600, .inl S)) :: (ca, .inl (G.2.1.1, 600, .inl C)) :: (sia, .inl (G.2.1.1, 600, .inl SI1)) :: (cia, .inl (G.2.1.1, 600, .inl CI1)) :: (c, .inr (1, [.ref cta, .ref cua, .int (nI (nN L))])) :: (cta, .inl (G.2.1.1, 60, .inl t)) :: (cua, .inl (G.2.1.1, 60, .inl u)) :: r) rfl rfl ?_
          show J G X mX2_search _ _ _ 111 _ [.long (Int64.ofInt (dpI L F p (m + 1) f))]
          refine J.lstore [1, 2, 3, 4, 5, 6, 0, 7, 8] (lv' := [(0, .ref o), (1, .ref c), (2, .int (nI p)), (3, .int (nI mo)), (4, .int (nI M)), (5, .int (1 : Int32)), (6, .long (Int64.ofInt (dpI L F p (m + 1) f))), (8, .int (nI (m + 1))), (9, .int (nI f))]) dX2_search_111 rfl rfl ?_
          refine J.aload_n 0 dX2_search_113 rfl ?_
          refine J.iload 7 dX2_search_114 rfl ?_
          refine J.iload 8 dX2_search_116 rfl ?_
          refine J.re [0, 4, 1, 2, 3, 5, 6, 7] 8 (ws2 := (o, .inr (2, [.ref sa, .ref ca, .ref sia, .ref cia, .int (Int32.ofInt (tI L F)), .int (nI (nN L)), .int x0, .int y0, .int z0])) :: (cia, .inl (G.2.1.1, 600, .inl CI1)) :: (sa, .inl (G.2.1.1, 600, .inl S)) :: (ca, .inl (G.2.1.1, 600, .inl C)) :: (sia, .inl (G.2.1.1, 600, .inl SI1)) :: (c, .inr (1, [.ref cta, .ref cua, .int (nI (nN L))])) :: (cta, .inl (G.2.1.1, 60, .inl t)) :: (cua, .inl (G.2.1.1, 60, .inl u)) :: r) rfl rfl ?_
          refine J.callV 0 (st := []) B (c_X2_keep l G _ (d := m + 1) (f := f) (cc := cI L p (m + 1) f) (by omega) hat.2) ml_X2_56 mf_yX2_keep mi_yX2_keep rfl dX2_search_118 rfl rfl rfl rfl (fun v_22 w_23 hp_24 => ?_)
          obtain ⟨rfl, rfl⟩ := hp_24
          refine J.re [0, 2, 3, 4, 1, 5, 6, 7] 8 (ws2 := (o, .inr (2, [.ref sa, .ref ca, .ref sia, .ref cia, .int (Int32.ofInt (tI L F)), .int (nI (nN L)), .int (nI (m + 1)), .int (nI f), .int (nI (cI L p (m + 1) f))])) :: (sa, .inl (G.2.1.1, 600, .inl S)) :: (ca, .inl (G.2.1.1, 600, .inl C)) :: (sia, .inl (G.2.1.1, 600, .inl SI1)) :: (cia, .inl (G.2.1.1, 600, .inl CI1)) :: (c, .inr (1, [.ref cta, .ref cua, .int (nI (nN L))])) :: (cta, .inl (G.2.1.1, 60, .inl t)) :: (cua, .inl (G.2.1.1, 60, .inl u)) :: r) rfl rfl ?_
          show J G X mX2_search _ _ _ 121 _ []
          refine J.iinc 8 [1, 2, 3, 4, 5, 6, 7, 8, 0] (lv' := [(0, .ref o), (1, .ref c), (2, .int (nI p)), (3, .int (nI mo)), (4, .int (nI M)), (5, .int (1 : Int32)), (6, .long (Int64.ofInt (dpI L F p (m + 1) f))), (8, .int (nI (m + 1))), (9, .int (nI (f + 1)))]) dX2_search_121 rfl (jinc1 _) rfl rfl ?_
          refine J.goto dX2_search_124 ?_
          exact X2_search_in B hc hb hp hp2 hM hmo hS m hm hK (f + 1) (true, dpI L F p (m + 1) f, m + 1, f, cI L p (m + 1) f) SI1 CI1 (by omega) (by rw [dpN_s, ← hs]; unfold dpG; rw [if_pos ⟨h7.1, h7.2, Or.inl rfl⟩]) hI1
  | true =>
    have hgb : -1000000000 ≤ g ∧ g ≤ 1000000000 := hgb
    show J G X mX2_search ((o, .inr (2, [.ref sa, .ref ca, .ref sia, .ref cia, .int (Int32.ofInt (tI L F)), .int (nI (nN L)), .int (nI x), .int (nI y), .int (nI z)])) :: (sa, .inl (G.2.1.1, 600, .inl S)) :: (ca, .inl (G.2.1.1, 600, .inl C)) :: (sia, .inl (G.2.1.1, 600, .inl SI)) :: (cia, .inl (G.2.1.1, 600, .inl CI)) :: (c, .inr (1, [.ref cta, .ref cua, .int (nI (nN L))])) :: (cta, .inl (G.2.1.1, 60, .inl t)) :: (cua, .inl (G.2.1.1, 60, .inl u)) :: r) 0 0 34 [(0, .ref o), (1, .ref c), (2, .int (nI p)), (3, .int (nI mo)), (4, .int (nI M)), (5, .int (1 : Int32)), (6, .long (Int64.ofInt g)), (8, .int (nI (m + 1))), (9, .int (nI f))] []
    refine J.iload 8 dX2_search_34 rfl ?_
    refine J.iload_n 2 dX2_search_36 rfl ?_
    refine J.icmp_ge dX2_search_37 (fun h9 => ?_) (fun h9 => ?_)
    · skip
      have h9 : p ≤ f := (nI_leI (a := p) (b := f) (by omega) (by omega)).mp h9
      have e : p = f := by omega
      subst e
      refine J.loc [0, 1, 2, 3, 4, 5, 6, 7] (lv' := [(0, .ref o), (1, .ref c), (2, .int (nI p)), (3, .int (nI mo)), (4, .int (nI M)), (5, .int (1 : Int32)), (6, .long (Int64.ofInt g)), (8, .int (nI (m + 1)))]) rfl ?_
      exact hK (true, g, x, y, z) SI CI hs hI
    · skip
      have h9 : ¬ p ≤ f := fun z => h9 ((nI_leI (a := p) (b := f) (by omega) (by omega)).mpr z)
      have h9 : f < p := by omega
      refine J.aload_n 0 dX2_search_40 rfl ?_
      refine J.iload 8 dX2_search_41 rfl ?_
      refine J.iload 8 dX2_search_43 rfl ?_
      refine J.iload 7 dX2_search_45 rfl ?_
      refine J.iadd dX2_search_47 ?_
      refine J.topi (y := nI (f + (m + 1))) (nI_add f (m + 1)) ?_
      refine J.iconst (1 : Int32) dX2_search_48 rfl ?_
      refine J.isub dX2_search_49 ?_
      refine J.topi (y := nI ((f + (m + 1)) - 1)) (pk_sub (a := f + (m + 1)) (b := 1) (by omega)) ?_
      refine J.iload_n 2 dX2_search_50 rfl ?_
      refine J.icmp_ge dX2_search_51 (fun h8 => ?_) (fun h8 => ?_)
      · skip
        have h8 : p ≤ ((f + (m + 1)) - 1) := (nI_leI (a := p) (b := ((f + (m + 1)) - 1)) (by omega) (by omega)).mp h8
        refine J.iload 8 dX2_search_64 rfl ?_
        refine J.iload 7 dX2_search_66 rfl ?_
        refine J.iadd dX2_search_68 ?_
        refine J.topi (y := nI (f + (m + 1))) (nI_add f (m + 1)) ?_
        refine J.iconst (1 : Int32) dX2_search_69 rfl ?_
        refine J.isub dX2_search_70 ?_
        refine J.topi (y := nI ((f + (m + 1)) - 1)) (pk_sub (a := f + (m + 1)) (b := 1) (by omega)) ?_
        refine J.iload_n 2 dX2_search_71 rfl ?_
        refine J.isub dX2_search_72 ?_
        refine J.topi (y := nI (((f + (m + 1)) - 1) - p)) (pk_sub (a := (f + (m + 1)) - 1) (b := p) (by omega)) ?_
        refine J.callV 0 (st := []) B (c_X2_widen l G _ (f := f) (h := ((f + (m + 1)) - 1) - p) (by omega) (by omega)) ml_X2_44 mf_yX2_widen mi_yX2_widen rfl dX2_search_73 rfl rfl rfl rfl (fun v_1 w_2 hp_3 => ?_)
        obtain ⟨rfl, rfl⟩ := hp_3
        have hI1 := SIC_s (ph := ((f + (m + 1)) - 1) - p) hI hS h9 (by omega) hp2 (by split <;> omega)
        generalize upd SI f (SI f + S (((f + (m + 1)) - 1) - p)) = SI1 at hI1 ⊢
        generalize upd CI f (CI f + C (((f + (m + 1)) - 1) - p)) = CI1 at hI1 ⊢
        have hat := SIC_at hI1 h9
        have hcle := cI_le L p (m + 1) f
        show J G X mX2_search ((o, .inr (2, [.ref sa, .ref ca, .ref sia, .ref cia, .int (Int32.ofInt (tI L F)), .int (nI (nN L)), .int (nI x), .int (nI y), .int (nI z)])) :: (sa, .inl (G.2.1.1, 600, .inl S)) :: (ca, .inl (G.2.1.1, 600, .inl C)) :: (sia, .inl (G.2.1.1, 600, .inl SI1)) :: (cia, .inl (G.2.1.1, 600, .inl CI1)) :: (c, .inr (1, [.ref cta, .ref cua, .int (nI (nN L))])) :: (cta, .inl (G.2.1.1, 60, .inl t)) :: (cua, .inl (G.2.1.1, 60, .inl u)) :: r) 0 0 76 [(0, .ref o), (1, .ref c), (2, .int (nI p)), (3, .int (nI mo)), (4, .int (nI M)), (5, .int (1 : Int32)), (6, .long (Int64.ofInt g)), (8, .int (nI (m + 1))), (9, .int (nI f))] []
        refine J.aload_n 0 dX2_search_76 rfl ?_
        refine J.iload 8 dX2_search_77 rfl ?_
        refine J.re [0, 4, 1, 2, 3, 5, 6, 7] 8 (ws2 := (o, .inr (2, [.ref sa, .ref ca, .ref sia, .ref cia, .int (Int32.ofInt (tI L F)), .int (nI (nN L)), .int (nI x), .int (nI y), .int (nI z)])) :: (cia, .inl (G.2.1.1, 600, .inl CI1)) :: (sa, .inl (G.2.1.1, 600, .inl S)) :: (ca, .inl (G.2.1.1, 600, .inl C)) :: (sia, .inl (G.2.1.1, 600, .inl SI1)) :: (c, .inr (1, [.ref cta, .ref cua, .int (nI (nN L))])) :: (cta, .inl (G.2.1.1, 60, .inl t)) :: (cua, .inl (G.2.1.1, 60, .inl u)) :: r) rfl rfl ?_
        refine J.callV 0 (st := []) B (c_X2_countsHere l G _ (f := f) (cc := cI L p (m + 1) f) (n := nN L) (by omega) hat.2 (by omega) (by omega)) ml_X2_48 mf_yX2_countsHere mi_yX2_countsHere rfl dX2_search_79 rfl rfl rfl rfl (fun v_4 w_5 hp_6 => ?_)
        obtain ⟨rfl, rfl⟩ := hp_6
        refine J.re [0, 2, 3, 4, 1, 5, 6, 7] 8 (ws2 := (o, .inr (2, [.ref sa, .ref ca, .ref sia, .ref cia, .int (Int32.ofInt (tI L F)), .int (nI (nN L)), .int (nI x), .int (nI y), .int (nI z)])) :: (sa, .inl (G.2.1.1, 600, .inl S)) :: (ca, .inl (G.2.1.1, 600, .inl C)) :: (sia, .inl (G.2.1.1, 600, .inl SI1)) :: (cia, .inl (G.2.1.1, 600, .inl CI1)) :: (c, .inr (1, [.ref cta, .ref cua, .int (nI (nN L))])) :: (cta, .inl (G.2.1.1, 60, .inl t)) :: (cua, .inl (G.2.1.1, 60, .inl u)) :: r) rfl rfl ?_
        show J G X mX2_search _ _ _ 82 _ [.int (b01 (decide (0 < cI L p (m + 1) f ∧ cI L p (m + 1) f < nN L)))]
        refine J.if_eq dX2_search_82 (fun h7 => ?_) (fun h7 => ?_)
        · skip
          have h7 := of_decide_eq_false (b01_0 h7)
          refine J.iinc 8 [1, 2, 3, 4, 5, 6, 7, 8, 0] (lv' := [(0, .ref o), (1, .ref c), (2, .int (nI p)), (3, .int (nI mo)), (4, .int (nI M)), (5, .int (1 : Int32)), (6, .long (Int64.ofInt g)), (8, .int (nI (m + 1))), (9, .int (nI (f + 1)))]) dX2_search_121 rfl (jinc1 _) rfl rfl ?_
          refine J.goto dX2_search_124 ?_
          exact X2_search_in B hc hb hp hp2 hM hmo hS m hm hK (f + 1) (true, g, x, y, z) SI1 CI1 (by omega) (by rw [dpN_s, ← hs]; unfold dpG; rw [if_neg (fun z => by first | exact h7 ⟨z.1, z.2.1⟩ | exact z.2.2.elim (fun q => by cases q) (fun q => absurd (show g < dpI L F p (m + 1) f from q) (by omega)))]) hI1
        · skip
          have h7 := of_decide_eq_true (b01_1 h7)
          refine J.iload 5 dX2_search_85 rfl ?_
          refine J.if_eq dX2_search_87 (fun z => absurd z (by decide)) (fun _ => ?_)
          refine J.aload_n 0 dX2_search_90 rfl ?_
          refine J.iload 8 dX2_search_91 rfl ?_
          refine J.re [0, 3, 4, 1, 2, 5, 6, 7] 8 (ws2 := (o, .inr (2, [.ref sa, .ref ca, .ref sia, .ref cia, .int (Int32.ofInt (tI L F)), .int (nI (nN L)), .int (nI x), .int (nI y), .int (nI z)])) :: (sia, .inl (G.2.1.1, 600, .inl SI1)) :: (cia, .inl (G.2.1.1, 600, .inl CI1)) :: (sa, .inl (G.2.1.1, 600, .inl S)) :: (ca, .inl (G.2.1.1, 600, .inl C)) :: (c, .inr (1, [.ref cta, .ref cua, .int (nI (nN L))])) :: (cta, .inl (G.2.1.1, 60, .inl t)) :: (cua, .inl (G.2.1.1, 60, .inl u)) :: r) rfl rfl ?_
          refine J.callV 0 (st := []) B (c_X2_depthFrom l G _ (p := p) (d := m + 1) (f := f) hb (by omega) hat.1 hat.2) ml_X2_52 mf_yX2_depthFrom mi_yX2_depthFrom rfl dX2_search_93 rfl rfl rfl rfl (fun v_7 w_8 hp_9 => ?_)
          obtain ⟨rfl, rfl⟩ := hp_9
          refine J.re [0, 3, 4, 1, 2, 5, 6, 7] 8 (ws2 := (o, .inr (2, [.ref sa, .ref ca, .ref sia, .ref cia, .int (Int32.ofInt (tI L F)), .int (nI (nN L)), .int (nI x), .int (nI y), .int (nI z)])) :: (sa, .inl (G.2.1.1, 600, .inl S)) :: (ca, .inl (G.2.1.1, 600, .inl C)) :: (sia, .inl (G.2.1.1, 600, .inl SI1)) :: (cia, .inl (G.2.1.1, 600, .inl CI1)) :: (c, .inr (1, [.ref cta, .ref cua, .int (nI (nN L))])) :: (cta, .inl (G.2.1.1, 60, .inl t)) :: (cua, .inl (G.2.1.1, 60, .inl u)) :: r) rfl rfl ?_
          show J G X mX2_search _ _ _ 96 _ [.long (Int64.ofInt (dpI L F p (m + 1) f))]
          refine J.lload 6 dX2_search_96 rfl ?_
          refine J.lcmp dX2_search_98 ?_
          refine J.if_le dX2_search_99 (fun h6 => ?_) (fun h6 => ?_)
          · skip
            have h6 := jc_le_t h6
            rw [dep_le (dpI_bd hb p (m + 1) f) hgb] at h6
            refine J.iinc 8 [1, 2, 3, 4, 5, 6, 7, 8, 0] (lv' := [(0, .ref o), (1, .ref c), (2, .int (nI p)), (3, .int (nI mo)), (4, .int (nI M)), (5, .int (1 : Int32)), (6, .long (Int64.ofInt g)), (8, .int (nI (m + 1))), (9, .int (nI (f + 1)))]) dX2_search_121 rfl (jinc1 _) rfl rfl ?_
            refine J.goto dX2_search_124 ?_
            exact X2_search_in B hc hb hp hp2 hM hmo hS m hm hK (f + 1) (true, g, x, y, z) SI1 CI1 (by omega) (by rw [dpN_s, ← hs]; unfold dpG; rw [if_neg (fun z => by first | exact h7 ⟨z.1, z.2.1⟩ | exact z.2.2.elim (fun q => by cases q) (fun q => absurd (show g < dpI L F p (m + 1) f from q) (by omega)))]) hI1
          · skip
            have h6 := jc_le_f h6
            rw [dep_le (dpI_bd hb p (m + 1) f) hgb] at h6
            refine J.iconst (1 : Int32) dX2_search_102 rfl ?_
            refine J.istore [1, 2, 3, 4, 5, 0, 6, 7, 8] (lv' := [(0, .ref o), (1, .ref c), (2, .int (nI p)), (3, .int (nI mo)), (4, .int (nI M)), (5, .int (1 : Int32)), (6, .long (Int64.ofInt g)), (8, .int (nI (m + 1))), (9, .int (nI f))]) dX2_search_103 rfl rfl ?_
            refine J.aload_n 0 dX2_search_105 rfl ?_
            refine J.iload 8 dX2_search_106 rfl ?_
            refine J.re [0, 3, 4, 1, 2, 5, 6, 7] 8 (ws2 := (o, .inr (2, [.ref sa, .ref ca, .ref sia, .ref cia, .int (Int32.ofInt (tI L F)), .int (nI (nN L)), .int (nI x), .int (nI y), .int (nI z)])) :: (sia, .inl (G.2.1.1, 600, .inl SI1)) :: (cia, .inl (G.2.1.1, 600, .inl CI1)) :: (sa, .inl (G.2.1.1, 600, .inl S)) :: (ca, .inl (G.2.1.1, 600, .inl C)) :: (c, .inr (1, [.ref cta, .ref cua, .int (nI (nN L))])) :: (cta, .inl (G.2.1.1, 60, .inl t)) :: (cua, .inl (G.2.1.1, 60, .inl u)) :: r) rfl rfl ?_
            refine J.callV 0 (st := []) B (c_X2_depthFrom l G _ (p := p) (d := m + 1) (f := f) hb (by omega) hat.1 hat.2) ml_X2_52 mf_yX2_depthFrom mi_yX2_depthFrom rfl dX2_search_108 rfl rfl rfl rfl (fun v_10 w_11 hp_12 => ?_)
            obtain ⟨rfl, rfl⟩ := hp_12
            refine J.re [0, 3, 4, 1, 2, 5, 6, 7] 8 (ws2 := (o, .inr (2, [.ref sa, .ref ca, .ref sia, .ref cia, .int (Int32.ofInt (tI L F)), .int (nI (nN L)), .int (nI x), .int (nI y), .int (nI z)])) :: (sa, .inl (G.2.1.1, 600, .inl S)) :: (ca, .inl (G.2.1.1, 600, .inl C)) :: (sia, .inl (G.2.1.1, 600, .inl SI1)) :: (cia, .inl (G.2.1.1, 600, .inl CI1)) :: (c, .inr (1, [.ref cta, .ref cua, .int (nI (nN L))])) :: (cta, .inl (G.2.1.1, 60, .inl t)) :: (cua, .inl (G.2.1.1, 60, .inl u)) :: r) rfl rfl ?_
            show J G X mX2_search _ _ _ 111 _ [.long (Int64.ofInt (dpI L F p (m + 1) f))]
            refine J.lstore [1, 2, 3, 4, 5, 6, 0, 7, 8] (lv' := [(0, .ref o), (1, .ref c), (2, .int (nI p)), (3, .int (nI mo)), (4, .int (nI M)), (5, .int (1 : Int32)), (6, .long (Int64.ofInt (dpI L F p (m + 1) f))), (8, .int (nI (m + 1))), (9, .int (nI f))]) dX2_search_111 rfl rfl ?_
            refine J.aload_n 0 dX2_search_113 rfl ?_
            refine J.iload 7 dX2_search_114 rfl ?_
            refine J.iload 8 dX2_search_116 rfl ?_
            refine J.re [0, 4, 1, 2, 3, 5, 6, 7] 8 (ws2 := (o, .inr (2, [.ref sa, .ref ca, .ref sia, .ref cia, .int (Int32.ofInt (tI L F)), .int (nI (nN L)), .int (nI x), .int (nI y), .int (nI z)])) :: (cia, .inl (G.2.1.1, 600, .inl CI1)) :: (sa, .inl (G.2.1.1, 600, .inl S)) :: (ca, .inl (G.2.1.1, 600, .inl C)) :: (sia, .inl (G.2.1.1, 600, .inl SI1)) :: (c, .inr (1, [.ref cta, .ref cua, .int (nI (nN L))])) :: (cta, .inl (G.2.1.1, 60, .inl t)) :: (cua, .inl (G.2.1.1, 60, .inl u)) :: r) rfl rfl ?_
            refine J.callV 0 (st := []) B (c_X2_keep l G _ (d := m + 1) (f := f) (cc := cI L p (m + 1) f) (by omega) hat.2) ml_X2_56 mf_yX2_keep mi_yX2_keep rfl dX2_search_118 rfl rfl rfl rfl (fun v_13 w_14 hp_15 => ?_)
            obtain ⟨rfl, rfl⟩ := hp_15
            refine J.re [0, 2, 3, 4, 1, 5, 6, 7] 8 (ws2 := (o, .inr (2, [.ref sa, .ref ca, .ref sia, .ref cia, .int (Int32.ofInt (tI L F)), .int (nI (nN L)), .int (nI (m + 1)), .int (nI f), .int (nI (cI L p (m + 1) f))])) :: (sa, .inl (G.2.1.1, 600, .inl S)) :: (ca, .inl (G.2.1.1, 600, .inl C)) :: (sia, .inl (G.2.1.1, 600, .inl SI1)) :: (cia, .inl (G.2.1.1, 600, .inl CI1)) :: (c, .inr (1, [.ref cta, .ref cua, .int (nI (nN L))])) :: (cta, .inl (G.2.1.1, 60, .inl t)) :: (cua, .inl (G.2.1.1, 60, .inl u)) :: r) rfl rfl ?_
            show J G X mX2_search _ _ _ 121 _ []
            refine J.iinc 8 [1, 2, 3, 4, 5, 6, 7, 8, 0] (lv' := [(0, .ref o), (1, .ref c), (2, .int (nI p)), (3, .int (nI mo)), (4, .int (nI M)), (5, .int (1 : Int32)), (6, .long (Int64.ofInt (dpI L F p (m + 1) f))), (8, .int (nI (m + 1))), (9, .int (nI (f + 1)))]) dX2_search_121 rfl (jinc1 _) rfl rfl ?_
            refine J.goto dX2_search_124 ?_
            exact X2_search_in B hc hb hp hp2 hM hmo hS m hm hK (f + 1) (true, dpI L F p (m + 1) f, m + 1, f, cI L p (m + 1) f) SI1 CI1 (by omega) (by rw [dpN_s, ← hs]; unfold dpG; rw [if_pos ⟨h7.1, h7.2, Or.inr (show g < dpI L F p (m + 1) f by omega)⟩]) hI1
      · skip
        have h8 : ¬ p ≤ ((f + (m + 1)) - 1) := fun z => h8 ((nI_leI (a := p) (b := ((f + (m + 1)) - 1)) (by omega) (by omega)).mpr z)
        refine J.iload 8 dX2_search_54 rfl ?_
        refine J.iload 7 dX2_search_56 rfl ?_
        refine J.iadd dX2_search_58 ?_
        refine J.topi (y := nI (f + (m + 1))) (nI_add f (m + 1)) ?_
        refine J.iconst (1 : Int32) dX2_search_59 rfl ?_
        refine J.isub dX2_search_60 ?_
        refine J.topi (y := nI ((f + (m + 1)) - 1)) (pk_sub (a := f + (m + 1)) (b := 1) (by omega)) ?_
        refine J.goto dX2_search_61 ?_
        refine J.callV 0 (st := []) B (c_X2_widen l G _ (f := f) (h := (f + (m + 1)) - 1) (by omega) (by omega)) ml_X2_44 mf_yX2_widen mi_yX2_widen rfl dX2_search_73 rfl rfl rfl rfl (fun v_16 w_17 hp_18 => ?_)
        obtain ⟨rfl, rfl⟩ := hp_18
        have hI1 := SIC_s (ph := (f + (m + 1)) - 1) hI hS h9 (by omega) hp2 (by split <;> omega)
        generalize upd SI f (SI f + S ((f + (m + 1)) - 1)) = SI1 at hI1 ⊢
        generalize upd CI f (CI f + C ((f + (m + 1)) - 1)) = CI1 at hI1 ⊢
        have hat := SIC_at hI1 h9
        have hcle := cI_le L p (m + 1) f
        show J G X mX2_search ((o, .inr (2, [.ref sa, .ref ca, .ref sia, .ref cia, .int (Int32.ofInt (tI L F)), .int (nI (nN L)), .int (nI x), .int (nI y), .int (nI z)])) :: (sa, .inl (G.2.1.1, 600, .inl S)) :: (ca, .inl (G.2.1.1, 600, .inl C)) :: (sia, .inl (G.2.1.1, 600, .inl SI1)) :: (cia, .inl (G.2.1.1, 600, .inl CI1)) :: (c, .inr (1, [.ref cta, .ref cua, .int (nI (nN L))])) :: (cta, .inl (G.2.1.1, 60, .inl t)) :: (cua, .inl (G.2.1.1, 60, .inl u)) :: r) 0 0 76 [(0, .ref o), (1, .ref c), (2, .int (nI p)), (3, .int (nI mo)), (4, .int (nI M)), (5, .int (1 : Int32)), (6, .long (Int64.ofInt g)), (8, .int (nI (m + 1))), (9, .int (nI f))] []
        refine J.aload_n 0 dX2_search_76 rfl ?_
        refine J.iload 8 dX2_search_77 rfl ?_
        refine J.re [0, 4, 1, 2, 3, 5, 6, 7] 8 (ws2 := (o, .inr (2, [.ref sa, .ref ca, .ref sia, .ref cia, .int (Int32.ofInt (tI L F)), .int (nI (nN L)), .int (nI x), .int (nI y), .int (nI z)])) :: (cia, .inl (G.2.1.1, 600, .inl CI1)) :: (sa, .inl (G.2.1.1, 600, .inl S)) :: (ca, .inl (G.2.1.1, 600, .inl C)) :: (sia, .inl (G.2.1.1, 600, .inl SI1)) :: (c, .inr (1, [.ref cta, .ref cua, .int (nI (nN L))])) :: (cta, .inl (G.2.1.1, 60, .inl t)) :: (cua, .inl (G.2.1.1, 60, .inl u)) :: r) rfl rfl ?_
        refine J.callV 0 (st := []) B (c_X2_countsHere l G _ (f := f) (cc := cI L p (m + 1) f) (n := nN L) (by omega) hat.2 (by omega) (by omega)) ml_X2_48 mf_yX2_countsHere mi_yX2_countsHere rfl dX2_search_79 rfl rfl rfl rfl (fun v_19 w_20 hp_21 => ?_)
        obtain ⟨rfl, rfl⟩ := hp_21
        refine J.re [0, 2, 3, 4, 1, 5, 6, 7] 8 (ws2 := (o, .inr (2, [.ref sa, .ref ca, .ref sia, .ref cia, .int (Int32.ofInt (tI L F)), .int (nI (nN L)), .int (nI x), .int (nI y), .int (nI z)])) :: (sa, .inl (G.2.1.1, 600, .inl S)) :: (ca, .inl (G.2.1.1, 600, .inl C)) :: (sia, .inl (G.2.1.1, 600, .inl SI1)) :: (cia, .inl (G.2.1.1, 600, .inl CI1)) :: (c, .inr (1, [.ref cta, .ref cua, .int (nI (nN L))])) :: (cta, .inl (G.2.1.1, 60, .inl t)) :: (cua, .inl (G.2.1.1, 60, .inl u)) :: r) rfl rfl ?_
        show J G X mX2_search _ _ _ 82 _ [.int (b01 (decide (0 < cI L p (m + 1) f ∧ cI L p (m + 1) f < nN L)))]
        refine J.if_eq dX2_search_82 (fun h7 => ?_) (fun h7 => ?_)
        · skip
          have h7 := of_decide_eq_false (b01_0 h7)
          refine J.iinc 8 [1, 2, 3, 4, 5, 6, 7, 8, 0] (lv' := [(0, .ref o), (1, .ref c), (2, .int (nI p)), (3, .int (nI mo)), (4, .int (nI M)), (5, .int (1 : Int32)), (6, .long (Int64.ofInt g)), (8, .int (nI (m + 1))), (9, .int (nI (f + 1)))]) dX2_search_121 rfl (jinc1 _) rfl rfl ?_
          refine J.goto dX2_search_124 ?_
          exact X2_search_in B hc hb hp hp2 hM hmo hS m hm hK (f + 1) (true, g, x, y, z) SI1 CI1 (by omega) (by rw [dpN_s, ← hs]; unfold dpG; rw [if_neg (fun z => by first | exact h7 ⟨z.1, z.2.1⟩ | exact z.2.2.elim (fun q => by cases q) (fun q => absurd (show g < dpI L F p (m + 1) f from q) (by omega)))]) hI1
        · skip
          have h7 := of_decide_eq_true (b01_1 h7)
          refine J.iload 5 dX2_search_85 rfl ?_
          refine J.if_eq dX2_search_87 (fun z => absurd z (by decide)) (fun _ => ?_)
          refine J.aload_n 0 dX2_search_90 rfl ?_
          refine J.iload 8 dX2_search_91 rfl ?_
          refine J.re [0, 3, 4, 1, 2, 5, 6, 7] 8 (ws2 := (o, .inr (2, [.ref sa, .ref ca, .ref sia, .ref cia, .int (Int32.ofInt (tI L F)), .int (nI (nN L)), .int (nI x), .int (nI y), .int (nI z)])) :: (sia, .inl (G.2.1.1, 600, .inl SI1)) :: (cia, .inl (G.2.1.1, 600, .inl CI1)) :: (sa, .inl (G.2.1.1, 600, .inl S)) :: (ca, .inl (G.2.1.1, 600, .inl C)) :: (c, .inr (1, [.ref cta, .ref cua, .int (nI (nN L))])) :: (cta, .inl (G.2.1.1, 60, .inl t)) :: (cua, .inl (G.2.1.1, 60, .inl u)) :: r) rfl rfl ?_
          refine J.callV 0 (st := []) B (c_X2_depthFrom l G _ (p := p) (d := m + 1) (f := f) hb (by omega) hat.1 hat.2) ml_X2_52 mf_yX2_depthFrom mi_yX2_depthFrom rfl dX2_search_93 rfl rfl rfl rfl (fun v_22 w_23 hp_24 => ?_)
          obtain ⟨rfl, rfl⟩ := hp_24
          refine J.re [0, 3, 4, 1, 2, 5, 6, 7] 8 (ws2 := (o, .inr (2, [.ref sa, .ref ca, .ref sia, .ref cia, .int (Int32.ofInt (tI L F)), .int (nI (nN L)), .int (nI x), .int (nI y), .int (nI z)])) :: (sa, .inl (G.2.1.1, 600, .inl S)) :: (ca, .inl (G.2.1.1, 600, .inl C)) :: (sia, .inl (G.2.1.1, 600, .inl SI1)) :: (cia, .inl (G.2.1.1, 600, .inl CI1)) :: (c, .inr (1, [.ref cta, .ref cua, .int (nI (nN L))])) :: (cta, .inl (G.2.1.1, 60, .inl t)) :: (cua, .inl (G.2.1.1, 60, .inl u)) :: r) rfl rfl ?_
          show J G X mX2_search _ _ _ 96 _ [.long (Int64.ofInt (dpI L F p (m + 1) f))]
          refine J.lload 6 dX2_search_96 rfl ?_
          refine J.lcmp dX2_search_98 ?_
          refine J.if_le dX2_search_99 (fun h6 => ?_) (fun h6 => ?_)
          · skip
            have h6 := jc_le_t h6
            rw [dep_le (dpI_bd hb p (m + 1) f) hgb] at h6
            refine J.iinc 8 [1, 2, 3, 4, 5, 6, 7, 8, 0] (lv' := [(0, .ref o), (1, .ref c), (2, .int (nI p)), (3, .int (nI mo)), (4, .int (nI M)), (5, .int (1 : Int32)), (6, .long (Int64.ofInt g)), (8, .int (nI (m + 1))), (9, .int (nI (f + 1)))]) dX2_search_121 rfl (jinc1 _) rfl rfl ?_
            refine J.goto dX2_search_124 ?_
            exact X2_search_in B hc hb hp hp2 hM hmo hS m hm hK (f + 1) (true, g, x, y, z) SI1 CI1 (by omega) (by rw [dpN_s, ← hs]; unfold dpG; rw [if_neg (fun z => by first | exact h7 ⟨z.1, z.2.1⟩ | exact z.2.2.elim (fun q => by cases q) (fun q => absurd (show g < dpI L F p (m + 1) f from q) (by omega)))]) hI1
          · skip
            have h6 := jc_le_f h6
            rw [dep_le (dpI_bd hb p (m + 1) f) hgb] at h6
            refine J.iconst (1 : Int32) dX2_search_102 rfl ?_
            refine J.istore [1, 2, 3, 4, 5, 0, 6, 7, 8] (lv' := [(0, .ref o), (1, .ref c), (2, .int (nI p)), (3, .int (nI mo)), (4, .int (nI M)), (5, .int (1 : Int32)), (6, .long (Int64.ofInt g)), (8, .int (nI (m + 1))), (9, .int (nI f))]) dX2_search_103 rfl rfl ?_
            refine J.aload_n 0 dX2_search_105 rfl ?_
            refine J.iload 8 dX2_search_106 rfl ?_
            refine J.re [0, 3, 4, 1, 2, 5, 6, 7] 8 (ws2 := (o, .inr (2, [.ref sa, .ref ca, .ref sia, .ref cia, .int (Int32.ofInt (tI L F)), .int (nI (nN L)), .int (nI x), .int (nI y), .int (nI z)])) :: (sia, .inl (G.2.1.1, 600, .inl SI1)) :: (cia, .inl (G.2.1.1, 600, .inl CI1)) :: (sa, .inl (G.2.1.1, 600, .inl S)) :: (ca, .inl (G.2.1.1, 600, .inl C)) :: (c, .inr (1, [.ref cta, .ref cua, .int (nI (nN L))])) :: (cta, .inl (G.2.1.1, 60, .inl t)) :: (cua, .inl (G.2.1.1, 60, .inl u)) :: r) rfl rfl ?_
            refine J.callV 0 (st := []) B (c_X2_depthFrom l G _ (p := p) (d := m + 1) (f := f) hb (by omega) hat.1 hat.2) ml_X2_52 mf_yX2_depthFrom mi_yX2_depthFrom rfl dX2_search_108 rfl rfl rfl rfl (fun v_25 w_26 hp_27 => ?_)
            obtain ⟨rfl, rfl⟩ := hp_27
            refine J.re [0, 3, 4, 1, 2, 5, 6, 7] 8 (ws2 := (o, .inr (2, [.ref sa, .ref ca, .ref sia, .ref cia, .int (Int32.ofInt (tI L F)), .int (nI (nN L)), .int (nI x), .int (nI y), .int (nI z)])) :: (sa, .inl (G.2.1.1, 600, .inl S)) :: (ca, .inl (G.2.1.1, 600, .inl C)) :: (sia, .inl (G.2.1.1, 600, .inl SI1)) :: (cia, .inl (G.2.1.1, 600, .inl CI1)) :: (c, .inr (1, [.ref cta, .ref cua, .int (nI (nN L))])) :: (cta, .inl (G.2.1.1, 60, .inl t)) :: (cua, .inl (G.2.1.1, 60, .inl u)) :: r) rfl rfl ?_
            show J G X mX2_search _ _ _ 111 _ [.long (Int64.ofInt (dpI L F p (m + 1) f))]
            refine J.lstore [1, 2, 3, 4, 5, 6, 0, 7, 8] (lv' := [(0, .ref o), (1, .ref c), (2, .int (nI p)), (3, .int (nI mo)), (4, .int (nI M)), (5, .int (1 : Int32)), (6, .long (Int64.ofInt (dpI L F p (m + 1) f))), (8, .int (nI (m + 1))), (9, .int (nI f))]) dX2_search_111 rfl rfl ?_
            refine J.aload_n 0 dX2_search_113 rfl ?_
            refine J.iload 7 dX2_search_114 rfl ?_
            refine J.iload 8 dX2_search_116 rfl ?_
            refine J.re [0, 4, 1, 2, 3, 5, 6, 7] 8 (ws2 := (o, .inr (2, [.ref sa, .ref ca, .ref sia, .ref cia, .int (Int32.ofInt (tI L F)), .int (nI (nN L)), .int (nI x), .int (nI y), .int (nI z)])) :: (cia, .inl (G.2.1.1, 600, .inl CI1)) :: (sa, .inl (G.2.1.1, 600, .inl S)) :: (ca, .inl (G.2.1.1, 600, .inl C)) :: (sia, .inl (G.2.1.1, 600, .inl SI1)) :: (c, .inr (1, [.ref cta, .ref cua, .int (nI (nN L))])) :: (cta, .inl (G.2.1.1, 60, .inl t)) :: (cua, .inl (G.2.1.1, 60, .inl u)) :: r) rfl rfl ?_
            refine J.callV 0 (st := []) B (c_X2_keep l G _ (d := m + 1) (f := f) (cc := cI L p (m + 1) f) (by omega) hat.2) ml_X2_56 mf_yX2_keep mi_yX2_keep rfl dX2_search_118 rfl rfl rfl rfl (fun v_28 w_29 hp_30 => ?_)
            obtain ⟨rfl, rfl⟩ := hp_30
            refine J.re [0, 2, 3, 4, 1, 5, 6, 7] 8 (ws2 := (o, .inr (2, [.ref sa, .ref ca, .ref sia, .ref cia, .int (Int32.ofInt (tI L F)), .int (nI (nN L)), .int (nI (m + 1)), .int (nI f), .int (nI (cI L p (m + 1) f))])) :: (sa, .inl (G.2.1.1, 600, .inl S)) :: (ca, .inl (G.2.1.1, 600, .inl C)) :: (sia, .inl (G.2.1.1, 600, .inl SI1)) :: (cia, .inl (G.2.1.1, 600, .inl CI1)) :: (c, .inr (1, [.ref cta, .ref cua, .int (nI (nN L))])) :: (cta, .inl (G.2.1.1, 60, .inl t)) :: (cua, .inl (G.2.1.1, 60, .inl u)) :: r) rfl rfl ?_
            show J G X mX2_search _ _ _ 121 _ []
            refine J.iinc 8 [1, 2, 3, 4, 5, 6, 7, 8, 0] (lv' := [(0, .ref o), (1, .ref c), (2, .int (nI p)), (3, .int (nI mo)), (4, .int (nI M)), (5, .int (1 : Int32)), (6, .long (Int64.ofInt (dpI L F p (m + 1) f))), (8, .int (nI (m + 1))), (9, .int (nI (f + 1)))]) dX2_search_121 rfl (jinc1 _) rfl rfl ?_
            refine J.goto dX2_search_124 ?_
            exact X2_search_in B hc hb hp hp2 hM hmo hS m hm hK (f + 1) (true, dpI L F p (m + 1) f, m + 1, f, cI L p (m + 1) f) SI1 CI1 (by omega) (by rw [dpN_s, ← hs]; unfold dpG; rw [if_pos ⟨h7.1, h7.2, Or.inr (show g < dpI L F p (m + 1) f by omega)⟩]) hI1
termination_by p - f
decreasing_by all_goals omega
set_option maxHeartbeats 4000000 in
set_option maxRecDepth 100000 in
theorem X2_search_out {l : Launch} {G : jG} {X : jX} {r : va_W} {o sa ca sia cia : Nat} {x0 y0 z0 : Int32} {c cta cua p mo M : Nat} {L F t u S C : Nat → Int32} (B : jB l G X 2 47 0 0 (fun v w => v = some (.int (b01 (dpO L F p M).1)) ∧ ∃ S C SI CI, w = (o, .inr (2, [.ref sa, .ref ca, .ref sia, .ref cia, .int (Int32.ofInt (tI L F)), .int (nI (nN L)), .int (dpV (dpO L F p M).1 (dpO L F p M).2.2.1 x0), .int (dpV (dpO L F p M).1 (dpO L F p M).2.2.2.1 y0), .int (dpV (dpO L F p M).1 (dpO L F p M).2.2.2.2 z0)])) :: iA G sa 600 S :: iA G ca 600 C :: iA G sia 600 SI :: iA G cia 600 CI :: oX1 c cta cua (nI (nN L)) :: iA G cta 60 t :: iA G cua 60 u :: r) "search") (m : Nat) (SI CI : Nat → Int32) (hc : CV L F t u) (hb : BD L F) (hp : 2 ≤ p) (hp2 : p ≤ 600) (hM : M < p) (hmo : mo ≤ 30) (hS : SC L F p (nts L 60) S C) (hm : m ≤ M) (hI : SIC L F p m 0 SI CI) : J G X mX2_search ((o, .inr (2, [.ref sa, .ref ca, .ref sia, .ref cia, .int (Int32.ofInt (tI L F)), .int (nI (nN L)), .int (dpV (dpO L F p m).1 (dpO L F p m).2.2.1 x0), .int (dpV (dpO L F p m).1 (dpO L F p m).2.2.2.1 y0), .int (dpV (dpO L F p m).1 (dpO L F p m).2.2.2.2 z0)])) :: (sa, .inl (G.2.1.1, 600, .inl S)) :: (ca, .inl (G.2.1.1, 600, .inl C)) :: (sia, .inl (G.2.1.1, 600, .inl SI)) :: (cia, .inl (G.2.1.1, 600, .inl CI)) :: (c, .inr (1, [.ref cta, .ref cua, .int (nI (nN L))])) :: (cta, .inl (G.2.1.1, 60, .inl t)) :: (cua, .inl (G.2.1.1, 60, .inl u)) :: r) 0 0 24 [(0, .ref o), (1, .ref c), (2, .int (nI p)), (3, .int (nI mo)), (4, .int (nI M)), (5, .int (b01 (dpO L F p m).1)), (6, .long (Int64.ofInt (dpO L F p m).2.1)), (8, .int (nI (m + 1)))] [] := by
  refine J.iload 7 dX2_search_24 rfl ?_
  refine J.iload 4 dX2_search_26 rfl ?_
  refine J.icmp_gt dX2_search_28 (fun h9 => ?_) (fun h9 => ?_)
  · skip
    have h9 : M < (m + 1) := (nI_ltI (a := M) (b := (m + 1)) (by omega) (by omega)).mp h9
    have e : m = M := by omega
    subst e
    refine J.iload 5 dX2_search_133 rfl ?_
    exact J.zret B dX2_search_135 rfl (b01_z _) (⟨rfl, S, C, SI, CI, rfl⟩)
  · skip
    have h9 : ¬ M < (m + 1) := fun z => h9 ((nI_ltI (a := M) (b := (m + 1)) (by omega) (by omega)).mpr z)
    refine J.iconst (0 : Int32) dX2_search_31 rfl ?_
    refine J.istore [1, 2, 3, 4, 5, 6, 7, 8, 0] (lv' := [(0, .ref o), (1, .ref c), (2, .int (nI p)), (3, .int (nI mo)), (4, .int (nI M)), (5, .int (b01 (dpO L F p m).1)), (6, .long (Int64.ofInt (dpO L F p m).2.1)), (8, .int (nI (m + 1))), (9, .int (0 : Int32))]) dX2_search_32 rfl rfl ?_
    refine X2_search_in B hc hb hp hp2 hM hmo hS m (by omega) (fun s SI CI hs hI => ?_) 0 (dpO L F p m) SI CI (by omega) rfl hI
    rw [hs, ← dpO_s]
    refine J.iinc 7 [1, 2, 3, 4, 5, 6, 7, 0] (lv' := [(0, .ref o), (1, .ref c), (2, .int (nI p)), (3, .int (nI mo)), (4, .int (nI M)), (5, .int (b01 (dpO L F p (m + 1)).1)), (6, .long (Int64.ofInt (dpO L F p (m + 1)).2.1)), (8, .int (nI (m + 1 + 1)))]) dX2_search_127 rfl (jinc1 _) rfl rfl ?_
    refine J.goto dX2_search_130 ?_
    exact X2_search_out B (m + 1) SI CI hc hb hp hp2 hM hmo hS (by omega) (SIC_up hI)
termination_by M - m
decreasing_by all_goals omega
set_option maxHeartbeats 4000000 in
set_option maxRecDepth 100000 in
theorem c_X2_search (l : Launch) (G : jG) (r : va_W) {o sa ca sia cia : Nat} {x0 y0 z0 : Int32} {c cta cua p mo : Nat} {L F t u S C SI CI : Nat → Int32} {A n : Int32} (hc : CV L F t u) (hb : BD L F) (hp : 2 ≤ p) (hp2 : p ≤ 600) (hmo : mo ≤ 30) : Mt l G yX2_search mX2_search 2 47 0 0 [.ref o, .ref c, .int (nI p), .int (nI mo)] ((o, .inr (2, [.ref sa, .ref ca, .ref sia, .ref cia, .int A, .int n, .int x0, .int y0, .int z0])) :: (sa, .inl (G.2.1.1, 600, .inl S)) :: (ca, .inl (G.2.1.1, 600, .inl C)) :: (sia, .inl (G.2.1.1, 600, .inl SI)) :: (cia, .inl (G.2.1.1, 600, .inl CI)) :: (c, .inr (1, [.ref cta, .ref cua, .int (nI (nN L))])) :: (cta, .inl (G.2.1.1, 60, .inl t)) :: (cua, .inl (G.2.1.1, 60, .inl u)) :: r) (fun v w => v = some (.int (b01 (dpO L F p (min mo (p - 1))).1)) ∧ ∃ S C SI CI, w = (o, .inr (2, [.ref sa, .ref ca, .ref sia, .ref cia, .int (Int32.ofInt (tI L F)), .int (nI (nN L)), .int (dpV (dpO L F p (min mo (p - 1))).1 (dpO L F p (min mo (p - 1))).2.2.1 x0), .int (dpV (dpO L F p (min mo (p - 1))).1 (dpO L F p (min mo (p - 1))).2.2.2.1 y0), .int (dpV (dpO L F p (min mo (p - 1))).1 (dpO L F p (min mo (p - 1))).2.2.2.2 z0)])) :: iA G sa 600 S :: iA G ca 600 C :: iA G sia 600 SI :: iA G cia 600 CI :: oX1 c cta cua (nI (nN L)) :: iA G cta 60 t :: iA G cua 60 u :: r) := by
  refine Mt.of (by decide +kernel) rfl rfl (fun X B => ?_)
  show J G X mX2_search ((o, .inr (2, [.ref sa, .ref ca, .ref sia, .ref cia, .int A, .int n, .int x0, .int y0, .int z0])) :: (sa, .inl (G.2.1.1, 600, .inl S)) :: (ca, .inl (G.2.1.1, 600, .inl C)) :: (sia, .inl (G.2.1.1, 600, .inl SI)) :: (cia, .inl (G.2.1.1, 600, .inl CI)) :: (c, .inr (1, [.ref cta, .ref cua, .int (nI (nN L))])) :: (cta, .inl (G.2.1.1, 60, .inl t)) :: (cua, .inl (G.2.1.1, 60, .inl u)) :: r) 0 0 0 [(0, .ref o), (1, .ref c), (2, .int (nI p)), (3, .int (nI mo))] []
  refine J.aload_n 0 dX2_search_0 rfl ?_
  refine J.aload_n 1 dX2_search_1 rfl ?_
  refine J.iload_n 2 dX2_search_2 rfl ?_
  refine J.callV 0 (st := []) B (c_X2_share l G _ (p := p) hc hb (by omega) hp2) ml_X2_34 mf_yX2_share mi_yX2_share rfl dX2_search_3 rfl rfl rfl rfl (fun v_1 w_2 hp_3 => ?_)
  obtain ⟨S1, C1, hS1, rfl, rfl⟩ := hp_3
  show J G X mX2_search _ _ _ 6 _ []
  refine J.iload_n 3 dX2_search_6 rfl ?_
  refine J.iload_n 2 dX2_search_7 rfl ?_
  refine J.iconst (1 : Int32) dX2_search_8 rfl ?_
  refine J.isub dX2_search_9 ?_
  refine J.topi (y := nI (p - 1)) (pk_sub (a := p) (b := 1) (by omega)) ?_
  refine J.callS (st := []) B (c_J9_min_7cf53 l G _ (a := nI mo) (b := nI (p - 1))) ml_X2_38 mf_yJ9_min_7cf53 mS_yJ9_min_7cf53 dX2_search_10 rfl rfl rfl (fun v_4 w_5 hp_6 => ?_)
  obtain ⟨rfl, rfl⟩ := hp_6
  rw [min_nI (a := mo) (b := p - 1) (by omega) (by omega)]
  show J G X mX2_search _ _ _ 13 _ [.int (nI (min mo (p - 1)))]
  refine J.istore [1, 2, 3, 4, 0] (lv' := [(0, .ref o), (1, .ref c), (2, .int (nI p)), (3, .int (nI mo)), (4, .int (nI (min mo (p - 1))))]) dX2_search_13 rfl rfl ?_
  refine J.iconst (0 : Int32) dX2_search_15 rfl ?_
  refine J.istore [1, 2, 3, 4, 5, 0] (lv' := [(0, .ref o), (1, .ref c), (2, .int (nI p)), (3, .int (nI mo)), (4, .int (nI (min mo (p - 1)))), (5, .int (0 : Int32))]) dX2_search_16 rfl rfl ?_
  refine J.lconst 0 dX2_search_18 rfl ?_
  refine J.lstore [1, 2, 3, 4, 5, 6, 0] (lv' := [(0, .ref o), (1, .ref c), (2, .int (nI p)), (3, .int (nI mo)), (4, .int (nI (min mo (p - 1)))), (5, .int (0 : Int32)), (6, .long (0 : Int64))]) dX2_search_19 rfl rfl ?_
  refine J.iconst (1 : Int32) dX2_search_21 rfl ?_
  refine J.istore [1, 2, 3, 4, 5, 6, 7, 0] (lv' := [(0, .ref o), (1, .ref c), (2, .int (nI p)), (3, .int (nI mo)), (4, .int (nI (min mo (p - 1)))), (5, .int (0 : Int32)), (6, .long (0 : Int64)), (8, .int (1 : Int32))]) dX2_search_22 rfl rfl ?_
  exact X2_search_out B 0 _ _ hc hb hp hp2 (by omega) hmo hS1 (by omega) (SIC_0 hp2)
