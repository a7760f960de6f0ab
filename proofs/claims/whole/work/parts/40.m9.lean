theorem df_k {ns s nt : Nat} {kk rr ml cls : Nat → Int32} (h : s < ns) (hk : ¬ kk s = 1) : dfL (mqF ns kk rr ml cls) nt (s + 1) = dfL (mqF ns kk rr ml cls) nt s := dfL_no (fun z => hk (by have := z.1; rw [mq_k h] at this; exact this))
theorem df_no {ns s nt : Nat} {kk rr ml cls : Nat → Int32} (h : s < ns) (hr : rr s = 0) : dfL (mqF ns kk rr ml cls) nt (s + 1) = dfL (mqF ns kk rr ml cls) nt s := dfL_no (fun z => z.2 (by rw [mq_no h hr]))
theorem df_none {ns s nt : Nat} {kk rr ml cls : Nat → Int32} (h : s < ns) (hr : ¬ rr s = 0) (hn : rowM ml s nt = -9) : dfL (mqF ns kk rr ml cls) nt (s + 1) = dfL (mqF ns kk rr ml cls) nt s := dfL_no (fun z => z.2 (by rw [mq_yes h hr]; exact hn))
theorem df_yes {ns s nt : Nat} {kk rr ml cls : Nat → Int32} (h : s < ns) (hk : kk s = 1) (hr : ¬ rr s = 0) (hn : ¬ rowM ml s nt = -9) : bsz (dfL (mqF ns kk rr ml cls) nt (s + 1)) = insR (rowM ml s nt - lvQ (mqF ns kk rr ml cls) s) (bsz (dfL (mqF ns kk rr ml cls) nt s)) ∧ (dfL (mqF ns kk rr ml cls) nt (s + 1)).length = (dfL (mqF ns kk rr ml cls) nt s).length + 1 := by
  have h9 := bdf_yes (q := (mqF ns kk rr ml cls)) (nt := nt) (k := s) (by rw [mq_k h]; exact hk) (by rw [mq_yes h hr]; exact hn)
  rw [show ((mqF ns kk rr ml cls) s).2.2.1 nt = rowM ml s nt by rw [mq_yes h hr]] at h9
  exact h9
set_option maxHeartbeats 4000000 in
set_option maxRecDepth 100000 in
theorem X8_lvi {l : Launch} {G : jG} {X : jX} {r : va_W} {m : Nat} {D : Nat → Nat} {fi : Int32} {as : Int64} {ns : Nat} {ii : Int32} {de : Int64} {dl dp dc : Int32} {nr : Nat} {al wa : Int32} {kk rr ml cls : Nat → Int32} {F rw0 : Nat → Int32} {nt : Nat} (B : jB l G X 2 47 0 0 (fun v w => ∃ so1 rw1, v = some (.int (nI (unE (fLv (mqF ns kk rr ml cls) ns) 60))) ∧ w = (m, .inr (8, [.int fi, .ref (D 0), .long as, .int (nI ns), .ref (D 1), .ref (D 2), .ref (D 3), .ref (D 4), .ref (D 5), .ref (D 6), .ref (D 7), .ref (D 8), .int ii, .long de, .int dl, .int dp, .int dc, .ref (D 9), .int (nI nr), .ref (D 10), .ref (D 11), .ref (D 12), .ref (D 13), .ref (D 14), .int al, .int wa])) :: (D 1, .inl (G.2.1.1, 12, .inl kk)) :: (D 2, .inl (G.2.1.2.1, 12, .inl rr)) :: (D 3, .inl (G.2.1.1, 720, .inl ml)) :: (D 4, .inl (G.2.1.1, 60, .inl (fiF F (fLv (mqF ns kk rr ml cls) ns) 60))) :: (D 6, .inl (G.2.1.1, 60, .inl so1)) :: (D 7, .inl (G.2.1.1, 12, .inl rw1)) :: r) "level") (hns : ns ≤ 12) (hnt : nt < 60) (hK : ∀ so2 : Nat → Int32, AG so2 (bsz (dfL (mqF ns kk rr ml cls) nt ns)) → J G X mX8_level ((m, .inr (8, [.int fi, .ref (D 0), .long as, .int (nI ns), .ref (D 1), .ref (D 2), .ref (D 3), .ref (D 4), .ref (D 5), .ref (D 6), .ref (D 7), .ref (D 8), .int ii, .long de, .int dl, .int dp, .int dc, .ref (D 9), .int (nI nr), .ref (D 10), .ref (D 11), .ref (D 12), .ref (D 13), .ref (D 14), .int al, .int wa])) :: (D 1, .inl (G.2.1.1, 12, .inl kk)) :: (D 2, .inl (G.2.1.2.1, 12, .inl rr)) :: (D 3, .inl (G.2.1.1, 720, .inl ml)) :: (D 4, .inl (G.2.1.1, 60, .inl (fiF F (fLv (mqF ns kk rr ml cls) ns) nt))) :: (D 6, .inl (G.2.1.1, 60, .inl so2)) :: (D 7, .inl (G.2.1.1, 12, .inl (fiF rw0 (lvQ (mqF ns kk rr ml cls)) ns))) :: r) 0 0 140 [(0, .ref m), (1, .int (nI (unE (fLv (mqF ns kk rr ml cls) ns) nt))), (2, .int (nI nt)), (3, .int (nI ((dfL (mqF ns kk rr ml cls) nt ns).length)))] []) (s : Nat) (so : Nat → Int32) (hk : s ≤ ns) (hA : AG so (bsz (dfL (mqF ns kk rr ml cls) nt s))) : J G X mX8_level ((m, .inr (8, [.int fi, .ref (D 0), .long as, .int (nI ns), .ref (D 1), .ref (D 2), .ref (D 3), .ref (D 4), .ref (D 5), .ref (D 6), .ref (D 7), .ref (D 8), .int ii, .long de, .int dl, .int dp, .int dc, .ref (D 9), .int (nI nr), .ref (D 10), .ref (D 11), .ref (D 12), .ref (D 13), .ref (D 14), .int al, .int wa])) :: (D 1, .inl (G.2.1.1, 12, .inl kk)) :: (D 2, .inl (G.2.1.2.1, 12, .inl rr)) :: (D 3, .inl (G.2.1.1, 720, .inl ml)) :: (D 4, .inl (G.2.1.1, 60, .inl (fiF F (fLv (mqF ns kk rr ml cls) ns) nt))) :: (D 6, .inl (G.2.1.1, 60, .inl so)) :: (D 7, .inl (G.2.1.1, 12, .inl (fiF rw0 (lvQ (mqF ns kk rr ml cls)) ns))) :: r) 0 0 64 [(0, .ref m), (1, .int (nI (unE (fLv (mqF ns kk rr ml cls) ns) nt))), (2, .int (nI nt)), (3, .int (nI ((dfL (mqF ns kk rr ml cls) nt s).length))), (4, .int (nI s))] [] := by
  have hle := dfL_le (mqF ns kk rr ml cls) nt s
  refine J.iload 4 dX8_level_64 rfl ?_
  refine J.aload_n 0 dX8_level_66 rfl ?_
  refine J.get 0 fl_X8_73 dX8_level_67 rfl rfl ?_
  refine J.icmp_ge dX8_level_70 (fun h9 => ?_) (fun h9 => ?_)
  · skip
    have h9 : ns ≤ s := (nI_leI (a := ns) (b := s) (by omega) (by omega)).mp h9
    have e : s = ns := by omega
    subst e
    refine J.loc [0, 1, 2, 3] (lv' := [(0, .ref m), (1, .int (nI (unE (fLv (mqF s kk rr ml cls) s) nt))), (2, .int (nI nt)), (3, .int (nI ((dfL (mqF s kk rr ml cls) nt s).length)))]) rfl ?_
    exact hK so hA
  · skip
    have h9 : ¬ ns ≤ s := fun z => h9 ((nI_leI (a := ns) (b := s) (by omega) (by omega)).mpr z)
    have h9 : s < ns := by omega
    have hs : s < 12 := by omega
    refine J.aload_n 0 dX8_level_73 rfl ?_
    refine J.get 0 fl_X8_13 dX8_level_74 rfl rfl ?_
    refine J.iload 4 dX8_level_77 rfl ?_
    refine J.iald 1 (s) dX8_level_79 rfl (rfl) (by omega) (by decide) ?_
    refine J.iconst (1 : Int32) dX8_level_80 rfl ?_
    refine J.icmp_ne dX8_level_81 (fun h8 => ?_) (fun h8 => ?_)
    · skip
      refine J.iload_n 3 dX8_level_132 rfl ?_
      refine J.istore_n [1, 2, 3, 0, 4] (lv' := [(0, .ref m), (1, .int (nI (unE (fLv (mqF ns kk rr ml cls) ns) nt))), (2, .int (nI nt)), (3, .int (nI ((dfL (mqF ns kk rr ml cls) nt s).length))), (4, .int (nI s))]) dX8_level_133 rfl rfl ?_
      refine J.iinc 4 [1, 2, 3, 4, 0] (lv' := [(0, .ref m), (1, .int (nI (unE (fLv (mqF ns kk rr ml cls) ns) nt))), (2, .int (nI nt)), (3, .int (nI ((dfL (mqF ns kk rr ml cls) nt s).length))), (4, .int (nI (s + 1)))]) dX8_level_134 rfl (jinc1 _) rfl rfl ?_
      refine J.goto dX8_level_137 ?_
      have hno : dfL (mqF ns kk rr ml cls) nt (s + 1) = dfL (mqF ns kk rr ml cls) nt s := by first | exact df_k h9 h8 | exact df_no h9 h7 | exact df_none h9 h7 h6
      rw [← hno] at hA ⊢
      exact X8_lvi B hns hnt hK (s + 1) so (by omega) hA
    · skip
      refine J.aload_n 0 dX8_level_84 rfl ?_
      refine J.get 0 fl_X8_16 dX8_level_85 rfl rfl ?_
      refine J.iload 4 dX8_level_88 rfl ?_
      refine J.zald 2 (s) dX8_level_90 rfl (rfl) (by omega) (by decide) ?_
      refine J.if_eq dX8_level_91 (fun h7 => ?_) (fun h7 => ?_)
      · skip
        refine J.iload_n 3 dX8_level_132 rfl ?_
        refine J.istore_n [1, 2, 3, 0, 4] (lv' := [(0, .ref m), (1, .int (nI (unE (fLv (mqF ns kk rr ml cls) ns) nt))), (2, .int (nI nt)), (3, .int (nI ((dfL (mqF ns kk rr ml cls) nt s).length))), (4, .int (nI s))]) dX8_level_133 rfl rfl ?_
        refine J.iinc 4 [1, 2, 3, 4, 0] (lv' := [(0, .ref m), (1, .int (nI (unE (fLv (mqF ns kk rr ml cls) ns) nt))), (2, .int (nI nt)), (3, .int (nI ((dfL (mqF ns kk rr ml cls) nt s).length))), (4, .int (nI (s + 1)))]) dX8_level_134 rfl (jinc1 _) rfl rfl ?_
        refine J.goto dX8_level_137 ?_
        have hno : dfL (mqF ns kk rr ml cls) nt (s + 1) = dfL (mqF ns kk rr ml cls) nt s := by first | exact df_k h9 h8 | exact df_no h9 h7 | exact df_none h9 h7 h6
        rw [← hno] at hA ⊢
        exact X8_lvi B hns hnt hK (s + 1) so (by omega) hA
      · skip
        refine J.aload_n 0 dX8_level_94 rfl ?_
        refine J.iload 4 dX8_level_95 rfl ?_
        refine J.iload_n 2 dX8_level_97 rfl ?_
        refine J.re [0, 3, 1, 2, 4, 5, 6] 7 (ws2 := (m, .inr (8, [.int fi, .ref (D 0), .long as, .int (nI ns), .ref (D 1), .ref (D 2), .ref (D 3), .ref (D 4), .ref (D 5), .ref (D 6), .ref (D 7), .ref (D 8), .int ii, .long de, .int dl, .int dp, .int dc, .ref (D 9), .int (nI nr), .ref (D 10), .ref (D 11), .ref (D 12), .ref (D 13), .ref (D 14), .int al, .int wa])) :: (D 3, .inl (G.2.1.1, 720, .inl ml)) :: (D 1, .inl (G.2.1.1, 12, .inl kk)) :: (D 2, .inl (G.2.1.2.1, 12, .inl rr)) :: (D 4, .inl (G.2.1.1, 60, .inl (fiF F (fLv (mqF ns kk rr ml cls) ns) nt))) :: (D 6, .inl (G.2.1.1, 60, .inl so)) :: (D 7, .inl (G.2.1.1, 12, .inl (fiF rw0 (lvQ (mqF ns kk rr ml cls)) ns))) :: r) rfl rfl ?_
        refine J.callV 0 (st := []) B (c_X8_has l G _ (s := s) (n := nt) hs (by omega)) ml_X8_88 mf_yX8_has mi_yX8_has rfl dX8_level_98 rfl rfl rfl rfl (fun v_1 w_2 hp_3 => ?_)
        obtain ⟨rfl, rfl⟩ := hp_3
        refine J.re [0, 2, 3, 1, 4, 5, 6] 7 (ws2 := (m, .inr (8, [.int fi, .ref (D 0), .long as, .int (nI ns), .ref (D 1), .ref (D 2), .ref (D 3), .ref (D 4), .ref (D 5), .ref (D 6), .ref (D 7), .ref (D 8), .int ii, .long de, .int dl, .int dp, .int dc, .ref (D 9), .int (nI nr), .ref (D 10), .ref (D 11), .ref (D 12), .ref (D 13), .ref (D 14), .int al, .int wa])) :: (D 1, .inl (G.2.1.1, 12, .inl kk)) :: (D 2, .inl (G.2.1.2.1, 12, .inl rr)) :: (D 3, .inl (G.2.1.1, 720, .inl ml)) :: (D 4, .inl (G.2.1.1, 60, .inl (fiF F (fLv (mqF ns kk rr ml cls) ns) nt))) :: (D 6, .inl (G.2.1.1, 60, .inl so)) :: (D 7, .inl (G.2.1.1, 12, .inl (fiF rw0 (lvQ (mqF ns kk rr ml cls)) ns))) :: r) rfl rfl ?_
        show J G X mX8_level _ _ _ 101 _ [.int (b01 (decide (¬ rowM ml s nt = -9)))]
        refine J.if_eq dX8_level_101 (fun h6 => ?_) (fun h6 => ?_)
        · skip
          have h6 : rowM ml s nt = -9 := Decidable.of_not_not (of_decide_eq_false (b01_0 h6))
          refine J.iload_n 3 dX8_level_132 rfl ?_
          refine J.istore_n [1, 2, 3, 0, 4] (lv' := [(0, .ref m), (1, .int (nI (unE (fLv (mqF ns kk rr ml cls) ns) nt))), (2, .int (nI nt)), (3, .int (nI ((dfL (mqF ns kk rr ml cls) nt s).length))), (4, .int (nI s))]) dX8_level_133 rfl rfl ?_
          refine J.iinc 4 [1, 2, 3, 4, 0] (lv' := [(0, .ref m), (1, .int (nI (unE (fLv (mqF ns kk rr ml cls) ns) nt))), (2, .int (nI nt)), (3, .int (nI ((dfL (mqF ns kk rr ml cls) nt s).length))), (4, .int (nI (s + 1)))]) dX8_level_134 rfl (jinc1 _) rfl rfl ?_
          refine J.goto dX8_level_137 ?_
          have hno : dfL (mqF ns kk rr ml cls) nt (s + 1) = dfL (mqF ns kk rr ml cls) nt s := by first | exact df_k h9 h8 | exact df_no h9 h7 | exact df_none h9 h7 h6
          rw [← hno] at hA ⊢
          exact X8_lvi B hns hnt hK (s + 1) so (by omega) hA
        · skip
          have h6 : ¬ rowM ml s nt = -9 := of_decide_eq_true (b01_1 h6)
          refine J.aload_n 0 dX8_level_104 rfl ?_
          refine J.iload_n 3 dX8_level_105 rfl ?_
          refine J.aload_n 0 dX8_level_106 rfl ?_
          refine J.get 0 fl_X8_20 dX8_level_107 rfl rfl ?_
          refine J.bipush (60 : Int32) dX8_level_110 rfl ?_
          refine J.iload 4 dX8_level_112 rfl ?_
          refine J.imul dX8_level_114 ?_
          refine J.topi (y := nI (60 * s)) (pk_mul 60 s) ?_
          refine J.iload_n 2 dX8_level_115 rfl ?_
          refine J.iadd dX8_level_116 ?_
          refine J.topi (y := nI ((60 * s) + nt)) (nI_add (60 * s) nt) ?_
          refine J.iald 3 ((60 * s) + nt) dX8_level_117 rfl (rfl) (by omega) (by decide) ?_
          refine J.topi (y := rowM ml s nt) (rfl) ?_
          refine J.aload_n 0 dX8_level_118 rfl ?_
          refine J.get 0 fl_X8_32 dX8_level_119 rfl rfl ?_
          refine J.iload 4 dX8_level_122 rfl ?_
          refine J.iald 6 (s) dX8_level_124 rfl (rfl) (by omega) (by decide) ?_
          refine J.topi (y := lvQ (mqF ns kk rr ml cls) s) (fiF_in (by omega)) ?_
          refine J.isub dX8_level_125 ?_
          refine J.re [0, 5, 1, 2, 3, 4, 6] 7 (ws2 := (m, .inr (8, [.int fi, .ref (D 0), .long as, .int (nI ns), .ref (D 1), .ref (D 2), .ref (D 3), .ref (D 4), .ref (D 5), .ref (D 6), .ref (D 7), .ref (D 8), .int ii, .long de, .int dl, .int dp, .int dc, .ref (D 9), .int (nI nr), .ref (D 10), .ref (D 11), .ref (D 12), .ref (D 13), .ref (D 14), .int al, .int wa])) :: (D 6, .inl (G.2.1.1, 60, .inl so)) :: (D 1, .inl (G.2.1.1, 12, .inl kk)) :: (D 2, .inl (G.2.1.2.1, 12, .inl rr)) :: (D 3, .inl (G.2.1.1, 720, .inl ml)) :: (D 4, .inl (G.2.1.1, 60, .inl (fiF F (fLv (mqF ns kk rr ml cls) ns) nt))) :: (D 7, .inl (G.2.1.1, 12, .inl (fiF rw0 (lvQ (mqF ns kk rr ml cls)) ns))) :: r) rfl rfl ?_
          refine J.callV 0 (st := []) B (c_X8_sort l G _ (n := (dfL (mqF ns kk rr ml cls) nt s).length) (by omega)) ml_X8_120 mf_yX8_sort mi_yX8_sort rfl dX8_level_126 rfl rfl rfl rfl (fun v_4 w_5 hp_6 => ?_)
          obtain ⟨rfl, rfl⟩ := hp_6
          refine J.re [0, 2, 3, 4, 5, 1, 6] 7 (ws2 := (m, .inr (8, [.int fi, .ref (D 0), .long as, .int (nI ns), .ref (D 1), .ref (D 2), .ref (D 3), .ref (D 4), .ref (D 5), .ref (D 6), .ref (D 7), .ref (D 8), .int ii, .long de, .int dl, .int dp, .int dc, .ref (D 9), .int (nI nr), .ref (D 10), .ref (D 11), .ref (D 12), .ref (D 13), .ref (D 14), .int al, .int wa])) :: (D 1, .inl (G.2.1.1, 12, .inl kk)) :: (D 2, .inl (G.2.1.2.1, 12, .inl rr)) :: (D 3, .inl (G.2.1.1, 720, .inl ml)) :: (D 4, .inl (G.2.1.1, 60, .inl (fiF F (fLv (mqF ns kk rr ml cls) ns) nt))) :: (D 6, .inl (G.2.1.1, 60, .inl (insA so ((rowM ml s nt) - (lvQ (mqF ns kk rr ml cls) s)) (dfL (mqF ns kk rr ml cls) nt s).length))) :: (D 7, .inl (G.2.1.1, 12, .inl (fiF rw0 (lvQ (mqF ns kk rr ml cls)) ns))) :: r) rfl rfl ?_
          show J G X mX8_level _ _ _ 129 _ [.int (nI ((dfL (mqF ns kk rr ml cls) nt s).length + 1))]
          refine J.goto dX8_level_129 ?_
          refine J.istore_n [1, 2, 3, 0, 4] (lv' := [(0, .ref m), (1, .int (nI (unE (fLv (mqF ns kk rr ml cls) ns) nt))), (2, .int (nI nt)), (3, .int (nI ((dfL (mqF ns kk rr ml cls) nt s).length + 1))), (4, .int (nI s))]) dX8_level_133 rfl rfl ?_
          refine J.iinc 4 [1, 2, 3, 4, 0] (lv' := [(0, .ref m), (1, .int (nI (unE (fLv (mqF ns kk rr ml cls) ns) nt))), (2, .int (nI nt)), (3, .int (nI ((dfL (mqF ns kk rr ml cls) nt s).length + 1))), (4, .int (nI (s + 1)))]) dX8_level_134 rfl (jinc1 _) rfl rfl ?_
          refine J.goto dX8_level_137 ?_
          obtain ⟨hb1, hb2⟩ := df_yes (cls := cls) h9 h8 h7 h6
          have ha := AG_put (rowM ml s nt - lvQ (mqF ns kk rr ml cls) s) hA (bsz_len _)
          rw [← hb1] at ha
          rw [← hb2]
          exact X8_lvi B hns hnt hK (s + 1) _ (by omega) ha
termination_by ns - s
decreasing_by all_goals omega
set_option maxHeartbeats 4000000 in
set_option maxRecDepth 100000 in
theorem X8_lvo {l : Launch} {G : jG} {X : jX} {r : va_W} {m : Nat} {D : Nat → Nat} {fi : Int32} {as : Int64} {ns : Nat} {ii : Int32} {de : Int64} {dl dp dc : Int32} {nr : Nat} {al wa : Int32} {kk rr ml cls : Nat → Int32} {F rw0 : Nat → Int32} (B : jB l G X 2 47 0 0 (fun v w => ∃ so1 rw1, v = some (.int (nI (unE (fLv (mqF ns kk rr ml cls) ns) 60))) ∧ w = (m, .inr (8, [.int fi, .ref (D 0), .long as, .int (nI ns), .ref (D 1), .ref (D 2), .ref (D 3), .ref (D 4), .ref (D 5), .ref (D 6), .ref (D 7), .ref (D 8), .int ii, .long de, .int dl, .int dp, .int dc, .ref (D 9), .int (nI nr), .ref (D 10), .ref (D 11), .ref (D 12), .ref (D 13), .ref (D 14), .int al, .int wa])) :: (D 1, .inl (G.2.1.1, 12, .inl kk)) :: (D 2, .inl (G.2.1.2.1, 12, .inl rr)) :: (D 3, .inl (G.2.1.1, 720, .inl ml)) :: (D 4, .inl (G.2.1.1, 60, .inl (fiF F (fLv (mqF ns kk rr ml cls) ns) 60))) :: (D 6, .inl (G.2.1.1, 60, .inl so1)) :: (D 7, .inl (G.2.1.1, 12, .inl rw1)) :: r) "level") (nt : Nat) (so : Nat → Int32) (hns : ns ≤ 12) (hk : nt ≤ 60) : J G X mX8_level ((m, .inr (8, [.int fi, .ref (D 0), .long as, .int (nI ns), .ref (D 1), .ref (D 2), .ref (D 3), .ref (D 4), .ref (D 5), .ref (D 6), .ref (D 7), .ref (D 8), .int ii, .long de, .int dl, .int dp, .int dc, .ref (D 9), .int (nI nr), .ref (D 10), .ref (D 11), .ref (D 12), .ref (D 13), .ref (D 14), .int al, .int wa])) :: (D 1, .inl (G.2.1.1, 12, .inl kk)) :: (D 2, .inl (G.2.1.2.1, 12, .inl rr)) :: (D 3, .inl (G.2.1.1, 720, .inl ml)) :: (D 4, .inl (G.2.1.1, 60, .inl (fiF F (fLv (mqF ns kk rr ml cls) ns) nt))) :: (D 6, .inl (G.2.1.1, 60, .inl so)) :: (D 7, .inl (G.2.1.1, 12, .inl (fiF rw0 (lvQ (mqF ns kk rr ml cls)) ns))) :: r) 0 0 53 [(0, .ref m), (1, .int (nI (unE (fLv (mqF ns kk rr ml cls) ns) nt))), (2, .int (nI nt))] [] := by
  have hue := unE_le (fLv (mqF ns kk rr ml cls) ns) nt
  refine J.iload_n 2 dX8_level_53 rfl ?_
  refine J.bipush (60 : Int32) dX8_level_54 rfl ?_
  refine J.icmp_ge dX8_level_56 (fun h9 => ?_) (fun h9 => ?_)
  · skip
    have h9 : 60 ≤ nt := (nI_leI (a := 60) (b := nt) (by omega) (by omega)).mp h9
    have e : nt = 60 := by omega
    subst e
    refine J.iload_n 1 dX8_level_185 rfl ?_
    exact J.iret B dX8_level_186 rfl (⟨so, fiF rw0 (lvQ (mqF ns kk rr ml cls)) ns, rfl, rfl⟩)
  · skip
    have h9 : ¬ 60 ≤ nt := fun z => h9 ((nI_leI (a := 60) (b := nt) (by omega) (by omega)).mpr z)
    refine J.iconst (0 : Int32) dX8_level_59 rfl ?_
    refine J.istore_n [1, 2, 3, 0] (lv' := [(0, .ref m), (1, .int (nI (unE (fLv (mqF ns kk rr ml cls) ns) nt))), (2, .int (nI nt)), (3, .int (0 : Int32))]) dX8_level_60 rfl rfl ?_
    refine J.iconst (0 : Int32) dX8_level_61 rfl ?_
    refine J.istore [1, 2, 3, 4, 0] (lv' := [(0, .ref m), (1, .int (nI (unE (fLv (mqF ns kk rr ml cls) ns) nt))), (2, .int (nI nt)), (3, .int (0 : Int32)), (4, .int (0 : Int32))]) dX8_level_62 rfl rfl ?_
    refine X8_lvi B hns (by omega) (fun so2 hA2 => ?_) 0 so (by omega) trivial
    have hle := dfL_le (mqF ns kk rr ml cls) nt ns
    refine J.aload_n 0 dX8_level_140 rfl ?_
    refine J.get 0 fl_X8_23 dX8_level_141 rfl rfl ?_
    refine J.iload_n 2 dX8_level_144 rfl ?_
    refine J.iload_n 3 dX8_level_145 rfl ?_
    refine J.if_ne dX8_level_146 (fun h5 => ?_) (fun h5 => ?_)
    · skip
      have h5 : ¬ ((dfL (mqF ns kk rr ml cls) nt ns).length) = 0 := fun z => h5 ((nI_eq (a := ((dfL (mqF ns kk rr ml cls) nt ns).length)) (b := 0) (by omega) (by omega)).mpr z)
      refine J.aload_n 0 dX8_level_153 rfl ?_
      refine J.get 0 fl_X8_29 dX8_level_154 rfl rfl ?_
      refine J.iload_n 3 dX8_level_157 rfl ?_
      refine J.iconst (2 : Int32) dX8_level_158 rfl ?_
      refine J.idiv dX8_level_159 (by decide) ?_
      refine J.topi (y := nI (((dfL (mqF ns kk rr ml cls) nt ns).length) / 2)) (pk_div (a := (dfL (mqF ns kk rr ml cls) nt ns).length) (d := 2) (by omega) (by omega) (by omega)) ?_
      refine J.iald 5 (((dfL (mqF ns kk rr ml cls) nt ns).length) / 2) dX8_level_160 rfl (rfl) (by omega) (by decide) ?_
      refine J.topi (y := so2 ((dfL (mqF ns kk rr ml cls) nt ns).length / 2)) (rfl) ?_
      refine J.topi (y := (fLv (mqF ns kk rr ml cls) ns) nt) (by have hm := midV_of hA2; first | (rw [if_pos h5] at hm; exact hm) | (rw [if_neg h5] at hm; exact hm)) ?_
      refine J.iast 4 (nt) dX8_level_161 rfl (rfl) (by omega) (by decide) (ws' := (m, .inr (8, [.int fi, .ref (D 0), .long as, .int (nI ns), .ref (D 1), .ref (D 2), .ref (D 3), .ref (D 4), .ref (D 5), .ref (D 6), .ref (D 7), .ref (D 8), .int ii, .long de, .int dl, .int dp, .int dc, .ref (D 9), .int (nI nr), .ref (D 10), .ref (D 11), .ref (D 12), .ref (D 13), .ref (D 14), .int al, .int wa])) :: (D 1, .inl (G.2.1.1, 12, .inl kk)) :: (D 2, .inl (G.2.1.2.1, 12, .inl rr)) :: (D 3, .inl (G.2.1.1, 720, .inl ml)) :: (D 4, .inl (G.2.1.1, 60, .inl (upd (fiF F (fLv (mqF ns kk rr ml cls) ns) nt) nt ((fLv (mqF ns kk rr ml cls) ns) nt)))) :: (D 6, .inl (G.2.1.1, 60, .inl so2)) :: (D 7, .inl (G.2.1.1, 12, .inl (fiF rw0 (lvQ (mqF ns kk rr ml cls)) ns))) :: r) rfl ?_
      rw [show upd (fiF F (fLv (mqF ns kk rr ml cls) ns) nt) nt ((fLv (mqF ns kk rr ml cls) ns) nt) = fiF F (fLv (mqF ns kk rr ml cls) ns) (nt + 1) from fiF_s _ _ _]
      refine J.iload_n 1 dX8_level_162 rfl ?_
      refine J.aload_n 0 dX8_level_163 rfl ?_
      refine J.get 0 fl_X8_23 dX8_level_164 rfl rfl ?_
      refine J.iload_n 2 dX8_level_167 rfl ?_
      refine J.iald 4 (nt) dX8_level_168 rfl (rfl) (by omega) (by decide) ?_
      refine J.topi (y := (fLv (mqF ns kk rr ml cls) ns) nt) (fiF_in (by omega)) ?_
      refine J.if_eq dX8_level_169 (fun h8 => ?_) (fun h8 => ?_)
      · skip
        refine J.iconst (0 : Int32) dX8_level_176 rfl ?_
        refine J.iadd dX8_level_177 ?_
        refine J.topi (y := nI ((unE (fLv (mqF ns kk rr ml cls) ns) nt) + 0)) (nI_add (unE (fLv (mqF ns kk rr ml cls) ns) nt) 0) ?_
        refine J.istore_n [1, 0, 2, 3] (lv' := [(0, .ref m), (1, .int (nI ((unE (fLv (mqF ns kk rr ml cls) ns) nt) + 0))), (2, .int (nI nt)), (3, .int (nI ((dfL (mqF ns kk rr ml cls) nt ns).length)))]) dX8_level_178 rfl rfl ?_
        refine J.iinc 2 [1, 2, 0, 3] (lv' := [(0, .ref m), (1, .int (nI ((unE (fLv (mqF ns kk rr ml cls) ns) nt) + 0))), (2, .int (nI (nt + 1))), (3, .int (nI ((dfL (mqF ns kk rr ml cls) nt ns).length)))]) dX8_level_179 rfl (jinc1 _) rfl rfl ?_
        refine J.goto dX8_level_182 ?_
        refine J.loc [0, 1, 2] (lv' := [(0, .ref m), (1, .int (nI ((unE (fLv (mqF ns kk rr ml cls) ns) nt) + 0))), (2, .int (nI (nt + 1)))]) rfl ?_
        have he : unE (fLv (mqF ns kk rr ml cls) ns) (nt + 1) = unE (fLv (mqF ns kk rr ml cls) ns) nt + 0 := by
          show unE (fLv (mqF ns kk rr ml cls) ns) nt + _ = _
          rw [if_pos h8]
        have hq9 := X8_lvo (F := F) (rw0 := rw0) B (nt + 1) so2 hns (by omega)
        rw [he] at hq9
        exact hq9
      · skip
        refine J.iconst (1 : Int32) dX8_level_172 rfl ?_
        refine J.goto dX8_level_173 ?_
        refine J.iadd dX8_level_177 ?_
        refine J.topi (y := nI ((unE (fLv (mqF ns kk rr ml cls) ns) nt) + 1)) (nI_add (unE (fLv (mqF ns kk rr ml cls) ns) nt) 1) ?_
        refine J.istore_n [1, 0, 2, 3] (lv' := [(0, .ref m), (1, .int (nI ((unE (fLv (mqF ns kk rr ml cls) ns) nt) + 1))), (2, .int (nI nt)), (3, .int (nI ((dfL (mqF ns kk rr ml cls) nt ns).length)))]) dX8_level_178 rfl rfl ?_
        refine J.iinc 2 [1, 2, 0, 3] (lv' := [(0, .ref m), (1, .int (nI ((unE (fLv (mqF ns kk rr ml cls) ns) nt) + 1))), (2, .int (nI (nt + 1))), (3, .int (nI ((dfL (mqF ns kk rr ml cls) nt ns).length)))]) dX8_level_179 rfl (jinc1 _) rfl rfl ?_
        refine J.goto dX8_level_182 ?_
        refine J.loc [0, 1, 2] (lv' := [(0, .ref m), (1, .int (nI ((unE (fLv (mqF ns kk rr ml cls) ns) nt) + 1))), (2, .int (nI (nt + 1)))]) rfl ?_
        have he : unE (fLv (mqF ns kk rr ml cls) ns) (nt + 1) = unE (fLv (mqF ns kk rr ml cls) ns) nt + 1 := by
          show unE (fLv (mqF ns kk rr ml cls) ns) nt + _ = _
          rw [if_neg h8]
        have hq9 := X8_lvo (F := F) (rw0 := rw0) B (nt + 1) so2 hns (by omega)
        rw [he] at hq9
        exact hq9
    · skip
      have h5 : ((dfL (mqF ns kk rr ml cls) nt ns).length) = 0 := (nI_eq (a := ((dfL (mqF ns kk rr ml cls) nt ns).length)) (b := 0) (by omega) (by omega)).mp h5
      refine J.iconst (0 : Int32) dX8_level_149 rfl ?_
      refine J.goto dX8_level_150 ?_
      refine J.topi (y := (fLv (mqF ns kk rr ml cls) ns) nt) (by have hm := midV_of hA2; first | (rw [if_pos h5] at hm; exact hm) | (rw [if_neg h5] at hm; exact hm)) ?_
      refine J.iast 4 (nt) dX8_level_161 rfl (rfl) (by omega) (by decide) (ws' := (m, .inr (8, [.int fi, .ref (D 0), .long as, .int (nI ns), .ref (D 1), .ref (D 2), .ref (D 3), .ref (D 4), .ref (D 5), .ref (D 6), .ref (D 7), .ref (D 8), .int ii, .long de, .int dl, .int dp, .int dc, .ref (D 9), .int (nI nr), .ref (D 10), .ref (D 11), .ref (D 12), .ref (D 13), .ref (D 14), .int al, .int wa])) :: (D 1, .inl (G.2.1.1, 12, .inl kk)) :: (D 2, .inl (G.2.1.2.1, 12, .inl rr)) :: (D 3, .inl (G.2.1.1, 720, .inl ml)) :: (D 4, .inl (G.2.1.1, 60, .inl (upd (fiF F (fLv (mqF ns kk rr ml cls) ns) nt) nt ((fLv (mqF ns kk rr ml cls) ns) nt)))) :: (D 6, .inl (G.2.1.1, 60, .inl so2)) :: (D 7, .inl (G.2.1.1, 12, .inl (fiF rw0 (lvQ (mqF ns kk rr ml cls)) ns))) :: r) rfl ?_
      rw [show upd (fiF F (fLv (mqF ns kk rr ml cls) ns) nt) nt ((fLv (mqF ns kk rr ml cls) ns) nt) = fiF F (fLv (mqF ns kk rr ml cls) ns) (nt + 1) from fiF_s _ _ _]
      refine J.iload_n 1 dX8_level_162 rfl ?_
      refine J.aload_n 0 dX8_level_163 rfl ?_
      refine J.get 0 fl_X8_23 dX8_level_164 rfl rfl ?_
      refine J.iload_n 2 dX8_level_167 rfl ?_
      refine J.iald 4 (nt) dX8_level_168 rfl (rfl) (by omega) (by decide) ?_
      refine J.topi (y := (fLv (mqF ns kk rr ml cls) ns) nt) (fiF_in (by omega)) ?_
      refine J.if_eq dX8_level_169 (fun h8 => ?_) (fun h8 => ?_)
      · skip
        refine J.iconst (0 : Int32) dX8_level_176 rfl ?_
        refine J.iadd dX8_level_177 ?_
        refine J.topi (y := nI ((unE (fLv (mqF ns kk rr ml cls) ns) nt) + 0)) (nI_add (unE (fLv (mqF ns kk rr ml cls) ns) nt) 0) ?_
        refine J.istore_n [1, 0, 2, 3] (lv' := [(0, .ref m), (1, .int (nI ((unE (fLv (mqF ns kk rr ml cls) ns) nt) + 0))), (2, .int (nI nt)), (3, .int (nI ((dfL (mqF ns kk rr ml cls) nt ns).length)))]) dX8_level_178 rfl rfl ?_
        refine J.iinc 2 [1, 2, 0, 3] (lv' := [(0, .ref m), (1, .int (nI ((unE (fLv (mqF ns kk rr ml cls) ns) nt) + 0))), (2, .int (nI (nt + 1))), (3, .int (nI ((dfL (mqF ns kk rr ml cls) nt ns).length)))]) dX8_level_179 rfl (jinc1 _) rfl rfl ?_
        refine J.goto dX8_level_182 ?_
        refine J.loc [0, 1, 2] (lv' := [(0, .ref m), (1, .int (nI ((unE (fLv (mqF ns kk rr ml cls) ns) nt) + 0))), (2, .int (nI (nt + 1)))]) rfl ?_
        have he : unE (fLv (mqF ns kk rr ml cls) ns) (nt + 1) = unE (fLv (mqF ns kk rr ml cls) ns) nt + 0 := by
          show unE (fLv (mqF ns kk rr ml cls) ns) nt + _ = _
          rw [if_pos h8]
        have hq9 := X8_lvo (F := F) (rw0 := rw0) B (nt + 1) so2 hns (by omega)
        rw [he] at hq9
        exact hq9
      · skip
        refine J.iconst (1 : Int32) dX8_level_172 rfl ?_
        refine J.goto dX8_level_173 ?_
        refine J.iadd dX8_level_177 ?_
        refine J.topi (y := nI ((unE (fLv (mqF ns kk rr ml cls) ns) nt) + 1)) (nI_add (unE (fLv (mqF ns kk rr ml cls) ns) nt) 1) ?_
        refine J.istore_n [1, 0, 2, 3] (lv' := [(0, .ref m), (1, .int (nI ((unE (fLv (mqF ns kk rr ml cls) ns) nt) + 1))), (2, .int (nI nt)), (3, .int (nI ((dfL (mqF ns kk rr ml cls) nt ns).length)))]) dX8_level_178 rfl rfl ?_
        refine J.iinc 2 [1, 2, 0, 3] (lv' := [(0, .ref m), (1, .int (nI ((unE (fLv (mqF ns kk rr ml cls) ns) nt) + 1))), (2, .int (nI (nt + 1))), (3, .int (nI ((dfL (mqF ns kk rr ml cls) nt ns).length)))]) dX8_level_179 rfl (jinc1 _) rfl rfl ?_
        refine J.goto dX8_level_182 ?_
        refine J.loc [0, 1, 2] (lv' := [(0, .ref m), (1, .int (nI ((unE (fLv (mqF ns kk rr ml cls) ns) nt) + 1))), (2, .int (nI (nt + 1)))]) rfl ?_
        have he : unE (fLv (mqF ns kk rr ml cls) ns) (nt + 1) = unE (fLv (mqF ns kk rr ml cls) ns) nt + 1 := by
          show unE (fLv (mqF ns kk rr ml cls) ns) nt + _ = _
          rw [if_neg h8]
        have hq9 := X8_lvo (F := F) (rw0 := rw0) B (nt + 1) so2 hns (by omega)
        rw [he] at hq9
        exact hq9
termination_by 60 - nt
decreasing_by all_goals omega
set_option maxHeartbeats 4000000 in
set_option maxRecDepth 100000 in
theorem X8_lvr {l : Launch} {G : jG} {X : jX} {r : va_W} {m : Nat} {D : Nat → Nat} {fi : Int32} {as : Int64} {ns : Nat} {ii : Int32} {de : Int64} {dl dp dc : Int32} {nr : Nat} {al wa : Int32} {kk rr ml cls : Nat → Int32} {F rw0 : Nat → Int32} (B : jB l G X 2 47 0 0 (fun v w => ∃ so1 rw1, v = some (.int (nI (unE (fLv (mqF ns kk rr ml cls) ns) 60))) ∧ w = (m, .inr (8, [.int fi, .ref (D 0), .long as, .int (nI ns), .ref (D 1), .ref (D 2), .ref (D 3), .ref (D 4), .ref (D 5), .ref (D 6), .ref (D 7), .ref (D 8), .int ii, .long de, .int dl, .int dp, .int dc, .ref (D 9), .int (nI nr), .ref (D 10), .ref (D 11), .ref (D 12), .ref (D 13), .ref (D 14), .int al, .int wa])) :: (D 1, .inl (G.2.1.1, 12, .inl kk)) :: (D 2, .inl (G.2.1.2.1, 12, .inl rr)) :: (D 3, .inl (G.2.1.1, 720, .inl ml)) :: (D 4, .inl (G.2.1.1, 60, .inl (fiF F (fLv (mqF ns kk rr ml cls) ns) 60))) :: (D 6, .inl (G.2.1.1, 60, .inl so1)) :: (D 7, .inl (G.2.1.1, 12, .inl rw1)) :: r) "level") (s : Nat) (so : Nat → Int32) (hns : ns ≤ 12) (hk : s ≤ ns) : J G X mX8_level ((m, .inr (8, [.int fi, .ref (D 0), .long as, .int (nI ns), .ref (D 1), .ref (D 2), .ref (D 3), .ref (D 4), .ref (D 5), .ref (D 6), .ref (D 7), .ref (D 8), .int ii, .long de, .int dl, .int dp, .int dc, .ref (D 9), .int (nI nr), .ref (D 10), .ref (D 11), .ref (D 12), .ref (D 13), .ref (D 14), .int al, .int wa])) :: (D 1, .inl (G.2.1.1, 12, .inl kk)) :: (D 2, .inl (G.2.1.2.1, 12, .inl rr)) :: (D 3, .inl (G.2.1.1, 720, .inl ml)) :: (D 4, .inl (G.2.1.1, 60, .inl F)) :: (D 6, .inl (G.2.1.1, 60, .inl so)) :: (D 7, .inl (G.2.1.1, 12, .inl (fiF rw0 (lvQ (mqF ns kk rr ml cls)) s))) :: r) 0 0 2 [(0, .ref m), (1, .int (nI s))] [] := by
  refine J.iload_n 1 dX8_level_2 rfl ?_
  refine J.aload_n 0 dX8_level_3 rfl ?_
  refine J.get 0 fl_X8_73 dX8_level_4 rfl rfl ?_
  refine J.icmp_ge dX8_level_7 (fun h9 => ?_) (fun h9 => ?_)
  · skip
    have h9 : ns ≤ s := (nI_leI (a := ns) (b := s) (by omega) (by omega)).mp h9
    have e : s = ns := by omega
    subst e
    refine J.iconst (0 : Int32) dX8_level_49 rfl ?_
    refine J.istore_n [1, 0] (lv' := [(0, .ref m), (1, .int (0 : Int32))]) dX8_level_50 rfl rfl ?_
    refine J.iconst (0 : Int32) dX8_level_51 rfl ?_
    refine J.istore_n [1, 2, 0] (lv' := [(0, .ref m), (1, .int (0 : Int32)), (2, .int (0 : Int32))]) dX8_level_52 rfl rfl ?_
    have hq9 := X8_lvo (F := F) (rw0 := rw0) B 0 so hns (by omega)
    rw [fiF_0 F] at hq9
    exact hq9
  · skip
    have h9 : ¬ ns ≤ s := fun z => h9 ((nI_leI (a := ns) (b := s) (by omega) (by omega)).mpr z)
    have h9 : s < ns := by omega
    have hs : s < 12 := by omega
    have hnl := nN_le (rowM ml s)
    refine J.aload_n 0 dX8_level_10 rfl ?_
    refine J.get 0 fl_X8_32 dX8_level_11 rfl rfl ?_
    refine J.iload_n 1 dX8_level_14 rfl ?_
    refine J.aload_n 0 dX8_level_15 rfl ?_
    refine J.get 0 fl_X8_16 dX8_level_16 rfl rfl ?_
    refine J.iload_n 1 dX8_level_19 rfl ?_
    refine J.zald 2 (s) dX8_level_20 rfl (rfl) (by omega) (by decide) ?_
    refine J.if_eq dX8_level_21 (fun h8 => ?_) (fun h8 => ?_)
    · skip
      refine J.iconst (0 : Int32) dX8_level_41 rfl ?_
      refine J.topi (y := lvQ (mqF ns kk rr ml cls) s) (by first | exact (lv_no h9 h8).symm | exact (lv_nought h9 h8 (by omega)).symm) ?_
      refine J.iast 6 (s) dX8_level_42 rfl (rfl) (by omega) (by decide) (ws' := (m, .inr (8, [.int fi, .ref (D 0), .long as, .int (nI ns), .ref (D 1), .ref (D 2), .ref (D 3), .ref (D 4), .ref (D 5), .ref (D 6), .ref (D 7), .ref (D 8), .int ii, .long de, .int dl, .int dp, .int dc, .ref (D 9), .int (nI nr), .ref (D 10), .ref (D 11), .ref (D 12), .ref (D 13), .ref (D 14), .int al, .int wa])) :: (D 1, .inl (G.2.1.1, 12, .inl kk)) :: (D 2, .inl (G.2.1.2.1, 12, .inl rr)) :: (D 3, .inl (G.2.1.1, 720, .inl ml)) :: (D 4, .inl (G.2.1.1, 60, .inl F)) :: (D 6, .inl (G.2.1.1, 60, .inl so)) :: (D 7, .inl (G.2.1.1, 12, .inl (upd (fiF rw0 (lvQ (mqF ns kk rr ml cls)) s) s (lvQ (mqF ns kk rr ml cls) s)))) :: r) rfl ?_
      rw [show upd (fiF rw0 (lvQ (mqF ns kk rr ml cls)) s) s (lvQ (mqF ns kk rr ml cls) s) = fiF rw0 (lvQ (mqF ns kk rr ml cls)) (s + 1) from fiF_s _ _ _]
      refine J.iinc 1 [1, 0] (lv' := [(0, .ref m), (1, .int (nI (s + 1)))]) dX8_level_43 rfl (jinc1 _) rfl rfl ?_
      refine J.goto dX8_level_46 ?_
      exact X8_lvr B (s + 1) so hns (by omega)
    · skip
      refine J.aload_n 0 dX8_level_24 rfl ?_
      refine J.iload_n 1 dX8_level_25 rfl ?_
      refine J.re [0, 3, 1, 2, 4, 5, 6] 7 (ws2 := (m, .inr (8, [.int fi, .ref (D 0), .long as, .int (nI ns), .ref (D 1), .ref (D 2), .ref (D 3), .ref (D 4), .ref (D 5), .ref (D 6), .ref (D 7), .ref (D 8), .int ii, .long de, .int dl, .int dp, .int dc, .ref (D 9), .int (nI nr), .ref (D 10), .ref (D 11), .ref (D 12), .ref (D 13), .ref (D 14), .int al, .int wa])) :: (D 3, .inl (G.2.1.1, 720, .inl ml)) :: (D 1, .inl (G.2.1.1, 12, .inl kk)) :: (D 2, .inl (G.2.1.2.1, 12, .inl rr)) :: (D 4, .inl (G.2.1.1, 60, .inl F)) :: (D 6, .inl (G.2.1.1, 60, .inl so)) :: (D 7, .inl (G.2.1.1, 12, .inl (fiF rw0 (lvQ (mqF ns kk rr ml cls)) s))) :: r) rfl rfl ?_
      refine J.callV 0 (st := [.int (nI s), .ref (D 7)]) B (c_X8_many l G _ (s := s) hs) ml_X8_99 mf_yX8_many mi_yX8_many rfl dX8_level_26 rfl rfl rfl rfl (fun v_1 w_2 hp_3 => ?_)
      obtain ⟨rfl, rfl⟩ := hp_3
      refine J.re [0, 2, 3, 1, 4, 5, 6] 7 (ws2 := (m, .inr (8, [.int fi, .ref (D 0), .long as, .int (nI ns), .ref (D 1), .ref (D 2), .ref (D 3), .ref (D 4), .ref (D 5), .ref (D 6), .ref (D 7), .ref (D 8), .int ii, .long de, .int dl, .int dp, .int dc, .ref (D 9), .int (nI nr), .ref (D 10), .ref (D 11), .ref (D 12), .ref (D 13), .ref (D 14), .int al, .int wa])) :: (D 1, .inl (G.2.1.1, 12, .inl kk)) :: (D 2, .inl (G.2.1.2.1, 12, .inl rr)) :: (D 3, .inl (G.2.1.1, 720, .inl ml)) :: (D 4, .inl (G.2.1.1, 60, .inl F)) :: (D 6, .inl (G.2.1.1, 60, .inl so)) :: (D 7, .inl (G.2.1.1, 12, .inl (fiF rw0 (lvQ (mqF ns kk rr ml cls)) s))) :: r) rfl rfl ?_
      show J G X mX8_level _ _ _ 29 _ [.int (nI (nN (rowM ml s))), .int (nI s), .ref (D 7)]
      refine J.if_le dX8_level_29 (fun h5 => ?_) (fun h5 => ?_)
      · skip
        have h5 : (nN (rowM ml s)) ≤ 0 := (nI_leI (a := (nN (rowM ml s))) (b := 0) (by omega) (by omega)).mp h5
        refine J.iconst (0 : Int32) dX8_level_41 rfl ?_
        refine J.topi (y := lvQ (mqF ns kk rr ml cls) s) (by first | exact (lv_no h9 h8).symm | exact (lv_nought h9 h8 (by omega)).symm) ?_
        refine J.iast 6 (s) dX8_level_42 rfl (rfl) (by omega) (by decide) (ws' := (m, .inr (8, [.int fi, .ref (D 0), .long as, .int (nI ns), .ref (D 1), .ref (D 2), .ref (D 3), .ref (D 4), .ref (D 5), .ref (D 6), .ref (D 7), .ref (D 8), .int ii, .long de, .int dl, .int dp, .int dc, .ref (D 9), .int (nI nr), .ref (D 10), .ref (D 11), .ref (D 12), .ref (D 13), .ref (D 14), .int al, .int wa])) :: (D 1, .inl (G.2.1.1, 12, .inl kk)) :: (D 2, .inl (G.2.1.2.1, 12, .inl rr)) :: (D 3, .inl (G.2.1.1, 720, .inl ml)) :: (D 4, .inl (G.2.1.1, 60, .inl F)) :: (D 6, .inl (G.2.1.1, 60, .inl so)) :: (D 7, .inl (G.2.1.1, 12, .inl (upd (fiF rw0 (lvQ (mqF ns kk rr ml cls)) s) s (lvQ (mqF ns kk rr ml cls) s)))) :: r) rfl ?_
        rw [show upd (fiF rw0 (lvQ (mqF ns kk rr ml cls)) s) s (lvQ (mqF ns kk rr ml cls) s) = fiF rw0 (lvQ (mqF ns kk rr ml cls)) (s + 1) from fiF_s _ _ _]
        refine J.iinc 1 [1, 0] (lv' := [(0, .ref m), (1, .int (nI (s + 1)))]) dX8_level_43 rfl (jinc1 _) rfl rfl ?_
        refine J.goto dX8_level_46 ?_
        exact X8_lvr B (s + 1) so hns (by omega)
      · skip
        have h5 : ¬ (nN (rowM ml s)) ≤ 0 := fun z => h5 ((nI_leI (a := (nN (rowM ml s))) (b := 0) (by omega) (by omega)).mpr z)
        have h0 : 0 < nN (rowM ml s) := by omega
        refine J.aload_n 0 dX8_level_32 rfl ?_
        refine J.iload_n 1 dX8_level_33 rfl ?_
        refine J.iconst (1 : Int32) dX8_level_34 rfl ?_
        refine J.re [0, 3, 5, 1, 2, 4, 6] 7 (ws2 := (m, .inr (8, [.int fi, .ref (D 0), .long as, .int (nI ns), .ref (D 1), .ref (D 2), .ref (D 3), .ref (D 4), .ref (D 5), .ref (D 6), .ref (D 7), .ref (D 8), .int ii, .long de, .int dl, .int dp, .int dc, .ref (D 9), .int (nI nr), .ref (D 10), .ref (D 11), .ref (D 12), .ref (D 13), .ref (D 14), .int al, .int wa])) :: (D 3, .inl (G.2.1.1, 720, .inl ml)) :: (D 6, .inl (G.2.1.1, 60, .inl so)) :: (D 1, .inl (G.2.1.1, 12, .inl kk)) :: (D 2, .inl (G.2.1.2.1, 12, .inl rr)) :: (D 4, .inl (G.2.1.1, 60, .inl F)) :: (D 7, .inl (G.2.1.1, 12, .inl (fiF rw0 (lvQ (mqF ns kk rr ml cls)) s))) :: r) rfl rfl ?_
        refine J.callV 0 (st := [.int (nI s), .ref (D 7)]) B (c_X8_middle1 l G _ hs h0) ml_X8_123 mf_yX8_middle mi_yX8_middle rfl dX8_level_35 rfl rfl rfl rfl (fun v_4 w_5 hp_6 => ?_)
        obtain ⟨so1, rfl, rfl⟩ := hp_6
        refine J.re [0, 3, 4, 1, 5, 2, 6] 7 (ws2 := (m, .inr (8, [.int fi, .ref (D 0), .long as, .int (nI ns), .ref (D 1), .ref (D 2), .ref (D 3), .ref (D 4), .ref (D 5), .ref (D 6), .ref (D 7), .ref (D 8), .int ii, .long de, .int dl, .int dp, .int dc, .ref (D 9), .int (nI nr), .ref (D 10), .ref (D 11), .ref (D 12), .ref (D 13), .ref (D 14), .int al, .int wa])) :: (D 1, .inl (G.2.1.1, 12, .inl kk)) :: (D 2, .inl (G.2.1.2.1, 12, .inl rr)) :: (D 3, .inl (G.2.1.1, 720, .inl ml)) :: (D 4, .inl (G.2.1.1, 60, .inl F)) :: (D 6, .inl (G.2.1.1, 60, .inl so1)) :: (D 7, .inl (G.2.1.1, 12, .inl (fiF rw0 (lvQ (mqF ns kk rr ml cls)) s))) :: r) rfl rfl ?_
        show J G X mX8_level _ _ _ 38 _ [.int (midV (rws (rowM ml s) 60)), .int (nI s), .ref (D 7)]
        refine J.goto dX8_level_38 ?_
        refine J.topi (y := lvQ (mqF ns kk rr ml cls) s) (lv_yes h9 h8).symm ?_
        refine J.iast 6 (s) dX8_level_42 rfl (rfl) (by omega) (by decide) (ws' := (m, .inr (8, [.int fi, .ref (D 0), .long as, .int (nI ns), .ref (D 1), .ref (D 2), .ref (D 3), .ref (D 4), .ref (D 5), .ref (D 6), .ref (D 7), .ref (D 8), .int ii, .long de, .int dl, .int dp, .int dc, .ref (D 9), .int (nI nr), .ref (D 10), .ref (D 11), .ref (D 12), .ref (D 13), .ref (D 14), .int al, .int wa])) :: (D 1, .inl (G.2.1.1, 12, .inl kk)) :: (D 2, .inl (G.2.1.2.1, 12, .inl rr)) :: (D 3, .inl (G.2.1.1, 720, .inl ml)) :: (D 4, .inl (G.2.1.1, 60, .inl F)) :: (D 6, .inl (G.2.1.1, 60, .inl so1)) :: (D 7, .inl (G.2.1.1, 12, .inl (upd (fiF rw0 (lvQ (mqF ns kk rr ml cls)) s) s (lvQ (mqF ns kk rr ml cls) s)))) :: r) rfl ?_
        rw [show upd (fiF rw0 (lvQ (mqF ns kk rr ml cls)) s) s (lvQ (mqF ns kk rr ml cls) s) = fiF rw0 (lvQ (mqF ns kk rr ml cls)) (s + 1) from fiF_s _ _ _]
        refine J.iinc 1 [1, 0] (lv' := [(0, .ref m), (1, .int (nI (s + 1)))]) dX8_level_43 rfl (jinc1 _) rfl rfl ?_
        refine J.goto dX8_level_46 ?_
        exact X8_lvr B (s + 1) so1 hns (by omega)
termination_by ns - s
decreasing_by all_goals omega
set_option maxHeartbeats 4000000 in
set_option maxRecDepth 100000 in
theorem r_level (l : Launch) (G : jG) (r : va_W) {m : Nat} {D : Nat → Nat} {fi : Int32} {as : Int64} {ns : Nat} {ii : Int32} {de : Int64} {dl dp dc : Int32} {nr : Nat} {al wa : Int32} {kk rr ml cls : Nat → Int32} {F rw0 : Nat → Int32} {so : Nat → Int32} (hns : ns ≤ 12) : Mt l G yX8_level mX8_level 2 47 0 0 [.ref m] ((m, .inr (8, [.int fi, .ref (D 0), .long as, .int (nI ns), .ref (D 1), .ref (D 2), .ref (D 3), .ref (D 4), .ref (D 5), .ref (D 6), .ref (D 7), .ref (D 8), .int ii, .long de, .int dl, .int dp, .int dc, .ref (D 9), .int (nI nr), .ref (D 10), .ref (D 11), .ref (D 12), .ref (D 13), .ref (D 14), .int al, .int wa])) :: (D 1, .inl (G.2.1.1, 12, .inl kk)) :: (D 2, .inl (G.2.1.2.1, 12, .inl rr)) :: (D 3, .inl (G.2.1.1, 720, .inl ml)) :: (D 4, .inl (G.2.1.1, 60, .inl F)) :: (D 6, .inl (G.2.1.1, 60, .inl so)) :: (D 7, .inl (G.2.1.1, 12, .inl rw0)) :: r) (fun v w => ∃ so1 rw1, v = some (.int (nI (unE (fLv (mqF ns kk rr ml cls) ns) 60))) ∧ w = (m, .inr (8, [.int fi, .ref (D 0), .long as, .int (nI ns), .ref (D 1), .ref (D 2), .ref (D 3), .ref (D 4), .ref (D 5), .ref (D 6), .ref (D 7), .ref (D 8), .int ii, .long de, .int dl, .int dp, .int dc, .ref (D 9), .int (nI nr), .ref (D 10), .ref (D 11), .ref (D 12), .ref (D 13), .ref (D 14), .int al, .int wa])) :: (D 1, .inl (G.2.1.1, 12, .inl kk)) :: (D 2, .inl (G.2.1.2.1, 12, .inl rr)) :: (D 3, .inl (G.2.1.1, 720, .inl ml)) :: (D 4, .inl (G.2.1.1, 60, .inl (fiF F (fLv (mqF ns kk rr ml cls) ns) 60))) :: (D 6, .inl (G.2.1.1, 60, .inl so1)) :: (D 7, .inl (G.2.1.1, 12, .inl rw1)) :: r) := by
  refine Mt.of (by decide +kernel) rfl rfl (fun X B => ?_)
  show J G X mX8_level ((m, .inr (8, [.int fi, .ref (D 0), .long as, .int (nI ns), .ref (D 1), .ref (D 2), .ref (D 3), .ref (D 4), .ref (D 5), .ref (D 6), .ref (D 7), .ref (D 8), .int ii, .long de, .int dl, .int dp, .int dc, .ref (D 9), .int (nI nr), .ref (D 10), .ref (D 11), .ref (D 12), .ref (D 13), .ref (D 14), .int al, .int wa])) :: (D 1, .inl (G.2.1.1, 12, .inl kk)) :: (D 2, .inl (G.2.1.2.1, 12, .inl rr)) :: (D 3, .inl (G.2.1.1, 720, .inl ml)) :: (D 4, .inl (G.2.1.1, 60, .inl F)) :: (D 6, .inl (G.2.1.1, 60, .inl so)) :: (D 7, .inl (G.2.1.1, 12, .inl rw0)) :: r) 0 0 0 [(0, .ref m)] []
  refine J.iconst (0 : Int32) dX8_level_0 rfl ?_
  refine J.istore_n [1, 0] (lv' := [(0, .ref m), (1, .int (0 : Int32))]) dX8_level_1 rfl rfl ?_
  have hq9 := X8_lvr (F := F) (rw0 := rw0) (kk := kk) (ml := ml) (cls := cls) (rr := rr) B 0 so hns (by omega)
  rw [fiF_0] at hq9
  exact hq9
