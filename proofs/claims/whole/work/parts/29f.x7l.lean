set_option maxHeartbeats 4000000 in
set_option maxRecDepth 100000 in
theorem X7_md_lp {l : Launch} {G : jG} {X : jX} {r : va_W} {x : Nat} {A : Nat → Nat} {ns nr : Nat} {to : Int64} {al wa lf : Int32} {TP : List tR} {nt : Nat} {sl : Nat → Int32} (B : jB l G X 1 22 0 0 (fun v w => ∃ nu1, v = some (.int (fLv (qF TP) ns nt)) ∧ w = (x, .inr (7, [.ref (A 0), .int (nI ns), .ref (A 1), .int (nI nr), .ref (A 2), .ref (A 3), .ref (A 4), .ref (A 5), .ref (A 6), .ref (A 7), .ref (A 8), .ref (A 9), .long to, .int al, .int wa, .int lf, .ref (A 10)])) :: (A 0, .inl (G.2.1.2.2.1, 12, .inr (.inr (.inr (.inr (saF TP)))))) :: (A 4, .inr (0, [.ref (A 13), .int (nI ((dfL (qF TP) nt ns).length))])) :: (A 13, .inl (G.2.1.1, 60, .inl nu1)) :: (A 9, .inl (G.2.1.1, 12, .inl sl)) :: (stP G TP ++ r)) "middleDifference") (k : Nat) (nu : Nat → Int32) (hlen : TP.length = ns) (hns : ns ≤ 12) (hnt : nt < 60) (hsl : ∀ j, j < ns → sl j = lvQ (qF TP) j) (hk : k ≤ ns) (hA : AG nu (bsz (dfL (qF TP) nt k))) : J G X mX7_middleDifference ((x, .inr (7, [.ref (A 0), .int (nI ns), .ref (A 1), .int (nI nr), .ref (A 2), .ref (A 3), .ref (A 4), .ref (A 5), .ref (A 6), .ref (A 7), .ref (A 8), .ref (A 9), .long to, .int al, .int wa, .int lf, .ref (A 10)])) :: (A 0, .inl (G.2.1.2.2.1, 12, .inr (.inr (.inr (.inr (saF TP)))))) :: (A 4, .inr (0, [.ref (A 13), .int (nI ((dfL (qF TP) nt k).length))])) :: (A 13, .inl (G.2.1.1, 60, .inl nu)) :: (A 9, .inl (G.2.1.1, 12, .inl sl)) :: (stP G TP ++ r)) 0 0 9 [(0, .ref x), (1, .int (nI nt)), (2, .int (nI k))] [] := by
  have hle := dfL_le (qF TP) nt k
  refine J.iload_n 2 dX7_middleDifference_9 rfl ?_
  refine J.aload_n 0 dX7_middleDifference_10 rfl ?_
  refine J.get 0 fl_X7_73 dX7_middleDifference_11 rfl rfl ?_
  refine J.icmp_ge dX7_middleDifference_14 (fun h9 => ?_) (fun h9 => ?_)
  · skip
    have h9 : ns ≤ k := (nI_leI (a := ns) (b := k) (by omega) (by omega)).mp h9
    have e : k = ns := by omega
    subst e
    refine J.aload_n 0 dX7_middleDifference_77 rfl ?_
    refine J.get 0 fl_X7_35 dX7_middleDifference_78 rfl rfl ?_
    refine J.re [2, 3, 0, 1, 4] 5 (ws2 := (A 4, .inr (0, [.ref (A 13), .int (nI ((dfL (qF TP) nt k).length))])) :: (A 13, .inl (G.2.1.1, 60, .inl nu)) :: (x, .inr (7, [.ref (A 0), .int (nI k), .ref (A 1), .int (nI nr), .ref (A 2), .ref (A 3), .ref (A 4), .ref (A 5), .ref (A 6), .ref (A 7), .ref (A 8), .ref (A 9), .long to, .int al, .int wa, .int lf, .ref (A 10)])) :: (A 0, .inl (G.2.1.2.2.1, 12, .inr (.inr (.inr (.inr (saF TP)))))) :: (A 9, .inl (G.2.1.1, 12, .inl sl)) :: (stP G TP ++ r)) rfl rfl ?_
    refine J.callV 0 (st := []) B (c_X0_middle l G _ (sz := (dfL (qF TP) nt k).length) (by omega) (by omega)) ml_X7_278 mf_yX0_middle mi_yX0_middle rfl dX7_middleDifference_81 rfl rfl rfl rfl (fun v_1 w_2 hp_3 => ?_)
    obtain ⟨rfl, rfl⟩ := hp_3
    rw [midV_of hA]
    refine J.re [2, 3, 0, 1, 4] 5 (ws2 := (x, .inr (7, [.ref (A 0), .int (nI k), .ref (A 1), .int (nI nr), .ref (A 2), .ref (A 3), .ref (A 4), .ref (A 5), .ref (A 6), .ref (A 7), .ref (A 8), .ref (A 9), .long to, .int al, .int wa, .int lf, .ref (A 10)])) :: (A 0, .inl (G.2.1.2.2.1, 12, .inr (.inr (.inr (.inr (saF TP)))))) :: (A 4, .inr (0, [.ref (A 13), .int (nI ((dfL (qF TP) nt k).length))])) :: (A 13, .inl (G.2.1.1, 60, .inl nu)) :: (A 9, .inl (G.2.1.1, 12, .inl sl)) :: (stP G TP ++ r)) rfl rfl ?_
    show J G X mX7_middleDifference _ _ _ 84 _ [.int (fLv (qF TP) k nt)]
    exact J.iret B dX7_middleDifference_84 rfl (⟨nu, rfl, rfl⟩)
  · skip
    have h9 : ¬ ns ≤ k := fun z => h9 ((nI_leI (a := ns) (b := k) (by omega) (by omega)).mpr z)
    have h9 : k < TP.length := by omega
    obtain ⟨q9, hq9⟩ : ∃ q, q = tD TP k := ⟨_, rfl⟩
    have hsa : saF TP k = some q9.1.1 := by rw [hq9]; exact saF_at h9
    have hqF : qF TP k = q9.2 := by rw [hq9]; rfl
    have hpe : (stP G TP ++ r).Perm (stC G q9 ++ (stP G (TP.eraseIdx k) ++ r)) := by rw [hq9]; exact stP_out h9 r
    obtain ⟨⟨s, la⟩, kd, b, L, wc⟩ := q9
    refine J.perm (ws2 := (x, .inr (7, [.ref (A 0), .int (nI ns), .ref (A 1), .int (nI nr), .ref (A 2), .ref (A 3), .ref (A 4), .ref (A 5), .ref (A 6), .ref (A 7), .ref (A 8), .ref (A 9), .long to, .int al, .int wa, .int lf, .ref (A 10)])) :: (A 0, .inl (G.2.1.2.2.1, 12, .inr (.inr (.inr (.inr (saF TP)))))) :: (A 4, .inr (0, [.ref (A 13), .int (nI ((dfL (qF TP) nt k).length))])) :: (A 13, .inl (G.2.1.1, 60, .inl nu)) :: (A 9, .inl (G.2.1.1, 12, .inl sl)) :: (s, .inr (6, [.int kd, .ref la, .int (b01 b), .int wc])) :: (la, .inl (G.2.1.1, 60, .inl L)) :: (stP G (TP.eraseIdx k) ++ r)) (List.Perm.cons _ (List.Perm.cons _ (List.Perm.cons _ (List.Perm.cons _ (List.Perm.cons _ (hpe)))))) ?_
    refine J.aload_n 0 dX7_middleDifference_17 rfl ?_
    refine J.get 0 fl_X7_11 dX7_middleDifference_18 rfl rfl ?_
    refine J.iload_n 2 dX7_middleDifference_21 rfl ?_
    refine J.aald 1 2 (k) dX7_middleDifference_22 rfl rfl (rfl) (by omega) (by decide) (hsa) ?_
    refine J.iconst (1 : Int32) dX7_middleDifference_23 rfl ?_
    refine J.re [5, 0, 1, 2, 3, 4, 6] 7 (ws2 := (s, .inr (6, [.int kd, .ref la, .int (b01 b), .int wc])) :: (x, .inr (7, [.ref (A 0), .int (nI ns), .ref (A 1), .int (nI nr), .ref (A 2), .ref (A 3), .ref (A 4), .ref (A 5), .ref (A 6), .ref (A 7), .ref (A 8), .ref (A 9), .long to, .int al, .int wa, .int lf, .ref (A 10)])) :: (A 0, .inl (G.2.1.2.2.1, 12, .inr (.inr (.inr (.inr (saF TP)))))) :: (A 4, .inr (0, [.ref (A 13), .int (nI ((dfL (qF TP) nt k).length))])) :: (A 13, .inl (G.2.1.1, 60, .inl nu)) :: (A 9, .inl (G.2.1.1, 12, .inl sl)) :: (la, .inl (G.2.1.1, 60, .inl L)) :: (stP G (TP.eraseIdx k) ++ r)) rfl rfl ?_
    refine J.callV 0 (st := []) B (c_X6_isOfKind l G _ (a := 1)) ml_X7_84 mf_yX6_isOfKind mi_yX6_isOfKind rfl dX7_middleDifference_24 rfl rfl rfl rfl (fun v_4 w_5 hp_6 => ?_)
    obtain ⟨rfl, rfl⟩ := hp_6
    rw [ofK1]
    refine J.re [1, 2, 3, 4, 5, 0, 6] 7 (ws2 := (x, .inr (7, [.ref (A 0), .int (nI ns), .ref (A 1), .int (nI nr), .ref (A 2), .ref (A 3), .ref (A 4), .ref (A 5), .ref (A 6), .ref (A 7), .ref (A 8), .ref (A 9), .long to, .int al, .int wa, .int lf, .ref (A 10)])) :: (A 0, .inl (G.2.1.2.2.1, 12, .inr (.inr (.inr (.inr (saF TP)))))) :: (A 4, .inr (0, [.ref (A 13), .int (nI ((dfL (qF TP) nt k).length))])) :: (A 13, .inl (G.2.1.1, 60, .inl nu)) :: (A 9, .inl (G.2.1.1, 12, .inl sl)) :: (s, .inr (6, [.int kd, .ref la, .int (b01 b), .int wc])) :: (la, .inl (G.2.1.1, 60, .inl L)) :: (stP G (TP.eraseIdx k) ++ r)) rfl rfl ?_
    show J G X mX7_middleDifference _ _ _ 27 _ [.int (b01 (decide (kd = 1)))]
    refine J.if_eq dX7_middleDifference_27 (fun h8 => ?_) (fun h8 => ?_)
    · skip
      have h8 : ¬ kd = 1 := of_decide_eq_false (b01_0 h8)
      refine J.iinc 2 [1, 2, 0] (lv' := [(0, .ref x), (1, .int (nI nt)), (2, .int (nI (k + 1)))]) dX7_middleDifference_71 rfl (jinc1 _) rfl rfl ?_
      refine J.goto dX7_middleDifference_74 ?_
      refine J.perm (ws2 := (x, .inr (7, [.ref (A 0), .int (nI ns), .ref (A 1), .int (nI nr), .ref (A 2), .ref (A 3), .ref (A 4), .ref (A 5), .ref (A 6), .ref (A 7), .ref (A 8), .ref (A 9), .long to, .int al, .int wa, .int lf, .ref (A 10)])) :: (A 0, .inl (G.2.1.2.2.1, 12, .inr (.inr (.inr (.inr (saF TP)))))) :: (A 4, .inr (0, [.ref (A 13), .int (nI ((dfL (qF TP) nt k).length))])) :: (A 13, .inl (G.2.1.1, 60, .inl nu)) :: (A 9, .inl (G.2.1.1, 12, .inl sl)) :: (stP G TP ++ r)) (List.Perm.cons _ (List.Perm.cons _ (List.Perm.cons _ (List.Perm.cons _ (List.Perm.cons _ (hpe.symm)))))) ?_
      have hno := dfL_no (q := (qF TP)) (nt := nt) (k := k) (fun z => by rw [hqF] at z; first | exact h8 z.1 | exact z.2 h7)
      rw [← hno] at hA ⊢
      exact X7_md_lp B (k + 1) nu hlen hns hnt hsl (by omega) hA
    · skip
      have h8 : kd = 1 := of_decide_eq_true (b01_1 h8)
      refine J.aload_n 0 dX7_middleDifference_30 rfl ?_
      refine J.get 0 fl_X7_11 dX7_middleDifference_31 rfl rfl ?_
      refine J.iload_n 2 dX7_middleDifference_34 rfl ?_
      refine J.aald 1 2 (k) dX7_middleDifference_35 rfl rfl (rfl) (by omega) (by decide) (hsa) ?_
      refine J.get 5 fl_X7_112 dX7_middleDifference_36 rfl rfl ?_
      refine J.iload_n 1 dX7_middleDifference_39 rfl ?_
      refine J.iald 6 (nt) dX7_middleDifference_40 rfl (rfl) (by omega) (by decide) ?_
      refine J.bipush (-9 : Int32) dX7_middleDifference_41 rfl ?_
      refine J.icmp_eq dX7_middleDifference_43 (fun h7 => ?_) (fun h7 => ?_)
      · skip
        refine J.iinc 2 [1, 2, 0] (lv' := [(0, .ref x), (1, .int (nI nt)), (2, .int (nI (k + 1)))]) dX7_middleDifference_71 rfl (jinc1 _) rfl rfl ?_
        refine J.goto dX7_middleDifference_74 ?_
        refine J.perm (ws2 := (x, .inr (7, [.ref (A 0), .int (nI ns), .ref (A 1), .int (nI nr), .ref (A 2), .ref (A 3), .ref (A 4), .ref (A 5), .ref (A 6), .ref (A 7), .ref (A 8), .ref (A 9), .long to, .int al, .int wa, .int lf, .ref (A 10)])) :: (A 0, .inl (G.2.1.2.2.1, 12, .inr (.inr (.inr (.inr (saF TP)))))) :: (A 4, .inr (0, [.ref (A 13), .int (nI ((dfL (qF TP) nt k).length))])) :: (A 13, .inl (G.2.1.1, 60, .inl nu)) :: (A 9, .inl (G.2.1.1, 12, .inl sl)) :: (stP G TP ++ r)) (List.Perm.cons _ (List.Perm.cons _ (List.Perm.cons _ (List.Perm.cons _ (List.Perm.cons _ (hpe.symm)))))) ?_
        have hno := dfL_no (q := (qF TP)) (nt := nt) (k := k) (fun z => by rw [hqF] at z; first | exact h8 z.1 | exact z.2 h7)
        rw [← hno] at hA ⊢
        exact X7_md_lp B (k + 1) nu hlen hns hnt hsl (by omega) hA
      · skip
        refine J.aload_n 0 dX7_middleDifference_46 rfl ?_
        refine J.get 0 fl_X7_35 dX7_middleDifference_47 rfl rfl ?_
        refine J.aload_n 0 dX7_middleDifference_50 rfl ?_
        refine J.get 0 fl_X7_11 dX7_middleDifference_51 rfl rfl ?_
        refine J.iload_n 2 dX7_middleDifference_54 rfl ?_
        refine J.aald 1 2 (k) dX7_middleDifference_55 rfl rfl (rfl) (by omega) (by decide) (hsa) ?_
        refine J.get 5 fl_X7_112 dX7_middleDifference_56 rfl rfl ?_
        refine J.iload_n 1 dX7_middleDifference_59 rfl ?_
        refine J.iald 6 (nt) dX7_middleDifference_60 rfl (rfl) (by omega) (by decide) ?_
        refine J.aload_n 0 dX7_middleDifference_61 rfl ?_
        refine J.get 0 fl_X7_63 dX7_middleDifference_62 rfl rfl ?_
        refine J.iload_n 2 dX7_middleDifference_65 rfl ?_
        refine J.iald 4 (k) dX7_middleDifference_66 rfl (rfl) (by omega) (by decide) ?_
        refine J.topi (y := lvQ (qF TP) k) (hsl k (by omega)) ?_
        refine J.isub dX7_middleDifference_67 ?_
        refine J.re [2, 3, 0, 1, 4, 5, 6] 7 (ws2 := (A 4, .inr (0, [.ref (A 13), .int (nI ((dfL (qF TP) nt k).length))])) :: (A 13, .inl (G.2.1.1, 60, .inl nu)) :: (x, .inr (7, [.ref (A 0), .int (nI ns), .ref (A 1), .int (nI nr), .ref (A 2), .ref (A 3), .ref (A 4), .ref (A 5), .ref (A 6), .ref (A 7), .ref (A 8), .ref (A 9), .long to, .int al, .int wa, .int lf, .ref (A 10)])) :: (A 0, .inl (G.2.1.2.2.1, 12, .inr (.inr (.inr (.inr (saF TP)))))) :: (A 9, .inl (G.2.1.1, 12, .inl sl)) :: (s, .inr (6, [.int kd, .ref la, .int (b01 b), .int wc])) :: (la, .inl (G.2.1.1, 60, .inl L)) :: (stP G (TP.eraseIdx k) ++ r)) rfl rfl ?_
        refine J.callV 0 (st := []) B (c_X0_put l G _ (sz := (dfL (qF TP) nt k).length) (by omega)) ml_X7_275 mf_yX0_put mi_yX0_put rfl dX7_middleDifference_68 rfl rfl rfl rfl (fun v_7 w_8 hp_9 => ?_)
        obtain ⟨rfl, rfl⟩ := hp_9
        refine J.re [2, 3, 0, 1, 4, 5, 6] 7 (ws2 := (x, .inr (7, [.ref (A 0), .int (nI ns), .ref (A 1), .int (nI nr), .ref (A 2), .ref (A 3), .ref (A 4), .ref (A 5), .ref (A 6), .ref (A 7), .ref (A 8), .ref (A 9), .long to, .int al, .int wa, .int lf, .ref (A 10)])) :: (A 0, .inl (G.2.1.2.2.1, 12, .inr (.inr (.inr (.inr (saF TP)))))) :: (A 4, .inr (0, [.ref (A 13), .int (nI ((dfL (qF TP) nt k).length + 1))])) :: (A 13, .inl (G.2.1.1, 60, .inl (insA nu ((L nt) - (lvQ (qF TP) k)) ((dfL (qF TP) nt k).length)))) :: (A 9, .inl (G.2.1.1, 12, .inl sl)) :: (s, .inr (6, [.int kd, .ref la, .int (b01 b), .int wc])) :: (la, .inl (G.2.1.1, 60, .inl L)) :: (stP G (TP.eraseIdx k) ++ r)) rfl rfl ?_
        show J G X mX7_middleDifference _ _ _ 71 _ []
        refine J.iinc 2 [1, 2, 0] (lv' := [(0, .ref x), (1, .int (nI nt)), (2, .int (nI (k + 1)))]) dX7_middleDifference_71 rfl (jinc1 _) rfl rfl ?_
        refine J.goto dX7_middleDifference_74 ?_
        refine J.perm (ws2 := (x, .inr (7, [.ref (A 0), .int (nI ns), .ref (A 1), .int (nI nr), .ref (A 2), .ref (A 3), .ref (A 4), .ref (A 5), .ref (A 6), .ref (A 7), .ref (A 8), .ref (A 9), .long to, .int al, .int wa, .int lf, .ref (A 10)])) :: (A 0, .inl (G.2.1.2.2.1, 12, .inr (.inr (.inr (.inr (saF TP)))))) :: (A 4, .inr (0, [.ref (A 13), .int (nI ((dfL (qF TP) nt k).length + 1))])) :: (A 13, .inl (G.2.1.1, 60, .inl (insA nu ((L nt) - (lvQ (qF TP) k)) ((dfL (qF TP) nt k).length)))) :: (A 9, .inl (G.2.1.1, 12, .inl sl)) :: (stP G TP ++ r)) (List.Perm.cons _ (List.Perm.cons _ (List.Perm.cons _ (List.Perm.cons _ (List.Perm.cons _ (hpe.symm)))))) ?_
        obtain ⟨hb1, hb2⟩ := bdf_yes (q := (qF TP)) (nt := nt) (k := k) (by rw [hqF]; exact h8) (by rw [hqF]; exact h7)
        have ha := AG_put (((qF TP) k).2.2.1 nt - lvQ (qF TP) k) hA (bsz_len _)
        rw [← hb1, hqF] at ha
        rw [← hb2]
        exact X7_md_lp B (k + 1) _ hlen hns hnt hsl (by omega) ha
termination_by ns - k
decreasing_by all_goals omega
set_option maxHeartbeats 4000000 in
set_option maxRecDepth 100000 in
theorem c_X7_middleDifference (l : Launch) (G : jG) (r : va_W) {x : Nat} {A : Nat → Nat} {ns nr : Nat} {to : Int64} {al wa lf : Int32} {TP : List tR} {nt : Nat} {sl nu : Nat → Int32} {zs : Int32} (hlen : TP.length = ns) (hns : ns ≤ 12) (hnt : nt < 60) (hsl : ∀ j, j < ns → sl j = lvQ (qF TP) j) : Mt l G yX7_middleDifference mX7_middleDifference 1 22 0 0 [.ref x, .int (nI nt)] ((x, .inr (7, [.ref (A 0), .int (nI ns), .ref (A 1), .int (nI nr), .ref (A 2), .ref (A 3), .ref (A 4), .ref (A 5), .ref (A 6), .ref (A 7), .ref (A 8), .ref (A 9), .long to, .int al, .int wa, .int lf, .ref (A 10)])) :: (A 0, .inl (G.2.1.2.2.1, 12, .inr (.inr (.inr (.inr (saF TP)))))) :: (A 4, .inr (0, [.ref (A 13), .int zs])) :: (A 13, .inl (G.2.1.1, 60, .inl nu)) :: (A 9, .inl (G.2.1.1, 12, .inl sl)) :: (stP G TP ++ r)) (fun v w => ∃ nu1, v = some (.int (fLv (qF TP) ns nt)) ∧ w = (x, .inr (7, [.ref (A 0), .int (nI ns), .ref (A 1), .int (nI nr), .ref (A 2), .ref (A 3), .ref (A 4), .ref (A 5), .ref (A 6), .ref (A 7), .ref (A 8), .ref (A 9), .long to, .int al, .int wa, .int lf, .ref (A 10)])) :: (A 0, .inl (G.2.1.2.2.1, 12, .inr (.inr (.inr (.inr (saF TP)))))) :: (A 4, .inr (0, [.ref (A 13), .int (nI ((dfL (qF TP) nt ns).length))])) :: (A 13, .inl (G.2.1.1, 60, .inl nu1)) :: (A 9, .inl (G.2.1.1, 12, .inl sl)) :: (stP G TP ++ r)) := by
  refine Mt.of (by decide +kernel) rfl rfl (fun X B => ?_)
  show J G X mX7_middleDifference ((x, .inr (7, [.ref (A 0), .int (nI ns), .ref (A 1), .int (nI nr), .ref (A 2), .ref (A 3), .ref (A 4), .ref (A 5), .ref (A 6), .ref (A 7), .ref (A 8), .ref (A 9), .long to, .int al, .int wa, .int lf, .ref (A 10)])) :: (A 0, .inl (G.2.1.2.2.1, 12, .inr (.inr (.inr (.inr (saF TP)))))) :: (A 4, .inr (0, [.ref (A 13), .int zs])) :: (A 13, .inl (G.2.1.1, 60, .inl nu)) :: (A 9, .inl (G.2.1.1, 12, .inl sl)) :: (stP G TP ++ r)) 0 0 0 [(0, .ref x), (1, .int (nI nt))] []
  refine J.aload_n 0 dX7_middleDifference_0 rfl ?_
  refine J.get 0 fl_X7_35 dX7_middleDifference_1 rfl rfl ?_
  refine J.re [2, 3, 0, 1, 4] 5 (ws2 := (A 4, .inr (0, [.ref (A 13), .int zs])) :: (A 13, .inl (G.2.1.1, 60, .inl nu)) :: (x, .inr (7, [.ref (A 0), .int (nI ns), .ref (A 1), .int (nI nr), .ref (A 2), .ref (A 3), .ref (A 4), .ref (A 5), .ref (A 6), .ref (A 7), .ref (A 8), .ref (A 9), .long to, .int al, .int wa, .int lf, .ref (A 10)])) :: (A 0, .inl (G.2.1.2.2.1, 12, .inr (.inr (.inr (.inr (saF TP)))))) :: (A 9, .inl (G.2.1.1, 12, .inl sl)) :: (stP G TP ++ r)) rfl rfl ?_
  refine J.callV 0 (st := []) B (c_X0_clear l G _ _ _ _ _) ml_X7_272 mf_yX0_clear mi_yX0_clear rfl dX7_middleDifference_4 rfl rfl rfl rfl (fun v_1 w_2 hp_3 => ?_)
  obtain ⟨rfl, rfl⟩ := hp_3
  refine J.re [2, 3, 0, 1, 4] 5 (ws2 := (x, .inr (7, [.ref (A 0), .int (nI ns), .ref (A 1), .int (nI nr), .ref (A 2), .ref (A 3), .ref (A 4), .ref (A 5), .ref (A 6), .ref (A 7), .ref (A 8), .ref (A 9), .long to, .int al, .int wa, .int lf, .ref (A 10)])) :: (A 0, .inl (G.2.1.2.2.1, 12, .inr (.inr (.inr (.inr (saF TP)))))) :: (A 4, .inr (0, [.ref (A 13), .int (0 : Int32)])) :: (A 13, .inl (G.2.1.1, 60, .inl nu)) :: (A 9, .inl (G.2.1.1, 12, .inl sl)) :: (stP G TP ++ r)) rfl rfl ?_
  show J G X mX7_middleDifference _ _ _ 7 _ []
  refine J.iconst (0 : Int32) dX7_middleDifference_7 rfl ?_
  refine J.istore_n [1, 2, 0] (lv' := [(0, .ref x), (1, .int (nI nt)), (2, .int (0 : Int32))]) dX7_middleDifference_8 rfl rfl ?_
  exact X7_md_lp B 0 _ hlen hns hnt hsl (by omega) trivial
