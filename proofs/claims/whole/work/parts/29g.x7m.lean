set_option maxHeartbeats 4000000 in
set_option maxRecDepth 100000 in
theorem X7_lev2 {l : Launch} {G : jG} {X : jX} {r : va_W} {x : Nat} {A : Nat → Nat} {ns nr : Nat} {to : Int64} {al wa lf : Int32} {TP : List tR} {F sl : Nat → Int32} (B : jB l G X 2 44 0 0 (fun v w => ∃ zs1 nu1, v = some (.int (nI (unE (fLv (qF TP) ns) 60))) ∧ w = (x, .inr (7, [.ref (A 0), .int (nI ns), .ref (A 1), .int (nI nr), .ref (A 2), .ref (A 3), .ref (A 4), .ref (A 5), .ref (A 6), .ref (A 7), .ref (A 8), .ref (A 9), .long to, .int al, .int wa, .int lf, .ref (A 10)])) :: (A 0, .inl (G.2.1.2.2.1, 12, .inr (.inr (.inr (.inr (saF TP)))))) :: (A 4, .inr (0, [.ref (A 13), .int zs1])) :: (A 13, .inl (G.2.1.1, 60, .inl nu1)) :: (A 9, .inl (G.2.1.1, 12, .inl (fiF sl (lvQ (qF TP)) ns))) :: (A 2, .inl (G.2.1.1, 60, .inl (fiF F (fLv (qF TP) ns) 60))) :: (stP G TP ++ r)) "level") (nt : Nat) (zs : Int32) (nu : Nat → Int32) (hlen : TP.length = ns) (hns : ns ≤ 12) (hsl : ∀ j, j < ns → (fiF sl (lvQ (qF TP)) ns) j = lvQ (qF TP) j) (hk : nt ≤ 60) : J G X mX7_level ((x, .inr (7, [.ref (A 0), .int (nI ns), .ref (A 1), .int (nI nr), .ref (A 2), .ref (A 3), .ref (A 4), .ref (A 5), .ref (A 6), .ref (A 7), .ref (A 8), .ref (A 9), .long to, .int al, .int wa, .int lf, .ref (A 10)])) :: (A 0, .inl (G.2.1.2.2.1, 12, .inr (.inr (.inr (.inr (saF TP)))))) :: (A 4, .inr (0, [.ref (A 13), .int zs])) :: (A 13, .inl (G.2.1.1, 60, .inl nu)) :: (A 9, .inl (G.2.1.1, 12, .inl (fiF sl (lvQ (qF TP)) ns))) :: (A 2, .inl (G.2.1.1, 60, .inl (fiF F (fLv (qF TP) ns) nt))) :: (stP G TP ++ r)) 0 0 36 [(0, .ref x), (1, .int (nI (unE (fLv (qF TP) ns) nt))), (2, .int (nI nt))] [] := by
  have hue := unE_le (fLv (qF TP) ns) nt
  refine J.iload_n 2 dX7_level_36 rfl ?_
  refine J.bipush (60 : Int32) dX7_level_37 rfl ?_
  refine J.icmp_ge dX7_level_39 (fun h9 => ?_) (fun h9 => ?_)
  · skip
    have h9 : 60 ≤ nt := (nI_leI (a := 60) (b := nt) (by omega) (by omega)).mp h9
    have e : nt = 60 := by omega
    subst e
    refine J.iload_n 1 dX7_level_71 rfl ?_
    exact J.iret B dX7_level_72 rfl (⟨zs, nu, rfl, rfl⟩)
  · skip
    have h9 : ¬ 60 ≤ nt := fun z => h9 ((nI_leI (a := 60) (b := nt) (by omega) (by omega)).mpr z)
    refine J.aload_n 0 dX7_level_42 rfl ?_
    refine J.get 0 fl_X7_21 dX7_level_43 rfl rfl ?_
    refine J.iload_n 2 dX7_level_46 rfl ?_
    refine J.aload_n 0 dX7_level_47 rfl ?_
    refine J.iload_n 2 dX7_level_48 rfl ?_
    refine J.perm (ws2 := (x, .inr (7, [.ref (A 0), .int (nI ns), .ref (A 1), .int (nI nr), .ref (A 2), .ref (A 3), .ref (A 4), .ref (A 5), .ref (A 6), .ref (A 7), .ref (A 8), .ref (A 9), .long to, .int al, .int wa, .int lf, .ref (A 10)])) :: (A 0, .inl (G.2.1.2.2.1, 12, .inr (.inr (.inr (.inr (saF TP)))))) :: (A 4, .inr (0, [.ref (A 13), .int zs])) :: (A 13, .inl (G.2.1.1, 60, .inl nu)) :: (A 9, .inl (G.2.1.1, 12, .inl (fiF sl (lvQ (qF TP)) ns))) :: (stP G TP ++ ((A 2, .inl (G.2.1.1, 60, .inl (fiF F (fLv (qF TP) ns) nt))) :: r))) (List.Perm.cons _ (List.Perm.cons _ (List.Perm.cons _ (List.Perm.cons _ (List.Perm.cons _ (pool_swap (os := [(A 2, .inl (G.2.1.1, 60, .inl (fiF F (fLv (qF TP) ns) nt)))]))))))) ?_
    refine J.callV 0 (st := [.int (nI nt), .ref (A 2)]) B (c_X7_middleDifference l G _ (nt := nt) hlen hns (by omega) hsl) ml_X7_139 mf_yX7_middleDifference mi_yX7_middleDifference rfl dX7_level_49 rfl rfl rfl rfl (fun v9 w9 hp9 => ?_)
    obtain ⟨nu1, rfl, rfl⟩ := hp9
    refine J.perm (ws2 := (x, .inr (7, [.ref (A 0), .int (nI ns), .ref (A 1), .int (nI nr), .ref (A 2), .ref (A 3), .ref (A 4), .ref (A 5), .ref (A 6), .ref (A 7), .ref (A 8), .ref (A 9), .long to, .int al, .int wa, .int lf, .ref (A 10)])) :: (A 0, .inl (G.2.1.2.2.1, 12, .inr (.inr (.inr (.inr (saF TP)))))) :: (A 4, .inr (0, [.ref (A 13), .int (nI ((dfL (qF TP) nt ns).length))])) :: (A 13, .inl (G.2.1.1, 60, .inl nu1)) :: (A 9, .inl (G.2.1.1, 12, .inl (fiF sl (lvQ (qF TP)) ns))) :: (A 2, .inl (G.2.1.1, 60, .inl (fiF F (fLv (qF TP) ns) nt))) :: (stP G TP ++ r)) (List.Perm.cons _ (List.Perm.cons _ (List.Perm.cons _ (List.Perm.cons _ (List.Perm.cons _ ((pool_swap (os := [(A 2, .inl (G.2.1.1, 60, .inl (fiF F (fLv (qF TP) ns) nt)))])).symm)))))) ?_
    show J G X mX7_level _ _ _ 52 _ [.int (fLv (qF TP) ns nt), .int (nI nt), .ref (A 2)]
    refine J.iast 5 (nt) dX7_level_52 rfl (rfl) (by omega) (by decide) (ws' := (x, .inr (7, [.ref (A 0), .int (nI ns), .ref (A 1), .int (nI nr), .ref (A 2), .ref (A 3), .ref (A 4), .ref (A 5), .ref (A 6), .ref (A 7), .ref (A 8), .ref (A 9), .long to, .int al, .int wa, .int lf, .ref (A 10)])) :: (A 0, .inl (G.2.1.2.2.1, 12, .inr (.inr (.inr (.inr (saF TP)))))) :: (A 4, .inr (0, [.ref (A 13), .int (nI ((dfL (qF TP) nt ns).length))])) :: (A 13, .inl (G.2.1.1, 60, .inl nu1)) :: (A 9, .inl (G.2.1.1, 12, .inl (fiF sl (lvQ (qF TP)) ns))) :: (A 2, .inl (G.2.1.1, 60, .inl (upd (fiF F (fLv (qF TP) ns) nt) nt (fLv (qF TP) ns nt)))) :: (stP G TP ++ r)) rfl ?_
    rw [show upd (fiF F (fLv (qF TP) ns) nt) nt (fLv (qF TP) ns nt) = fiF F (fLv (qF TP) ns) (nt + 1) from fiF_s _ _ _]
    refine J.aload_n 0 dX7_level_53 rfl ?_
    refine J.get 0 fl_X7_21 dX7_level_54 rfl rfl ?_
    refine J.iload_n 2 dX7_level_57 rfl ?_
    refine J.iald 5 (nt) dX7_level_58 rfl (rfl) (by omega) (by decide) ?_
    refine J.topi (y := fLv (qF TP) ns nt) (fiF_in (by omega)) ?_
    refine J.if_eq dX7_level_59 (fun h8 => ?_) (fun h8 => ?_)
    · skip
      refine J.iinc 2 [1, 2, 0] (lv' := [(0, .ref x), (1, .int (nI (unE (fLv (qF TP) ns) nt))), (2, .int (nI (nt + 1)))]) dX7_level_65 rfl (jinc1 _) rfl rfl ?_
      refine J.goto dX7_level_68 ?_
      have he : unE (fLv (qF TP) ns) (nt + 1) = unE (fLv (qF TP) ns) nt := by
        show unE (fLv (qF TP) ns) nt + _ = _
        rw [if_pos h8]; rfl
      have hq9 := X7_lev2 B (nt + 1) (nI (dfL (qF TP) nt ns).length) nu1 hlen hns hsl (by omega)
      rw [he] at hq9
      exact hq9
    · skip
      refine J.iinc 1 [1, 0, 2] (lv' := [(0, .ref x), (1, .int (nI (unE (fLv (qF TP) ns) nt + 1))), (2, .int (nI nt))]) dX7_level_62 rfl (jinc1 _) rfl rfl ?_
      refine J.iinc 2 [1, 2, 0] (lv' := [(0, .ref x), (1, .int (nI (unE (fLv (qF TP) ns) nt + 1))), (2, .int (nI (nt + 1)))]) dX7_level_65 rfl (jinc1 _) rfl rfl ?_
      refine J.goto dX7_level_68 ?_
      have he : unE (fLv (qF TP) ns) (nt + 1) = unE (fLv (qF TP) ns) nt + 1 := by
        show unE (fLv (qF TP) ns) nt + _ = _
        rw [if_neg h8]
      have hq9 := X7_lev2 B (nt + 1) (nI (dfL (qF TP) nt ns).length) nu1 hlen hns hsl (by omega)
      rw [he] at hq9
      exact hq9
termination_by 60 - nt
decreasing_by all_goals omega
set_option maxHeartbeats 4000000 in
set_option maxRecDepth 100000 in
theorem X7_lev1 {l : Launch} {G : jG} {X : jX} {r : va_W} {x : Nat} {A : Nat → Nat} {ns nr : Nat} {to : Int64} {al wa lf : Int32} {TP : List tR} {F sl : Nat → Int32} (B : jB l G X 2 44 0 0 (fun v w => ∃ zs1 nu1, v = some (.int (nI (unE (fLv (qF TP) ns) 60))) ∧ w = (x, .inr (7, [.ref (A 0), .int (nI ns), .ref (A 1), .int (nI nr), .ref (A 2), .ref (A 3), .ref (A 4), .ref (A 5), .ref (A 6), .ref (A 7), .ref (A 8), .ref (A 9), .long to, .int al, .int wa, .int lf, .ref (A 10)])) :: (A 0, .inl (G.2.1.2.2.1, 12, .inr (.inr (.inr (.inr (saF TP)))))) :: (A 4, .inr (0, [.ref (A 13), .int zs1])) :: (A 13, .inl (G.2.1.1, 60, .inl nu1)) :: (A 9, .inl (G.2.1.1, 12, .inl (fiF sl (lvQ (qF TP)) ns))) :: (A 2, .inl (G.2.1.1, 60, .inl (fiF F (fLv (qF TP) ns) 60))) :: (stP G TP ++ r)) "level") (k : Nat) (zs : Int32) (nu : Nat → Int32) (hlen : TP.length = ns) (hns : ns ≤ 12) (hk : k ≤ ns) : J G X mX7_level ((x, .inr (7, [.ref (A 0), .int (nI ns), .ref (A 1), .int (nI nr), .ref (A 2), .ref (A 3), .ref (A 4), .ref (A 5), .ref (A 6), .ref (A 7), .ref (A 8), .ref (A 9), .long to, .int al, .int wa, .int lf, .ref (A 10)])) :: (A 0, .inl (G.2.1.2.2.1, 12, .inr (.inr (.inr (.inr (saF TP)))))) :: (A 4, .inr (0, [.ref (A 13), .int zs])) :: (A 13, .inl (G.2.1.1, 60, .inl nu)) :: (A 9, .inl (G.2.1.1, 12, .inl (fiF sl (lvQ (qF TP)) k))) :: (A 2, .inl (G.2.1.1, 60, .inl F)) :: (stP G TP ++ r)) 0 0 2 [(0, .ref x), (1, .int (nI k))] [] := by
  refine J.iload_n 1 dX7_level_2 rfl ?_
  refine J.aload_n 0 dX7_level_3 rfl ?_
  refine J.get 0 fl_X7_73 dX7_level_4 rfl rfl ?_
  refine J.icmp_ge dX7_level_7 (fun h9 => ?_) (fun h9 => ?_)
  · skip
    have h9 : ns ≤ k := (nI_leI (a := ns) (b := k) (by omega) (by omega)).mp h9
    have e : k = ns := by omega
    subst e
    refine J.iconst (0 : Int32) dX7_level_32 rfl ?_
    refine J.istore_n [1, 0] (lv' := [(0, .ref x), (1, .int (0 : Int32))]) dX7_level_33 rfl rfl ?_
    refine J.iconst (0 : Int32) dX7_level_34 rfl ?_
    refine J.istore_n [1, 2, 0] (lv' := [(0, .ref x), (1, .int (0 : Int32)), (2, .int (0 : Int32))]) dX7_level_35 rfl rfl ?_
    have hq9 := X7_lev2 (F := F) B 0 zs nu hlen hns (fun j hj => fiF_in hj) (by omega)
    rw [fiF_0] at hq9
    exact hq9
  · skip
    have h9 : ¬ ns ≤ k := fun z => h9 ((nI_leI (a := ns) (b := k) (by omega) (by omega)).mpr z)
    have h9 : k < TP.length := by omega
    obtain ⟨q9, hq9⟩ : ∃ q, q = tD TP k := ⟨_, rfl⟩
    have hsa : saF TP k = some q9.1.1 := by rw [hq9]; exact saF_at h9
    have hqF : qF TP k = q9.2 := by rw [hq9]; rfl
    have hpe : (stP G TP ++ r).Perm (stC G q9 ++ (stP G (TP.eraseIdx k) ++ r)) := by rw [hq9]; exact stP_out h9 r
    obtain ⟨⟨s, la⟩, kd, b, L, wc⟩ := q9
    refine J.perm (ws2 := (x, .inr (7, [.ref (A 0), .int (nI ns), .ref (A 1), .int (nI nr), .ref (A 2), .ref (A 3), .ref (A 4), .ref (A 5), .ref (A 6), .ref (A 7), .ref (A 8), .ref (A 9), .long to, .int al, .int wa, .int lf, .ref (A 10)])) :: (A 0, .inl (G.2.1.2.2.1, 12, .inr (.inr (.inr (.inr (saF TP)))))) :: (A 4, .inr (0, [.ref (A 13), .int zs])) :: (A 13, .inl (G.2.1.1, 60, .inl nu)) :: (A 9, .inl (G.2.1.1, 12, .inl (fiF sl (lvQ (qF TP)) k))) :: (A 2, .inl (G.2.1.1, 60, .inl F)) :: (s, .inr (6, [.int kd, .ref la, .int (b01 b), .int wc])) :: (la, .inl (G.2.1.1, 60, .inl L)) :: (stP G (TP.eraseIdx k) ++ r)) (List.Perm.cons _ (List.Perm.cons _ (List.Perm.cons _ (List.Perm.cons _ (List.Perm.cons _ (List.Perm.cons _ (hpe))))))) ?_
    refine J.aload_n 0 dX7_level_10 rfl ?_
    refine J.get 0 fl_X7_63 dX7_level_11 rfl rfl ?_
    refine J.iload_n 1 dX7_level_14 rfl ?_
    refine J.aload_n 0 dX7_level_15 rfl ?_
    refine J.aload_n 0 dX7_level_16 rfl ?_
    refine J.get 0 fl_X7_11 dX7_level_17 rfl rfl ?_
    refine J.iload_n 1 dX7_level_20 rfl ?_
    refine J.aald 1 2 (k) dX7_level_21 rfl rfl (rfl) (by omega) (by decide) (hsa) ?_
    refine J.re [0, 2, 3, 6, 7, 1, 4, 5] 8 (ws2 := (x, .inr (7, [.ref (A 0), .int (nI ns), .ref (A 1), .int (nI nr), .ref (A 2), .ref (A 3), .ref (A 4), .ref (A 5), .ref (A 6), .ref (A 7), .ref (A 8), .ref (A 9), .long to, .int al, .int wa, .int lf, .ref (A 10)])) :: (A 4, .inr (0, [.ref (A 13), .int zs])) :: (A 13, .inl (G.2.1.1, 60, .inl nu)) :: (s, .inr (6, [.int kd, .ref la, .int (b01 b), .int wc])) :: (la, .inl (G.2.1.1, 60, .inl L)) :: (A 0, .inl (G.2.1.2.2.1, 12, .inr (.inr (.inr (.inr (saF TP)))))) :: (A 9, .inl (G.2.1.1, 12, .inl (fiF sl (lvQ (qF TP)) k))) :: (A 2, .inl (G.2.1.1, 60, .inl F)) :: (stP G (TP.eraseIdx k) ++ r)) rfl rfl ?_
    refine J.callV 0 (st := [.int (nI k), .ref (A 9)]) B (c_X7_levelWithoutFootings l G _) ml_X7_135 mf_yX7_levelWithoutFootings mi_yX7_levelWithoutFootings rfl dX7_level_22 rfl rfl rfl rfl (fun v_1 w_2 hp_3 => ?_)
    obtain ⟨nu1, rfl, rfl⟩ := hp_3
    rw [show midV (rws L 60) = lvQ (qF TP) k by unfold lvQ; rw [hqF]]
    refine J.re [0, 5, 1, 2, 6, 7, 3, 4] 8 (ws2 := (x, .inr (7, [.ref (A 0), .int (nI ns), .ref (A 1), .int (nI nr), .ref (A 2), .ref (A 3), .ref (A 4), .ref (A 5), .ref (A 6), .ref (A 7), .ref (A 8), .ref (A 9), .long to, .int al, .int wa, .int lf, .ref (A 10)])) :: (A 0, .inl (G.2.1.2.2.1, 12, .inr (.inr (.inr (.inr (saF TP)))))) :: (A 4, .inr (0, [.ref (A 13), .int (nI (nN L))])) :: (A 13, .inl (G.2.1.1, 60, .inl nu1)) :: (A 9, .inl (G.2.1.1, 12, .inl (fiF sl (lvQ (qF TP)) k))) :: (A 2, .inl (G.2.1.1, 60, .inl F)) :: (s, .inr (6, [.int kd, .ref la, .int (b01 b), .int wc])) :: (la, .inl (G.2.1.1, 60, .inl L)) :: (stP G (TP.eraseIdx k) ++ r)) rfl rfl ?_
    show J G X mX7_level _ _ _ 25 _ [.int (lvQ (qF TP) k), .int (nI k), .ref (A 9)]
    refine J.iast 4 (k) dX7_level_25 rfl (rfl) (by omega) (by decide) (ws' := (x, .inr (7, [.ref (A 0), .int (nI ns), .ref (A 1), .int (nI nr), .ref (A 2), .ref (A 3), .ref (A 4), .ref (A 5), .ref (A 6), .ref (A 7), .ref (A 8), .ref (A 9), .long to, .int al, .int wa, .int lf, .ref (A 10)])) :: (A 0, .inl (G.2.1.2.2.1, 12, .inr (.inr (.inr (.inr (saF TP)))))) :: (A 4, .inr (0, [.ref (A 13), .int (nI (nN L))])) :: (A 13, .inl (G.2.1.1, 60, .inl nu1)) :: (A 9, .inl (G.2.1.1, 12, .inl (upd (fiF sl (lvQ (qF TP)) k) k (lvQ (qF TP) k)))) :: (A 2, .inl (G.2.1.1, 60, .inl F)) :: (s, .inr (6, [.int kd, .ref la, .int (b01 b), .int wc])) :: (la, .inl (G.2.1.1, 60, .inl L)) :: (stP G (TP.eraseIdx k) ++ r)) rfl ?_
    rw [show upd (fiF sl (lvQ (qF TP)) k) k (lvQ (qF TP) k) = fiF sl (lvQ (qF TP)) (k + 1) from fiF_s _ _ _]
    refine J.iinc 1 [1, 0] (lv' := [(0, .ref x), (1, .int (nI (k + 1)))]) dX7_level_26 rfl (jinc1 _) rfl rfl ?_
    refine J.goto dX7_level_29 ?_
    refine J.perm (ws2 := (x, .inr (7, [.ref (A 0), .int (nI ns), .ref (A 1), .int (nI nr), .ref (A 2), .ref (A 3), .ref (A 4), .ref (A 5), .ref (A 6), .ref (A 7), .ref (A 8), .ref (A 9), .long to, .int al, .int wa, .int lf, .ref (A 10)])) :: (A 0, .inl (G.2.1.2.2.1, 12, .inr (.inr (.inr (.inr (saF TP)))))) :: (A 4, .inr (0, [.ref (A 13), .int (nI (nN L))])) :: (A 13, .inl (G.2.1.1, 60, .inl nu1)) :: (A 9, .inl (G.2.1.1, 12, .inl (fiF sl (lvQ (qF TP)) (k + 1)))) :: (A 2, .inl (G.2.1.1, 60, .inl F)) :: (stP G TP ++ r)) (List.Perm.cons _ (List.Perm.cons _ (List.Perm.cons _ (List.Perm.cons _ (List.Perm.cons _ (List.Perm.cons _ (hpe.symm))))))) ?_
    exact X7_lev1 B (k + 1) (nI (nN L)) nu1 hlen hns (by omega)
termination_by ns - k
decreasing_by all_goals omega
set_option maxHeartbeats 4000000 in
set_option maxRecDepth 100000 in
theorem i_level (l : Launch) (G : jG) (r : va_W) {x : Nat} {A : Nat → Nat} {ns nr : Nat} {to : Int64} {al wa lf : Int32} {TP : List tR} {F sl nu : Nat → Int32} {zs : Int32} (hlen : TP.length = ns) (hns : ns ≤ 12) : Mt l G yX7_level mX7_level 2 44 0 0 [.ref x] ((x, .inr (7, [.ref (A 0), .int (nI ns), .ref (A 1), .int (nI nr), .ref (A 2), .ref (A 3), .ref (A 4), .ref (A 5), .ref (A 6), .ref (A 7), .ref (A 8), .ref (A 9), .long to, .int al, .int wa, .int lf, .ref (A 10)])) :: (A 0, .inl (G.2.1.2.2.1, 12, .inr (.inr (.inr (.inr (saF TP)))))) :: (A 4, .inr (0, [.ref (A 13), .int zs])) :: (A 13, .inl (G.2.1.1, 60, .inl nu)) :: (A 9, .inl (G.2.1.1, 12, .inl sl)) :: (A 2, .inl (G.2.1.1, 60, .inl F)) :: (stP G TP ++ r)) (fun v w => ∃ zs1 nu1, v = some (.int (nI (unE (fLv (qF TP) ns) 60))) ∧ w = (x, .inr (7, [.ref (A 0), .int (nI ns), .ref (A 1), .int (nI nr), .ref (A 2), .ref (A 3), .ref (A 4), .ref (A 5), .ref (A 6), .ref (A 7), .ref (A 8), .ref (A 9), .long to, .int al, .int wa, .int lf, .ref (A 10)])) :: (A 0, .inl (G.2.1.2.2.1, 12, .inr (.inr (.inr (.inr (saF TP)))))) :: (A 4, .inr (0, [.ref (A 13), .int zs1])) :: (A 13, .inl (G.2.1.1, 60, .inl nu1)) :: (A 9, .inl (G.2.1.1, 12, .inl (fiF sl (lvQ (qF TP)) ns))) :: (A 2, .inl (G.2.1.1, 60, .inl (fiF F (fLv (qF TP) ns) 60))) :: (stP G TP ++ r)) := by
  refine Mt.of (by decide +kernel) rfl rfl (fun X B => ?_)
  show J G X mX7_level ((x, .inr (7, [.ref (A 0), .int (nI ns), .ref (A 1), .int (nI nr), .ref (A 2), .ref (A 3), .ref (A 4), .ref (A 5), .ref (A 6), .ref (A 7), .ref (A 8), .ref (A 9), .long to, .int al, .int wa, .int lf, .ref (A 10)])) :: (A 0, .inl (G.2.1.2.2.1, 12, .inr (.inr (.inr (.inr (saF TP)))))) :: (A 4, .inr (0, [.ref (A 13), .int zs])) :: (A 13, .inl (G.2.1.1, 60, .inl nu)) :: (A 9, .inl (G.2.1.1, 12, .inl sl)) :: (A 2, .inl (G.2.1.1, 60, .inl F)) :: (stP G TP ++ r)) 0 0 0 [(0, .ref x)] []
  refine J.iconst (0 : Int32) dX7_level_0 rfl ?_
  refine J.istore_n [1, 0] (lv' := [(0, .ref x), (1, .int (0 : Int32))]) dX7_level_1 rfl rfl ?_
  have hq9 := X7_lev1 (sl := sl) B 0 zs nu hlen hns (by omega)
  rw [fiF_0] at hq9
  exact hq9
