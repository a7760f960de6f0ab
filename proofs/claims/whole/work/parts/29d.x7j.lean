set_option maxHeartbeats 4000000 in
set_option maxRecDepth 100000 in
theorem X7_cor_lp {l : Launch} {G : jG} {X : jX} {r : va_W} {x : Nat} {A : Nat → Nat} {ns nr : Nat} {to : Int64} {al wa lf : Int32} {TP : List tR} (B : jB l G X 0 0 0 0 (fun v w => v = some (.int (nI (rwN (qF TP) ns))) ∧ w = (x, .inr (7, [.ref (A 0), .int (nI ns), .ref (A 1), .int (nI nr), .ref (A 2), .ref (A 3), .ref (A 4), .ref (A 5), .ref (A 6), .ref (A 7), .ref (A 8), .ref (A 9), .long to, .int al, .int wa, .int lf, .ref (A 10)])) :: (A 0, .inl (G.2.1.2.2.1, 12, .inr (.inr (.inr (.inr (saF TP)))))) :: (stP G TP ++ r)) "countOfRows") (k : Nat) (hlen : TP.length = ns) (hns : ns ≤ 12) (hk : k ≤ ns) : J G X mX7_countOfRows ((x, .inr (7, [.ref (A 0), .int (nI ns), .ref (A 1), .int (nI nr), .ref (A 2), .ref (A 3), .ref (A 4), .ref (A 5), .ref (A 6), .ref (A 7), .ref (A 8), .ref (A 9), .long to, .int al, .int wa, .int lf, .ref (A 10)])) :: (A 0, .inl (G.2.1.2.2.1, 12, .inr (.inr (.inr (.inr (saF TP)))))) :: (stP G TP ++ r)) 0 0 4 [(0, .ref x), (1, .int (nI (rwN (qF TP) k))), (2, .int (nI k))] [] := by
  have hle := rwN_le (qF TP) k
  refine J.iload_n 2 dX7_countOfRows_4 rfl ?_
  refine J.aload_n 0 dX7_countOfRows_5 rfl ?_
  refine J.get 0 fl_X7_73 dX7_countOfRows_6 rfl rfl ?_
  refine J.icmp_ge dX7_countOfRows_9 (fun h9 => ?_) (fun h9 => ?_)
  · skip
    have h9 : ns ≤ k := (nI_leI (a := ns) (b := k) (by omega) (by omega)).mp h9
    have e : k = ns := by omega
    subst e
    refine J.iload_n 1 dX7_countOfRows_33 rfl ?_
    exact J.iret B dX7_countOfRows_34 rfl (⟨rfl, rfl⟩)
  · skip
    have h9 : ¬ ns ≤ k := fun z => h9 ((nI_leI (a := ns) (b := k) (by omega) (by omega)).mpr z)
    have h9 : k < TP.length := by omega
    obtain ⟨q9, hq9⟩ : ∃ q, q = tD TP k := ⟨_, rfl⟩
    have hsa : saF TP k = some q9.1.1 := by rw [hq9]; exact saF_at h9
    have hqF : qF TP k = q9.2 := by rw [hq9]; rfl
    have hpe : (stP G TP ++ r).Perm (stC G q9 ++ (stP G (TP.eraseIdx k) ++ r)) := by rw [hq9]; exact stP_out h9 r
    obtain ⟨⟨s, la⟩, kd, b, L, wc⟩ := q9
    refine J.perm (ws2 := (x, .inr (7, [.ref (A 0), .int (nI ns), .ref (A 1), .int (nI nr), .ref (A 2), .ref (A 3), .ref (A 4), .ref (A 5), .ref (A 6), .ref (A 7), .ref (A 8), .ref (A 9), .long to, .int al, .int wa, .int lf, .ref (A 10)])) :: (A 0, .inl (G.2.1.2.2.1, 12, .inr (.inr (.inr (.inr (saF TP)))))) :: (s, .inr (6, [.int kd, .ref la, .int (b01 b), .int wc])) :: (la, .inl (G.2.1.1, 60, .inl L)) :: (stP G (TP.eraseIdx k) ++ r)) (List.Perm.cons _ (List.Perm.cons _ (hpe))) ?_
    refine J.aload_n 0 dX7_countOfRows_12 rfl ?_
    refine J.get 0 fl_X7_11 dX7_countOfRows_13 rfl rfl ?_
    refine J.iload_n 2 dX7_countOfRows_16 rfl ?_
    refine J.aald 1 2 (k) dX7_countOfRows_17 rfl rfl (rfl) (by omega) (by decide) (hsa) ?_
    refine J.get 2 fl_X7_100 dX7_countOfRows_18 rfl rfl ?_
    refine J.if_eq dX7_countOfRows_21 (fun h8 => ?_) (fun h8 => ?_)
    · skip
      refine J.iinc 2 [1, 2, 0] (lv' := [(0, .ref x), (1, .int (nI (rwN (qF TP) k))), (2, .int (nI (k + 1)))]) dX7_countOfRows_27 rfl (jinc1 _) rfl rfl ?_
      refine J.goto dX7_countOfRows_30 ?_
      refine J.perm (ws2 := (x, .inr (7, [.ref (A 0), .int (nI ns), .ref (A 1), .int (nI nr), .ref (A 2), .ref (A 3), .ref (A 4), .ref (A 5), .ref (A 6), .ref (A 7), .ref (A 8), .ref (A 9), .long to, .int al, .int wa, .int lf, .ref (A 10)])) :: (A 0, .inl (G.2.1.2.2.1, 12, .inr (.inr (.inr (.inr (saF TP)))))) :: (stP G TP ++ r)) (List.Perm.cons _ (List.Perm.cons _ (hpe.symm))) ?_
      have he : rwN (qF TP) (k + 1) = rwN (qF TP) k := by
        show rwN (qF TP) k + _ = _
        rw [hqF]
        rw [show (kd, b, L, wc).2.1 = false from b01_0 h8]; rfl
      have hq := X7_cor_lp B (k + 1) hlen hns (by omega)
      rw [he] at hq
      exact hq
    · skip
      refine J.iinc 1 [1, 0, 2] (lv' := [(0, .ref x), (1, .int (nI (rwN (qF TP) k + 1))), (2, .int (nI k))]) dX7_countOfRows_24 rfl (jinc1 _) rfl rfl ?_
      refine J.iinc 2 [1, 2, 0] (lv' := [(0, .ref x), (1, .int (nI (rwN (qF TP) k + 1))), (2, .int (nI (k + 1)))]) dX7_countOfRows_27 rfl (jinc1 _) rfl rfl ?_
      refine J.goto dX7_countOfRows_30 ?_
      refine J.perm (ws2 := (x, .inr (7, [.ref (A 0), .int (nI ns), .ref (A 1), .int (nI nr), .ref (A 2), .ref (A 3), .ref (A 4), .ref (A 5), .ref (A 6), .ref (A 7), .ref (A 8), .ref (A 9), .long to, .int al, .int wa, .int lf, .ref (A 10)])) :: (A 0, .inl (G.2.1.2.2.1, 12, .inr (.inr (.inr (.inr (saF TP)))))) :: (stP G TP ++ r)) (List.Perm.cons _ (List.Perm.cons _ (hpe.symm))) ?_
      have he : rwN (qF TP) (k + 1) = rwN (qF TP) k + 1 := by
        show rwN (qF TP) k + _ = _
        rw [hqF]
        rw [show (kd, b, L, wc).2.1 = true from b01_1 h8]; rfl
      have hq := X7_cor_lp B (k + 1) hlen hns (by omega)
      rw [he] at hq
      exact hq
termination_by ns - k
decreasing_by all_goals omega
set_option maxHeartbeats 4000000 in
set_option maxRecDepth 100000 in
theorem c_X7_countOfRows (l : Launch) (G : jG) (r : va_W) {x : Nat} {A : Nat → Nat} {ns nr : Nat} {to : Int64} {al wa lf : Int32} {TP : List tR} (hlen : TP.length = ns) (hns : ns ≤ 12) : Mt l G yX7_countOfRows mX7_countOfRows 0 0 0 0 [.ref x] ((x, .inr (7, [.ref (A 0), .int (nI ns), .ref (A 1), .int (nI nr), .ref (A 2), .ref (A 3), .ref (A 4), .ref (A 5), .ref (A 6), .ref (A 7), .ref (A 8), .ref (A 9), .long to, .int al, .int wa, .int lf, .ref (A 10)])) :: (A 0, .inl (G.2.1.2.2.1, 12, .inr (.inr (.inr (.inr (saF TP)))))) :: (stP G TP ++ r)) (fun v w => v = some (.int (nI (rwN (qF TP) ns))) ∧ w = (x, .inr (7, [.ref (A 0), .int (nI ns), .ref (A 1), .int (nI nr), .ref (A 2), .ref (A 3), .ref (A 4), .ref (A 5), .ref (A 6), .ref (A 7), .ref (A 8), .ref (A 9), .long to, .int al, .int wa, .int lf, .ref (A 10)])) :: (A 0, .inl (G.2.1.2.2.1, 12, .inr (.inr (.inr (.inr (saF TP)))))) :: (stP G TP ++ r)) := by
  refine Mt.of (by decide +kernel) rfl rfl (fun X B => ?_)
  show J G X mX7_countOfRows ((x, .inr (7, [.ref (A 0), .int (nI ns), .ref (A 1), .int (nI nr), .ref (A 2), .ref (A 3), .ref (A 4), .ref (A 5), .ref (A 6), .ref (A 7), .ref (A 8), .ref (A 9), .long to, .int al, .int wa, .int lf, .ref (A 10)])) :: (A 0, .inl (G.2.1.2.2.1, 12, .inr (.inr (.inr (.inr (saF TP)))))) :: (stP G TP ++ r)) 0 0 0 [(0, .ref x)] []
  refine J.iconst (0 : Int32) dX7_countOfRows_0 rfl ?_
  refine J.istore_n [1, 0] (lv' := [(0, .ref x), (1, .int (0 : Int32))]) dX7_countOfRows_1 rfl rfl ?_
  refine J.iconst (0 : Int32) dX7_countOfRows_2 rfl ?_
  refine J.istore_n [1, 2, 0] (lv' := [(0, .ref x), (1, .int (0 : Int32)), (2, .int (0 : Int32))]) dX7_countOfRows_3 rfl rfl ?_
  exact X7_cor_lp B 0 hlen hns (by omega)
set_option maxHeartbeats 4000000 in
set_option maxRecDepth 100000 in
theorem X7_col_in {l : Launch} {G : jG} {X : jX} {r : va_W} {x : Nat} {A : Nat → Nat} {ns nr : Nat} {to : Int64} {al wa lf : Int32} {TP : List tR} {k s la : Nat} {kd wc : Int32} {b : Bool} {L : Nat → Int32} (B : jB l G X 0 0 0 0 (fun v w => v = some (.int (nI (lgN (qF TP) ns))) ∧ w = (x, .inr (7, [.ref (A 0), .int (nI ns), .ref (A 1), .int (nI nr), .ref (A 2), .ref (A 3), .ref (A 4), .ref (A 5), .ref (A 6), .ref (A 7), .ref (A 8), .ref (A 9), .long to, .int al, .int wa, .int lf, .ref (A 10)])) :: (A 0, .inl (G.2.1.2.2.1, 12, .inr (.inr (.inr (.inr (saF TP)))))) :: (stP G TP ++ r)) "countOfLights") (j : Nat) (hlen : TP.length = ns) (hns : ns ≤ 12) (hk : k < ns) (hsa : saF TP k = some s) (hj : j ≤ 60) (hle : lgN (qF TP) k ≤ 60 * k) (hK : J G X mX7_countOfLights ((x, .inr (7, [.ref (A 0), .int (nI ns), .ref (A 1), .int (nI nr), .ref (A 2), .ref (A 3), .ref (A 4), .ref (A 5), .ref (A 6), .ref (A 7), .ref (A 8), .ref (A 9), .long to, .int al, .int wa, .int lf, .ref (A 10)])) :: (A 0, .inl (G.2.1.2.2.1, 12, .inr (.inr (.inr (.inr (saF TP)))))) :: (s, .inr (6, [.int kd, .ref la, .int (b01 b), .int wc])) :: (la, .inl (G.2.1.1, 60, .inl L)) :: (stP G (TP.eraseIdx k) ++ r)) 0 0 45 [(0, .ref x), (1, .int (nI (lgN (qF TP) k + nN L))), (2, .int (nI k))] []) : J G X mX7_countOfLights ((x, .inr (7, [.ref (A 0), .int (nI ns), .ref (A 1), .int (nI nr), .ref (A 2), .ref (A 3), .ref (A 4), .ref (A 5), .ref (A 6), .ref (A 7), .ref (A 8), .ref (A 9), .long to, .int al, .int wa, .int lf, .ref (A 10)])) :: (A 0, .inl (G.2.1.2.2.1, 12, .inr (.inr (.inr (.inr (saF TP)))))) :: (s, .inr (6, [.int kd, .ref la, .int (b01 b), .int wc])) :: (la, .inl (G.2.1.1, 60, .inl L)) :: (stP G (TP.eraseIdx k) ++ r)) 0 0 14 [(0, .ref x), (1, .int (nI (lgN (qF TP) k + (nts L j).length))), (2, .int (nI k)), (3, .int (nI j))] [] := by
  have hn2 := nts_le L j
  refine J.iload_n 3 dX7_countOfLights_14 rfl ?_
  refine J.bipush (60 : Int32) dX7_countOfLights_15 rfl ?_
  refine J.icmp_ge dX7_countOfLights_17 (fun h9 => ?_) (fun h9 => ?_)
  · skip
    have h9 : 60 ≤ j := (nI_leI (a := 60) (b := j) (by omega) (by omega)).mp h9
    have e : j = 60 := by omega
    subst e
    refine J.loc [0, 1, 2] (lv' := [(0, .ref x), (1, .int (nI (lgN (qF TP) k + (nts L 60).length))), (2, .int (nI k))]) rfl ?_
    exact hK
  · skip
    have h9 : ¬ 60 ≤ j := fun z => h9 ((nI_leI (a := 60) (b := j) (by omega) (by omega)).mpr z)
    refine J.aload_n 0 dX7_countOfLights_20 rfl ?_
    refine J.get 0 fl_X7_11 dX7_countOfLights_21 rfl rfl ?_
    refine J.iload_n 2 dX7_countOfLights_24 rfl ?_
    refine J.aald 1 2 (k) dX7_countOfLights_25 rfl rfl (rfl) (by omega) (by decide) (hsa) ?_
    refine J.get 2 fl_X7_112 dX7_countOfLights_26 rfl rfl ?_
    refine J.iload_n 3 dX7_countOfLights_29 rfl ?_
    refine J.iald 3 (j) dX7_countOfLights_30 rfl (rfl) (by omega) (by decide) ?_
    refine J.bipush (-9 : Int32) dX7_countOfLights_31 rfl ?_
    refine J.icmp_eq dX7_countOfLights_33 (fun h8 => ?_) (fun h8 => ?_)
    · skip
      refine J.iinc 3 [1, 2, 3, 0] (lv' := [(0, .ref x), (1, .int (nI (lgN (qF TP) k + (nts L j).length))), (2, .int (nI k)), (3, .int (nI (j + 1)))]) dX7_countOfLights_39 rfl (jinc1 _) rfl rfl ?_
      refine J.goto dX7_countOfLights_42 ?_
      rw [← nts_no h8]
      exact X7_col_in B (j + 1) hlen hns hk hsa (by omega) hle hK
    · skip
      refine J.iinc 1 [1, 0, 2, 3] (lv' := [(0, .ref x), (1, .int (nI (lgN (qF TP) k + (nts L j).length + 1))), (2, .int (nI k)), (3, .int (nI j))]) dX7_countOfLights_36 rfl (jinc1 _) rfl rfl ?_
      refine J.iinc 3 [1, 2, 3, 0] (lv' := [(0, .ref x), (1, .int (nI (lgN (qF TP) k + (nts L j).length + 1))), (2, .int (nI k)), (3, .int (nI (j + 1)))]) dX7_countOfLights_39 rfl (jinc1 _) rfl rfl ?_
      refine J.goto dX7_countOfLights_42 ?_
      rw [show lgN (qF TP) k + (nts L j).length + 1 = lgN (qF TP) k + (nts L (j + 1)).length by rw [nts_yes_len h8]; omega]
      exact X7_col_in B (j + 1) hlen hns hk hsa (by omega) hle hK
termination_by 60 - j
decreasing_by all_goals omega
set_option maxHeartbeats 4000000 in
set_option maxRecDepth 100000 in
theorem X7_col_lp {l : Launch} {G : jG} {X : jX} {r : va_W} {x : Nat} {A : Nat → Nat} {ns nr : Nat} {to : Int64} {al wa lf : Int32} {TP : List tR} (B : jB l G X 0 0 0 0 (fun v w => v = some (.int (nI (lgN (qF TP) ns))) ∧ w = (x, .inr (7, [.ref (A 0), .int (nI ns), .ref (A 1), .int (nI nr), .ref (A 2), .ref (A 3), .ref (A 4), .ref (A 5), .ref (A 6), .ref (A 7), .ref (A 8), .ref (A 9), .long to, .int al, .int wa, .int lf, .ref (A 10)])) :: (A 0, .inl (G.2.1.2.2.1, 12, .inr (.inr (.inr (.inr (saF TP)))))) :: (stP G TP ++ r)) "countOfLights") (k : Nat) (hlen : TP.length = ns) (hns : ns ≤ 12) (hk : k ≤ ns) : J G X mX7_countOfLights ((x, .inr (7, [.ref (A 0), .int (nI ns), .ref (A 1), .int (nI nr), .ref (A 2), .ref (A 3), .ref (A 4), .ref (A 5), .ref (A 6), .ref (A 7), .ref (A 8), .ref (A 9), .long to, .int al, .int wa, .int lf, .ref (A 10)])) :: (A 0, .inl (G.2.1.2.2.1, 12, .inr (.inr (.inr (.inr (saF TP)))))) :: (stP G TP ++ r)) 0 0 4 [(0, .ref x), (1, .int (nI (lgN (qF TP) k))), (2, .int (nI k))] [] := by
  have hle := lgN_le (qF TP) k
  refine J.iload_n 2 dX7_countOfLights_4 rfl ?_
  refine J.aload_n 0 dX7_countOfLights_5 rfl ?_
  refine J.get 0 fl_X7_73 dX7_countOfLights_6 rfl rfl ?_
  refine J.icmp_ge dX7_countOfLights_9 (fun h9 => ?_) (fun h9 => ?_)
  · skip
    have h9 : ns ≤ k := (nI_leI (a := ns) (b := k) (by omega) (by omega)).mp h9
    have e : k = ns := by omega
    subst e
    refine J.iload_n 1 dX7_countOfLights_51 rfl ?_
    exact J.iret B dX7_countOfLights_52 rfl (⟨rfl, rfl⟩)
  · skip
    have h9 : ¬ ns ≤ k := fun z => h9 ((nI_leI (a := ns) (b := k) (by omega) (by omega)).mpr z)
    have h9 : k < TP.length := by omega
    obtain ⟨q9, hq9⟩ : ∃ q, q = tD TP k := ⟨_, rfl⟩
    have hsa : saF TP k = some q9.1.1 := by rw [hq9]; exact saF_at h9
    have hqF : qF TP k = q9.2 := by rw [hq9]; rfl
    have hpe : (stP G TP ++ r).Perm (stC G q9 ++ (stP G (TP.eraseIdx k) ++ r)) := by rw [hq9]; exact stP_out h9 r
    obtain ⟨⟨s, la⟩, kd, b, L, wc⟩ := q9
    refine J.perm (ws2 := (x, .inr (7, [.ref (A 0), .int (nI ns), .ref (A 1), .int (nI nr), .ref (A 2), .ref (A 3), .ref (A 4), .ref (A 5), .ref (A 6), .ref (A 7), .ref (A 8), .ref (A 9), .long to, .int al, .int wa, .int lf, .ref (A 10)])) :: (A 0, .inl (G.2.1.2.2.1, 12, .inr (.inr (.inr (.inr (saF TP)))))) :: (s, .inr (6, [.int kd, .ref la, .int (b01 b), .int wc])) :: (la, .inl (G.2.1.1, 60, .inl L)) :: (stP G (TP.eraseIdx k) ++ r)) (List.Perm.cons _ (List.Perm.cons _ (hpe))) ?_
    refine J.iconst (0 : Int32) dX7_countOfLights_12 rfl ?_
    refine J.istore_n [1, 2, 3, 0] (lv' := [(0, .ref x), (1, .int (nI (lgN (qF TP) k))), (2, .int (nI k)), (3, .int (0 : Int32))]) dX7_countOfLights_13 rfl rfl ?_
    have hrec := X7_col_lp B (k + 1) hlen hns (by omega)
    refine X7_col_in B 0 hlen hns (by omega) hsa (by omega) hle ?_
    refine J.iinc 2 [1, 2, 0] (lv' := [(0, .ref x), (1, .int (nI (lgN (qF TP) k + nN L))), (2, .int (nI (k + 1)))]) dX7_countOfLights_45 rfl (jinc1 _) rfl rfl ?_
    refine J.goto dX7_countOfLights_48 ?_
    refine J.perm (ws2 := (x, .inr (7, [.ref (A 0), .int (nI ns), .ref (A 1), .int (nI nr), .ref (A 2), .ref (A 3), .ref (A 4), .ref (A 5), .ref (A 6), .ref (A 7), .ref (A 8), .ref (A 9), .long to, .int al, .int wa, .int lf, .ref (A 10)])) :: (A 0, .inl (G.2.1.2.2.1, 12, .inr (.inr (.inr (.inr (saF TP)))))) :: (stP G TP ++ r)) (List.Perm.cons _ (List.Perm.cons _ (hpe.symm))) ?_
    have he : lgN (qF TP) (k + 1) = lgN (qF TP) k + nN L := by
      show lgN (qF TP) k + nN (qF TP k).2.2.1 = _
      rw [hqF]
    rw [he] at hrec
    exact hrec
termination_by ns - k
decreasing_by all_goals omega
set_option maxHeartbeats 4000000 in
set_option maxRecDepth 100000 in
theorem c_X7_countOfLights (l : Launch) (G : jG) (r : va_W) {x : Nat} {A : Nat → Nat} {ns nr : Nat} {to : Int64} {al wa lf : Int32} {TP : List tR} (hlen : TP.length = ns) (hns : ns ≤ 12) : Mt l G yX7_countOfLights mX7_countOfLights 0 0 0 0 [.ref x] ((x, .inr (7, [.ref (A 0), .int (nI ns), .ref (A 1), .int (nI nr), .ref (A 2), .ref (A 3), .ref (A 4), .ref (A 5), .ref (A 6), .ref (A 7), .ref (A 8), .ref (A 9), .long to, .int al, .int wa, .int lf, .ref (A 10)])) :: (A 0, .inl (G.2.1.2.2.1, 12, .inr (.inr (.inr (.inr (saF TP)))))) :: (stP G TP ++ r)) (fun v w => v = some (.int (nI (lgN (qF TP) ns))) ∧ w = (x, .inr (7, [.ref (A 0), .int (nI ns), .ref (A 1), .int (nI nr), .ref (A 2), .ref (A 3), .ref (A 4), .ref (A 5), .ref (A 6), .ref (A 7), .ref (A 8), .ref (A 9), .long to, .int al, .int wa, .int lf, .ref (A 10)])) :: (A 0, .inl (G.2.1.2.2.1, 12, .inr (.inr (.inr (.inr (saF TP)))))) :: (stP G TP ++ r)) := by
  refine Mt.of (by decide +kernel) rfl rfl (fun X B => ?_)
  show J G X mX7_countOfLights ((x, .inr (7, [.ref (A 0), .int (nI ns), .ref (A 1), .int (nI nr), .ref (A 2), .ref (A 3), .ref (A 4), .ref (A 5), .ref (A 6), .ref (A 7), .ref (A 8), .ref (A 9), .long to, .int al, .int wa, .int lf, .ref (A 10)])) :: (A 0, .inl (G.2.1.2.2.1, 12, .inr (.inr (.inr (.inr (saF TP)))))) :: (stP G TP ++ r)) 0 0 0 [(0, .ref x)] []
  refine J.iconst (0 : Int32) dX7_countOfLights_0 rfl ?_
  refine J.istore_n [1, 0] (lv' := [(0, .ref x), (1, .int (0 : Int32))]) dX7_countOfLights_1 rfl rfl ?_
  refine J.iconst (0 : Int32) dX7_countOfLights_2 rfl ?_
  refine J.istore_n [1, 2, 0] (lv' := [(0, .ref x), (1, .int (0 : Int32)), (2, .int (0 : Int32))]) dX7_countOfLights_3 rfl rfl ?_
  exact X7_col_lp B 0 hlen hns (by omega)
