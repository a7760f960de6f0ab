def flM (ml : Nat → Int32) (s n : Nat) : Nat → Int32 := fun j => if 60 * s ≤ j ∧ j < 60 * s + n then -9 else ml j
theorem flM_0 (ml : Nat → Int32) (s : Nat) : flM ml s 0 = ml := by
  funext j
  unfold flM
  rw [if_neg (by omega)]
theorem flM_s (ml : Nat → Int32) (s n : Nat) : upd (flM ml s n) (60 * s + n) (-9) = flM ml s (n + 1) := by
  funext j
  unfold upd flM
  by_cases h : j = 60 * s + n
  · rw [if_pos h, if_pos (by omega)]
  · rw [if_neg h]
    by_cases h2 : 60 * s ≤ j ∧ j < 60 * s + n
    · rw [if_pos h2, if_pos (by omega)]
    · rw [if_neg h2, if_neg (by omega)]
set_option maxHeartbeats 4000000 in
set_option maxRecDepth 100000 in
theorem r_star_bad (l : Launch) (G : jG) (r : va_W) {m : Nat} {D : Nat → Nat} {fi : Int32} {as : Int64} {ns : Nat} {ii : Int32} {de : Int64} {dl dp dc : Int32} {nr : Nat} {al wa : Int32} {a : Int32} (ha : inR a 0 3 = false) : Mt l G yX8_star mX8_star 1 22 0 0 [.ref m, .int a] ((m, .inr (8, [.int fi, .ref (D 0), .long as, .int (nI ns), .ref (D 1), .ref (D 2), .ref (D 3), .ref (D 4), .ref (D 5), .ref (D 6), .ref (D 7), .ref (D 8), .int ii, .long de, .int dl, .int dp, .int dc, .ref (D 9), .int (nI nr), .ref (D 10), .ref (D 11), .ref (D 12), .ref (D 13), .ref (D 14), .int al, .int wa])) :: r) (fun v w => v = some (.int (-1 : Int32)) ∧ w = (m, .inr (8, [.int fi, .ref (D 0), .long as, .int (nI ns), .ref (D 1), .ref (D 2), .ref (D 3), .ref (D 4), .ref (D 5), .ref (D 6), .ref (D 7), .ref (D 8), .int ii, .long de, .int dl, .int dp, .int dc, .ref (D 9), .int (nI nr), .ref (D 10), .ref (D 11), .ref (D 12), .ref (D 13), .ref (D 14), .int al, .int wa])) :: r) := by
  refine Mt.of (by decide +kernel) rfl rfl (fun X B => ?_)
  show J G X mX8_star ((m, .inr (8, [.int fi, .ref (D 0), .long as, .int (nI ns), .ref (D 1), .ref (D 2), .ref (D 3), .ref (D 4), .ref (D 5), .ref (D 6), .ref (D 7), .ref (D 8), .int ii, .long de, .int dl, .int dp, .int dc, .ref (D 9), .int (nI nr), .ref (D 10), .ref (D 11), .ref (D 12), .ref (D 13), .ref (D 14), .int al, .int wa])) :: r) 0 0 0 [(0, .ref m), (1, .int a)] []
  refine J.iload_n 1 dX8_star_0 rfl ?_
  refine J.iconst (0 : Int32) dX8_star_1 rfl ?_
  refine J.iconst (3 : Int32) dX8_star_2 rfl ?_
  refine J.callS (st := []) B (c_X8_in l G _ (v := a) (lo := (0 : Int32)) (hi := (3 : Int32)) (a := 0) (b := 3) rfl rfl) ml_X8_76 mf_yX8_in mS_yX8_in dX8_star_3 rfl rfl rfl (fun v_1 w_2 hp_3 => ?_)
  obtain ⟨rfl, rfl⟩ := hp_3
  show J G X mX8_star _ _ _ 6 _ [.int (b01 (inR a 0 3))]
  refine J.if_ne dX8_star_6 (fun z => absurd (by rw [ha]; rfl) z) (fun h9 => ?_)
  refine J.iconst (-1 : Int32) dX8_star_9 rfl ?_
  exact J.iret B dX8_star_10 rfl (⟨rfl, rfl⟩)
set_option maxHeartbeats 4000000 in
set_option maxRecDepth 100000 in
theorem r_star_full (l : Launch) (G : jG) (r : va_W) {m : Nat} {D : Nat → Nat} {fi : Int32} {as : Int64} {ns : Nat} {ii : Int32} {de : Int64} {dl dp dc : Int32} {nr : Nat} {al wa : Int32} {a : Int32} (ha : inR a 0 3 = true) (hn : ns = 12) : Mt l G yX8_star mX8_star 1 22 0 0 [.ref m, .int a] ((m, .inr (8, [.int fi, .ref (D 0), .long as, .int (nI ns), .ref (D 1), .ref (D 2), .ref (D 3), .ref (D 4), .ref (D 5), .ref (D 6), .ref (D 7), .ref (D 8), .int ii, .long de, .int dl, .int dp, .int dc, .ref (D 9), .int (nI nr), .ref (D 10), .ref (D 11), .ref (D 12), .ref (D 13), .ref (D 14), .int al, .int wa])) :: r) (fun v w => v = some (.int (-2 : Int32)) ∧ w = (m, .inr (8, [.int fi, .ref (D 0), .long as, .int (nI ns), .ref (D 1), .ref (D 2), .ref (D 3), .ref (D 4), .ref (D 5), .ref (D 6), .ref (D 7), .ref (D 8), .int ii, .long de, .int dl, .int dp, .int dc, .ref (D 9), .int (nI nr), .ref (D 10), .ref (D 11), .ref (D 12), .ref (D 13), .ref (D 14), .int al, .int wa])) :: r) := by
  refine Mt.of (by decide +kernel) rfl rfl (fun X B => ?_)
  show J G X mX8_star ((m, .inr (8, [.int fi, .ref (D 0), .long as, .int (nI ns), .ref (D 1), .ref (D 2), .ref (D 3), .ref (D 4), .ref (D 5), .ref (D 6), .ref (D 7), .ref (D 8), .int ii, .long de, .int dl, .int dp, .int dc, .ref (D 9), .int (nI nr), .ref (D 10), .ref (D 11), .ref (D 12), .ref (D 13), .ref (D 14), .int al, .int wa])) :: r) 0 0 0 [(0, .ref m), (1, .int a)] []
  refine J.iload_n 1 dX8_star_0 rfl ?_
  refine J.iconst (0 : Int32) dX8_star_1 rfl ?_
  refine J.iconst (3 : Int32) dX8_star_2 rfl ?_
  refine J.callS (st := []) B (c_X8_in l G _ (v := a) (lo := (0 : Int32)) (hi := (3 : Int32)) (a := 0) (b := 3) rfl rfl) ml_X8_76 mf_yX8_in mS_yX8_in dX8_star_3 rfl rfl rfl (fun v_1 w_2 hp_3 => ?_)
  obtain ⟨rfl, rfl⟩ := hp_3
  show J G X mX8_star _ _ _ 6 _ [.int (b01 (inR a 0 3))]
  refine J.if_ne dX8_star_6 (fun h9 => ?_) (fun z => absurd z (by rw [ha]; decide))
  refine J.aload_n 0 dX8_star_11 rfl ?_
  refine J.get 0 fl_X8_73 dX8_star_12 rfl rfl ?_
  refine J.bipush (12 : Int32) dX8_star_15 rfl ?_
  refine J.icmp_ne dX8_star_17 (fun h8 => ?_) (fun h8 => ?_)
  · skip
    have h8 : ¬ ns = 12 := fun z => h8 ((nI_eq (a := ns) (b := 12) (by omega) (by omega)).mpr z)
    omega
  · skip
    have h8 : ns = 12 := (nI_eq (a := ns) (b := 12) (by omega) (by omega)).mp h8
    refine J.bipush (-2 : Int32) dX8_star_20 rfl ?_
    exact J.iret B dX8_star_22 rfl (⟨rfl, rfl⟩)
set_option maxHeartbeats 4000000 in
set_option maxRecDepth 100000 in
theorem r_star (l : Launch) (G : jG) (r : va_W) {m : Nat} {D : Nat → Nat} {fi : Int32} {as : Int64} {ns : Nat} {ii : Int32} {de : Int64} {dl dp dc : Int32} {nr : Nat} {al wa : Int32} {kk : Nat → Int32} {a : Int32} (ha : inR a 0 3 = true) (hn : ns < 12) : Mt l G yX8_star mX8_star 1 22 0 0 [.ref m, .int a] ((m, .inr (8, [.int fi, .ref (D 0), .long as, .int (nI ns), .ref (D 1), .ref (D 2), .ref (D 3), .ref (D 4), .ref (D 5), .ref (D 6), .ref (D 7), .ref (D 8), .int ii, .long de, .int dl, .int dp, .int dc, .ref (D 9), .int (nI nr), .ref (D 10), .ref (D 11), .ref (D 12), .ref (D 13), .ref (D 14), .int al, .int wa])) :: (D 1, .inl (G.2.1.1, 12, .inl kk)) :: r) (fun v w => v = some (.int (nI ns)) ∧ w = (m, .inr (8, [.int fi, .ref (D 0), .long as, .int (nI (ns + 1)), .ref (D 1), .ref (D 2), .ref (D 3), .ref (D 4), .ref (D 5), .ref (D 6), .ref (D 7), .ref (D 8), .int ii, .long de, .int dl, .int dp, .int dc, .ref (D 9), .int (nI nr), .ref (D 10), .ref (D 11), .ref (D 12), .ref (D 13), .ref (D 14), .int al, .int wa])) :: (D 1, .inl (G.2.1.1, 12, .inl (upd kk ns a))) :: r) := by
  refine Mt.of (by decide +kernel) rfl rfl (fun X B => ?_)
  show J G X mX8_star ((m, .inr (8, [.int fi, .ref (D 0), .long as, .int (nI ns), .ref (D 1), .ref (D 2), .ref (D 3), .ref (D 4), .ref (D 5), .ref (D 6), .ref (D 7), .ref (D 8), .int ii, .long de, .int dl, .int dp, .int dc, .ref (D 9), .int (nI nr), .ref (D 10), .ref (D 11), .ref (D 12), .ref (D 13), .ref (D 14), .int al, .int wa])) :: (D 1, .inl (G.2.1.1, 12, .inl kk)) :: r) 0 0 0 [(0, .ref m), (1, .int a)] []
  refine J.iload_n 1 dX8_star_0 rfl ?_
  refine J.iconst (0 : Int32) dX8_star_1 rfl ?_
  refine J.iconst (3 : Int32) dX8_star_2 rfl ?_
  refine J.callS (st := []) B (c_X8_in l G _ (v := a) (lo := (0 : Int32)) (hi := (3 : Int32)) (a := 0) (b := 3) rfl rfl) ml_X8_76 mf_yX8_in mS_yX8_in dX8_star_3 rfl rfl rfl (fun v_1 w_2 hp_3 => ?_)
  obtain ⟨rfl, rfl⟩ := hp_3
  show J G X mX8_star _ _ _ 6 _ [.int (b01 (inR a 0 3))]
  refine J.if_ne dX8_star_6 (fun h9 => ?_) (fun z => absurd z (by rw [ha]; decide))
  refine J.aload_n 0 dX8_star_11 rfl ?_
  refine J.get 0 fl_X8_73 dX8_star_12 rfl rfl ?_
  refine J.bipush (12 : Int32) dX8_star_15 rfl ?_
  refine J.icmp_ne dX8_star_17 (fun h8 => ?_) (fun h8 => ?_)
  · skip
    have h8 : ¬ ns = 12 := fun z => h8 ((nI_eq (a := ns) (b := 12) (by omega) (by omega)).mpr z)
    refine J.aload_n 0 dX8_star_23 rfl ?_
    refine J.get 0 fl_X8_13 dX8_star_24 rfl rfl ?_
    refine J.aload_n 0 dX8_star_27 rfl ?_
    refine J.get 0 fl_X8_73 dX8_star_28 rfl rfl ?_
    refine J.iload_n 1 dX8_star_31 rfl ?_
    refine J.iast 1 (ns) dX8_star_32 rfl (rfl) (by omega) (by decide) (ws' := (m, .inr (8, [.int fi, .ref (D 0), .long as, .int (nI ns), .ref (D 1), .ref (D 2), .ref (D 3), .ref (D 4), .ref (D 5), .ref (D 6), .ref (D 7), .ref (D 8), .int ii, .long de, .int dl, .int dp, .int dc, .ref (D 9), .int (nI nr), .ref (D 10), .ref (D 11), .ref (D 12), .ref (D 13), .ref (D 14), .int al, .int wa])) :: (D 1, .inl (G.2.1.1, 12, .inl (upd kk ns a))) :: r) rfl ?_
    refine J.aload_n 0 dX8_star_33 rfl ?_
    refine J.dup dX8_star_34 rfl ?_
    refine J.get 0 fl_X8_73 dX8_star_35 rfl rfl ?_
    refine J.iconst (1 : Int32) dX8_star_38 rfl ?_
    refine J.iadd dX8_star_39 ?_
    refine J.topi (y := nI (ns + 1)) (nI_add ns 1) ?_
    refine J.put 0 fp_X8_73 dX8_star_40 rfl (rfl) (rfl) rfl (ws' := (m, .inr (8, [.int fi, .ref (D 0), .long as, .int (nI (ns + 1)), .ref (D 1), .ref (D 2), .ref (D 3), .ref (D 4), .ref (D 5), .ref (D 6), .ref (D 7), .ref (D 8), .int ii, .long de, .int dl, .int dp, .int dc, .ref (D 9), .int (nI nr), .ref (D 10), .ref (D 11), .ref (D 12), .ref (D 13), .ref (D 14), .int al, .int wa])) :: (D 1, .inl (G.2.1.1, 12, .inl (upd kk ns a))) :: r) rfl ?_
    refine J.aload_n 0 dX8_star_43 rfl ?_
    refine J.get 0 fl_X8_73 dX8_star_44 rfl rfl ?_
    refine J.iconst (1 : Int32) dX8_star_47 rfl ?_
    refine J.isub dX8_star_48 ?_
    refine J.topi (y := nI ns) (pk_sub (a := ns + 1) (b := 1) (by omega)) ?_
    exact J.iret B dX8_star_49 rfl (⟨rfl, rfl⟩)
  · skip
    have h8 : ns = 12 := (nI_eq (a := ns) (b := 12) (by omega) (by omega)).mp h8
    omega
set_option maxHeartbeats 4000000 in
set_option maxRecDepth 100000 in
theorem r_is_bad (l : Launch) (G : jG) (r : va_W) {m : Nat} {D : Nat → Nat} {fi : Int32} {as : Int64} {ns : Nat} {ii : Int32} {de : Int64} {dl dp dc : Int32} {nr : Nat} {al wa : Int32} {num : Int32} (hns : ns ≤ 12) (hnum : inR num 0 ((ns : Int) - 1) = false) {a : Int32} : Mt l G yX8_is mX8_is 2 43 0 0 [.ref m, .int num, .int a] ((m, .inr (8, [.int fi, .ref (D 0), .long as, .int (nI ns), .ref (D 1), .ref (D 2), .ref (D 3), .ref (D 4), .ref (D 5), .ref (D 6), .ref (D 7), .ref (D 8), .int ii, .long de, .int dl, .int dp, .int dc, .ref (D 9), .int (nI nr), .ref (D 10), .ref (D 11), .ref (D 12), .ref (D 13), .ref (D 14), .int al, .int wa])) :: r) (fun v w => v = some (.int (-1 : Int32)) ∧ w = (m, .inr (8, [.int fi, .ref (D 0), .long as, .int (nI ns), .ref (D 1), .ref (D 2), .ref (D 3), .ref (D 4), .ref (D 5), .ref (D 6), .ref (D 7), .ref (D 8), .int ii, .long de, .int dl, .int dp, .int dc, .ref (D 9), .int (nI nr), .ref (D 10), .ref (D 11), .ref (D 12), .ref (D 13), .ref (D 14), .int al, .int wa])) :: r) := by
  refine Mt.of (by decide +kernel) rfl rfl (fun X B => ?_)
  show J G X mX8_is ((m, .inr (8, [.int fi, .ref (D 0), .long as, .int (nI ns), .ref (D 1), .ref (D 2), .ref (D 3), .ref (D 4), .ref (D 5), .ref (D 6), .ref (D 7), .ref (D 8), .int ii, .long de, .int dl, .int dp, .int dc, .ref (D 9), .int (nI nr), .ref (D 10), .ref (D 11), .ref (D 12), .ref (D 13), .ref (D 14), .int al, .int wa])) :: r) 0 0 0 [(0, .ref m), (1, .int num), (2, .int a)] []
  refine J.aload_n 0 dX8_is_0 rfl ?_
  refine J.iload_n 1 dX8_is_1 rfl ?_
  refine J.callV 0 (st := []) B (c_X8_isStar l G _ (num := num) hns) ml_X8_80 mf_yX8_isStar mi_yX8_isStar rfl dX8_is_2 rfl rfl rfl rfl (fun v_1 w_2 hp_3 => ?_)
  obtain ⟨rfl, rfl⟩ := hp_3
  show J G X mX8_is _ _ _ 5 _ [.int (b01 (inR num 0 ((ns : Int) - 1)))]
  refine J.if_eq dX8_is_5 (fun h9 => ?_) (fun z => absurd (by rw [hnum]; rfl) z)
  refine J.iconst (-1 : Int32) dX8_is_34 rfl ?_
  exact J.iret B dX8_is_35 rfl (⟨rfl, rfl⟩)
set_option maxHeartbeats 4000000 in
set_option maxRecDepth 100000 in
theorem r_is_kind (l : Launch) (G : jG) (r : va_W) {m : Nat} {D : Nat → Nat} {fi : Int32} {as : Int64} {ns : Nat} {ii : Int32} {de : Int64} {dl dp dc : Int32} {nr : Nat} {al wa : Int32} {s : Nat} (hk : s < ns) (hns : ns ≤ 12) {a : Int32} (ha : inR a 0 3 = false) : Mt l G yX8_is mX8_is 2 43 0 0 [.ref m, .int (nI s), .int a] ((m, .inr (8, [.int fi, .ref (D 0), .long as, .int (nI ns), .ref (D 1), .ref (D 2), .ref (D 3), .ref (D 4), .ref (D 5), .ref (D 6), .ref (D 7), .ref (D 8), .int ii, .long de, .int dl, .int dp, .int dc, .ref (D 9), .int (nI nr), .ref (D 10), .ref (D 11), .ref (D 12), .ref (D 13), .ref (D 14), .int al, .int wa])) :: r) (fun v w => v = some (.int (-1 : Int32)) ∧ w = (m, .inr (8, [.int fi, .ref (D 0), .long as, .int (nI ns), .ref (D 1), .ref (D 2), .ref (D 3), .ref (D 4), .ref (D 5), .ref (D 6), .ref (D 7), .ref (D 8), .int ii, .long de, .int dl, .int dp, .int dc, .ref (D 9), .int (nI nr), .ref (D 10), .ref (D 11), .ref (D 12), .ref (D 13), .ref (D 14), .int al, .int wa])) :: r) := by
  refine Mt.of (by decide +kernel) rfl rfl (fun X B => ?_)
  show J G X mX8_is ((m, .inr (8, [.int fi, .ref (D 0), .long as, .int (nI ns), .ref (D 1), .ref (D 2), .ref (D 3), .ref (D 4), .ref (D 5), .ref (D 6), .ref (D 7), .ref (D 8), .int ii, .long de, .int dl, .int dp, .int dc, .ref (D 9), .int (nI nr), .ref (D 10), .ref (D 11), .ref (D 12), .ref (D 13), .ref (D 14), .int al, .int wa])) :: r) 0 0 0 [(0, .ref m), (1, .int (nI s)), (2, .int a)] []
  have hs : s < 12 := by omega
  have hin : inR (nI s) 0 ((ns : Int) - 1) = true := by rw [nI_inR (by omega)]; exact decide_eq_true ⟨by omega, by omega⟩
  refine J.aload_n 0 dX8_is_0 rfl ?_
  refine J.iload_n 1 dX8_is_1 rfl ?_
  refine J.callV 0 (st := []) B (c_X8_isStar l G _ (num := nI s) hns) ml_X8_80 mf_yX8_isStar mi_yX8_isStar rfl dX8_is_2 rfl rfl rfl rfl (fun v_1 w_2 hp_3 => ?_)
  obtain ⟨rfl, rfl⟩ := hp_3
  show J G X mX8_is _ _ _ 5 _ [.int (b01 (inR (nI s) 0 ((ns : Int) - 1)))]
  refine J.if_eq dX8_is_5 (fun z => absurd z (by rw [hin]; decide)) (fun h9 => ?_)
  refine J.iload_n 2 dX8_is_8 rfl ?_
  refine J.iconst (0 : Int32) dX8_is_9 rfl ?_
  refine J.iconst (3 : Int32) dX8_is_10 rfl ?_
  refine J.callS (st := []) B (c_X8_in l G _ (v := a) (lo := (0 : Int32)) (hi := (3 : Int32)) (a := 0) (b := 3) rfl rfl) ml_X8_76 mf_yX8_in mS_yX8_in dX8_is_11 rfl rfl rfl (fun v_4 w_5 hp_6 => ?_)
  obtain ⟨rfl, rfl⟩ := hp_6
  show J G X mX8_is _ _ _ 14 _ [.int (b01 (inR a 0 3))]
  refine J.if_eq dX8_is_14 (fun h9 => ?_) (fun z => absurd (by rw [ha]; rfl) z)
  refine J.iconst (-1 : Int32) dX8_is_34 rfl ?_
  exact J.iret B dX8_is_35 rfl (⟨rfl, rfl⟩)
set_option maxHeartbeats 4000000 in
set_option maxRecDepth 100000 in
theorem r_is (l : Launch) (G : jG) (r : va_W) {m : Nat} {D : Nat → Nat} {fi : Int32} {as : Int64} {ns : Nat} {ii : Int32} {de : Int64} {dl dp dc : Int32} {nr : Nat} {al wa : Int32} {s : Nat} (hk : s < ns) (hns : ns ≤ 12) {kk : Nat → Int32} {a : Int32} (ha : inR a 0 3 = true) : Mt l G yX8_is mX8_is 2 43 0 0 [.ref m, .int (nI s), .int a] ((m, .inr (8, [.int fi, .ref (D 0), .long as, .int (nI ns), .ref (D 1), .ref (D 2), .ref (D 3), .ref (D 4), .ref (D 5), .ref (D 6), .ref (D 7), .ref (D 8), .int ii, .long de, .int dl, .int dp, .int dc, .ref (D 9), .int (nI nr), .ref (D 10), .ref (D 11), .ref (D 12), .ref (D 13), .ref (D 14), .int al, .int wa])) :: (D 1, .inl (G.2.1.1, 12, .inl kk)) :: r) (fun v w => v = some (.int (b01 (ofK (kk s) a))) ∧ w = (m, .inr (8, [.int fi, .ref (D 0), .long as, .int (nI ns), .ref (D 1), .ref (D 2), .ref (D 3), .ref (D 4), .ref (D 5), .ref (D 6), .ref (D 7), .ref (D 8), .int ii, .long de, .int dl, .int dp, .int dc, .ref (D 9), .int (nI nr), .ref (D 10), .ref (D 11), .ref (D 12), .ref (D 13), .ref (D 14), .int al, .int wa])) :: (D 1, .inl (G.2.1.1, 12, .inl kk)) :: r) := by
  refine Mt.of (by decide +kernel) rfl rfl (fun X B => ?_)
  show J G X mX8_is ((m, .inr (8, [.int fi, .ref (D 0), .long as, .int (nI ns), .ref (D 1), .ref (D 2), .ref (D 3), .ref (D 4), .ref (D 5), .ref (D 6), .ref (D 7), .ref (D 8), .int ii, .long de, .int dl, .int dp, .int dc, .ref (D 9), .int (nI nr), .ref (D 10), .ref (D 11), .ref (D 12), .ref (D 13), .ref (D 14), .int al, .int wa])) :: (D 1, .inl (G.2.1.1, 12, .inl kk)) :: r) 0 0 0 [(0, .ref m), (1, .int (nI s)), (2, .int a)] []
  have hs : s < 12 := by omega
  have hin : inR (nI s) 0 ((ns : Int) - 1) = true := by rw [nI_inR (by omega)]; exact decide_eq_true ⟨by omega, by omega⟩
  refine J.aload_n 0 dX8_is_0 rfl ?_
  refine J.iload_n 1 dX8_is_1 rfl ?_
  refine J.callV 0 (st := []) B (c_X8_isStar l G _ (num := nI s) hns) ml_X8_80 mf_yX8_isStar mi_yX8_isStar rfl dX8_is_2 rfl rfl rfl rfl (fun v_1 w_2 hp_3 => ?_)
  obtain ⟨rfl, rfl⟩ := hp_3
  show J G X mX8_is _ _ _ 5 _ [.int (b01 (inR (nI s) 0 ((ns : Int) - 1)))]
  refine J.if_eq dX8_is_5 (fun z => absurd z (by rw [hin]; decide)) (fun h9 => ?_)
  refine J.iload_n 2 dX8_is_8 rfl ?_
  refine J.iconst (0 : Int32) dX8_is_9 rfl ?_
  refine J.iconst (3 : Int32) dX8_is_10 rfl ?_
  refine J.callS (st := []) B (c_X8_in l G _ (v := a) (lo := (0 : Int32)) (hi := (3 : Int32)) (a := 0) (b := 3) rfl rfl) ml_X8_76 mf_yX8_in mS_yX8_in dX8_is_11 rfl rfl rfl (fun v_4 w_5 hp_6 => ?_)
  obtain ⟨rfl, rfl⟩ := hp_6
  show J G X mX8_is _ _ _ 14 _ [.int (b01 (inR a 0 3))]
  refine J.if_eq dX8_is_14 (fun z => absurd z (by rw [ha]; decide)) (fun h9 => ?_)
  refine J.aload_n 0 dX8_is_17 rfl ?_
  refine J.iload_n 1 dX8_is_18 rfl ?_
  refine J.iload_n 2 dX8_is_19 rfl ?_
  refine J.callV 0 (st := []) B (c_X8_fits l G _ (a := a) hs) ml_X8_84 mf_yX8_fits mi_yX8_fits rfl dX8_is_20 rfl rfl rfl rfl (fun v_7 w_8 hp_9 => ?_)
  obtain ⟨rfl, rfl⟩ := hp_9
  show J G X mX8_is _ _ _ 23 _ [.int (b01 (ofK (kk s) a))]
  refine J.if_eq dX8_is_23 (fun h8 => ?_) (fun h8 => ?_)
  · skip
    refine J.iconst (0 : Int32) dX8_is_30 rfl ?_
    refine J.goto dX8_is_31 ?_
    exact J.iret B dX8_is_35 rfl (⟨by rw [b01_0 h8]; rfl, rfl⟩)
  · skip
    refine J.iconst (1 : Int32) dX8_is_26 rfl ?_
    refine J.goto dX8_is_27 ?_
    exact J.iret B dX8_is_35 rfl (⟨by rw [b01_1 h8]; rfl, rfl⟩)
set_option maxHeartbeats 4000000 in
set_option maxRecDepth 100000 in
theorem r_mark_bad (l : Launch) (G : jG) (r : va_W) {m : Nat} {D : Nat → Nat} {fi : Int32} {as : Int64} {ns : Nat} {ii : Int32} {de : Int64} {dl dp dc : Int32} {nr : Nat} {al wa : Int32} {num : Int32} (hns : ns ≤ 12) (hnum : inR num 0 ((ns : Int) - 1) = false) {a : Int32} : Mt l G yX8_mark mX8_mark 3 74 0 0 [.ref m, .int num, .int a] ((m, .inr (8, [.int fi, .ref (D 0), .long as, .int (nI ns), .ref (D 1), .ref (D 2), .ref (D 3), .ref (D 4), .ref (D 5), .ref (D 6), .ref (D 7), .ref (D 8), .int ii, .long de, .int dl, .int dp, .int dc, .ref (D 9), .int (nI nr), .ref (D 10), .ref (D 11), .ref (D 12), .ref (D 13), .ref (D 14), .int al, .int wa])) :: r) (fun v w => v = some (.int (-1 : Int32)) ∧ w = (m, .inr (8, [.int fi, .ref (D 0), .long as, .int (nI ns), .ref (D 1), .ref (D 2), .ref (D 3), .ref (D 4), .ref (D 5), .ref (D 6), .ref (D 7), .ref (D 8), .int ii, .long de, .int dl, .int dp, .int dc, .ref (D 9), .int (nI nr), .ref (D 10), .ref (D 11), .ref (D 12), .ref (D 13), .ref (D 14), .int al, .int wa])) :: r) := by
  refine Mt.of (by decide +kernel) rfl rfl (fun X B => ?_)
  show J G X mX8_mark ((m, .inr (8, [.int fi, .ref (D 0), .long as, .int (nI ns), .ref (D 1), .ref (D 2), .ref (D 3), .ref (D 4), .ref (D 5), .ref (D 6), .ref (D 7), .ref (D 8), .int ii, .long de, .int dl, .int dp, .int dc, .ref (D 9), .int (nI nr), .ref (D 10), .ref (D 11), .ref (D 12), .ref (D 13), .ref (D 14), .int al, .int wa])) :: r) 0 0 0 [(0, .ref m), (1, .int num), (2, .int a)] []
  refine J.aload_n 0 dX8_mark_0 rfl ?_
  refine J.iload_n 1 dX8_mark_1 rfl ?_
  refine J.callV 0 (st := []) B (c_X8_isStar l G _ (num := num) hns) ml_X8_80 mf_yX8_isStar mi_yX8_isStar rfl dX8_mark_2 rfl rfl rfl rfl (fun v_1 w_2 hp_3 => ?_)
  obtain ⟨rfl, rfl⟩ := hp_3
  show J G X mX8_mark _ _ _ 5 _ [.int (b01 (inR num 0 ((ns : Int) - 1)))]
  refine J.if_eq dX8_mark_5 (fun h9 => ?_) (fun z => absurd (by rw [hnum]; rfl) z)
  refine J.iconst (-1 : Int32) dX8_mark_17 rfl ?_
  exact J.iret B dX8_mark_18 rfl (⟨rfl, rfl⟩)
set_option maxHeartbeats 4000000 in
set_option maxRecDepth 100000 in
theorem r_mark_kind (l : Launch) (G : jG) (r : va_W) {m : Nat} {D : Nat → Nat} {fi : Int32} {as : Int64} {ns : Nat} {ii : Int32} {de : Int64} {dl dp dc : Int32} {nr : Nat} {al wa : Int32} {s : Nat} (hk : s < ns) (hns : ns ≤ 12) {a : Int32} (ha : inR a 0 3 = false) : Mt l G yX8_mark mX8_mark 3 74 0 0 [.ref m, .int (nI s), .int a] ((m, .inr (8, [.int fi, .ref (D 0), .long as, .int (nI ns), .ref (D 1), .ref (D 2), .ref (D 3), .ref (D 4), .ref (D 5), .ref (D 6), .ref (D 7), .ref (D 8), .int ii, .long de, .int dl, .int dp, .int dc, .ref (D 9), .int (nI nr), .ref (D 10), .ref (D 11), .ref (D 12), .ref (D 13), .ref (D 14), .int al, .int wa])) :: r) (fun v w => v = some (.int (-1 : Int32)) ∧ w = (m, .inr (8, [.int fi, .ref (D 0), .long as, .int (nI ns), .ref (D 1), .ref (D 2), .ref (D 3), .ref (D 4), .ref (D 5), .ref (D 6), .ref (D 7), .ref (D 8), .int ii, .long de, .int dl, .int dp, .int dc, .ref (D 9), .int (nI nr), .ref (D 10), .ref (D 11), .ref (D 12), .ref (D 13), .ref (D 14), .int al, .int wa])) :: r) := by
  refine Mt.of (by decide +kernel) rfl rfl (fun X B => ?_)
  show J G X mX8_mark ((m, .inr (8, [.int fi, .ref (D 0), .long as, .int (nI ns), .ref (D 1), .ref (D 2), .ref (D 3), .ref (D 4), .ref (D 5), .ref (D 6), .ref (D 7), .ref (D 8), .int ii, .long de, .int dl, .int dp, .int dc, .ref (D 9), .int (nI nr), .ref (D 10), .ref (D 11), .ref (D 12), .ref (D 13), .ref (D 14), .int al, .int wa])) :: r) 0 0 0 [(0, .ref m), (1, .int (nI s)), (2, .int a)] []
  have hs : s < 12 := by omega
  have hin : inR (nI s) 0 ((ns : Int) - 1) = true := by rw [nI_inR (by omega)]; exact decide_eq_true ⟨by omega, by omega⟩
  refine J.aload_n 0 dX8_mark_0 rfl ?_
  refine J.iload_n 1 dX8_mark_1 rfl ?_
  refine J.callV 0 (st := []) B (c_X8_isStar l G _ (num := nI s) hns) ml_X8_80 mf_yX8_isStar mi_yX8_isStar rfl dX8_mark_2 rfl rfl rfl rfl (fun v_1 w_2 hp_3 => ?_)
  obtain ⟨rfl, rfl⟩ := hp_3
  show J G X mX8_mark _ _ _ 5 _ [.int (b01 (inR (nI s) 0 ((ns : Int) - 1)))]
  refine J.if_eq dX8_mark_5 (fun z => absurd z (by rw [hin]; decide)) (fun h9 => ?_)
  refine J.iload_n 2 dX8_mark_8 rfl ?_
  refine J.iconst (0 : Int32) dX8_mark_9 rfl ?_
  refine J.iconst (3 : Int32) dX8_mark_10 rfl ?_
  refine J.callS (st := []) B (c_X8_in l G _ (v := a) (lo := (0 : Int32)) (hi := (3 : Int32)) (a := 0) (b := 3) rfl rfl) ml_X8_76 mf_yX8_in mS_yX8_in dX8_mark_11 rfl rfl rfl (fun v_4 w_5 hp_6 => ?_)
  obtain ⟨rfl, rfl⟩ := hp_6
  show J G X mX8_mark _ _ _ 14 _ [.int (b01 (inR a 0 3))]
  refine J.if_ne dX8_mark_14 (fun z => absurd (by rw [ha]; rfl) z) (fun h9 => ?_)
  refine J.iconst (-1 : Int32) dX8_mark_17 rfl ?_
  exact J.iret B dX8_mark_18 rfl (⟨rfl, rfl⟩)
set_option maxHeartbeats 4000000 in
set_option maxRecDepth 100000 in
theorem r_mark_unlike (l : Launch) (G : jG) (r : va_W) {m : Nat} {D : Nat → Nat} {fi : Int32} {as : Int64} {ns : Nat} {ii : Int32} {de : Int64} {dl dp dc : Int32} {nr : Nat} {al wa : Int32} {s : Nat} (hk : s < ns) (hns : ns ≤ 12) {kk : Nat → Int32} {fc : Nat → Int32} {a : Int32} (ha : inR a 0 3 = true) (ho : ofK (kk s) a = false) : Mt l G yX8_mark mX8_mark 3 74 0 0 [.ref m, .int (nI s), .int a] ((m, .inr (8, [.int fi, .ref (D 0), .long as, .int (nI ns), .ref (D 1), .ref (D 2), .ref (D 3), .ref (D 4), .ref (D 5), .ref (D 6), .ref (D 7), .ref (D 8), .int ii, .long de, .int dl, .int dp, .int dc, .ref (D 9), .int (nI nr), .ref (D 10), .ref (D 11), .ref (D 12), .ref (D 13), .ref (D 14), .int al, .int wa])) :: (D 1, .inl (G.2.1.1, 12, .inl kk)) :: (D 0, .inl (G.2.1.1, 6, .inl fc)) :: r) (fun v w => v = some (.int (-3 : Int32)) ∧ w = (m, .inr (8, [.int (nI 3), .ref (D 0), .long as, .int (nI ns), .ref (D 1), .ref (D 2), .ref (D 3), .ref (D 4), .ref (D 5), .ref (D 6), .ref (D 7), .ref (D 8), .int ii, .long de, .int dl, .int dp, .int dc, .ref (D 9), .int (nI nr), .ref (D 10), .ref (D 11), .ref (D 12), .ref (D 13), .ref (D 14), .int al, .int wa])) :: (D 1, .inl (G.2.1.1, 12, .inl kk)) :: (D 0, .inl (G.2.1.1, 6, .inl (upd fc 3 (fc 3 + 1)))) :: r) := by
  refine Mt.of (by decide +kernel) rfl rfl (fun X B => ?_)
  show J G X mX8_mark ((m, .inr (8, [.int fi, .ref (D 0), .long as, .int (nI ns), .ref (D 1), .ref (D 2), .ref (D 3), .ref (D 4), .ref (D 5), .ref (D 6), .ref (D 7), .ref (D 8), .int ii, .long de, .int dl, .int dp, .int dc, .ref (D 9), .int (nI nr), .ref (D 10), .ref (D 11), .ref (D 12), .ref (D 13), .ref (D 14), .int al, .int wa])) :: (D 1, .inl (G.2.1.1, 12, .inl kk)) :: (D 0, .inl (G.2.1.1, 6, .inl fc)) :: r) 0 0 0 [(0, .ref m), (1, .int (nI s)), (2, .int a)] []
  have hs : s < 12 := by omega
  have hin : inR (nI s) 0 ((ns : Int) - 1) = true := by rw [nI_inR (by omega)]; exact decide_eq_true ⟨by omega, by omega⟩
  refine J.aload_n 0 dX8_mark_0 rfl ?_
  refine J.iload_n 1 dX8_mark_1 rfl ?_
  refine J.callV 0 (st := []) B (c_X8_isStar l G _ (num := nI s) hns) ml_X8_80 mf_yX8_isStar mi_yX8_isStar rfl dX8_mark_2 rfl rfl rfl rfl (fun v_1 w_2 hp_3 => ?_)
  obtain ⟨rfl, rfl⟩ := hp_3
  show J G X mX8_mark _ _ _ 5 _ [.int (b01 (inR (nI s) 0 ((ns : Int) - 1)))]
  refine J.if_eq dX8_mark_5 (fun z => absurd z (by rw [hin]; decide)) (fun h9 => ?_)
  refine J.iload_n 2 dX8_mark_8 rfl ?_
  refine J.iconst (0 : Int32) dX8_mark_9 rfl ?_
  refine J.iconst (3 : Int32) dX8_mark_10 rfl ?_
  refine J.callS (st := []) B (c_X8_in l G _ (v := a) (lo := (0 : Int32)) (hi := (3 : Int32)) (a := 0) (b := 3) rfl rfl) ml_X8_76 mf_yX8_in mS_yX8_in dX8_mark_11 rfl rfl rfl (fun v_4 w_5 hp_6 => ?_)
  obtain ⟨rfl, rfl⟩ := hp_6
  show J G X mX8_mark _ _ _ 14 _ [.int (b01 (inR a 0 3))]
  refine J.if_ne dX8_mark_14 (fun h9 => ?_) (fun z => absurd z (by rw [ha]; decide))
  refine J.aload_n 0 dX8_mark_19 rfl ?_
  refine J.iload_n 1 dX8_mark_20 rfl ?_
  refine J.iload_n 2 dX8_mark_21 rfl ?_
  refine J.callV 0 (st := []) B (c_X8_fits l G _ (a := a) hs) ml_X8_84 mf_yX8_fits mi_yX8_fits rfl dX8_mark_22 rfl rfl rfl rfl (fun v_7 w_8 hp_9 => ?_)
  obtain ⟨rfl, rfl⟩ := hp_9
  show J G X mX8_mark _ _ _ 25 _ [.int (b01 (ofK (kk s) a))]
  refine J.if_ne dX8_mark_25 (fun z => absurd (by rw [ho]; rfl) z) (fun h9 => ?_)
  refine J.aload_n 0 dX8_mark_28 rfl ?_
  refine J.iconst (3 : Int32) dX8_mark_29 rfl ?_
  refine J.re [0, 2, 1] 3 (ws2 := (m, .inr (8, [.int fi, .ref (D 0), .long as, .int (nI ns), .ref (D 1), .ref (D 2), .ref (D 3), .ref (D 4), .ref (D 5), .ref (D 6), .ref (D 7), .ref (D 8), .int ii, .long de, .int dl, .int dp, .int dc, .ref (D 9), .int (nI nr), .ref (D 10), .ref (D 11), .ref (D 12), .ref (D 13), .ref (D 14), .int al, .int wa])) :: (D 0, .inl (G.2.1.1, 6, .inl fc)) :: (D 1, .inl (G.2.1.1, 12, .inl kk)) :: r) rfl rfl ?_
  refine J.callV 0 (st := []) B (c_X8_meets l G _ (c := 3) (by decide)) ml_X8_95 mf_yX8_meets mi_yX8_meets rfl dX8_mark_30 rfl rfl rfl rfl (fun v_10 w_11 hp_12 => ?_)
  obtain ⟨rfl, rfl⟩ := hp_12
  refine J.re [0, 2, 1] 3 (ws2 := (m, .inr (8, [.int (nI 3), .ref (D 0), .long as, .int (nI ns), .ref (D 1), .ref (D 2), .ref (D 3), .ref (D 4), .ref (D 5), .ref (D 6), .ref (D 7), .ref (D 8), .int ii, .long de, .int dl, .int dp, .int dc, .ref (D 9), .int (nI nr), .ref (D 10), .ref (D 11), .ref (D 12), .ref (D 13), .ref (D 14), .int al, .int wa])) :: (D 1, .inl (G.2.1.1, 12, .inl kk)) :: (D 0, .inl (G.2.1.1, 6, .inl (upd fc 3 (fc 3 + 1)))) :: r) rfl rfl ?_
  show J G X mX8_mark _ _ _ 33 _ [.int (-3 : Int32)]
  exact J.iret B dX8_mark_33 rfl (⟨rfl, rfl⟩)
set_option maxHeartbeats 4000000 in
set_option maxRecDepth 100000 in
theorem r_mark0 (l : Launch) (G : jG) (r : va_W) {m : Nat} {D : Nat → Nat} {fi : Int32} {as : Int64} {ns : Nat} {ii : Int32} {de : Int64} {dl dp dc : Int32} {nr : Nat} {al wa : Int32} {s : Nat} (hk : s < ns) (hns : ns ≤ 12) {kk : Nat → Int32} : Mt l G yX8_mark mX8_mark 3 74 0 0 [.ref m, .int (nI s), .int (0 : Int32)] ((m, .inr (8, [.int fi, .ref (D 0), .long as, .int (nI ns), .ref (D 1), .ref (D 2), .ref (D 3), .ref (D 4), .ref (D 5), .ref (D 6), .ref (D 7), .ref (D 8), .int ii, .long de, .int dl, .int dp, .int dc, .ref (D 9), .int (nI nr), .ref (D 10), .ref (D 11), .ref (D 12), .ref (D 13), .ref (D 14), .int al, .int wa])) :: (D 1, .inl (G.2.1.1, 12, .inl kk)) :: r) (fun v w => v = some (.int (kk s)) ∧ w = (m, .inr (8, [.int fi, .ref (D 0), .long as, .int (nI ns), .ref (D 1), .ref (D 2), .ref (D 3), .ref (D 4), .ref (D 5), .ref (D 6), .ref (D 7), .ref (D 8), .int ii, .long de, .int dl, .int dp, .int dc, .ref (D 9), .int (nI nr), .ref (D 10), .ref (D 11), .ref (D 12), .ref (D 13), .ref (D 14), .int al, .int wa])) :: (D 1, .inl (G.2.1.1, 12, .inl kk)) :: r) := by
  refine Mt.of (by decide +kernel) rfl rfl (fun X B => ?_)
  show J G X mX8_mark ((m, .inr (8, [.int fi, .ref (D 0), .long as, .int (nI ns), .ref (D 1), .ref (D 2), .ref (D 3), .ref (D 4), .ref (D 5), .ref (D 6), .ref (D 7), .ref (D 8), .int ii, .long de, .int dl, .int dp, .int dc, .ref (D 9), .int (nI nr), .ref (D 10), .ref (D 11), .ref (D 12), .ref (D 13), .ref (D 14), .int al, .int wa])) :: (D 1, .inl (G.2.1.1, 12, .inl kk)) :: r) 0 0 0 [(0, .ref m), (1, .int (nI s)), (2, .int (0 : Int32))] []
  have hs : s < 12 := by omega
  have hin : inR (nI s) 0 ((ns : Int) - 1) = true := by rw [nI_inR (by omega)]; exact decide_eq_true ⟨by omega, by omega⟩
  have ho : ofK (kk s) 0 = true := decide_eq_true (Or.inl rfl)
  refine J.aload_n 0 dX8_mark_0 rfl ?_
  refine J.iload_n 1 dX8_mark_1 rfl ?_
  refine J.callV 0 (st := []) B (c_X8_isStar l G _ (num := nI s) hns) ml_X8_80 mf_yX8_isStar mi_yX8_isStar rfl dX8_mark_2 rfl rfl rfl rfl (fun v_1 w_2 hp_3 => ?_)
  obtain ⟨rfl, rfl⟩ := hp_3
  show J G X mX8_mark _ _ _ 5 _ [.int (b01 (inR (nI s) 0 ((ns : Int) - 1)))]
  refine J.if_eq dX8_mark_5 (fun z => absurd z (by rw [hin]; decide)) (fun h9 => ?_)
  refine J.iload_n 2 dX8_mark_8 rfl ?_
  refine J.iconst (0 : Int32) dX8_mark_9 rfl ?_
  refine J.iconst (3 : Int32) dX8_mark_10 rfl ?_
  refine J.callS (st := []) B (c_X8_in l G _ (v := (0 : Int32)) (lo := (0 : Int32)) (hi := (3 : Int32)) (a := 0) (b := 3) rfl rfl) ml_X8_76 mf_yX8_in mS_yX8_in dX8_mark_11 rfl rfl rfl (fun v_4 w_5 hp_6 => ?_)
  obtain ⟨rfl, rfl⟩ := hp_6
  show J G X mX8_mark _ _ _ 14 _ [.int (b01 (inR (0 : Int32) 0 3))]
  refine J.if_ne dX8_mark_14 (fun h9 => ?_) (fun z => absurd z (by decide))
  refine J.aload_n 0 dX8_mark_19 rfl ?_
  refine J.iload_n 1 dX8_mark_20 rfl ?_
  refine J.iload_n 2 dX8_mark_21 rfl ?_
  refine J.callV 0 (st := []) B (c_X8_fits l G _ (a := 0) hs) ml_X8_84 mf_yX8_fits mi_yX8_fits rfl dX8_mark_22 rfl rfl rfl rfl (fun v_7 w_8 hp_9 => ?_)
  obtain ⟨rfl, rfl⟩ := hp_9
  show J G X mX8_mark _ _ _ 25 _ [.int (b01 (ofK (kk s) 0))]
  refine J.if_ne dX8_mark_25 (fun h9 => ?_) (fun z => absurd z (by rw [ho]; decide))
  refine J.iload_n 2 dX8_mark_34 rfl ?_
  refine J.if_ne dX8_mark_35 (fun z => absurd z (by decide)) (fun _ => ?_)
  refine J.aload_n 0 dX8_mark_38 rfl ?_
  refine J.get 0 fl_X8_13 dX8_mark_39 rfl rfl ?_
  refine J.iload_n 1 dX8_mark_42 rfl ?_
  refine J.iald 1 (s) dX8_mark_43 rfl (rfl) (by omega) (by decide) ?_
  exact J.iret B dX8_mark_44 rfl (⟨rfl, rfl⟩)
set_option maxHeartbeats 4000000 in
set_option maxRecDepth 100000 in
theorem r_mark_no (l : Launch) (G : jG) (r : va_W) {m : Nat} {D : Nat → Nat} {fi : Int32} {as : Int64} {ns : Nat} {ii : Int32} {de : Int64} {dl dp dc : Int32} {nr : Nat} {al wa : Int32} {s : Nat} (hk : s < ns) (hns : ns ≤ 12) {kk : Nat → Int32} {rr : Nat → Int32} {fc : Nat → Int32} {a : Int32} (ha : inR a 0 3 = true) (ho : ofK (kk s) a = true) (h0 : ¬ a = 0) (hr : rr s = 0) : Mt l G yX8_mark mX8_mark 3 74 0 0 [.ref m, .int (nI s), .int a] ((m, .inr (8, [.int fi, .ref (D 0), .long as, .int (nI ns), .ref (D 1), .ref (D 2), .ref (D 3), .ref (D 4), .ref (D 5), .ref (D 6), .ref (D 7), .ref (D 8), .int ii, .long de, .int dl, .int dp, .int dc, .ref (D 9), .int (nI nr), .ref (D 10), .ref (D 11), .ref (D 12), .ref (D 13), .ref (D 14), .int al, .int wa])) :: (D 1, .inl (G.2.1.1, 12, .inl kk)) :: (D 2, .inl (G.2.1.2.1, 12, .inl rr)) :: (D 0, .inl (G.2.1.1, 6, .inl fc)) :: r) (fun v w => v = some (.int (-3 : Int32)) ∧ w = (m, .inr (8, [.int (nI 1), .ref (D 0), .long as, .int (nI ns), .ref (D 1), .ref (D 2), .ref (D 3), .ref (D 4), .ref (D 5), .ref (D 6), .ref (D 7), .ref (D 8), .int ii, .long de, .int dl, .int dp, .int dc, .ref (D 9), .int (nI nr), .ref (D 10), .ref (D 11), .ref (D 12), .ref (D 13), .ref (D 14), .int al, .int wa])) :: (D 1, .inl (G.2.1.1, 12, .inl kk)) :: (D 2, .inl (G.2.1.2.1, 12, .inl rr)) :: (D 0, .inl (G.2.1.1, 6, .inl (upd fc 1 (fc 1 + 1)))) :: r) := by
  refine Mt.of (by decide +kernel) rfl rfl (fun X B => ?_)
  show J G X mX8_mark ((m, .inr (8, [.int fi, .ref (D 0), .long as, .int (nI ns), .ref (D 1), .ref (D 2), .ref (D 3), .ref (D 4), .ref (D 5), .ref (D 6), .ref (D 7), .ref (D 8), .int ii, .long de, .int dl, .int dp, .int dc, .ref (D 9), .int (nI nr), .ref (D 10), .ref (D 11), .ref (D 12), .ref (D 13), .ref (D 14), .int al, .int wa])) :: (D 1, .inl (G.2.1.1, 12, .inl kk)) :: (D 2, .inl (G.2.1.2.1, 12, .inl rr)) :: (D 0, .inl (G.2.1.1, 6, .inl fc)) :: r) 0 0 0 [(0, .ref m), (1, .int (nI s)), (2, .int a)] []
  have hs : s < 12 := by omega
  have hin : inR (nI s) 0 ((ns : Int) - 1) = true := by rw [nI_inR (by omega)]; exact decide_eq_true ⟨by omega, by omega⟩
  refine J.aload_n 0 dX8_mark_0 rfl ?_
  refine J.iload_n 1 dX8_mark_1 rfl ?_
  refine J.callV 0 (st := []) B (c_X8_isStar l G _ (num := nI s) hns) ml_X8_80 mf_yX8_isStar mi_yX8_isStar rfl dX8_mark_2 rfl rfl rfl rfl (fun v_1 w_2 hp_3 => ?_)
  obtain ⟨rfl, rfl⟩ := hp_3
  show J G X mX8_mark _ _ _ 5 _ [.int (b01 (inR (nI s) 0 ((ns : Int) - 1)))]
  refine J.if_eq dX8_mark_5 (fun z => absurd z (by rw [hin]; decide)) (fun h9 => ?_)
  refine J.iload_n 2 dX8_mark_8 rfl ?_
  refine J.iconst (0 : Int32) dX8_mark_9 rfl ?_
  refine J.iconst (3 : Int32) dX8_mark_10 rfl ?_
  refine J.callS (st := []) B (c_X8_in l G _ (v := a) (lo := (0 : Int32)) (hi := (3 : Int32)) (a := 0) (b := 3) rfl rfl) ml_X8_76 mf_yX8_in mS_yX8_in dX8_mark_11 rfl rfl rfl (fun v_4 w_5 hp_6 => ?_)
  obtain ⟨rfl, rfl⟩ := hp_6
  show J G X mX8_mark _ _ _ 14 _ [.int (b01 (inR a 0 3))]
  refine J.if_ne dX8_mark_14 (fun h9 => ?_) (fun z => absurd z (by rw [ha]; decide))
  refine J.aload_n 0 dX8_mark_19 rfl ?_
  refine J.iload_n 1 dX8_mark_20 rfl ?_
  refine J.iload_n 2 dX8_mark_21 rfl ?_
  refine J.callV 0 (st := []) B (c_X8_fits l G _ (a := a) hs) ml_X8_84 mf_yX8_fits mi_yX8_fits rfl dX8_mark_22 rfl rfl rfl rfl (fun v_7 w_8 hp_9 => ?_)
  obtain ⟨rfl, rfl⟩ := hp_9
  show J G X mX8_mark _ _ _ 25 _ [.int (b01 (ofK (kk s) a))]
  refine J.if_ne dX8_mark_25 (fun h9 => ?_) (fun z => absurd z (by rw [ho]; decide))
  refine J.iload_n 2 dX8_mark_34 rfl ?_
  refine J.if_ne dX8_mark_35 (fun h7 => ?_) (fun z => absurd z (h0))
  refine J.aload_n 0 dX8_mark_45 rfl ?_
  refine J.get 0 fl_X8_16 dX8_mark_46 rfl rfl ?_
  refine J.iload_n 1 dX8_mark_49 rfl ?_
  refine J.zald 2 (s) dX8_mark_50 rfl (rfl) (by omega) (by decide) ?_
  refine J.if_ne dX8_mark_51 (fun z => absurd (hr) z) (fun h6 => ?_)
  refine J.aload_n 0 dX8_mark_54 rfl ?_
  refine J.iconst (1 : Int32) dX8_mark_55 rfl ?_
  refine J.re [0, 3, 1, 2] 4 (ws2 := (m, .inr (8, [.int fi, .ref (D 0), .long as, .int (nI ns), .ref (D 1), .ref (D 2), .ref (D 3), .ref (D 4), .ref (D 5), .ref (D 6), .ref (D 7), .ref (D 8), .int ii, .long de, .int dl, .int dp, .int dc, .ref (D 9), .int (nI nr), .ref (D 10), .ref (D 11), .ref (D 12), .ref (D 13), .ref (D 14), .int al, .int wa])) :: (D 0, .inl (G.2.1.1, 6, .inl fc)) :: (D 1, .inl (G.2.1.1, 12, .inl kk)) :: (D 2, .inl (G.2.1.2.1, 12, .inl rr)) :: r) rfl rfl ?_
  refine J.callV 0 (st := []) B (c_X8_meets l G _ (c := 1) (by decide)) ml_X8_95 mf_yX8_meets mi_yX8_meets rfl dX8_mark_56 rfl rfl rfl rfl (fun v_10 w_11 hp_12 => ?_)
  obtain ⟨rfl, rfl⟩ := hp_12
  refine J.re [0, 2, 3, 1] 4 (ws2 := (m, .inr (8, [.int (nI 1), .ref (D 0), .long as, .int (nI ns), .ref (D 1), .ref (D 2), .ref (D 3), .ref (D 4), .ref (D 5), .ref (D 6), .ref (D 7), .ref (D 8), .int ii, .long de, .int dl, .int dp, .int dc, .ref (D 9), .int (nI nr), .ref (D 10), .ref (D 11), .ref (D 12), .ref (D 13), .ref (D 14), .int al, .int wa])) :: (D 1, .inl (G.2.1.1, 12, .inl kk)) :: (D 2, .inl (G.2.1.2.1, 12, .inl rr)) :: (D 0, .inl (G.2.1.1, 6, .inl (upd fc 1 (fc 1 + 1)))) :: r) rfl rfl ?_
  show J G X mX8_mark _ _ _ 59 _ [.int (-3 : Int32)]
  exact J.iret B dX8_mark_59 rfl (⟨rfl, rfl⟩)
set_option maxHeartbeats 4000000 in
set_option maxRecDepth 100000 in
theorem r_mark1 (l : Launch) (G : jG) (r : va_W) {m : Nat} {D : Nat → Nat} {fi : Int32} {as : Int64} {ns : Nat} {ii : Int32} {de : Int64} {dl dp dc : Int32} {nr : Nat} {al wa : Int32} {s : Nat} (hk : s < ns) (hns : ns ≤ 12) {kk : Nat → Int32} {rr : Nat → Int32} {ml : Nat → Int32} (ho : ofK (kk s) 1 = true) (hr : ¬ rr s = 0) : Mt l G yX8_mark mX8_mark 3 74 0 0 [.ref m, .int (nI s), .int (1 : Int32)] ((m, .inr (8, [.int fi, .ref (D 0), .long as, .int (nI ns), .ref (D 1), .ref (D 2), .ref (D 3), .ref (D 4), .ref (D 5), .ref (D 6), .ref (D 7), .ref (D 8), .int ii, .long de, .int dl, .int dp, .int dc, .ref (D 9), .int (nI nr), .ref (D 10), .ref (D 11), .ref (D 12), .ref (D 13), .ref (D 14), .int al, .int wa])) :: (D 1, .inl (G.2.1.1, 12, .inl kk)) :: (D 2, .inl (G.2.1.2.1, 12, .inl rr)) :: (D 3, .inl (G.2.1.1, 720, .inl ml)) :: r) (fun v w => v = some (.int (nI (nN (rowM ml s)))) ∧ w = (m, .inr (8, [.int fi, .ref (D 0), .long as, .int (nI ns), .ref (D 1), .ref (D 2), .ref (D 3), .ref (D 4), .ref (D 5), .ref (D 6), .ref (D 7), .ref (D 8), .int ii, .long de, .int dl, .int dp, .int dc, .ref (D 9), .int (nI nr), .ref (D 10), .ref (D 11), .ref (D 12), .ref (D 13), .ref (D 14), .int al, .int wa])) :: (D 1, .inl (G.2.1.1, 12, .inl kk)) :: (D 2, .inl (G.2.1.2.1, 12, .inl rr)) :: (D 3, .inl (G.2.1.1, 720, .inl ml)) :: r) := by
  refine Mt.of (by decide +kernel) rfl rfl (fun X B => ?_)
  show J G X mX8_mark ((m, .inr (8, [.int fi, .ref (D 0), .long as, .int (nI ns), .ref (D 1), .ref (D 2), .ref (D 3), .ref (D 4), .ref (D 5), .ref (D 6), .ref (D 7), .ref (D 8), .int ii, .long de, .int dl, .int dp, .int dc, .ref (D 9), .int (nI nr), .ref (D 10), .ref (D 11), .ref (D 12), .ref (D 13), .ref (D 14), .int al, .int wa])) :: (D 1, .inl (G.2.1.1, 12, .inl kk)) :: (D 2, .inl (G.2.1.2.1, 12, .inl rr)) :: (D 3, .inl (G.2.1.1, 720, .inl ml)) :: r) 0 0 0 [(0, .ref m), (1, .int (nI s)), (2, .int (1 : Int32))] []
  have hs : s < 12 := by omega
  have hin : inR (nI s) 0 ((ns : Int) - 1) = true := by rw [nI_inR (by omega)]; exact decide_eq_true ⟨by omega, by omega⟩
  refine J.aload_n 0 dX8_mark_0 rfl ?_
  refine J.iload_n 1 dX8_mark_1 rfl ?_
  refine J.callV 0 (st := []) B (c_X8_isStar l G _ (num := nI s) hns) ml_X8_80 mf_yX8_isStar mi_yX8_isStar rfl dX8_mark_2 rfl rfl rfl rfl (fun v_1 w_2 hp_3 => ?_)
  obtain ⟨rfl, rfl⟩ := hp_3
  show J G X mX8_mark _ _ _ 5 _ [.int (b01 (inR (nI s) 0 ((ns : Int) - 1)))]
  refine J.if_eq dX8_mark_5 (fun z => absurd z (by rw [hin]; decide)) (fun h9 => ?_)
  refine J.iload_n 2 dX8_mark_8 rfl ?_
  refine J.iconst (0 : Int32) dX8_mark_9 rfl ?_
  refine J.iconst (3 : Int32) dX8_mark_10 rfl ?_
  refine J.callS (st := []) B (c_X8_in l G _ (v := (1 : Int32)) (lo := (0 : Int32)) (hi := (3 : Int32)) (a := 0) (b := 3) rfl rfl) ml_X8_76 mf_yX8_in mS_yX8_in dX8_mark_11 rfl rfl rfl (fun v_4 w_5 hp_6 => ?_)
  obtain ⟨rfl, rfl⟩ := hp_6
  show J G X mX8_mark _ _ _ 14 _ [.int (b01 (inR (1 : Int32) 0 3))]
  refine J.if_ne dX8_mark_14 (fun h9 => ?_) (fun z => absurd z (by decide))
  refine J.aload_n 0 dX8_mark_19 rfl ?_
  refine J.iload_n 1 dX8_mark_20 rfl ?_
  refine J.iload_n 2 dX8_mark_21 rfl ?_
  refine J.callV 0 (st := []) B (c_X8_fits l G _ (a := 1) hs) ml_X8_84 mf_yX8_fits mi_yX8_fits rfl dX8_mark_22 rfl rfl rfl rfl (fun v_7 w_8 hp_9 => ?_)
  obtain ⟨rfl, rfl⟩ := hp_9
  show J G X mX8_mark _ _ _ 25 _ [.int (b01 (ofK (kk s) 1))]
  refine J.if_ne dX8_mark_25 (fun h9 => ?_) (fun z => absurd z (by rw [ho]; decide))
  refine J.iload_n 2 dX8_mark_34 rfl ?_
  refine J.if_ne dX8_mark_35 (fun _ => ?_) (fun z => absurd z (by decide))
  refine J.aload_n 0 dX8_mark_45 rfl ?_
  refine J.get 0 fl_X8_16 dX8_mark_46 rfl rfl ?_
  refine J.iload_n 1 dX8_mark_49 rfl ?_
  refine J.zald 2 (s) dX8_mark_50 rfl (rfl) (by omega) (by decide) ?_
  refine J.if_ne dX8_mark_51 (fun h6 => ?_) (fun z => absurd z (hr))
  refine J.iload_n 2 dX8_mark_60 rfl ?_
  refine J.iconst (1 : Int32) dX8_mark_61 rfl ?_
  refine J.icmp_ne dX8_mark_62 (fun z => absurd z (by decide)) (fun _ => ?_)
  refine J.aload_n 0 dX8_mark_65 rfl ?_
  refine J.iload_n 1 dX8_mark_66 rfl ?_
  refine J.re [0, 3, 1, 2] 4 (ws2 := (m, .inr (8, [.int fi, .ref (D 0), .long as, .int (nI ns), .ref (D 1), .ref (D 2), .ref (D 3), .ref (D 4), .ref (D 5), .ref (D 6), .ref (D 7), .ref (D 8), .int ii, .long de, .int dl, .int dp, .int dc, .ref (D 9), .int (nI nr), .ref (D 10), .ref (D 11), .ref (D 12), .ref (D 13), .ref (D 14), .int al, .int wa])) :: (D 3, .inl (G.2.1.1, 720, .inl ml)) :: (D 1, .inl (G.2.1.1, 12, .inl kk)) :: (D 2, .inl (G.2.1.2.1, 12, .inl rr)) :: r) rfl rfl ?_
  refine J.callV 0 (st := []) B (c_X8_many l G _ (s := s) hs) ml_X8_99 mf_yX8_many mi_yX8_many rfl dX8_mark_67 rfl rfl rfl rfl (fun v_10 w_11 hp_12 => ?_)
  obtain ⟨rfl, rfl⟩ := hp_12
  refine J.re [0, 2, 3, 1] 4 (ws2 := (m, .inr (8, [.int fi, .ref (D 0), .long as, .int (nI ns), .ref (D 1), .ref (D 2), .ref (D 3), .ref (D 4), .ref (D 5), .ref (D 6), .ref (D 7), .ref (D 8), .int ii, .long de, .int dl, .int dp, .int dc, .ref (D 9), .int (nI nr), .ref (D 10), .ref (D 11), .ref (D 12), .ref (D 13), .ref (D 14), .int al, .int wa])) :: (D 1, .inl (G.2.1.1, 12, .inl kk)) :: (D 2, .inl (G.2.1.2.1, 12, .inl rr)) :: (D 3, .inl (G.2.1.1, 720, .inl ml)) :: r) rfl rfl ?_
  show J G X mX8_mark _ _ _ 70 _ [.int (nI (nN (rowM ml s)))]
  refine J.goto dX8_mark_70 ?_
  exact J.iret B dX8_mark_105 rfl (⟨rfl, rfl⟩)
set_option maxHeartbeats 4000000 in
set_option maxRecDepth 100000 in
theorem r_mark2 (l : Launch) (G : jG) (r : va_W) {m : Nat} {D : Nat → Nat} {fi : Int32} {as : Int64} {ns : Nat} {ii : Int32} {de : Int64} {dl dp dc : Int32} {nr : Nat} {al wa : Int32} {s : Nat} (hk : s < ns) (hns : ns ≤ 12) {kk : Nat → Int32} {rr : Nat → Int32} {ml F : Nat → Int32} (ho : ofK (kk s) 2 = true) (hr : ¬ rr s = 0) : Mt l G yX8_mark mX8_mark 3 74 0 0 [.ref m, .int (nI s), .int (2 : Int32)] ((m, .inr (8, [.int fi, .ref (D 0), .long as, .int (nI ns), .ref (D 1), .ref (D 2), .ref (D 3), .ref (D 4), .ref (D 5), .ref (D 6), .ref (D 7), .ref (D 8), .int ii, .long de, .int dl, .int dp, .int dc, .ref (D 9), .int (nI nr), .ref (D 10), .ref (D 11), .ref (D 12), .ref (D 13), .ref (D 14), .int al, .int wa])) :: (D 1, .inl (G.2.1.1, 12, .inl kk)) :: (D 2, .inl (G.2.1.2.1, 12, .inl rr)) :: (D 3, .inl (G.2.1.1, 720, .inl ml)) :: (D 4, .inl (G.2.1.1, 60, .inl F)) :: r) (fun v w => v = some (.int (swg (lits (rowM ml s) F 60))) ∧ w = (m, .inr (8, [.int fi, .ref (D 0), .long as, .int (nI ns), .ref (D 1), .ref (D 2), .ref (D 3), .ref (D 4), .ref (D 5), .ref (D 6), .ref (D 7), .ref (D 8), .int ii, .long de, .int dl, .int dp, .int dc, .ref (D 9), .int (nI nr), .ref (D 10), .ref (D 11), .ref (D 12), .ref (D 13), .ref (D 14), .int al, .int wa])) :: (D 1, .inl (G.2.1.1, 12, .inl kk)) :: (D 2, .inl (G.2.1.2.1, 12, .inl rr)) :: (D 3, .inl (G.2.1.1, 720, .inl ml)) :: (D 4, .inl (G.2.1.1, 60, .inl F)) :: r) := by
  refine Mt.of (by decide +kernel) rfl rfl (fun X B => ?_)
  show J G X mX8_mark ((m, .inr (8, [.int fi, .ref (D 0), .long as, .int (nI ns), .ref (D 1), .ref (D 2), .ref (D 3), .ref (D 4), .ref (D 5), .ref (D 6), .ref (D 7), .ref (D 8), .int ii, .long de, .int dl, .int dp, .int dc, .ref (D 9), .int (nI nr), .ref (D 10), .ref (D 11), .ref (D 12), .ref (D 13), .ref (D 14), .int al, .int wa])) :: (D 1, .inl (G.2.1.1, 12, .inl kk)) :: (D 2, .inl (G.2.1.2.1, 12, .inl rr)) :: (D 3, .inl (G.2.1.1, 720, .inl ml)) :: (D 4, .inl (G.2.1.1, 60, .inl F)) :: r) 0 0 0 [(0, .ref m), (1, .int (nI s)), (2, .int (2 : Int32))] []
  have hs : s < 12 := by omega
  have hin : inR (nI s) 0 ((ns : Int) - 1) = true := by rw [nI_inR (by omega)]; exact decide_eq_true ⟨by omega, by omega⟩
  refine J.aload_n 0 dX8_mark_0 rfl ?_
  refine J.iload_n 1 dX8_mark_1 rfl ?_
  refine J.callV 0 (st := []) B (c_X8_isStar l G _ (num := nI s) hns) ml_X8_80 mf_yX8_isStar mi_yX8_isStar rfl dX8_mark_2 rfl rfl rfl rfl (fun v_1 w_2 hp_3 => ?_)
  obtain ⟨rfl, rfl⟩ := hp_3
  show J G X mX8_mark _ _ _ 5 _ [.int (b01 (inR (nI s) 0 ((ns : Int) - 1)))]
  refine J.if_eq dX8_mark_5 (fun z => absurd z (by rw [hin]; decide)) (fun h9 => ?_)
  refine J.iload_n 2 dX8_mark_8 rfl ?_
  refine J.iconst (0 : Int32) dX8_mark_9 rfl ?_
  refine J.iconst (3 : Int32) dX8_mark_10 rfl ?_
  refine J.callS (st := []) B (c_X8_in l G _ (v := (2 : Int32)) (lo := (0 : Int32)) (hi := (3 : Int32)) (a := 0) (b := 3) rfl rfl) ml_X8_76 mf_yX8_in mS_yX8_in dX8_mark_11 rfl rfl rfl (fun v_4 w_5 hp_6 => ?_)
  obtain ⟨rfl, rfl⟩ := hp_6
  show J G X mX8_mark _ _ _ 14 _ [.int (b01 (inR (2 : Int32) 0 3))]
  refine J.if_ne dX8_mark_14 (fun h9 => ?_) (fun z => absurd z (by decide))
  refine J.aload_n 0 dX8_mark_19 rfl ?_
  refine J.iload_n 1 dX8_mark_20 rfl ?_
  refine J.iload_n 2 dX8_mark_21 rfl ?_
  refine J.callV 0 (st := []) B (c_X8_fits l G _ (a := 2) hs) ml_X8_84 mf_yX8_fits mi_yX8_fits rfl dX8_mark_22 rfl rfl rfl rfl (fun v_7 w_8 hp_9 => ?_)
  obtain ⟨rfl, rfl⟩ := hp_9
  show J G X mX8_mark _ _ _ 25 _ [.int (b01 (ofK (kk s) 2))]
  refine J.if_ne dX8_mark_25 (fun h9 => ?_) (fun z => absurd z (by rw [ho]; decide))
  refine J.iload_n 2 dX8_mark_34 rfl ?_
  refine J.if_ne dX8_mark_35 (fun _ => ?_) (fun z => absurd z (by decide))
  refine J.aload_n 0 dX8_mark_45 rfl ?_
  refine J.get 0 fl_X8_16 dX8_mark_46 rfl rfl ?_
  refine J.iload_n 1 dX8_mark_49 rfl ?_
  refine J.zald 2 (s) dX8_mark_50 rfl (rfl) (by omega) (by decide) ?_
  refine J.if_ne dX8_mark_51 (fun h6 => ?_) (fun z => absurd z (hr))
  refine J.iload_n 2 dX8_mark_60 rfl ?_
  refine J.iconst (1 : Int32) dX8_mark_61 rfl ?_
  refine J.icmp_ne dX8_mark_62 (fun _ => ?_) (fun z => absurd z (by decide))
  refine J.iload_n 2 dX8_mark_73 rfl ?_
  refine J.iconst (2 : Int32) dX8_mark_74 rfl ?_
  refine J.icmp_ne dX8_mark_75 (fun z => absurd z (by decide)) (fun _ => ?_)
  refine J.aload_n 0 dX8_mark_78 rfl ?_
  refine J.iload_n 1 dX8_mark_79 rfl ?_
  refine J.re [0, 3, 4, 1, 2] 5 (ws2 := (m, .inr (8, [.int fi, .ref (D 0), .long as, .int (nI ns), .ref (D 1), .ref (D 2), .ref (D 3), .ref (D 4), .ref (D 5), .ref (D 6), .ref (D 7), .ref (D 8), .int ii, .long de, .int dl, .int dp, .int dc, .ref (D 9), .int (nI nr), .ref (D 10), .ref (D 11), .ref (D 12), .ref (D 13), .ref (D 14), .int al, .int wa])) :: (D 3, .inl (G.2.1.1, 720, .inl ml)) :: (D 4, .inl (G.2.1.1, 60, .inl F)) :: (D 1, .inl (G.2.1.1, 12, .inl kk)) :: (D 2, .inl (G.2.1.2.1, 12, .inl rr)) :: r) rfl rfl ?_
  refine J.callV 0 (st := []) B (c_X8_swing l G _ (s := s) hs) ml_X8_102 mf_yX8_swing mi_yX8_swing rfl dX8_mark_80 rfl rfl rfl rfl (fun v_10 w_11 hp_12 => ?_)
  obtain ⟨rfl, rfl⟩ := hp_12
  refine J.re [0, 3, 4, 1, 2] 5 (ws2 := (m, .inr (8, [.int fi, .ref (D 0), .long as, .int (nI ns), .ref (D 1), .ref (D 2), .ref (D 3), .ref (D 4), .ref (D 5), .ref (D 6), .ref (D 7), .ref (D 8), .int ii, .long de, .int dl, .int dp, .int dc, .ref (D 9), .int (nI nr), .ref (D 10), .ref (D 11), .ref (D 12), .ref (D 13), .ref (D 14), .int al, .int wa])) :: (D 1, .inl (G.2.1.1, 12, .inl kk)) :: (D 2, .inl (G.2.1.2.1, 12, .inl rr)) :: (D 3, .inl (G.2.1.1, 720, .inl ml)) :: (D 4, .inl (G.2.1.1, 60, .inl F)) :: r) rfl rfl ?_
  show J G X mX8_mark _ _ _ 83 _ [.int (swg (lits (rowM ml s) F 60))]
  refine J.goto dX8_mark_83 ?_
  exact J.iret B dX8_mark_105 rfl (⟨rfl, rfl⟩)
set_option maxHeartbeats 4000000 in
set_option maxRecDepth 100000 in
theorem r_mark3z (l : Launch) (G : jG) (r : va_W) {m : Nat} {D : Nat → Nat} {fi : Int32} {as : Int64} {ns : Nat} {ii : Int32} {de : Int64} {dl dp dc : Int32} {nr : Nat} {al wa : Int32} {s : Nat} (hk : s < ns) (hns : ns ≤ 12) {kk : Nat → Int32} {rr : Nat → Int32} {ml : Nat → Int32} (ho : ofK (kk s) 3 = true) (hr : ¬ rr s = 0) (h0 : nN (rowM ml s) = 0) : Mt l G yX8_mark mX8_mark 3 74 0 0 [.ref m, .int (nI s), .int (3 : Int32)] ((m, .inr (8, [.int fi, .ref (D 0), .long as, .int (nI ns), .ref (D 1), .ref (D 2), .ref (D 3), .ref (D 4), .ref (D 5), .ref (D 6), .ref (D 7), .ref (D 8), .int ii, .long de, .int dl, .int dp, .int dc, .ref (D 9), .int (nI nr), .ref (D 10), .ref (D 11), .ref (D 12), .ref (D 13), .ref (D 14), .int al, .int wa])) :: (D 1, .inl (G.2.1.1, 12, .inl kk)) :: (D 2, .inl (G.2.1.2.1, 12, .inl rr)) :: (D 3, .inl (G.2.1.1, 720, .inl ml)) :: r) (fun v w => v = some (.int (0 : Int32)) ∧ w = (m, .inr (8, [.int fi, .ref (D 0), .long as, .int (nI ns), .ref (D 1), .ref (D 2), .ref (D 3), .ref (D 4), .ref (D 5), .ref (D 6), .ref (D 7), .ref (D 8), .int ii, .long de, .int dl, .int dp, .int dc, .ref (D 9), .int (nI nr), .ref (D 10), .ref (D 11), .ref (D 12), .ref (D 13), .ref (D 14), .int al, .int wa])) :: (D 1, .inl (G.2.1.1, 12, .inl kk)) :: (D 2, .inl (G.2.1.2.1, 12, .inl rr)) :: (D 3, .inl (G.2.1.1, 720, .inl ml)) :: r) := by
  refine Mt.of (by decide +kernel) rfl rfl (fun X B => ?_)
  show J G X mX8_mark ((m, .inr (8, [.int fi, .ref (D 0), .long as, .int (nI ns), .ref (D 1), .ref (D 2), .ref (D 3), .ref (D 4), .ref (D 5), .ref (D 6), .ref (D 7), .ref (D 8), .int ii, .long de, .int dl, .int dp, .int dc, .ref (D 9), .int (nI nr), .ref (D 10), .ref (D 11), .ref (D 12), .ref (D 13), .ref (D 14), .int al, .int wa])) :: (D 1, .inl (G.2.1.1, 12, .inl kk)) :: (D 2, .inl (G.2.1.2.1, 12, .inl rr)) :: (D 3, .inl (G.2.1.1, 720, .inl ml)) :: r) 0 0 0 [(0, .ref m), (1, .int (nI s)), (2, .int (3 : Int32))] []
  have hs : s < 12 := by omega
  have hin : inR (nI s) 0 ((ns : Int) - 1) = true := by rw [nI_inR (by omega)]; exact decide_eq_true ⟨by omega, by omega⟩
  refine J.aload_n 0 dX8_mark_0 rfl ?_
  refine J.iload_n 1 dX8_mark_1 rfl ?_
  refine J.callV 0 (st := []) B (c_X8_isStar l G _ (num := nI s) hns) ml_X8_80 mf_yX8_isStar mi_yX8_isStar rfl dX8_mark_2 rfl rfl rfl rfl (fun v_1 w_2 hp_3 => ?_)
  obtain ⟨rfl, rfl⟩ := hp_3
  show J G X mX8_mark _ _ _ 5 _ [.int (b01 (inR (nI s) 0 ((ns : Int) - 1)))]
  refine J.if_eq dX8_mark_5 (fun z => absurd z (by rw [hin]; decide)) (fun h9 => ?_)
  refine J.iload_n 2 dX8_mark_8 rfl ?_
  refine J.iconst (0 : Int32) dX8_mark_9 rfl ?_
  refine J.iconst (3 : Int32) dX8_mark_10 rfl ?_
  refine J.callS (st := []) B (c_X8_in l G _ (v := (3 : Int32)) (lo := (0 : Int32)) (hi := (3 : Int32)) (a := 0) (b := 3) rfl rfl) ml_X8_76 mf_yX8_in mS_yX8_in dX8_mark_11 rfl rfl rfl (fun v_4 w_5 hp_6 => ?_)
  obtain ⟨rfl, rfl⟩ := hp_6
  show J G X mX8_mark _ _ _ 14 _ [.int (b01 (inR (3 : Int32) 0 3))]
  refine J.if_ne dX8_mark_14 (fun h9 => ?_) (fun z => absurd z (by decide))
  refine J.aload_n 0 dX8_mark_19 rfl ?_
  refine J.iload_n 1 dX8_mark_20 rfl ?_
  refine J.iload_n 2 dX8_mark_21 rfl ?_
  refine J.callV 0 (st := []) B (c_X8_fits l G _ (a := 3) hs) ml_X8_84 mf_yX8_fits mi_yX8_fits rfl dX8_mark_22 rfl rfl rfl rfl (fun v_7 w_8 hp_9 => ?_)
  obtain ⟨rfl, rfl⟩ := hp_9
  show J G X mX8_mark _ _ _ 25 _ [.int (b01 (ofK (kk s) 3))]
  refine J.if_ne dX8_mark_25 (fun h9 => ?_) (fun z => absurd z (by rw [ho]; decide))
  refine J.iload_n 2 dX8_mark_34 rfl ?_
  refine J.if_ne dX8_mark_35 (fun _ => ?_) (fun z => absurd z (by decide))
  refine J.aload_n 0 dX8_mark_45 rfl ?_
  refine J.get 0 fl_X8_16 dX8_mark_46 rfl rfl ?_
  refine J.iload_n 1 dX8_mark_49 rfl ?_
  refine J.zald 2 (s) dX8_mark_50 rfl (rfl) (by omega) (by decide) ?_
  refine J.if_ne dX8_mark_51 (fun h6 => ?_) (fun z => absurd z (hr))
  refine J.iload_n 2 dX8_mark_60 rfl ?_
  refine J.iconst (1 : Int32) dX8_mark_61 rfl ?_
  refine J.icmp_ne dX8_mark_62 (fun _ => ?_) (fun z => absurd z (by decide))
  refine J.iload_n 2 dX8_mark_73 rfl ?_
  refine J.iconst (2 : Int32) dX8_mark_74 rfl ?_
  refine J.icmp_ne dX8_mark_75 (fun _ => ?_) (fun z => absurd z (by decide))
  refine J.aload_n 0 dX8_mark_86 rfl ?_
  refine J.iload_n 1 dX8_mark_87 rfl ?_
  refine J.re [0, 3, 1, 2] 4 (ws2 := (m, .inr (8, [.int fi, .ref (D 0), .long as, .int (nI ns), .ref (D 1), .ref (D 2), .ref (D 3), .ref (D 4), .ref (D 5), .ref (D 6), .ref (D 7), .ref (D 8), .int ii, .long de, .int dl, .int dp, .int dc, .ref (D 9), .int (nI nr), .ref (D 10), .ref (D 11), .ref (D 12), .ref (D 13), .ref (D 14), .int al, .int wa])) :: (D 3, .inl (G.2.1.1, 720, .inl ml)) :: (D 1, .inl (G.2.1.1, 12, .inl kk)) :: (D 2, .inl (G.2.1.2.1, 12, .inl rr)) :: r) rfl rfl ?_
  refine J.callV 0 (st := []) B (c_X8_many l G _ (s := s) hs) ml_X8_99 mf_yX8_many mi_yX8_many rfl dX8_mark_88 rfl rfl rfl rfl (fun v_10 w_11 hp_12 => ?_)
  obtain ⟨rfl, rfl⟩ := hp_12
  refine J.re [0, 2, 3, 1] 4 (ws2 := (m, .inr (8, [.int fi, .ref (D 0), .long as, .int (nI ns), .ref (D 1), .ref (D 2), .ref (D 3), .ref (D 4), .ref (D 5), .ref (D 6), .ref (D 7), .ref (D 8), .int ii, .long de, .int dl, .int dp, .int dc, .ref (D 9), .int (nI nr), .ref (D 10), .ref (D 11), .ref (D 12), .ref (D 13), .ref (D 14), .int al, .int wa])) :: (D 1, .inl (G.2.1.1, 12, .inl kk)) :: (D 2, .inl (G.2.1.2.1, 12, .inl rr)) :: (D 3, .inl (G.2.1.1, 720, .inl ml)) :: r) rfl rfl ?_
  show J G X mX8_mark _ _ _ 91 _ [.int (nI (nN (rowM ml s)))]
  refine J.if_ne dX8_mark_91 (fun z => absurd (by rw [h0]; rfl) z) (fun h9 => ?_)
  refine J.iconst (0 : Int32) dX8_mark_94 rfl ?_
  refine J.goto dX8_mark_95 ?_
  exact J.iret B dX8_mark_105 rfl (⟨rfl, rfl⟩)
set_option maxHeartbeats 4000000 in
set_option maxRecDepth 100000 in
theorem r_mark3 (l : Launch) (G : jG) (r : va_W) {m : Nat} {D : Nat → Nat} {fi : Int32} {as : Int64} {ns : Nat} {ii : Int32} {de : Int64} {dl dp dc : Int32} {nr : Nat} {al wa : Int32} {s : Nat} (hk : s < ns) (hns : ns ≤ 12) {kk : Nat → Int32} {rr : Nat → Int32} {ml F : Nat → Int32} {so lti : Nat → Int32} (ho : ofK (kk s) 3 = true) (hr : ¬ rr s = 0) (h0 : 0 < nN (rowM ml s)) : Mt l G yX8_mark mX8_mark 3 74 0 0 [.ref m, .int (nI s), .int (3 : Int32)] ((m, .inr (8, [.int fi, .ref (D 0), .long as, .int (nI ns), .ref (D 1), .ref (D 2), .ref (D 3), .ref (D 4), .ref (D 5), .ref (D 6), .ref (D 7), .ref (D 8), .int ii, .long de, .int dl, .int dp, .int dc, .ref (D 9), .int (nI nr), .ref (D 10), .ref (D 11), .ref (D 12), .ref (D 13), .ref (D 14), .int al, .int wa])) :: (D 1, .inl (G.2.1.1, 12, .inl kk)) :: (D 2, .inl (G.2.1.2.1, 12, .inl rr)) :: (D 3, .inl (G.2.1.1, 720, .inl ml)) :: (D 4, .inl (G.2.1.1, 60, .inl F)) :: (D 6, .inl (G.2.1.1, 60, .inl so)) :: (D 9, .inl (G.2.1.1, 60, .inl lti)) :: r) (fun v w => ∃ so1 lt1, v = some (.int (nI (lowF (ltF (rowM ml s) F) (midV (lits (rowM ml s) F 60) - 100) (nts (rowM ml s) 60)).1.length)) ∧ w = (m, .inr (8, [.int fi, .ref (D 0), .long as, .int (nI ns), .ref (D 1), .ref (D 2), .ref (D 3), .ref (D 4), .ref (D 5), .ref (D 6), .ref (D 7), .ref (D 8), .int ii, .long de, .int dl, .int dp, .int dc, .ref (D 9), .int (nI nr), .ref (D 10), .ref (D 11), .ref (D 12), .ref (D 13), .ref (D 14), .int al, .int wa])) :: (D 1, .inl (G.2.1.1, 12, .inl kk)) :: (D 2, .inl (G.2.1.2.1, 12, .inl rr)) :: (D 3, .inl (G.2.1.1, 720, .inl ml)) :: (D 4, .inl (G.2.1.1, 60, .inl F)) :: (D 6, .inl (G.2.1.1, 60, .inl so1)) :: (D 9, .inl (G.2.1.1, 60, .inl lt1)) :: r) := by
  refine Mt.of (by decide +kernel) rfl rfl (fun X B => ?_)
  show J G X mX8_mark ((m, .inr (8, [.int fi, .ref (D 0), .long as, .int (nI ns), .ref (D 1), .ref (D 2), .ref (D 3), .ref (D 4), .ref (D 5), .ref (D 6), .ref (D 7), .ref (D 8), .int ii, .long de, .int dl, .int dp, .int dc, .ref (D 9), .int (nI nr), .ref (D 10), .ref (D 11), .ref (D 12), .ref (D 13), .ref (D 14), .int al, .int wa])) :: (D 1, .inl (G.2.1.1, 12, .inl kk)) :: (D 2, .inl (G.2.1.2.1, 12, .inl rr)) :: (D 3, .inl (G.2.1.1, 720, .inl ml)) :: (D 4, .inl (G.2.1.1, 60, .inl F)) :: (D 6, .inl (G.2.1.1, 60, .inl so)) :: (D 9, .inl (G.2.1.1, 60, .inl lti)) :: r) 0 0 0 [(0, .ref m), (1, .int (nI s)), (2, .int (3 : Int32))] []
  have hs : s < 12 := by omega
  have hin : inR (nI s) 0 ((ns : Int) - 1) = true := by rw [nI_inR (by omega)]; exact decide_eq_true ⟨by omega, by omega⟩
  have hn := nN_le (rowM ml s)
  refine J.aload_n 0 dX8_mark_0 rfl ?_
  refine J.iload_n 1 dX8_mark_1 rfl ?_
  refine J.callV 0 (st := []) B (c_X8_isStar l G _ (num := nI s) hns) ml_X8_80 mf_yX8_isStar mi_yX8_isStar rfl dX8_mark_2 rfl rfl rfl rfl (fun v_1 w_2 hp_3 => ?_)
  obtain ⟨rfl, rfl⟩ := hp_3
  show J G X mX8_mark _ _ _ 5 _ [.int (b01 (inR (nI s) 0 ((ns : Int) - 1)))]
  refine J.if_eq dX8_mark_5 (fun z => absurd z (by rw [hin]; decide)) (fun h9 => ?_)
  refine J.iload_n 2 dX8_mark_8 rfl ?_
  refine J.iconst (0 : Int32) dX8_mark_9 rfl ?_
  refine J.iconst (3 : Int32) dX8_mark_10 rfl ?_
  refine J.callS (st := []) B (c_X8_in l G _ (v := (3 : Int32)) (lo := (0 : Int32)) (hi := (3 : Int32)) (a := 0) (b := 3) rfl rfl) ml_X8_76 mf_yX8_in mS_yX8_in dX8_mark_11 rfl rfl rfl (fun v_4 w_5 hp_6 => ?_)
  obtain ⟨rfl, rfl⟩ := hp_6
  show J G X mX8_mark _ _ _ 14 _ [.int (b01 (inR (3 : Int32) 0 3))]
  refine J.if_ne dX8_mark_14 (fun h9 => ?_) (fun z => absurd z (by decide))
  refine J.aload_n 0 dX8_mark_19 rfl ?_
  refine J.iload_n 1 dX8_mark_20 rfl ?_
  refine J.iload_n 2 dX8_mark_21 rfl ?_
  refine J.callV 0 (st := []) B (c_X8_fits l G _ (a := 3) hs) ml_X8_84 mf_yX8_fits mi_yX8_fits rfl dX8_mark_22 rfl rfl rfl rfl (fun v_7 w_8 hp_9 => ?_)
  obtain ⟨rfl, rfl⟩ := hp_9
  show J G X mX8_mark _ _ _ 25 _ [.int (b01 (ofK (kk s) 3))]
  refine J.if_ne dX8_mark_25 (fun h9 => ?_) (fun z => absurd z (by rw [ho]; decide))
  refine J.iload_n 2 dX8_mark_34 rfl ?_
  refine J.if_ne dX8_mark_35 (fun _ => ?_) (fun z => absurd z (by decide))
  refine J.aload_n 0 dX8_mark_45 rfl ?_
  refine J.get 0 fl_X8_16 dX8_mark_46 rfl rfl ?_
  refine J.iload_n 1 dX8_mark_49 rfl ?_
  refine J.zald 2 (s) dX8_mark_50 rfl (rfl) (by omega) (by decide) ?_
  refine J.if_ne dX8_mark_51 (fun h6 => ?_) (fun z => absurd z (hr))
  refine J.iload_n 2 dX8_mark_60 rfl ?_
  refine J.iconst (1 : Int32) dX8_mark_61 rfl ?_
  refine J.icmp_ne dX8_mark_62 (fun _ => ?_) (fun z => absurd z (by decide))
  refine J.iload_n 2 dX8_mark_73 rfl ?_
  refine J.iconst (2 : Int32) dX8_mark_74 rfl ?_
  refine J.icmp_ne dX8_mark_75 (fun _ => ?_) (fun z => absurd z (by decide))
  refine J.aload_n 0 dX8_mark_86 rfl ?_
  refine J.iload_n 1 dX8_mark_87 rfl ?_
  refine J.re [0, 3, 1, 2, 4, 5, 6] 7 (ws2 := (m, .inr (8, [.int fi, .ref (D 0), .long as, .int (nI ns), .ref (D 1), .ref (D 2), .ref (D 3), .ref (D 4), .ref (D 5), .ref (D 6), .ref (D 7), .ref (D 8), .int ii, .long de, .int dl, .int dp, .int dc, .ref (D 9), .int (nI nr), .ref (D 10), .ref (D 11), .ref (D 12), .ref (D 13), .ref (D 14), .int al, .int wa])) :: (D 3, .inl (G.2.1.1, 720, .inl ml)) :: (D 1, .inl (G.2.1.1, 12, .inl kk)) :: (D 2, .inl (G.2.1.2.1, 12, .inl rr)) :: (D 4, .inl (G.2.1.1, 60, .inl F)) :: (D 6, .inl (G.2.1.1, 60, .inl so)) :: (D 9, .inl (G.2.1.1, 60, .inl lti)) :: r) rfl rfl ?_
  refine J.callV 0 (st := []) B (c_X8_many l G _ (s := s) hs) ml_X8_99 mf_yX8_many mi_yX8_many rfl dX8_mark_88 rfl rfl rfl rfl (fun v_10 w_11 hp_12 => ?_)
  obtain ⟨rfl, rfl⟩ := hp_12
  refine J.re [0, 2, 3, 1, 4, 5, 6] 7 (ws2 := (m, .inr (8, [.int fi, .ref (D 0), .long as, .int (nI ns), .ref (D 1), .ref (D 2), .ref (D 3), .ref (D 4), .ref (D 5), .ref (D 6), .ref (D 7), .ref (D 8), .int ii, .long de, .int dl, .int dp, .int dc, .ref (D 9), .int (nI nr), .ref (D 10), .ref (D 11), .ref (D 12), .ref (D 13), .ref (D 14), .int al, .int wa])) :: (D 1, .inl (G.2.1.1, 12, .inl kk)) :: (D 2, .inl (G.2.1.2.1, 12, .inl rr)) :: (D 3, .inl (G.2.1.1, 720, .inl ml)) :: (D 4, .inl (G.2.1.1, 60, .inl F)) :: (D 6, .inl (G.2.1.1, 60, .inl so)) :: (D 9, .inl (G.2.1.1, 60, .inl lti)) :: r) rfl rfl ?_
  show J G X mX8_mark _ _ _ 91 _ [.int (nI (nN (rowM ml s)))]
  refine J.if_ne dX8_mark_91 (fun h9 => ?_) (fun z => absurd z (nI_ne0 h0 (by omega)))
  refine J.aload_n 0 dX8_mark_98 rfl ?_
  refine J.iload_n 1 dX8_mark_99 rfl ?_
  refine J.bipush (100 : Int32) dX8_mark_100 rfl ?_
  refine J.re [0, 3, 4, 5, 6, 1, 2] 7 (ws2 := (m, .inr (8, [.int fi, .ref (D 0), .long as, .int (nI ns), .ref (D 1), .ref (D 2), .ref (D 3), .ref (D 4), .ref (D 5), .ref (D 6), .ref (D 7), .ref (D 8), .int ii, .long de, .int dl, .int dp, .int dc, .ref (D 9), .int (nI nr), .ref (D 10), .ref (D 11), .ref (D 12), .ref (D 13), .ref (D 14), .int al, .int wa])) :: (D 3, .inl (G.2.1.1, 720, .inl ml)) :: (D 4, .inl (G.2.1.1, 60, .inl F)) :: (D 6, .inl (G.2.1.1, 60, .inl so)) :: (D 9, .inl (G.2.1.1, 60, .inl lti)) :: (D 1, .inl (G.2.1.1, 12, .inl kk)) :: (D 2, .inl (G.2.1.2.1, 12, .inl rr)) :: r) rfl rfl ?_
  refine J.callV 0 (st := []) B (c_X8_setLows l G _ (d := 100) hs h0) ml_X8_105 mf_yX8_setLows mi_yX8_setLows rfl dX8_mark_102 rfl rfl rfl rfl (fun v_13 w_14 hp_15 => ?_)
  obtain ⟨so1, lt1, hlt, rfl, rfl⟩ := hp_15
  refine J.re [0, 5, 6, 1, 2, 3, 4] 7 (ws2 := (m, .inr (8, [.int fi, .ref (D 0), .long as, .int (nI ns), .ref (D 1), .ref (D 2), .ref (D 3), .ref (D 4), .ref (D 5), .ref (D 6), .ref (D 7), .ref (D 8), .int ii, .long de, .int dl, .int dp, .int dc, .ref (D 9), .int (nI nr), .ref (D 10), .ref (D 11), .ref (D 12), .ref (D 13), .ref (D 14), .int al, .int wa])) :: (D 1, .inl (G.2.1.1, 12, .inl kk)) :: (D 2, .inl (G.2.1.2.1, 12, .inl rr)) :: (D 3, .inl (G.2.1.1, 720, .inl ml)) :: (D 4, .inl (G.2.1.1, 60, .inl F)) :: (D 6, .inl (G.2.1.1, 60, .inl so1)) :: (D 9, .inl (G.2.1.1, 60, .inl lt1)) :: r) rfl rfl ?_
  show J G X mX8_mark _ _ _ 105 _ [.int (nI ((lowF (ltF (rowM ml s) F) (midV (lits (rowM ml s) F 60) - 100) (nts (rowM ml s) 60)).1.length))]
  exact J.iret B dX8_mark_105 rfl (⟨so1, lt1, rfl, rfl⟩)
set_option maxHeartbeats 4000000 in
set_option maxRecDepth 100000 in
theorem r_row_bad (l : Launch) (G : jG) (r : va_W) {m : Nat} {D : Nat → Nat} {fi : Int32} {as : Int64} {ns : Nat} {ii : Int32} {de : Int64} {dl dp dc : Int32} {nr : Nat} {al wa : Int32} {num : Int32} (hns : ns ≤ 12) (hnum : inR num 0 ((ns : Int) - 1) = false) : Mt l G yX8_row mX8_row 2 43 0 0 [.ref m, .int num] ((m, .inr (8, [.int fi, .ref (D 0), .long as, .int (nI ns), .ref (D 1), .ref (D 2), .ref (D 3), .ref (D 4), .ref (D 5), .ref (D 6), .ref (D 7), .ref (D 8), .int ii, .long de, .int dl, .int dp, .int dc, .ref (D 9), .int (nI nr), .ref (D 10), .ref (D 11), .ref (D 12), .ref (D 13), .ref (D 14), .int al, .int wa])) :: r) (fun v w => v = some (.int (-1 : Int32)) ∧ w = (m, .inr (8, [.int fi, .ref (D 0), .long as, .int (nI ns), .ref (D 1), .ref (D 2), .ref (D 3), .ref (D 4), .ref (D 5), .ref (D 6), .ref (D 7), .ref (D 8), .int ii, .long de, .int dl, .int dp, .int dc, .ref (D 9), .int (nI nr), .ref (D 10), .ref (D 11), .ref (D 12), .ref (D 13), .ref (D 14), .int al, .int wa])) :: r) := by
  refine Mt.of (by decide +kernel) rfl rfl (fun X B => ?_)
  show J G X mX8_row ((m, .inr (8, [.int fi, .ref (D 0), .long as, .int (nI ns), .ref (D 1), .ref (D 2), .ref (D 3), .ref (D 4), .ref (D 5), .ref (D 6), .ref (D 7), .ref (D 8), .int ii, .long de, .int dl, .int dp, .int dc, .ref (D 9), .int (nI nr), .ref (D 10), .ref (D 11), .ref (D 12), .ref (D 13), .ref (D 14), .int al, .int wa])) :: r) 0 0 0 [(0, .ref m), (1, .int num)] []
  refine J.aload_n 0 dX8_row_0 rfl ?_
  refine J.iload_n 1 dX8_row_1 rfl ?_
  refine J.callV 0 (st := []) B (c_X8_isStar l G _ (num := num) hns) ml_X8_80 mf_yX8_isStar mi_yX8_isStar rfl dX8_row_2 rfl rfl rfl rfl (fun v_1 w_2 hp_3 => ?_)
  obtain ⟨rfl, rfl⟩ := hp_3
  show J G X mX8_row _ _ _ 5 _ [.int (b01 (inR num 0 ((ns : Int) - 1)))]
  refine J.if_ne dX8_row_5 (fun z => absurd (by rw [hnum]; rfl) z) (fun h9 => ?_)
  refine J.iconst (-1 : Int32) dX8_row_8 rfl ?_
  exact J.iret B dX8_row_9 rfl (⟨rfl, rfl⟩)
set_option maxHeartbeats 4000000 in
set_option maxRecDepth 100000 in
theorem X8_row0_lp {l : Launch} {G : jG} {X : jX} {r : va_W} {m : Nat} {D : Nat → Nat} {fi : Int32} {as : Int64} {ns : Nat} {ii : Int32} {de : Int64} {dl dp dc : Int32} {nr : Nat} {al wa : Int32} {rr ml : Nat → Int32} {s : Nat} (B : jB l G X 2 43 0 0 (fun v w => v = some (.int 0) ∧ w = (m, .inr (8, [.int fi, .ref (D 0), .long as, .int (nI ns), .ref (D 1), .ref (D 2), .ref (D 3), .ref (D 4), .ref (D 5), .ref (D 6), .ref (D 7), .ref (D 8), .int ii, .long de, .int dl, .int dp, .int dc, .ref (D 9), .int (nI nr), .ref (D 10), .ref (D 11), .ref (D 12), .ref (D 13), .ref (D 14), .int al, .int wa])) :: (D 2, .inl (G.2.1.2.1, 12, .inl (upd rr s 1))) :: (D 3, .inl (G.2.1.1, 720, .inl (flM ml s 60))) :: r) "row") (k : Nat) (hs : s < 12) (hk : k ≤ 60) : J G X mX8_row ((m, .inr (8, [.int fi, .ref (D 0), .long as, .int (nI ns), .ref (D 1), .ref (D 2), .ref (D 3), .ref (D 4), .ref (D 5), .ref (D 6), .ref (D 7), .ref (D 8), .int ii, .long de, .int dl, .int dp, .int dc, .ref (D 9), .int (nI nr), .ref (D 10), .ref (D 11), .ref (D 12), .ref (D 13), .ref (D 14), .int al, .int wa])) :: (D 2, .inl (G.2.1.2.1, 12, .inl (upd rr s 1))) :: (D 3, .inl (G.2.1.1, 720, .inl (flM ml s k))) :: r) 0 0 34 [(0, .ref m), (1, .int (nI s)), (2, .int (0 : Int32)), (3, .int (nI k))] [] := by
  refine J.iload_n 3 dX8_row_34 rfl ?_
  refine J.bipush (60 : Int32) dX8_row_35 rfl ?_
  refine J.icmp_ge dX8_row_37 (fun h9 => ?_) (fun h9 => ?_)
  · skip
    have h9 : 60 ≤ k := (nI_leI (a := 60) (b := k) (by omega) (by omega)).mp h9
    have e : k = 60 := by omega
    subst e
    refine J.iload_n 2 dX8_row_59 rfl ?_
    exact J.iret B dX8_row_60 rfl (⟨rfl, rfl⟩)
  · skip
    have h9 : ¬ 60 ≤ k := fun z => h9 ((nI_leI (a := 60) (b := k) (by omega) (by omega)).mpr z)
    refine J.aload_n 0 dX8_row_40 rfl ?_
    refine J.get 0 fl_X8_20 dX8_row_41 rfl rfl ?_
    refine J.bipush (60 : Int32) dX8_row_44 rfl ?_
    refine J.iload_n 1 dX8_row_46 rfl ?_
    refine J.imul dX8_row_47 ?_
    refine J.topi (y := nI (60 * s)) (pk_mul 60 s) ?_
    refine J.iload_n 3 dX8_row_48 rfl ?_
    refine J.iadd dX8_row_49 ?_
    refine J.topi (y := nI ((60 * s) + k)) (nI_add (60 * s) k) ?_
    refine J.bipush (-9 : Int32) dX8_row_50 rfl ?_
    refine J.iast 2 ((60 * s) + k) dX8_row_52 rfl (rfl) (by omega) (by decide) (ws' := (m, .inr (8, [.int fi, .ref (D 0), .long as, .int (nI ns), .ref (D 1), .ref (D 2), .ref (D 3), .ref (D 4), .ref (D 5), .ref (D 6), .ref (D 7), .ref (D 8), .int ii, .long de, .int dl, .int dp, .int dc, .ref (D 9), .int (nI nr), .ref (D 10), .ref (D 11), .ref (D 12), .ref (D 13), .ref (D 14), .int al, .int wa])) :: (D 2, .inl (G.2.1.2.1, 12, .inl (upd rr s 1))) :: (D 3, .inl (G.2.1.1, 720, .inl (upd (flM ml s k) ((60 * s) + k) (-9 : Int32)))) :: r) rfl ?_
    rw [show upd (flM ml s k) ((60 * s) + k) (-9 : Int32) = flM ml s (k + 1) from flM_s _ _ _]
    refine J.iinc 3 [1, 2, 3, 0] (lv' := [(0, .ref m), (1, .int (nI s)), (2, .int (0 : Int32)), (3, .int (nI (k + 1)))]) dX8_row_53 rfl (jinc1 _) rfl rfl ?_
    refine J.goto dX8_row_56 ?_
    exact X8_row0_lp B (k + 1) hs (by omega)
termination_by 60 - k
decreasing_by all_goals omega
set_option maxHeartbeats 4000000 in
set_option maxRecDepth 100000 in
theorem r_row0 (l : Launch) (G : jG) (r : va_W) {m : Nat} {D : Nat → Nat} {fi : Int32} {as : Int64} {ns : Nat} {ii : Int32} {de : Int64} {dl dp dc : Int32} {nr : Nat} {al wa : Int32} {s : Nat} (hk : s < ns) (hns : ns ≤ 12) {rr : Nat → Int32} {ml : Nat → Int32} (hr : rr s = 0) : Mt l G yX8_row mX8_row 2 43 0 0 [.ref m, .int (nI s)] ((m, .inr (8, [.int fi, .ref (D 0), .long as, .int (nI ns), .ref (D 1), .ref (D 2), .ref (D 3), .ref (D 4), .ref (D 5), .ref (D 6), .ref (D 7), .ref (D 8), .int ii, .long de, .int dl, .int dp, .int dc, .ref (D 9), .int (nI nr), .ref (D 10), .ref (D 11), .ref (D 12), .ref (D 13), .ref (D 14), .int al, .int wa])) :: (D 2, .inl (G.2.1.2.1, 12, .inl rr)) :: (D 3, .inl (G.2.1.1, 720, .inl ml)) :: r) (fun v w => v = some (.int (0 : Int32)) ∧ w = (m, .inr (8, [.int fi, .ref (D 0), .long as, .int (nI ns), .ref (D 1), .ref (D 2), .ref (D 3), .ref (D 4), .ref (D 5), .ref (D 6), .ref (D 7), .ref (D 8), .int ii, .long de, .int dl, .int dp, .int dc, .ref (D 9), .int (nI nr), .ref (D 10), .ref (D 11), .ref (D 12), .ref (D 13), .ref (D 14), .int al, .int wa])) :: (D 2, .inl (G.2.1.2.1, 12, .inl (upd rr s 1))) :: (D 3, .inl (G.2.1.1, 720, .inl (flM ml s 60))) :: r) := by
  refine Mt.of (by decide +kernel) rfl rfl (fun X B => ?_)
  show J G X mX8_row ((m, .inr (8, [.int fi, .ref (D 0), .long as, .int (nI ns), .ref (D 1), .ref (D 2), .ref (D 3), .ref (D 4), .ref (D 5), .ref (D 6), .ref (D 7), .ref (D 8), .int ii, .long de, .int dl, .int dp, .int dc, .ref (D 9), .int (nI nr), .ref (D 10), .ref (D 11), .ref (D 12), .ref (D 13), .ref (D 14), .int al, .int wa])) :: (D 2, .inl (G.2.1.2.1, 12, .inl rr)) :: (D 3, .inl (G.2.1.1, 720, .inl ml)) :: r) 0 0 0 [(0, .ref m), (1, .int (nI s))] []
  have hs : s < 12 := by omega
  have hin : inR (nI s) 0 ((ns : Int) - 1) = true := by rw [nI_inR (by omega)]; exact decide_eq_true ⟨by omega, by omega⟩
  refine J.aload_n 0 dX8_row_0 rfl ?_
  refine J.iload_n 1 dX8_row_1 rfl ?_
  refine J.callV 0 (st := []) B (c_X8_isStar l G _ (num := nI s) hns) ml_X8_80 mf_yX8_isStar mi_yX8_isStar rfl dX8_row_2 rfl rfl rfl rfl (fun v_1 w_2 hp_3 => ?_)
  obtain ⟨rfl, rfl⟩ := hp_3
  show J G X mX8_row _ _ _ 5 _ [.int (b01 (inR (nI s) 0 ((ns : Int) - 1)))]
  refine J.if_ne dX8_row_5 (fun h9 => ?_) (fun z => absurd z (by rw [hin]; decide))
  refine J.aload_n 0 dX8_row_10 rfl ?_
  refine J.get 0 fl_X8_16 dX8_row_11 rfl rfl ?_
  refine J.iload_n 1 dX8_row_14 rfl ?_
  refine J.zald 1 (s) dX8_row_15 rfl (rfl) (by omega) (by decide) ?_
  refine J.if_eq dX8_row_16 (fun h8 => ?_) (fun z => absurd (hr) z)
  refine J.iconst (0 : Int32) dX8_row_23 rfl ?_
  refine J.istore_n [1, 2, 0] (lv' := [(0, .ref m), (1, .int (nI s)), (2, .int (0 : Int32))]) dX8_row_24 rfl rfl ?_
  refine J.aload_n 0 dX8_row_25 rfl ?_
  refine J.get 0 fl_X8_16 dX8_row_26 rfl rfl ?_
  refine J.iload_n 1 dX8_row_29 rfl ?_
  refine J.iconst (1 : Int32) dX8_row_30 rfl ?_
  refine J.zast 1 (s) dX8_row_31 rfl (rfl) (by omega) (by decide) (by decide) (ws' := (m, .inr (8, [.int fi, .ref (D 0), .long as, .int (nI ns), .ref (D 1), .ref (D 2), .ref (D 3), .ref (D 4), .ref (D 5), .ref (D 6), .ref (D 7), .ref (D 8), .int ii, .long de, .int dl, .int dp, .int dc, .ref (D 9), .int (nI nr), .ref (D 10), .ref (D 11), .ref (D 12), .ref (D 13), .ref (D 14), .int al, .int wa])) :: (D 2, .inl (G.2.1.2.1, 12, .inl (upd rr s (1 : Int32)))) :: (D 3, .inl (G.2.1.1, 720, .inl ml)) :: r) rfl ?_
  refine J.iconst (0 : Int32) dX8_row_32 rfl ?_
  refine J.istore_n [1, 2, 3, 0] (lv' := [(0, .ref m), (1, .int (nI s)), (2, .int (0 : Int32)), (3, .int (0 : Int32))]) dX8_row_33 rfl rfl ?_
  have hq9 := X8_row0_lp (rr := rr) (ml := ml) B 0 hs (by omega)
  rw [flM_0] at hq9
  exact hq9
set_option maxHeartbeats 4000000 in
set_option maxRecDepth 100000 in
theorem X8_row1_lp {l : Launch} {G : jG} {X : jX} {r : va_W} {m : Nat} {D : Nat → Nat} {fi : Int32} {as : Int64} {ns : Nat} {ii : Int32} {de : Int64} {dl dp dc : Int32} {nr : Nat} {al wa : Int32} {rr ml : Nat → Int32} {s : Nat} (B : jB l G X 2 43 0 0 (fun v w => v = some (.int 1) ∧ w = (m, .inr (8, [.int fi, .ref (D 0), .long as, .int (nI ns), .ref (D 1), .ref (D 2), .ref (D 3), .ref (D 4), .ref (D 5), .ref (D 6), .ref (D 7), .ref (D 8), .int ii, .long de, .int dl, .int dp, .int dc, .ref (D 9), .int (nI nr), .ref (D 10), .ref (D 11), .ref (D 12), .ref (D 13), .ref (D 14), .int al, .int wa])) :: (D 2, .inl (G.2.1.2.1, 12, .inl (upd rr s 1))) :: (D 3, .inl (G.2.1.1, 720, .inl (flM ml s 60))) :: r) "row") (k : Nat) (hs : s < 12) (hk : k ≤ 60) : J G X mX8_row ((m, .inr (8, [.int fi, .ref (D 0), .long as, .int (nI ns), .ref (D 1), .ref (D 2), .ref (D 3), .ref (D 4), .ref (D 5), .ref (D 6), .ref (D 7), .ref (D 8), .int ii, .long de, .int dl, .int dp, .int dc, .ref (D 9), .int (nI nr), .ref (D 10), .ref (D 11), .ref (D 12), .ref (D 13), .ref (D 14), .int al, .int wa])) :: (D 2, .inl (G.2.1.2.1, 12, .inl (upd rr s 1))) :: (D 3, .inl (G.2.1.1, 720, .inl (flM ml s k))) :: r) 0 0 34 [(0, .ref m), (1, .int (nI s)), (2, .int (1 : Int32)), (3, .int (nI k))] [] := by
  refine J.iload_n 3 dX8_row_34 rfl ?_
  refine J.bipush (60 : Int32) dX8_row_35 rfl ?_
  refine J.icmp_ge dX8_row_37 (fun h9 => ?_) (fun h9 => ?_)
  · skip
    have h9 : 60 ≤ k := (nI_leI (a := 60) (b := k) (by omega) (by omega)).mp h9
    have e : k = 60 := by omega
    subst e
    refine J.iload_n 2 dX8_row_59 rfl ?_
    exact J.iret B dX8_row_60 rfl (⟨rfl, rfl⟩)
  · skip
    have h9 : ¬ 60 ≤ k := fun z => h9 ((nI_leI (a := 60) (b := k) (by omega) (by omega)).mpr z)
    refine J.aload_n 0 dX8_row_40 rfl ?_
    refine J.get 0 fl_X8_20 dX8_row_41 rfl rfl ?_
    refine J.bipush (60 : Int32) dX8_row_44 rfl ?_
    refine J.iload_n 1 dX8_row_46 rfl ?_
    refine J.imul dX8_row_47 ?_
    refine J.topi (y := nI (60 * s)) (pk_mul 60 s) ?_
    refine J.iload_n 3 dX8_row_48 rfl ?_
    refine J.iadd dX8_row_49 ?_
    refine J.topi (y := nI ((60 * s) + k)) (nI_add (60 * s) k) ?_
    refine J.bipush (-9 : Int32) dX8_row_50 rfl ?_
    refine J.iast 2 ((60 * s) + k) dX8_row_52 rfl (rfl) (by omega) (by decide) (ws' := (m, .inr (8, [.int fi, .ref (D 0), .long as, .int (nI ns), .ref (D 1), .ref (D 2), .ref (D 3), .ref (D 4), .ref (D 5), .ref (D 6), .ref (D 7), .ref (D 8), .int ii, .long de, .int dl, .int dp, .int dc, .ref (D 9), .int (nI nr), .ref (D 10), .ref (D 11), .ref (D 12), .ref (D 13), .ref (D 14), .int al, .int wa])) :: (D 2, .inl (G.2.1.2.1, 12, .inl (upd rr s 1))) :: (D 3, .inl (G.2.1.1, 720, .inl (upd (flM ml s k) ((60 * s) + k) (-9 : Int32)))) :: r) rfl ?_
    rw [show upd (flM ml s k) ((60 * s) + k) (-9 : Int32) = flM ml s (k + 1) from flM_s _ _ _]
    refine J.iinc 3 [1, 2, 3, 0] (lv' := [(0, .ref m), (1, .int (nI s)), (2, .int (1 : Int32)), (3, .int (nI (k + 1)))]) dX8_row_53 rfl (jinc1 _) rfl rfl ?_
    refine J.goto dX8_row_56 ?_
    exact X8_row1_lp B (k + 1) hs (by omega)
termination_by 60 - k
decreasing_by all_goals omega
set_option maxHeartbeats 4000000 in
set_option maxRecDepth 100000 in
theorem r_row1 (l : Launch) (G : jG) (r : va_W) {m : Nat} {D : Nat → Nat} {fi : Int32} {as : Int64} {ns : Nat} {ii : Int32} {de : Int64} {dl dp dc : Int32} {nr : Nat} {al wa : Int32} {s : Nat} (hk : s < ns) (hns : ns ≤ 12) {rr : Nat → Int32} {ml : Nat → Int32} (hr : ¬ rr s = 0) : Mt l G yX8_row mX8_row 2 43 0 0 [.ref m, .int (nI s)] ((m, .inr (8, [.int fi, .ref (D 0), .long as, .int (nI ns), .ref (D 1), .ref (D 2), .ref (D 3), .ref (D 4), .ref (D 5), .ref (D 6), .ref (D 7), .ref (D 8), .int ii, .long de, .int dl, .int dp, .int dc, .ref (D 9), .int (nI nr), .ref (D 10), .ref (D 11), .ref (D 12), .ref (D 13), .ref (D 14), .int al, .int wa])) :: (D 2, .inl (G.2.1.2.1, 12, .inl rr)) :: (D 3, .inl (G.2.1.1, 720, .inl ml)) :: r) (fun v w => v = some (.int (1 : Int32)) ∧ w = (m, .inr (8, [.int fi, .ref (D 0), .long as, .int (nI ns), .ref (D 1), .ref (D 2), .ref (D 3), .ref (D 4), .ref (D 5), .ref (D 6), .ref (D 7), .ref (D 8), .int ii, .long de, .int dl, .int dp, .int dc, .ref (D 9), .int (nI nr), .ref (D 10), .ref (D 11), .ref (D 12), .ref (D 13), .ref (D 14), .int al, .int wa])) :: (D 2, .inl (G.2.1.2.1, 12, .inl (upd rr s 1))) :: (D 3, .inl (G.2.1.1, 720, .inl (flM ml s 60))) :: r) := by
  refine Mt.of (by decide +kernel) rfl rfl (fun X B => ?_)
  show J G X mX8_row ((m, .inr (8, [.int fi, .ref (D 0), .long as, .int (nI ns), .ref (D 1), .ref (D 2), .ref (D 3), .ref (D 4), .ref (D 5), .ref (D 6), .ref (D 7), .ref (D 8), .int ii, .long de, .int dl, .int dp, .int dc, .ref (D 9), .int (nI nr), .ref (D 10), .ref (D 11), .ref (D 12), .ref (D 13), .ref (D 14), .int al, .int wa])) :: (D 2, .inl (G.2.1.2.1, 12, .inl rr)) :: (D 3, .inl (G.2.1.1, 720, .inl ml)) :: r) 0 0 0 [(0, .ref m), (1, .int (nI s))] []
  have hs : s < 12 := by omega
  have hin : inR (nI s) 0 ((ns : Int) - 1) = true := by rw [nI_inR (by omega)]; exact decide_eq_true ⟨by omega, by omega⟩
  refine J.aload_n 0 dX8_row_0 rfl ?_
  refine J.iload_n 1 dX8_row_1 rfl ?_
  refine J.callV 0 (st := []) B (c_X8_isStar l G _ (num := nI s) hns) ml_X8_80 mf_yX8_isStar mi_yX8_isStar rfl dX8_row_2 rfl rfl rfl rfl (fun v_1 w_2 hp_3 => ?_)
  obtain ⟨rfl, rfl⟩ := hp_3
  show J G X mX8_row _ _ _ 5 _ [.int (b01 (inR (nI s) 0 ((ns : Int) - 1)))]
  refine J.if_ne dX8_row_5 (fun h9 => ?_) (fun z => absurd z (by rw [hin]; decide))
  refine J.aload_n 0 dX8_row_10 rfl ?_
  refine J.get 0 fl_X8_16 dX8_row_11 rfl rfl ?_
  refine J.iload_n 1 dX8_row_14 rfl ?_
  refine J.zald 1 (s) dX8_row_15 rfl (rfl) (by omega) (by decide) ?_
  refine J.if_eq dX8_row_16 (fun z => absurd z (hr)) (fun h8 => ?_)
  refine J.iconst (1 : Int32) dX8_row_19 rfl ?_
  refine J.goto dX8_row_20 ?_
  refine J.istore_n [1, 2, 0] (lv' := [(0, .ref m), (1, .int (nI s)), (2, .int (1 : Int32))]) dX8_row_24 rfl rfl ?_
  refine J.aload_n 0 dX8_row_25 rfl ?_
  refine J.get 0 fl_X8_16 dX8_row_26 rfl rfl ?_
  refine J.iload_n 1 dX8_row_29 rfl ?_
  refine J.iconst (1 : Int32) dX8_row_30 rfl ?_
  refine J.zast 1 (s) dX8_row_31 rfl (rfl) (by omega) (by decide) (by decide) (ws' := (m, .inr (8, [.int fi, .ref (D 0), .long as, .int (nI ns), .ref (D 1), .ref (D 2), .ref (D 3), .ref (D 4), .ref (D 5), .ref (D 6), .ref (D 7), .ref (D 8), .int ii, .long de, .int dl, .int dp, .int dc, .ref (D 9), .int (nI nr), .ref (D 10), .ref (D 11), .ref (D 12), .ref (D 13), .ref (D 14), .int al, .int wa])) :: (D 2, .inl (G.2.1.2.1, 12, .inl (upd rr s (1 : Int32)))) :: (D 3, .inl (G.2.1.1, 720, .inl ml)) :: r) rfl ?_
  refine J.iconst (0 : Int32) dX8_row_32 rfl ?_
  refine J.istore_n [1, 2, 3, 0] (lv' := [(0, .ref m), (1, .int (nI s)), (2, .int (1 : Int32)), (3, .int (0 : Int32))]) dX8_row_33 rfl rfl ?_
  have hq9 := X8_row1_lp (rr := rr) (ml := ml) B 0 hs (by omega)
  rw [flM_0] at hq9
  exact hq9
set_option maxHeartbeats 4000000 in
set_option maxRecDepth 100000 in
theorem r_tear_bad (l : Launch) (G : jG) (r : va_W) {m : Nat} {D : Nat → Nat} {fi : Int32} {as : Int64} {ns : Nat} {ii : Int32} {de : Int64} {dl dp dc : Int32} {nr : Nat} {al wa : Int32} {rr : Nat → Int32} {num : Int32} (hns : ns ≤ 12) (hnum : inR num 0 ((ns : Int) - 1) = false) : Mt l G yX8_tear mX8_tear 3 64 0 0 [.ref m, .int num] ((m, .inr (8, [.int fi, .ref (D 0), .long as, .int (nI ns), .ref (D 1), .ref (D 2), .ref (D 3), .ref (D 4), .ref (D 5), .ref (D 6), .ref (D 7), .ref (D 8), .int ii, .long de, .int dl, .int dp, .int dc, .ref (D 9), .int (nI nr), .ref (D 10), .ref (D 11), .ref (D 12), .ref (D 13), .ref (D 14), .int al, .int wa])) :: (D 2, .inl (G.2.1.2.1, 12, .inl rr)) :: r) (fun v w => v = some (.int (-1 : Int32)) ∧ w = (m, .inr (8, [.int fi, .ref (D 0), .long as, .int (nI ns), .ref (D 1), .ref (D 2), .ref (D 3), .ref (D 4), .ref (D 5), .ref (D 6), .ref (D 7), .ref (D 8), .int ii, .long de, .int dl, .int dp, .int dc, .ref (D 9), .int (nI nr), .ref (D 10), .ref (D 11), .ref (D 12), .ref (D 13), .ref (D 14), .int al, .int wa])) :: (D 2, .inl (G.2.1.2.1, 12, .inl rr)) :: r) := by
  refine Mt.of (by decide +kernel) rfl rfl (fun X B => ?_)
  show J G X mX8_tear ((m, .inr (8, [.int fi, .ref (D 0), .long as, .int (nI ns), .ref (D 1), .ref (D 2), .ref (D 3), .ref (D 4), .ref (D 5), .ref (D 6), .ref (D 7), .ref (D 8), .int ii, .long de, .int dl, .int dp, .int dc, .ref (D 9), .int (nI nr), .ref (D 10), .ref (D 11), .ref (D 12), .ref (D 13), .ref (D 14), .int al, .int wa])) :: (D 2, .inl (G.2.1.2.1, 12, .inl rr)) :: r) 0 0 0 [(0, .ref m), (1, .int num)] []
  refine J.aload_n 0 dX8_tear_0 rfl ?_
  refine J.iload_n 1 dX8_tear_1 rfl ?_
  refine J.callV 0 (st := []) B (c_X8_looked_bad l G _ hns hnum) ml_X8_108 mf_yX8_looked mi_yX8_looked rfl dX8_tear_2 rfl rfl rfl rfl (fun v_1 w_2 hp_3 => ?_)
  obtain ⟨rfl, rfl⟩ := hp_3
  show J G X mX8_tear _ _ _ 5 _ [.int (-1 : Int32)]
  refine J.istore_n [1, 2, 0] (lv' := [(0, .ref m), (1, .int num), (2, .int (-1 : Int32))]) dX8_tear_5 rfl rfl ?_
  refine J.iload_n 2 dX8_tear_6 rfl ?_
  refine J.if_ge dX8_tear_7 (fun z => absurd z (by decide)) (fun _ => ?_)
  refine J.iload_n 2 dX8_tear_10 rfl ?_
  exact J.iret B dX8_tear_11 rfl (⟨rfl, rfl⟩)
set_option maxHeartbeats 4000000 in
set_option maxRecDepth 100000 in
theorem r_tear_no (l : Launch) (G : jG) (r : va_W) {m : Nat} {D : Nat → Nat} {fi : Int32} {as : Int64} {ns : Nat} {ii : Int32} {de : Int64} {dl dp dc : Int32} {nr : Nat} {al wa : Int32} {rr : Nat → Int32} {s : Nat} (hk : s < ns) (hns : ns ≤ 12) {fc : Nat → Int32} (hr : rr s = 0) : Mt l G yX8_tear mX8_tear 3 64 0 0 [.ref m, .int (nI s)] ((m, .inr (8, [.int fi, .ref (D 0), .long as, .int (nI ns), .ref (D 1), .ref (D 2), .ref (D 3), .ref (D 4), .ref (D 5), .ref (D 6), .ref (D 7), .ref (D 8), .int ii, .long de, .int dl, .int dp, .int dc, .ref (D 9), .int (nI nr), .ref (D 10), .ref (D 11), .ref (D 12), .ref (D 13), .ref (D 14), .int al, .int wa])) :: (D 2, .inl (G.2.1.2.1, 12, .inl rr)) :: (D 0, .inl (G.2.1.1, 6, .inl fc)) :: r) (fun v w => v = some (.int (-3 : Int32)) ∧ w = (m, .inr (8, [.int (nI 1), .ref (D 0), .long as, .int (nI ns), .ref (D 1), .ref (D 2), .ref (D 3), .ref (D 4), .ref (D 5), .ref (D 6), .ref (D 7), .ref (D 8), .int ii, .long de, .int dl, .int dp, .int dc, .ref (D 9), .int (nI nr), .ref (D 10), .ref (D 11), .ref (D 12), .ref (D 13), .ref (D 14), .int al, .int wa])) :: (D 2, .inl (G.2.1.2.1, 12, .inl rr)) :: (D 0, .inl (G.2.1.1, 6, .inl (upd fc 1 (fc 1 + 1)))) :: r) := by
  refine Mt.of (by decide +kernel) rfl rfl (fun X B => ?_)
  show J G X mX8_tear ((m, .inr (8, [.int fi, .ref (D 0), .long as, .int (nI ns), .ref (D 1), .ref (D 2), .ref (D 3), .ref (D 4), .ref (D 5), .ref (D 6), .ref (D 7), .ref (D 8), .int ii, .long de, .int dl, .int dp, .int dc, .ref (D 9), .int (nI nr), .ref (D 10), .ref (D 11), .ref (D 12), .ref (D 13), .ref (D 14), .int al, .int wa])) :: (D 2, .inl (G.2.1.2.1, 12, .inl rr)) :: (D 0, .inl (G.2.1.1, 6, .inl fc)) :: r) 0 0 0 [(0, .ref m), (1, .int (nI s))] []
  refine J.aload_n 0 dX8_tear_0 rfl ?_
  refine J.iload_n 1 dX8_tear_1 rfl ?_
  refine J.callV 0 (st := []) B (c_X8_looked_no l G _ (k := s) hk hns hr) ml_X8_108 mf_yX8_looked mi_yX8_looked rfl dX8_tear_2 rfl rfl rfl rfl (fun v_1 w_2 hp_3 => ?_)
  obtain ⟨rfl, rfl⟩ := hp_3
  show J G X mX8_tear _ _ _ 5 _ [.int (-3 : Int32)]
  refine J.istore_n [1, 2, 0] (lv' := [(0, .ref m), (1, .int (nI s)), (2, .int (-3 : Int32))]) dX8_tear_5 rfl rfl ?_
  refine J.iload_n 2 dX8_tear_6 rfl ?_
  refine J.if_ge dX8_tear_7 (fun z => absurd z (by decide)) (fun _ => ?_)
  refine J.iload_n 2 dX8_tear_10 rfl ?_
  exact J.iret B dX8_tear_11 rfl (⟨rfl, rfl⟩)
set_option maxHeartbeats 4000000 in
set_option maxRecDepth 100000 in
theorem r_tear (l : Launch) (G : jG) (r : va_W) {m : Nat} {D : Nat → Nat} {fi : Int32} {as : Int64} {ns : Nat} {ii : Int32} {de : Int64} {dl dp dc : Int32} {nr : Nat} {al wa : Int32} {rr : Nat → Int32} {s : Nat} (hk : s < ns) (hns : ns ≤ 12) (hr : ¬ rr s = 0) : Mt l G yX8_tear mX8_tear 3 64 0 0 [.ref m, .int (nI s)] ((m, .inr (8, [.int fi, .ref (D 0), .long as, .int (nI ns), .ref (D 1), .ref (D 2), .ref (D 3), .ref (D 4), .ref (D 5), .ref (D 6), .ref (D 7), .ref (D 8), .int ii, .long de, .int dl, .int dp, .int dc, .ref (D 9), .int (nI nr), .ref (D 10), .ref (D 11), .ref (D 12), .ref (D 13), .ref (D 14), .int al, .int wa])) :: (D 2, .inl (G.2.1.2.1, 12, .inl rr)) :: r) (fun v w => v = some (.int (1 : Int32)) ∧ w = (m, .inr (8, [.int fi, .ref (D 0), .long as, .int (nI ns), .ref (D 1), .ref (D 2), .ref (D 3), .ref (D 4), .ref (D 5), .ref (D 6), .ref (D 7), .ref (D 8), .int ii, .long de, .int dl, .int dp, .int dc, .ref (D 9), .int (nI nr), .ref (D 10), .ref (D 11), .ref (D 12), .ref (D 13), .ref (D 14), .int al, .int wa])) :: (D 2, .inl (G.2.1.2.1, 12, .inl (upd rr s 0))) :: r) := by
  refine Mt.of (by decide +kernel) rfl rfl (fun X B => ?_)
  show J G X mX8_tear ((m, .inr (8, [.int fi, .ref (D 0), .long as, .int (nI ns), .ref (D 1), .ref (D 2), .ref (D 3), .ref (D 4), .ref (D 5), .ref (D 6), .ref (D 7), .ref (D 8), .int ii, .long de, .int dl, .int dp, .int dc, .ref (D 9), .int (nI nr), .ref (D 10), .ref (D 11), .ref (D 12), .ref (D 13), .ref (D 14), .int al, .int wa])) :: (D 2, .inl (G.2.1.2.1, 12, .inl rr)) :: r) 0 0 0 [(0, .ref m), (1, .int (nI s))] []
  have hs : s < 12 := by omega
  refine J.aload_n 0 dX8_tear_0 rfl ?_
  refine J.iload_n 1 dX8_tear_1 rfl ?_
  refine J.callV 0 (st := []) B (c_X8_looked l G _ (k := s) hk hns hr) ml_X8_108 mf_yX8_looked mi_yX8_looked rfl dX8_tear_2 rfl rfl rfl rfl (fun v_1 w_2 hp_3 => ?_)
  obtain ⟨rfl, rfl⟩ := hp_3
  show J G X mX8_tear _ _ _ 5 _ [.int (0 : Int32)]
  refine J.istore_n [1, 2, 0] (lv' := [(0, .ref m), (1, .int (nI s)), (2, .int (0 : Int32))]) dX8_tear_5 rfl rfl ?_
  refine J.iload_n 2 dX8_tear_6 rfl ?_
  refine J.if_ge dX8_tear_7 (fun _ => ?_) (fun z => absurd z (by decide))
  refine J.aload_n 0 dX8_tear_12 rfl ?_
  refine J.get 0 fl_X8_16 dX8_tear_13 rfl rfl ?_
  refine J.iload_n 1 dX8_tear_16 rfl ?_
  refine J.iconst (0 : Int32) dX8_tear_17 rfl ?_
  refine J.zast 1 (s) dX8_tear_18 rfl (rfl) (by omega) (by decide) (by decide) (ws' := (m, .inr (8, [.int fi, .ref (D 0), .long as, .int (nI ns), .ref (D 1), .ref (D 2), .ref (D 3), .ref (D 4), .ref (D 5), .ref (D 6), .ref (D 7), .ref (D 8), .int ii, .long de, .int dl, .int dp, .int dc, .ref (D 9), .int (nI nr), .ref (D 10), .ref (D 11), .ref (D 12), .ref (D 13), .ref (D 14), .int al, .int wa])) :: (D 2, .inl (G.2.1.2.1, 12, .inl (upd rr s (0 : Int32)))) :: r) rfl ?_
  refine J.iconst (1 : Int32) dX8_tear_19 rfl ?_
  exact J.iret B dX8_tear_20 rfl (⟨rfl, rfl⟩)
set_option maxHeartbeats 4000000 in
set_option maxRecDepth 100000 in
theorem r_lay_v (l : Launch) (G : jG) (r : va_W) {m : Nat} {D : Nat → Nat} {fi : Int32} {as : Int64} {ns : Nat} {ii : Int32} {de : Int64} {dl dp dc : Int32} {nr : Nat} {al wa : Int32} {num nt v0 : Int32} (hv1 : ¬ v0 = -9) (hv2 : inR v0 0 10000 = false) : Mt l G yX8_lay mX8_lay 3 64 0 0 [.ref m, .int num, .int nt, .int v0] ((m, .inr (8, [.int fi, .ref (D 0), .long as, .int (nI ns), .ref (D 1), .ref (D 2), .ref (D 3), .ref (D 4), .ref (D 5), .ref (D 6), .ref (D 7), .ref (D 8), .int ii, .long de, .int dl, .int dp, .int dc, .ref (D 9), .int (nI nr), .ref (D 10), .ref (D 11), .ref (D 12), .ref (D 13), .ref (D 14), .int al, .int wa])) :: r) (fun v w => v = some (.int (-1 : Int32)) ∧ w = (m, .inr (8, [.int fi, .ref (D 0), .long as, .int (nI ns), .ref (D 1), .ref (D 2), .ref (D 3), .ref (D 4), .ref (D 5), .ref (D 6), .ref (D 7), .ref (D 8), .int ii, .long de, .int dl, .int dp, .int dc, .ref (D 9), .int (nI nr), .ref (D 10), .ref (D 11), .ref (D 12), .ref (D 13), .ref (D 14), .int al, .int wa])) :: r) := by
  refine Mt.of (by decide +kernel) rfl rfl (fun X B => ?_)
  show J G X mX8_lay ((m, .inr (8, [.int fi, .ref (D 0), .long as, .int (nI ns), .ref (D 1), .ref (D 2), .ref (D 3), .ref (D 4), .ref (D 5), .ref (D 6), .ref (D 7), .ref (D 8), .int ii, .long de, .int dl, .int dp, .int dc, .ref (D 9), .int (nI nr), .ref (D 10), .ref (D 11), .ref (D 12), .ref (D 13), .ref (D 14), .int al, .int wa])) :: r) 0 0 0 [(0, .ref m), (1, .int num), (2, .int nt), (3, .int v0)] []
  refine J.iload_n 3 dX8_lay_0 rfl ?_
  refine J.bipush (-9 : Int32) dX8_lay_1 rfl ?_
  refine J.icmp_eq dX8_lay_3 (fun z => absurd z (hv1)) (fun h9 => ?_)
  refine J.iload_n 3 dX8_lay_6 rfl ?_
  refine J.iconst (0 : Int32) dX8_lay_7 rfl ?_
  refine J.sipush (10000 : Int32) dX8_lay_8 rfl ?_
  refine J.callS (st := []) B (c_X8_in l G _ (v := v0) (lo := (0 : Int32)) (hi := (10000 : Int32)) (a := 0) (b := 10000) rfl rfl) ml_X8_76 mf_yX8_in mS_yX8_in dX8_lay_11 rfl rfl rfl (fun v_1 w_2 hp_3 => ?_)
  obtain ⟨rfl, rfl⟩ := hp_3
  show J G X mX8_lay _ _ _ 14 _ [.int (b01 (inR v0 0 10000))]
  refine J.if_ne dX8_lay_14 (fun z => absurd (by rw [hv2]; rfl) z) (fun h9 => ?_)
  refine J.iconst (-1 : Int32) dX8_lay_17 rfl ?_
  exact J.iret B dX8_lay_18 rfl (⟨rfl, rfl⟩)
set_option maxHeartbeats 4000000 in
set_option maxRecDepth 100000 in
theorem r_lay_bad (l : Launch) (G : jG) (r : va_W) {m : Nat} {D : Nat → Nat} {fi : Int32} {as : Int64} {ns : Nat} {ii : Int32} {de : Int64} {dl dp dc : Int32} {nr : Nat} {al wa : Int32} {rr : Nat → Int32} {num : Int32} (hns : ns ≤ 12) (hnum : inR num 0 ((ns : Int) - 1) = false) {v0 : Int32} (hv : v0 = -9 ∨ inR v0 0 10000 = true) {nt : Int32} : Mt l G yX8_lay mX8_lay 3 64 0 0 [.ref m, .int num, .int nt, .int v0] ((m, .inr (8, [.int fi, .ref (D 0), .long as, .int (nI ns), .ref (D 1), .ref (D 2), .ref (D 3), .ref (D 4), .ref (D 5), .ref (D 6), .ref (D 7), .ref (D 8), .int ii, .long de, .int dl, .int dp, .int dc, .ref (D 9), .int (nI nr), .ref (D 10), .ref (D 11), .ref (D 12), .ref (D 13), .ref (D 14), .int al, .int wa])) :: (D 2, .inl (G.2.1.2.1, 12, .inl rr)) :: r) (fun v w => v = some (.int (-1 : Int32)) ∧ w = (m, .inr (8, [.int fi, .ref (D 0), .long as, .int (nI ns), .ref (D 1), .ref (D 2), .ref (D 3), .ref (D 4), .ref (D 5), .ref (D 6), .ref (D 7), .ref (D 8), .int ii, .long de, .int dl, .int dp, .int dc, .ref (D 9), .int (nI nr), .ref (D 10), .ref (D 11), .ref (D 12), .ref (D 13), .ref (D 14), .int al, .int wa])) :: (D 2, .inl (G.2.1.2.1, 12, .inl rr)) :: r) := by
  refine Mt.of (by decide +kernel) rfl rfl (fun X B => ?_)
  show J G X mX8_lay ((m, .inr (8, [.int fi, .ref (D 0), .long as, .int (nI ns), .ref (D 1), .ref (D 2), .ref (D 3), .ref (D 4), .ref (D 5), .ref (D 6), .ref (D 7), .ref (D 8), .int ii, .long de, .int dl, .int dp, .int dc, .ref (D 9), .int (nI nr), .ref (D 10), .ref (D 11), .ref (D 12), .ref (D 13), .ref (D 14), .int al, .int wa])) :: (D 2, .inl (G.2.1.2.1, 12, .inl rr)) :: r) 0 0 0 [(0, .ref m), (1, .int num), (2, .int nt), (3, .int v0)] []
  refine J.iload_n 3 dX8_lay_0 rfl ?_
  refine J.bipush (-9 : Int32) dX8_lay_1 rfl ?_
  refine J.icmp_eq dX8_lay_3 (fun h9 => ?_) (fun h9 => ?_)
  · skip
    refine J.aload_n 0 dX8_lay_19 rfl ?_
    refine J.iload_n 1 dX8_lay_20 rfl ?_
    refine J.callV 0 (st := []) B (c_X8_looked_bad l G _ hns hnum) ml_X8_108 mf_yX8_looked mi_yX8_looked rfl dX8_lay_21 rfl rfl rfl rfl (fun v_1 w_2 hp_3 => ?_)
    obtain ⟨rfl, rfl⟩ := hp_3
    show J G X mX8_lay _ _ _ 24 _ [.int (-1 : Int32)]
    refine J.istore [1, 2, 3, 4, 0] (lv' := [(0, .ref m), (1, .int num), (2, .int nt), (3, .int v0), (4, .int (-1 : Int32))]) dX8_lay_24 rfl rfl ?_
    refine J.iload 4 dX8_lay_26 rfl ?_
    refine J.if_ge dX8_lay_28 (fun z => absurd z (by decide)) (fun _ => ?_)
    refine J.iload 4 dX8_lay_31 rfl ?_
    exact J.iret B dX8_lay_33 rfl (⟨rfl, rfl⟩)
  · skip
    refine J.iload_n 3 dX8_lay_6 rfl ?_
    refine J.iconst (0 : Int32) dX8_lay_7 rfl ?_
    refine J.sipush (10000 : Int32) dX8_lay_8 rfl ?_
    refine J.callS (st := []) B (c_X8_in l G _ (v := v0) (lo := (0 : Int32)) (hi := (10000 : Int32)) (a := 0) (b := 10000) rfl rfl) ml_X8_76 mf_yX8_in mS_yX8_in dX8_lay_11 rfl rfl rfl (fun v_4 w_5 hp_6 => ?_)
    obtain ⟨rfl, rfl⟩ := hp_6
    show J G X mX8_lay _ _ _ 14 _ [.int (b01 (inR v0 0 10000))]
    refine J.if_ne dX8_lay_14 (fun h8 => ?_) (fun z => absurd z (by rw [hv.resolve_left h9]; decide))
    refine J.aload_n 0 dX8_lay_19 rfl ?_
    refine J.iload_n 1 dX8_lay_20 rfl ?_
    refine J.callV 0 (st := []) B (c_X8_looked_bad l G _ hns hnum) ml_X8_108 mf_yX8_looked mi_yX8_looked rfl dX8_lay_21 rfl rfl rfl rfl (fun v_7 w_8 hp_9 => ?_)
    obtain ⟨rfl, rfl⟩ := hp_9
    show J G X mX8_lay _ _ _ 24 _ [.int (-1 : Int32)]
    refine J.istore [1, 2, 3, 4, 0] (lv' := [(0, .ref m), (1, .int num), (2, .int nt), (3, .int v0), (4, .int (-1 : Int32))]) dX8_lay_24 rfl rfl ?_
    refine J.iload 4 dX8_lay_26 rfl ?_
    refine J.if_ge dX8_lay_28 (fun z => absurd z (by decide)) (fun _ => ?_)
    refine J.iload 4 dX8_lay_31 rfl ?_
    exact J.iret B dX8_lay_33 rfl (⟨rfl, rfl⟩)
set_option maxHeartbeats 4000000 in
set_option maxRecDepth 100000 in
theorem r_lay_no (l : Launch) (G : jG) (r : va_W) {m : Nat} {D : Nat → Nat} {fi : Int32} {as : Int64} {ns : Nat} {ii : Int32} {de : Int64} {dl dp dc : Int32} {nr : Nat} {al wa : Int32} {rr : Nat → Int32} {s : Nat} (hk : s < ns) (hns : ns ≤ 12) {fc : Nat → Int32} (hr : rr s = 0) {v0 : Int32} (hv : v0 = -9 ∨ inR v0 0 10000 = true) {nt : Int32} : Mt l G yX8_lay mX8_lay 3 64 0 0 [.ref m, .int (nI s), .int nt, .int v0] ((m, .inr (8, [.int fi, .ref (D 0), .long as, .int (nI ns), .ref (D 1), .ref (D 2), .ref (D 3), .ref (D 4), .ref (D 5), .ref (D 6), .ref (D 7), .ref (D 8), .int ii, .long de, .int dl, .int dp, .int dc, .ref (D 9), .int (nI nr), .ref (D 10), .ref (D 11), .ref (D 12), .ref (D 13), .ref (D 14), .int al, .int wa])) :: (D 2, .inl (G.2.1.2.1, 12, .inl rr)) :: (D 0, .inl (G.2.1.1, 6, .inl fc)) :: r) (fun v w => v = some (.int (-3 : Int32)) ∧ w = (m, .inr (8, [.int (nI 1), .ref (D 0), .long as, .int (nI ns), .ref (D 1), .ref (D 2), .ref (D 3), .ref (D 4), .ref (D 5), .ref (D 6), .ref (D 7), .ref (D 8), .int ii, .long de, .int dl, .int dp, .int dc, .ref (D 9), .int (nI nr), .ref (D 10), .ref (D 11), .ref (D 12), .ref (D 13), .ref (D 14), .int al, .int wa])) :: (D 2, .inl (G.2.1.2.1, 12, .inl rr)) :: (D 0, .inl (G.2.1.1, 6, .inl (upd fc 1 (fc 1 + 1)))) :: r) := by
  refine Mt.of (by decide +kernel) rfl rfl (fun X B => ?_)
  show J G X mX8_lay ((m, .inr (8, [.int fi, .ref (D 0), .long as, .int (nI ns), .ref (D 1), .ref (D 2), .ref (D 3), .ref (D 4), .ref (D 5), .ref (D 6), .ref (D 7), .ref (D 8), .int ii, .long de, .int dl, .int dp, .int dc, .ref (D 9), .int (nI nr), .ref (D 10), .ref (D 11), .ref (D 12), .ref (D 13), .ref (D 14), .int al, .int wa])) :: (D 2, .inl (G.2.1.2.1, 12, .inl rr)) :: (D 0, .inl (G.2.1.1, 6, .inl fc)) :: r) 0 0 0 [(0, .ref m), (1, .int (nI s)), (2, .int nt), (3, .int v0)] []
  refine J.iload_n 3 dX8_lay_0 rfl ?_
  refine J.bipush (-9 : Int32) dX8_lay_1 rfl ?_
  refine J.icmp_eq dX8_lay_3 (fun h9 => ?_) (fun h9 => ?_)
  · skip
    refine J.aload_n 0 dX8_lay_19 rfl ?_
    refine J.iload_n 1 dX8_lay_20 rfl ?_
    refine J.callV 0 (st := []) B (c_X8_looked_no l G _ (k := s) hk hns hr) ml_X8_108 mf_yX8_looked mi_yX8_looked rfl dX8_lay_21 rfl rfl rfl rfl (fun v_1 w_2 hp_3 => ?_)
    obtain ⟨rfl, rfl⟩ := hp_3
    show J G X mX8_lay _ _ _ 24 _ [.int (-3 : Int32)]
    refine J.istore [1, 2, 3, 4, 0] (lv' := [(0, .ref m), (1, .int (nI s)), (2, .int nt), (3, .int v0), (4, .int (-3 : Int32))]) dX8_lay_24 rfl rfl ?_
    refine J.iload 4 dX8_lay_26 rfl ?_
    refine J.if_ge dX8_lay_28 (fun z => absurd z (by decide)) (fun _ => ?_)
    refine J.iload 4 dX8_lay_31 rfl ?_
    exact J.iret B dX8_lay_33 rfl (⟨rfl, rfl⟩)
  · skip
    refine J.iload_n 3 dX8_lay_6 rfl ?_
    refine J.iconst (0 : Int32) dX8_lay_7 rfl ?_
    refine J.sipush (10000 : Int32) dX8_lay_8 rfl ?_
    refine J.callS (st := []) B (c_X8_in l G _ (v := v0) (lo := (0 : Int32)) (hi := (10000 : Int32)) (a := 0) (b := 10000) rfl rfl) ml_X8_76 mf_yX8_in mS_yX8_in dX8_lay_11 rfl rfl rfl (fun v_4 w_5 hp_6 => ?_)
    obtain ⟨rfl, rfl⟩ := hp_6
    show J G X mX8_lay _ _ _ 14 _ [.int (b01 (inR v0 0 10000))]
    refine J.if_ne dX8_lay_14 (fun h8 => ?_) (fun z => absurd z (by rw [hv.resolve_left h9]; decide))
    refine J.aload_n 0 dX8_lay_19 rfl ?_
    refine J.iload_n 1 dX8_lay_20 rfl ?_
    refine J.callV 0 (st := []) B (c_X8_looked_no l G _ (k := s) hk hns hr) ml_X8_108 mf_yX8_looked mi_yX8_looked rfl dX8_lay_21 rfl rfl rfl rfl (fun v_7 w_8 hp_9 => ?_)
    obtain ⟨rfl, rfl⟩ := hp_9
    show J G X mX8_lay _ _ _ 24 _ [.int (-3 : Int32)]
    refine J.istore [1, 2, 3, 4, 0] (lv' := [(0, .ref m), (1, .int (nI s)), (2, .int nt), (3, .int v0), (4, .int (-3 : Int32))]) dX8_lay_24 rfl rfl ?_
    refine J.iload 4 dX8_lay_26 rfl ?_
    refine J.if_ge dX8_lay_28 (fun z => absurd z (by decide)) (fun _ => ?_)
    refine J.iload 4 dX8_lay_31 rfl ?_
    exact J.iret B dX8_lay_33 rfl (⟨rfl, rfl⟩)
set_option maxHeartbeats 4000000 in
set_option maxRecDepth 100000 in
theorem r_lay_by (l : Launch) (G : jG) (r : va_W) {m : Nat} {D : Nat → Nat} {fi : Int32} {as : Int64} {ns : Nat} {ii : Int32} {de : Int64} {dl dp dc : Int32} {nr : Nat} {al wa : Int32} {rr : Nat → Int32} {s : Nat} (hk : s < ns) (hns : ns ≤ 12) {fc : Nat → Int32} (hr : ¬ rr s = 0) {v0 : Int32} (hv : v0 = -9 ∨ inR v0 0 10000 = true) {nt : Int32} (hnt : inR nt 0 59 = false) : Mt l G yX8_lay mX8_lay 3 64 0 0 [.ref m, .int (nI s), .int nt, .int v0] ((m, .inr (8, [.int fi, .ref (D 0), .long as, .int (nI ns), .ref (D 1), .ref (D 2), .ref (D 3), .ref (D 4), .ref (D 5), .ref (D 6), .ref (D 7), .ref (D 8), .int ii, .long de, .int dl, .int dp, .int dc, .ref (D 9), .int (nI nr), .ref (D 10), .ref (D 11), .ref (D 12), .ref (D 13), .ref (D 14), .int al, .int wa])) :: (D 2, .inl (G.2.1.2.1, 12, .inl rr)) :: (D 0, .inl (G.2.1.1, 6, .inl fc)) :: r) (fun v w => v = some (.int (-3 : Int32)) ∧ w = (m, .inr (8, [.int (nI 2), .ref (D 0), .long as, .int (nI ns), .ref (D 1), .ref (D 2), .ref (D 3), .ref (D 4), .ref (D 5), .ref (D 6), .ref (D 7), .ref (D 8), .int ii, .long de, .int dl, .int dp, .int dc, .ref (D 9), .int (nI nr), .ref (D 10), .ref (D 11), .ref (D 12), .ref (D 13), .ref (D 14), .int al, .int wa])) :: (D 2, .inl (G.2.1.2.1, 12, .inl rr)) :: (D 0, .inl (G.2.1.1, 6, .inl (upd fc 2 (fc 2 + 1)))) :: r) := by
  refine Mt.of (by decide +kernel) rfl rfl (fun X B => ?_)
  show J G X mX8_lay ((m, .inr (8, [.int fi, .ref (D 0), .long as, .int (nI ns), .ref (D 1), .ref (D 2), .ref (D 3), .ref (D 4), .ref (D 5), .ref (D 6), .ref (D 7), .ref (D 8), .int ii, .long de, .int dl, .int dp, .int dc, .ref (D 9), .int (nI nr), .ref (D 10), .ref (D 11), .ref (D 12), .ref (D 13), .ref (D 14), .int al, .int wa])) :: (D 2, .inl (G.2.1.2.1, 12, .inl rr)) :: (D 0, .inl (G.2.1.1, 6, .inl fc)) :: r) 0 0 0 [(0, .ref m), (1, .int (nI s)), (2, .int nt), (3, .int v0)] []
  have hs : s < 12 := by omega
  refine J.iload_n 3 dX8_lay_0 rfl ?_
  refine J.bipush (-9 : Int32) dX8_lay_1 rfl ?_
  refine J.icmp_eq dX8_lay_3 (fun h9 => ?_) (fun h9 => ?_)
  · skip
    refine J.aload_n 0 dX8_lay_19 rfl ?_
    refine J.iload_n 1 dX8_lay_20 rfl ?_
    refine J.callV 0 (st := []) B (c_X8_looked l G _ (k := s) hk hns hr) ml_X8_108 mf_yX8_looked mi_yX8_looked rfl dX8_lay_21 rfl rfl rfl rfl (fun v_1 w_2 hp_3 => ?_)
    obtain ⟨rfl, rfl⟩ := hp_3
    show J G X mX8_lay _ _ _ 24 _ [.int (0 : Int32)]
    refine J.istore [1, 2, 3, 4, 0] (lv' := [(0, .ref m), (1, .int (nI s)), (2, .int nt), (3, .int v0), (4, .int (0 : Int32))]) dX8_lay_24 rfl rfl ?_
    refine J.iload 4 dX8_lay_26 rfl ?_
    refine J.if_ge dX8_lay_28 (fun _ => ?_) (fun z => absurd z (by decide))
    refine J.iload_n 2 dX8_lay_34 rfl ?_
    refine J.callS (st := []) B (c_X8_isNight l G _ (n := nt)) ml_X8_111 mf_yX8_isNight mS_yX8_isNight dX8_lay_35 rfl rfl rfl (fun v_4 w_5 hp_6 => ?_)
    obtain ⟨rfl, rfl⟩ := hp_6
    show J G X mX8_lay _ _ _ 38 _ [.int (b01 (inR nt 0 59))]
    refine J.if_ne dX8_lay_38 (fun z => absurd (by rw [hnt]; rfl) z) (fun h9 => ?_)
    refine J.aload_n 0 dX8_lay_41 rfl ?_
    refine J.iconst (2 : Int32) dX8_lay_42 rfl ?_
    refine J.re [0, 2, 1] 3 (ws2 := (m, .inr (8, [.int fi, .ref (D 0), .long as, .int (nI ns), .ref (D 1), .ref (D 2), .ref (D 3), .ref (D 4), .ref (D 5), .ref (D 6), .ref (D 7), .ref (D 8), .int ii, .long de, .int dl, .int dp, .int dc, .ref (D 9), .int (nI nr), .ref (D 10), .ref (D 11), .ref (D 12), .ref (D 13), .ref (D 14), .int al, .int wa])) :: (D 0, .inl (G.2.1.1, 6, .inl fc)) :: (D 2, .inl (G.2.1.2.1, 12, .inl rr)) :: r) rfl rfl ?_
    refine J.callV 0 (st := []) B (c_X8_meets l G _ (c := 2) (by decide)) ml_X8_95 mf_yX8_meets mi_yX8_meets rfl dX8_lay_43 rfl rfl rfl rfl (fun v_7 w_8 hp_9 => ?_)
    obtain ⟨rfl, rfl⟩ := hp_9
    refine J.re [0, 2, 1] 3 (ws2 := (m, .inr (8, [.int (nI 2), .ref (D 0), .long as, .int (nI ns), .ref (D 1), .ref (D 2), .ref (D 3), .ref (D 4), .ref (D 5), .ref (D 6), .ref (D 7), .ref (D 8), .int ii, .long de, .int dl, .int dp, .int dc, .ref (D 9), .int (nI nr), .ref (D 10), .ref (D 11), .ref (D 12), .ref (D 13), .ref (D 14), .int al, .int wa])) :: (D 2, .inl (G.2.1.2.1, 12, .inl rr)) :: (D 0, .inl (G.2.1.1, 6, .inl (upd fc 2 (fc 2 + 1)))) :: r) rfl rfl ?_
    show J G X mX8_lay _ _ _ 46 _ [.int (-3 : Int32)]
    exact J.iret B dX8_lay_46 rfl (⟨rfl, rfl⟩)
  · skip
    refine J.iload_n 3 dX8_lay_6 rfl ?_
    refine J.iconst (0 : Int32) dX8_lay_7 rfl ?_
    refine J.sipush (10000 : Int32) dX8_lay_8 rfl ?_
    refine J.callS (st := []) B (c_X8_in l G _ (v := v0) (lo := (0 : Int32)) (hi := (10000 : Int32)) (a := 0) (b := 10000) rfl rfl) ml_X8_76 mf_yX8_in mS_yX8_in dX8_lay_11 rfl rfl rfl (fun v_10 w_11 hp_12 => ?_)
    obtain ⟨rfl, rfl⟩ := hp_12
    show J G X mX8_lay _ _ _ 14 _ [.int (b01 (inR v0 0 10000))]
    refine J.if_ne dX8_lay_14 (fun h8 => ?_) (fun z => absurd z (by rw [hv.resolve_left h9]; decide))
    refine J.aload_n 0 dX8_lay_19 rfl ?_
    refine J.iload_n 1 dX8_lay_20 rfl ?_
    refine J.callV 0 (st := []) B (c_X8_looked l G _ (k := s) hk hns hr) ml_X8_108 mf_yX8_looked mi_yX8_looked rfl dX8_lay_21 rfl rfl rfl rfl (fun v_13 w_14 hp_15 => ?_)
    obtain ⟨rfl, rfl⟩ := hp_15
    show J G X mX8_lay _ _ _ 24 _ [.int (0 : Int32)]
    refine J.istore [1, 2, 3, 4, 0] (lv' := [(0, .ref m), (1, .int (nI s)), (2, .int nt), (3, .int v0), (4, .int (0 : Int32))]) dX8_lay_24 rfl rfl ?_
    refine J.iload 4 dX8_lay_26 rfl ?_
    refine J.if_ge dX8_lay_28 (fun _ => ?_) (fun z => absurd z (by decide))
    refine J.iload_n 2 dX8_lay_34 rfl ?_
    refine J.callS (st := []) B (c_X8_isNight l G _ (n := nt)) ml_X8_111 mf_yX8_isNight mS_yX8_isNight dX8_lay_35 rfl rfl rfl (fun v_16 w_17 hp_18 => ?_)
    obtain ⟨rfl, rfl⟩ := hp_18
    show J G X mX8_lay _ _ _ 38 _ [.int (b01 (inR nt 0 59))]
    refine J.if_ne dX8_lay_38 (fun z => absurd (by rw [hnt]; rfl) z) (fun h9 => ?_)
    refine J.aload_n 0 dX8_lay_41 rfl ?_
    refine J.iconst (2 : Int32) dX8_lay_42 rfl ?_
    refine J.re [0, 2, 1] 3 (ws2 := (m, .inr (8, [.int fi, .ref (D 0), .long as, .int (nI ns), .ref (D 1), .ref (D 2), .ref (D 3), .ref (D 4), .ref (D 5), .ref (D 6), .ref (D 7), .ref (D 8), .int ii, .long de, .int dl, .int dp, .int dc, .ref (D 9), .int (nI nr), .ref (D 10), .ref (D 11), .ref (D 12), .ref (D 13), .ref (D 14), .int al, .int wa])) :: (D 0, .inl (G.2.1.1, 6, .inl fc)) :: (D 2, .inl (G.2.1.2.1, 12, .inl rr)) :: r) rfl rfl ?_
    refine J.callV 0 (st := []) B (c_X8_meets l G _ (c := 2) (by decide)) ml_X8_95 mf_yX8_meets mi_yX8_meets rfl dX8_lay_43 rfl rfl rfl rfl (fun v_19 w_20 hp_21 => ?_)
    obtain ⟨rfl, rfl⟩ := hp_21
    refine J.re [0, 2, 1] 3 (ws2 := (m, .inr (8, [.int (nI 2), .ref (D 0), .long as, .int (nI ns), .ref (D 1), .ref (D 2), .ref (D 3), .ref (D 4), .ref (D 5), .ref (D 6), .ref (D 7), .ref (D 8), .int ii, .long de, .int dl, .int dp, .int dc, .ref (D 9), .int (nI nr), .ref (D 10), .ref (D 11), .ref (D 12), .ref (D 13), .ref (D 14), .int al, .int wa])) :: (D 2, .inl (G.2.1.2.1, 12, .inl rr)) :: (D 0, .inl (G.2.1.1, 6, .inl (upd fc 2 (fc 2 + 1)))) :: r) rfl rfl ?_
    show J G X mX8_lay _ _ _ 46 _ [.int (-3 : Int32)]
    exact J.iret B dX8_lay_46 rfl (⟨rfl, rfl⟩)
set_option maxHeartbeats 4000000 in
set_option maxRecDepth 100000 in
theorem r_lay (l : Launch) (G : jG) (r : va_W) {m : Nat} {D : Nat → Nat} {fi : Int32} {as : Int64} {ns : Nat} {ii : Int32} {de : Int64} {dl dp dc : Int32} {nr : Nat} {al wa : Int32} {rr : Nat → Int32} {s : Nat} (hk : s < ns) (hns : ns ≤ 12) {ml : Nat → Int32} (hr : ¬ rr s = 0) {v0 : Int32} (hv : v0 = -9 ∨ inR v0 0 10000 = true) {nt : Nat} (hn0 : nt < 60) : Mt l G yX8_lay mX8_lay 3 64 0 0 [.ref m, .int (nI s), .int (nI nt), .int v0] ((m, .inr (8, [.int fi, .ref (D 0), .long as, .int (nI ns), .ref (D 1), .ref (D 2), .ref (D 3), .ref (D 4), .ref (D 5), .ref (D 6), .ref (D 7), .ref (D 8), .int ii, .long de, .int dl, .int dp, .int dc, .ref (D 9), .int (nI nr), .ref (D 10), .ref (D 11), .ref (D 12), .ref (D 13), .ref (D 14), .int al, .int wa])) :: (D 2, .inl (G.2.1.2.1, 12, .inl rr)) :: (D 3, .inl (G.2.1.1, 720, .inl ml)) :: r) (fun v w => v = some (.int (rowM ml s nt)) ∧ w = (m, .inr (8, [.int fi, .ref (D 0), .long as, .int (nI ns), .ref (D 1), .ref (D 2), .ref (D 3), .ref (D 4), .ref (D 5), .ref (D 6), .ref (D 7), .ref (D 8), .int ii, .long de, .int dl, .int dp, .int dc, .ref (D 9), .int (nI nr), .ref (D 10), .ref (D 11), .ref (D 12), .ref (D 13), .ref (D 14), .int al, .int wa])) :: (D 2, .inl (G.2.1.2.1, 12, .inl rr)) :: (D 3, .inl (G.2.1.1, 720, .inl (upd ml (60 * s + nt) v0))) :: r) := by
  refine Mt.of (by decide +kernel) rfl rfl (fun X B => ?_)
  show J G X mX8_lay ((m, .inr (8, [.int fi, .ref (D 0), .long as, .int (nI ns), .ref (D 1), .ref (D 2), .ref (D 3), .ref (D 4), .ref (D 5), .ref (D 6), .ref (D 7), .ref (D 8), .int ii, .long de, .int dl, .int dp, .int dc, .ref (D 9), .int (nI nr), .ref (D 10), .ref (D 11), .ref (D 12), .ref (D 13), .ref (D 14), .int al, .int wa])) :: (D 2, .inl (G.2.1.2.1, 12, .inl rr)) :: (D 3, .inl (G.2.1.1, 720, .inl ml)) :: r) 0 0 0 [(0, .ref m), (1, .int (nI s)), (2, .int (nI nt)), (3, .int v0)] []
  have hs : s < 12 := by omega
  have hnt : inR (nI nt) 0 59 = true := by rw [nI_inR (by omega)]; exact decide_eq_true ⟨by omega, by omega⟩
  refine J.iload_n 3 dX8_lay_0 rfl ?_
  refine J.bipush (-9 : Int32) dX8_lay_1 rfl ?_
  refine J.icmp_eq dX8_lay_3 (fun h9 => ?_) (fun h9 => ?_)
  · skip
    refine J.aload_n 0 dX8_lay_19 rfl ?_
    refine J.iload_n 1 dX8_lay_20 rfl ?_
    refine J.callV 0 (st := []) B (c_X8_looked l G _ (k := s) hk hns hr) ml_X8_108 mf_yX8_looked mi_yX8_looked rfl dX8_lay_21 rfl rfl rfl rfl (fun v_1 w_2 hp_3 => ?_)
    obtain ⟨rfl, rfl⟩ := hp_3
    show J G X mX8_lay _ _ _ 24 _ [.int (0 : Int32)]
    refine J.istore [1, 2, 3, 4, 0] (lv' := [(0, .ref m), (1, .int (nI s)), (2, .int (nI nt)), (3, .int v0), (4, .int (0 : Int32))]) dX8_lay_24 rfl rfl ?_
    refine J.iload 4 dX8_lay_26 rfl ?_
    refine J.if_ge dX8_lay_28 (fun _ => ?_) (fun z => absurd z (by decide))
    refine J.iload_n 2 dX8_lay_34 rfl ?_
    refine J.callS (st := []) B (c_X8_isNight l G _ (n := nI nt)) ml_X8_111 mf_yX8_isNight mS_yX8_isNight dX8_lay_35 rfl rfl rfl (fun v_4 w_5 hp_6 => ?_)
    obtain ⟨rfl, rfl⟩ := hp_6
    show J G X mX8_lay _ _ _ 38 _ [.int (b01 (inR (nI nt) 0 59))]
    refine J.if_ne dX8_lay_38 (fun h9 => ?_) (fun z => absurd z (by rw [hnt]; decide))
    refine J.aload_n 0 dX8_lay_47 rfl ?_
    refine J.get 0 fl_X8_20 dX8_lay_48 rfl rfl ?_
    refine J.bipush (60 : Int32) dX8_lay_51 rfl ?_
    refine J.iload_n 1 dX8_lay_53 rfl ?_
    refine J.imul dX8_lay_54 ?_
    refine J.topi (y := nI (60 * s)) (pk_mul 60 s) ?_
    refine J.iload_n 2 dX8_lay_55 rfl ?_
    refine J.iadd dX8_lay_56 ?_
    refine J.topi (y := nI ((60 * s) + nt)) (nI_add (60 * s) nt) ?_
    refine J.iald 2 ((60 * s) + nt) dX8_lay_57 rfl (rfl) (by omega) (by decide) ?_
    refine J.topi (y := rowM ml s nt) (rfl) ?_
    refine J.istore [1, 2, 3, 4, 5, 0] (lv' := [(0, .ref m), (1, .int (nI s)), (2, .int (nI nt)), (3, .int v0), (4, .int (0 : Int32)), (5, .int (rowM ml s nt))]) dX8_lay_58 rfl rfl ?_
    refine J.aload_n 0 dX8_lay_60 rfl ?_
    refine J.get 0 fl_X8_20 dX8_lay_61 rfl rfl ?_
    refine J.bipush (60 : Int32) dX8_lay_64 rfl ?_
    refine J.iload_n 1 dX8_lay_66 rfl ?_
    refine J.imul dX8_lay_67 ?_
    refine J.topi (y := nI (60 * s)) (pk_mul 60 s) ?_
    refine J.iload_n 2 dX8_lay_68 rfl ?_
    refine J.iadd dX8_lay_69 ?_
    refine J.topi (y := nI ((60 * s) + nt)) (nI_add (60 * s) nt) ?_
    refine J.iload_n 3 dX8_lay_70 rfl ?_
    refine J.iast 2 ((60 * s) + nt) dX8_lay_71 rfl (rfl) (by omega) (by decide) (ws' := (m, .inr (8, [.int fi, .ref (D 0), .long as, .int (nI ns), .ref (D 1), .ref (D 2), .ref (D 3), .ref (D 4), .ref (D 5), .ref (D 6), .ref (D 7), .ref (D 8), .int ii, .long de, .int dl, .int dp, .int dc, .ref (D 9), .int (nI nr), .ref (D 10), .ref (D 11), .ref (D 12), .ref (D 13), .ref (D 14), .int al, .int wa])) :: (D 2, .inl (G.2.1.2.1, 12, .inl rr)) :: (D 3, .inl (G.2.1.1, 720, .inl (upd ml ((60 * s) + nt) v0))) :: r) rfl ?_
    rw [show upd ml ((60 * s) + nt) v0 = upd ml (60 * s + nt) v0 from rfl]
    refine J.iload 5 dX8_lay_72 rfl ?_
    exact J.iret B dX8_lay_74 rfl (⟨rfl, rfl⟩)
  · skip
    refine J.iload_n 3 dX8_lay_6 rfl ?_
    refine J.iconst (0 : Int32) dX8_lay_7 rfl ?_
    refine J.sipush (10000 : Int32) dX8_lay_8 rfl ?_
    refine J.callS (st := []) B (c_X8_in l G _ (v := v0) (lo := (0 : Int32)) (hi := (10000 : Int32)) (a := 0) (b := 10000) rfl rfl) ml_X8_76 mf_yX8_in mS_yX8_in dX8_lay_11 rfl rfl rfl (fun v_7 w_8 hp_9 => ?_)
    obtain ⟨rfl, rfl⟩ := hp_9
    show J G X mX8_lay _ _ _ 14 _ [.int (b01 (inR v0 0 10000))]
    refine J.if_ne dX8_lay_14 (fun h8 => ?_) (fun z => absurd z (by rw [hv.resolve_left h9]; decide))
    refine J.aload_n 0 dX8_lay_19 rfl ?_
    refine J.iload_n 1 dX8_lay_20 rfl ?_
    refine J.callV 0 (st := []) B (c_X8_looked l G _ (k := s) hk hns hr) ml_X8_108 mf_yX8_looked mi_yX8_looked rfl dX8_lay_21 rfl rfl rfl rfl (fun v_10 w_11 hp_12 => ?_)
    obtain ⟨rfl, rfl⟩ := hp_12
    show J G X mX8_lay _ _ _ 24 _ [.int (0 : Int32)]
    refine J.istore [1, 2, 3, 4, 0] (lv' := [(0, .ref m), (1, .int (nI s)), (2, .int (nI nt)), (3, .int v0), (4, .int (0 : Int32))]) dX8_lay_24 rfl rfl ?_
    refine J.iload 4 dX8_lay_26 rfl ?_
    refine J.if_ge dX8_lay_28 (fun _ => ?_) (fun z => absurd z (by decide))
    refine J.iload_n 2 dX8_lay_34 rfl ?_
    refine J.callS (st := []) B (c_X8_isNight l G _ (n := nI nt)) ml_X8_111 mf_yX8_isNight mS_yX8_isNight dX8_lay_35 rfl rfl rfl (fun v_13 w_14 hp_15 => ?_)
    obtain ⟨rfl, rfl⟩ := hp_15
    show J G X mX8_lay _ _ _ 38 _ [.int (b01 (inR (nI nt) 0 59))]
    refine J.if_ne dX8_lay_38 (fun h9 => ?_) (fun z => absurd z (by rw [hnt]; decide))
    refine J.aload_n 0 dX8_lay_47 rfl ?_
    refine J.get 0 fl_X8_20 dX8_lay_48 rfl rfl ?_
    refine J.bipush (60 : Int32) dX8_lay_51 rfl ?_
    refine J.iload_n 1 dX8_lay_53 rfl ?_
    refine J.imul dX8_lay_54 ?_
    refine J.topi (y := nI (60 * s)) (pk_mul 60 s) ?_
    refine J.iload_n 2 dX8_lay_55 rfl ?_
    refine J.iadd dX8_lay_56 ?_
    refine J.topi (y := nI ((60 * s) + nt)) (nI_add (60 * s) nt) ?_
    refine J.iald 2 ((60 * s) + nt) dX8_lay_57 rfl (rfl) (by omega) (by decide) ?_
    refine J.topi (y := rowM ml s nt) (rfl) ?_
    refine J.istore [1, 2, 3, 4, 5, 0] (lv' := [(0, .ref m), (1, .int (nI s)), (2, .int (nI nt)), (3, .int v0), (4, .int (0 : Int32)), (5, .int (rowM ml s nt))]) dX8_lay_58 rfl rfl ?_
    refine J.aload_n 0 dX8_lay_60 rfl ?_
    refine J.get 0 fl_X8_20 dX8_lay_61 rfl rfl ?_
    refine J.bipush (60 : Int32) dX8_lay_64 rfl ?_
    refine J.iload_n 1 dX8_lay_66 rfl ?_
    refine J.imul dX8_lay_67 ?_
    refine J.topi (y := nI (60 * s)) (pk_mul 60 s) ?_
    refine J.iload_n 2 dX8_lay_68 rfl ?_
    refine J.iadd dX8_lay_69 ?_
    refine J.topi (y := nI ((60 * s) + nt)) (nI_add (60 * s) nt) ?_
    refine J.iload_n 3 dX8_lay_70 rfl ?_
    refine J.iast 2 ((60 * s) + nt) dX8_lay_71 rfl (rfl) (by omega) (by decide) (ws' := (m, .inr (8, [.int fi, .ref (D 0), .long as, .int (nI ns), .ref (D 1), .ref (D 2), .ref (D 3), .ref (D 4), .ref (D 5), .ref (D 6), .ref (D 7), .ref (D 8), .int ii, .long de, .int dl, .int dp, .int dc, .ref (D 9), .int (nI nr), .ref (D 10), .ref (D 11), .ref (D 12), .ref (D 13), .ref (D 14), .int al, .int wa])) :: (D 2, .inl (G.2.1.2.1, 12, .inl rr)) :: (D 3, .inl (G.2.1.1, 720, .inl (upd ml ((60 * s) + nt) v0))) :: r) rfl ?_
    rw [show upd ml ((60 * s) + nt) v0 = upd ml (60 * s + nt) v0 from rfl]
    refine J.iload 5 dX8_lay_72 rfl ?_
    exact J.iret B dX8_lay_74 rfl (⟨rfl, rfl⟩)
set_option maxHeartbeats 4000000 in
set_option maxRecDepth 100000 in
theorem r_at_bad (l : Launch) (G : jG) (r : va_W) {m : Nat} {D : Nat → Nat} {fi : Int32} {as : Int64} {ns : Nat} {ii : Int32} {de : Int64} {dl dp dc : Int32} {nr : Nat} {al wa : Int32} {rr : Nat → Int32} {num : Int32} (hns : ns ≤ 12) (hnum : inR num 0 ((ns : Int) - 1) = false) {nt : Int32} : Mt l G yX8_at mX8_at 3 64 0 0 [.ref m, .int num, .int nt] ((m, .inr (8, [.int fi, .ref (D 0), .long as, .int (nI ns), .ref (D 1), .ref (D 2), .ref (D 3), .ref (D 4), .ref (D 5), .ref (D 6), .ref (D 7), .ref (D 8), .int ii, .long de, .int dl, .int dp, .int dc, .ref (D 9), .int (nI nr), .ref (D 10), .ref (D 11), .ref (D 12), .ref (D 13), .ref (D 14), .int al, .int wa])) :: (D 2, .inl (G.2.1.2.1, 12, .inl rr)) :: r) (fun v w => v = some (.int (-1 : Int32)) ∧ w = (m, .inr (8, [.int fi, .ref (D 0), .long as, .int (nI ns), .ref (D 1), .ref (D 2), .ref (D 3), .ref (D 4), .ref (D 5), .ref (D 6), .ref (D 7), .ref (D 8), .int ii, .long de, .int dl, .int dp, .int dc, .ref (D 9), .int (nI nr), .ref (D 10), .ref (D 11), .ref (D 12), .ref (D 13), .ref (D 14), .int al, .int wa])) :: (D 2, .inl (G.2.1.2.1, 12, .inl rr)) :: r) := by
  refine Mt.of (by decide +kernel) rfl rfl (fun X B => ?_)
  show J G X mX8_at ((m, .inr (8, [.int fi, .ref (D 0), .long as, .int (nI ns), .ref (D 1), .ref (D 2), .ref (D 3), .ref (D 4), .ref (D 5), .ref (D 6), .ref (D 7), .ref (D 8), .int ii, .long de, .int dl, .int dp, .int dc, .ref (D 9), .int (nI nr), .ref (D 10), .ref (D 11), .ref (D 12), .ref (D 13), .ref (D 14), .int al, .int wa])) :: (D 2, .inl (G.2.1.2.1, 12, .inl rr)) :: r) 0 0 0 [(0, .ref m), (1, .int num), (2, .int nt)] []
  refine J.aload_n 0 dX8_at_0 rfl ?_
  refine J.iload_n 1 dX8_at_1 rfl ?_
  refine J.callV 0 (st := []) B (c_X8_looked_bad l G _ hns hnum) ml_X8_108 mf_yX8_looked mi_yX8_looked rfl dX8_at_2 rfl rfl rfl rfl (fun v_1 w_2 hp_3 => ?_)
  obtain ⟨rfl, rfl⟩ := hp_3
  show J G X mX8_at _ _ _ 5 _ [.int (-1 : Int32)]
  refine J.istore_n [1, 2, 3, 0] (lv' := [(0, .ref m), (1, .int num), (2, .int nt), (3, .int (-1 : Int32))]) dX8_at_5 rfl rfl ?_
  refine J.iload_n 3 dX8_at_6 rfl ?_
  refine J.if_ge dX8_at_7 (fun z => absurd z (by decide)) (fun _ => ?_)
  refine J.iload_n 3 dX8_at_10 rfl ?_
  refine J.goto dX8_at_11 ?_
  exact J.iret B dX8_at_40 rfl (⟨rfl, rfl⟩)
set_option maxHeartbeats 4000000 in
set_option maxRecDepth 100000 in
theorem r_at_no (l : Launch) (G : jG) (r : va_W) {m : Nat} {D : Nat → Nat} {fi : Int32} {as : Int64} {ns : Nat} {ii : Int32} {de : Int64} {dl dp dc : Int32} {nr : Nat} {al wa : Int32} {rr : Nat → Int32} {s : Nat} (hk : s < ns) (hns : ns ≤ 12) {fc : Nat → Int32} (hr : rr s = 0) {nt : Int32} : Mt l G yX8_at mX8_at 3 64 0 0 [.ref m, .int (nI s), .int nt] ((m, .inr (8, [.int fi, .ref (D 0), .long as, .int (nI ns), .ref (D 1), .ref (D 2), .ref (D 3), .ref (D 4), .ref (D 5), .ref (D 6), .ref (D 7), .ref (D 8), .int ii, .long de, .int dl, .int dp, .int dc, .ref (D 9), .int (nI nr), .ref (D 10), .ref (D 11), .ref (D 12), .ref (D 13), .ref (D 14), .int al, .int wa])) :: (D 2, .inl (G.2.1.2.1, 12, .inl rr)) :: (D 0, .inl (G.2.1.1, 6, .inl fc)) :: r) (fun v w => v = some (.int (-3 : Int32)) ∧ w = (m, .inr (8, [.int (nI 1), .ref (D 0), .long as, .int (nI ns), .ref (D 1), .ref (D 2), .ref (D 3), .ref (D 4), .ref (D 5), .ref (D 6), .ref (D 7), .ref (D 8), .int ii, .long de, .int dl, .int dp, .int dc, .ref (D 9), .int (nI nr), .ref (D 10), .ref (D 11), .ref (D 12), .ref (D 13), .ref (D 14), .int al, .int wa])) :: (D 2, .inl (G.2.1.2.1, 12, .inl rr)) :: (D 0, .inl (G.2.1.1, 6, .inl (upd fc 1 (fc 1 + 1)))) :: r) := by
  refine Mt.of (by decide +kernel) rfl rfl (fun X B => ?_)
  show J G X mX8_at ((m, .inr (8, [.int fi, .ref (D 0), .long as, .int (nI ns), .ref (D 1), .ref (D 2), .ref (D 3), .ref (D 4), .ref (D 5), .ref (D 6), .ref (D 7), .ref (D 8), .int ii, .long de, .int dl, .int dp, .int dc, .ref (D 9), .int (nI nr), .ref (D 10), .ref (D 11), .ref (D 12), .ref (D 13), .ref (D 14), .int al, .int wa])) :: (D 2, .inl (G.2.1.2.1, 12, .inl rr)) :: (D 0, .inl (G.2.1.1, 6, .inl fc)) :: r) 0 0 0 [(0, .ref m), (1, .int (nI s)), (2, .int nt)] []
  refine J.aload_n 0 dX8_at_0 rfl ?_
  refine J.iload_n 1 dX8_at_1 rfl ?_
  refine J.callV 0 (st := []) B (c_X8_looked_no l G _ (k := s) hk hns hr) ml_X8_108 mf_yX8_looked mi_yX8_looked rfl dX8_at_2 rfl rfl rfl rfl (fun v_1 w_2 hp_3 => ?_)
  obtain ⟨rfl, rfl⟩ := hp_3
  show J G X mX8_at _ _ _ 5 _ [.int (-3 : Int32)]
  refine J.istore_n [1, 2, 3, 0] (lv' := [(0, .ref m), (1, .int (nI s)), (2, .int nt), (3, .int (-3 : Int32))]) dX8_at_5 rfl rfl ?_
  refine J.iload_n 3 dX8_at_6 rfl ?_
  refine J.if_ge dX8_at_7 (fun z => absurd z (by decide)) (fun _ => ?_)
  refine J.iload_n 3 dX8_at_10 rfl ?_
  refine J.goto dX8_at_11 ?_
  exact J.iret B dX8_at_40 rfl (⟨rfl, rfl⟩)
set_option maxHeartbeats 4000000 in
set_option maxRecDepth 100000 in
theorem r_at_by (l : Launch) (G : jG) (r : va_W) {m : Nat} {D : Nat → Nat} {fi : Int32} {as : Int64} {ns : Nat} {ii : Int32} {de : Int64} {dl dp dc : Int32} {nr : Nat} {al wa : Int32} {rr : Nat → Int32} {s : Nat} (hk : s < ns) (hns : ns ≤ 12) {fc : Nat → Int32} (hr : ¬ rr s = 0) {nt : Int32} (hnt : inR nt 0 59 = false) : Mt l G yX8_at mX8_at 3 64 0 0 [.ref m, .int (nI s), .int nt] ((m, .inr (8, [.int fi, .ref (D 0), .long as, .int (nI ns), .ref (D 1), .ref (D 2), .ref (D 3), .ref (D 4), .ref (D 5), .ref (D 6), .ref (D 7), .ref (D 8), .int ii, .long de, .int dl, .int dp, .int dc, .ref (D 9), .int (nI nr), .ref (D 10), .ref (D 11), .ref (D 12), .ref (D 13), .ref (D 14), .int al, .int wa])) :: (D 2, .inl (G.2.1.2.1, 12, .inl rr)) :: (D 0, .inl (G.2.1.1, 6, .inl fc)) :: r) (fun v w => v = some (.int (-3 : Int32)) ∧ w = (m, .inr (8, [.int (nI 2), .ref (D 0), .long as, .int (nI ns), .ref (D 1), .ref (D 2), .ref (D 3), .ref (D 4), .ref (D 5), .ref (D 6), .ref (D 7), .ref (D 8), .int ii, .long de, .int dl, .int dp, .int dc, .ref (D 9), .int (nI nr), .ref (D 10), .ref (D 11), .ref (D 12), .ref (D 13), .ref (D 14), .int al, .int wa])) :: (D 2, .inl (G.2.1.2.1, 12, .inl rr)) :: (D 0, .inl (G.2.1.1, 6, .inl (upd fc 2 (fc 2 + 1)))) :: r) := by
  refine Mt.of (by decide +kernel) rfl rfl (fun X B => ?_)
  show J G X mX8_at ((m, .inr (8, [.int fi, .ref (D 0), .long as, .int (nI ns), .ref (D 1), .ref (D 2), .ref (D 3), .ref (D 4), .ref (D 5), .ref (D 6), .ref (D 7), .ref (D 8), .int ii, .long de, .int dl, .int dp, .int dc, .ref (D 9), .int (nI nr), .ref (D 10), .ref (D 11), .ref (D 12), .ref (D 13), .ref (D 14), .int al, .int wa])) :: (D 2, .inl (G.2.1.2.1, 12, .inl rr)) :: (D 0, .inl (G.2.1.1, 6, .inl fc)) :: r) 0 0 0 [(0, .ref m), (1, .int (nI s)), (2, .int nt)] []
  have hs : s < 12 := by omega
  refine J.aload_n 0 dX8_at_0 rfl ?_
  refine J.iload_n 1 dX8_at_1 rfl ?_
  refine J.callV 0 (st := []) B (c_X8_looked l G _ (k := s) hk hns hr) ml_X8_108 mf_yX8_looked mi_yX8_looked rfl dX8_at_2 rfl rfl rfl rfl (fun v_1 w_2 hp_3 => ?_)
  obtain ⟨rfl, rfl⟩ := hp_3
  show J G X mX8_at _ _ _ 5 _ [.int (0 : Int32)]
  refine J.istore_n [1, 2, 3, 0] (lv' := [(0, .ref m), (1, .int (nI s)), (2, .int nt), (3, .int (0 : Int32))]) dX8_at_5 rfl rfl ?_
  refine J.iload_n 3 dX8_at_6 rfl ?_
  refine J.if_ge dX8_at_7 (fun _ => ?_) (fun z => absurd z (by decide))
  refine J.iload_n 2 dX8_at_14 rfl ?_
  refine J.callS (st := []) B (c_X8_isNight l G _ (n := nt)) ml_X8_111 mf_yX8_isNight mS_yX8_isNight dX8_at_15 rfl rfl rfl (fun v_4 w_5 hp_6 => ?_)
  obtain ⟨rfl, rfl⟩ := hp_6
  show J G X mX8_at _ _ _ 18 _ [.int (b01 (inR nt 0 59))]
  refine J.if_eq dX8_at_18 (fun h9 => ?_) (fun z => absurd (by rw [hnt]; rfl) z)
  refine J.aload_n 0 dX8_at_35 rfl ?_
  refine J.iconst (2 : Int32) dX8_at_36 rfl ?_
  refine J.re [0, 2, 1] 3 (ws2 := (m, .inr (8, [.int fi, .ref (D 0), .long as, .int (nI ns), .ref (D 1), .ref (D 2), .ref (D 3), .ref (D 4), .ref (D 5), .ref (D 6), .ref (D 7), .ref (D 8), .int ii, .long de, .int dl, .int dp, .int dc, .ref (D 9), .int (nI nr), .ref (D 10), .ref (D 11), .ref (D 12), .ref (D 13), .ref (D 14), .int al, .int wa])) :: (D 0, .inl (G.2.1.1, 6, .inl fc)) :: (D 2, .inl (G.2.1.2.1, 12, .inl rr)) :: r) rfl rfl ?_
  refine J.callV 0 (st := []) B (c_X8_meets l G _ (c := 2) (by decide)) ml_X8_95 mf_yX8_meets mi_yX8_meets rfl dX8_at_37 rfl rfl rfl rfl (fun v_7 w_8 hp_9 => ?_)
  obtain ⟨rfl, rfl⟩ := hp_9
  refine J.re [0, 2, 1] 3 (ws2 := (m, .inr (8, [.int (nI 2), .ref (D 0), .long as, .int (nI ns), .ref (D 1), .ref (D 2), .ref (D 3), .ref (D 4), .ref (D 5), .ref (D 6), .ref (D 7), .ref (D 8), .int ii, .long de, .int dl, .int dp, .int dc, .ref (D 9), .int (nI nr), .ref (D 10), .ref (D 11), .ref (D 12), .ref (D 13), .ref (D 14), .int al, .int wa])) :: (D 2, .inl (G.2.1.2.1, 12, .inl rr)) :: (D 0, .inl (G.2.1.1, 6, .inl (upd fc 2 (fc 2 + 1)))) :: r) rfl rfl ?_
  show J G X mX8_at _ _ _ 40 _ [.int (-3 : Int32)]
  exact J.iret B dX8_at_40 rfl (⟨rfl, rfl⟩)
set_option maxHeartbeats 4000000 in
set_option maxRecDepth 100000 in
theorem r_light_bad (l : Launch) (G : jG) (r : va_W) {m : Nat} {D : Nat → Nat} {fi : Int32} {as : Int64} {ns : Nat} {ii : Int32} {de : Int64} {dl dp dc : Int32} {nr : Nat} {al wa : Int32} {rr : Nat → Int32} {num : Int32} (hns : ns ≤ 12) (hnum : inR num 0 ((ns : Int) - 1) = false) {nt : Int32} : Mt l G yX8_light mX8_light 3 64 0 0 [.ref m, .int num, .int nt] ((m, .inr (8, [.int fi, .ref (D 0), .long as, .int (nI ns), .ref (D 1), .ref (D 2), .ref (D 3), .ref (D 4), .ref (D 5), .ref (D 6), .ref (D 7), .ref (D 8), .int ii, .long de, .int dl, .int dp, .int dc, .ref (D 9), .int (nI nr), .ref (D 10), .ref (D 11), .ref (D 12), .ref (D 13), .ref (D 14), .int al, .int wa])) :: (D 2, .inl (G.2.1.2.1, 12, .inl rr)) :: r) (fun v w => v = some (.int (-1 : Int32)) ∧ w = (m, .inr (8, [.int fi, .ref (D 0), .long as, .int (nI ns), .ref (D 1), .ref (D 2), .ref (D 3), .ref (D 4), .ref (D 5), .ref (D 6), .ref (D 7), .ref (D 8), .int ii, .long de, .int dl, .int dp, .int dc, .ref (D 9), .int (nI nr), .ref (D 10), .ref (D 11), .ref (D 12), .ref (D 13), .ref (D 14), .int al, .int wa])) :: (D 2, .inl (G.2.1.2.1, 12, .inl rr)) :: r) := by
  refine Mt.of (by decide +kernel) rfl rfl (fun X B => ?_)
  show J G X mX8_light ((m, .inr (8, [.int fi, .ref (D 0), .long as, .int (nI ns), .ref (D 1), .ref (D 2), .ref (D 3), .ref (D 4), .ref (D 5), .ref (D 6), .ref (D 7), .ref (D 8), .int ii, .long de, .int dl, .int dp, .int dc, .ref (D 9), .int (nI nr), .ref (D 10), .ref (D 11), .ref (D 12), .ref (D 13), .ref (D 14), .int al, .int wa])) :: (D 2, .inl (G.2.1.2.1, 12, .inl rr)) :: r) 0 0 0 [(0, .ref m), (1, .int num), (2, .int nt)] []
  refine J.aload_n 0 dX8_light_0 rfl ?_
  refine J.iload_n 1 dX8_light_1 rfl ?_
  refine J.callV 0 (st := []) B (c_X8_looked_bad l G _ hns hnum) ml_X8_108 mf_yX8_looked mi_yX8_looked rfl dX8_light_2 rfl rfl rfl rfl (fun v_1 w_2 hp_3 => ?_)
  obtain ⟨rfl, rfl⟩ := hp_3
  show J G X mX8_light _ _ _ 5 _ [.int (-1 : Int32)]
  refine J.istore_n [1, 2, 3, 0] (lv' := [(0, .ref m), (1, .int num), (2, .int nt), (3, .int (-1 : Int32))]) dX8_light_5 rfl rfl ?_
  refine J.iload_n 3 dX8_light_6 rfl ?_
  refine J.if_ge dX8_light_7 (fun z => absurd z (by decide)) (fun _ => ?_)
  refine J.iload_n 3 dX8_light_10 rfl ?_
  exact J.iret B dX8_light_11 rfl (⟨rfl, rfl⟩)
set_option maxHeartbeats 4000000 in
set_option maxRecDepth 100000 in
theorem r_light_no (l : Launch) (G : jG) (r : va_W) {m : Nat} {D : Nat → Nat} {fi : Int32} {as : Int64} {ns : Nat} {ii : Int32} {de : Int64} {dl dp dc : Int32} {nr : Nat} {al wa : Int32} {rr : Nat → Int32} {s : Nat} (hk : s < ns) (hns : ns ≤ 12) {fc : Nat → Int32} (hr : rr s = 0) {nt : Int32} : Mt l G yX8_light mX8_light 3 64 0 0 [.ref m, .int (nI s), .int nt] ((m, .inr (8, [.int fi, .ref (D 0), .long as, .int (nI ns), .ref (D 1), .ref (D 2), .ref (D 3), .ref (D 4), .ref (D 5), .ref (D 6), .ref (D 7), .ref (D 8), .int ii, .long de, .int dl, .int dp, .int dc, .ref (D 9), .int (nI nr), .ref (D 10), .ref (D 11), .ref (D 12), .ref (D 13), .ref (D 14), .int al, .int wa])) :: (D 2, .inl (G.2.1.2.1, 12, .inl rr)) :: (D 0, .inl (G.2.1.1, 6, .inl fc)) :: r) (fun v w => v = some (.int (-3 : Int32)) ∧ w = (m, .inr (8, [.int (nI 1), .ref (D 0), .long as, .int (nI ns), .ref (D 1), .ref (D 2), .ref (D 3), .ref (D 4), .ref (D 5), .ref (D 6), .ref (D 7), .ref (D 8), .int ii, .long de, .int dl, .int dp, .int dc, .ref (D 9), .int (nI nr), .ref (D 10), .ref (D 11), .ref (D 12), .ref (D 13), .ref (D 14), .int al, .int wa])) :: (D 2, .inl (G.2.1.2.1, 12, .inl rr)) :: (D 0, .inl (G.2.1.1, 6, .inl (upd fc 1 (fc 1 + 1)))) :: r) := by
  refine Mt.of (by decide +kernel) rfl rfl (fun X B => ?_)
  show J G X mX8_light ((m, .inr (8, [.int fi, .ref (D 0), .long as, .int (nI ns), .ref (D 1), .ref (D 2), .ref (D 3), .ref (D 4), .ref (D 5), .ref (D 6), .ref (D 7), .ref (D 8), .int ii, .long de, .int dl, .int dp, .int dc, .ref (D 9), .int (nI nr), .ref (D 10), .ref (D 11), .ref (D 12), .ref (D 13), .ref (D 14), .int al, .int wa])) :: (D 2, .inl (G.2.1.2.1, 12, .inl rr)) :: (D 0, .inl (G.2.1.1, 6, .inl fc)) :: r) 0 0 0 [(0, .ref m), (1, .int (nI s)), (2, .int nt)] []
  refine J.aload_n 0 dX8_light_0 rfl ?_
  refine J.iload_n 1 dX8_light_1 rfl ?_
  refine J.callV 0 (st := []) B (c_X8_looked_no l G _ (k := s) hk hns hr) ml_X8_108 mf_yX8_looked mi_yX8_looked rfl dX8_light_2 rfl rfl rfl rfl (fun v_1 w_2 hp_3 => ?_)
  obtain ⟨rfl, rfl⟩ := hp_3
  show J G X mX8_light _ _ _ 5 _ [.int (-3 : Int32)]
  refine J.istore_n [1, 2, 3, 0] (lv' := [(0, .ref m), (1, .int (nI s)), (2, .int nt), (3, .int (-3 : Int32))]) dX8_light_5 rfl rfl ?_
  refine J.iload_n 3 dX8_light_6 rfl ?_
  refine J.if_ge dX8_light_7 (fun z => absurd z (by decide)) (fun _ => ?_)
  refine J.iload_n 3 dX8_light_10 rfl ?_
  exact J.iret B dX8_light_11 rfl (⟨rfl, rfl⟩)
set_option maxHeartbeats 4000000 in
set_option maxRecDepth 100000 in
theorem r_light_by (l : Launch) (G : jG) (r : va_W) {m : Nat} {D : Nat → Nat} {fi : Int32} {as : Int64} {ns : Nat} {ii : Int32} {de : Int64} {dl dp dc : Int32} {nr : Nat} {al wa : Int32} {rr : Nat → Int32} {s : Nat} (hk : s < ns) (hns : ns ≤ 12) {fc : Nat → Int32} (hr : ¬ rr s = 0) {nt : Int32} (hnt : inR nt 0 59 = false) : Mt l G yX8_light mX8_light 3 64 0 0 [.ref m, .int (nI s), .int nt] ((m, .inr (8, [.int fi, .ref (D 0), .long as, .int (nI ns), .ref (D 1), .ref (D 2), .ref (D 3), .ref (D 4), .ref (D 5), .ref (D 6), .ref (D 7), .ref (D 8), .int ii, .long de, .int dl, .int dp, .int dc, .ref (D 9), .int (nI nr), .ref (D 10), .ref (D 11), .ref (D 12), .ref (D 13), .ref (D 14), .int al, .int wa])) :: (D 2, .inl (G.2.1.2.1, 12, .inl rr)) :: (D 0, .inl (G.2.1.1, 6, .inl fc)) :: r) (fun v w => v = some (.int (-3 : Int32)) ∧ w = (m, .inr (8, [.int (nI 2), .ref (D 0), .long as, .int (nI ns), .ref (D 1), .ref (D 2), .ref (D 3), .ref (D 4), .ref (D 5), .ref (D 6), .ref (D 7), .ref (D 8), .int ii, .long de, .int dl, .int dp, .int dc, .ref (D 9), .int (nI nr), .ref (D 10), .ref (D 11), .ref (D 12), .ref (D 13), .ref (D 14), .int al, .int wa])) :: (D 2, .inl (G.2.1.2.1, 12, .inl rr)) :: (D 0, .inl (G.2.1.1, 6, .inl (upd fc 2 (fc 2 + 1)))) :: r) := by
  refine Mt.of (by decide +kernel) rfl rfl (fun X B => ?_)
  show J G X mX8_light ((m, .inr (8, [.int fi, .ref (D 0), .long as, .int (nI ns), .ref (D 1), .ref (D 2), .ref (D 3), .ref (D 4), .ref (D 5), .ref (D 6), .ref (D 7), .ref (D 8), .int ii, .long de, .int dl, .int dp, .int dc, .ref (D 9), .int (nI nr), .ref (D 10), .ref (D 11), .ref (D 12), .ref (D 13), .ref (D 14), .int al, .int wa])) :: (D 2, .inl (G.2.1.2.1, 12, .inl rr)) :: (D 0, .inl (G.2.1.1, 6, .inl fc)) :: r) 0 0 0 [(0, .ref m), (1, .int (nI s)), (2, .int nt)] []
  have hs : s < 12 := by omega
  refine J.aload_n 0 dX8_light_0 rfl ?_
  refine J.iload_n 1 dX8_light_1 rfl ?_
  refine J.callV 0 (st := []) B (c_X8_looked l G _ (k := s) hk hns hr) ml_X8_108 mf_yX8_looked mi_yX8_looked rfl dX8_light_2 rfl rfl rfl rfl (fun v_1 w_2 hp_3 => ?_)
  obtain ⟨rfl, rfl⟩ := hp_3
  show J G X mX8_light _ _ _ 5 _ [.int (0 : Int32)]
  refine J.istore_n [1, 2, 3, 0] (lv' := [(0, .ref m), (1, .int (nI s)), (2, .int nt), (3, .int (0 : Int32))]) dX8_light_5 rfl rfl ?_
  refine J.iload_n 3 dX8_light_6 rfl ?_
  refine J.if_ge dX8_light_7 (fun _ => ?_) (fun z => absurd z (by decide))
  refine J.iload_n 2 dX8_light_12 rfl ?_
  refine J.callS (st := []) B (c_X8_isNight l G _ (n := nt)) ml_X8_111 mf_yX8_isNight mS_yX8_isNight dX8_light_13 rfl rfl rfl (fun v_4 w_5 hp_6 => ?_)
  obtain ⟨rfl, rfl⟩ := hp_6
  show J G X mX8_light _ _ _ 16 _ [.int (b01 (inR nt 0 59))]
  refine J.if_ne dX8_light_16 (fun z => absurd (by rw [hnt]; rfl) z) (fun h9 => ?_)
  refine J.aload_n 0 dX8_light_19 rfl ?_
  refine J.iconst (2 : Int32) dX8_light_20 rfl ?_
  refine J.re [0, 2, 1] 3 (ws2 := (m, .inr (8, [.int fi, .ref (D 0), .long as, .int (nI ns), .ref (D 1), .ref (D 2), .ref (D 3), .ref (D 4), .ref (D 5), .ref (D 6), .ref (D 7), .ref (D 8), .int ii, .long de, .int dl, .int dp, .int dc, .ref (D 9), .int (nI nr), .ref (D 10), .ref (D 11), .ref (D 12), .ref (D 13), .ref (D 14), .int al, .int wa])) :: (D 0, .inl (G.2.1.1, 6, .inl fc)) :: (D 2, .inl (G.2.1.2.1, 12, .inl rr)) :: r) rfl rfl ?_
  refine J.callV 0 (st := []) B (c_X8_meets l G _ (c := 2) (by decide)) ml_X8_95 mf_yX8_meets mi_yX8_meets rfl dX8_light_21 rfl rfl rfl rfl (fun v_7 w_8 hp_9 => ?_)
  obtain ⟨rfl, rfl⟩ := hp_9
  refine J.re [0, 2, 1] 3 (ws2 := (m, .inr (8, [.int (nI 2), .ref (D 0), .long as, .int (nI ns), .ref (D 1), .ref (D 2), .ref (D 3), .ref (D 4), .ref (D 5), .ref (D 6), .ref (D 7), .ref (D 8), .int ii, .long de, .int dl, .int dp, .int dc, .ref (D 9), .int (nI nr), .ref (D 10), .ref (D 11), .ref (D 12), .ref (D 13), .ref (D 14), .int al, .int wa])) :: (D 2, .inl (G.2.1.2.1, 12, .inl rr)) :: (D 0, .inl (G.2.1.1, 6, .inl (upd fc 2 (fc 2 + 1)))) :: r) rfl rfl ?_
  show J G X mX8_light _ _ _ 24 _ [.int (-3 : Int32)]
  exact J.iret B dX8_light_24 rfl (⟨rfl, rfl⟩)
set_option maxHeartbeats 4000000 in
set_option maxRecDepth 100000 in
theorem r_at (l : Launch) (G : jG) (r : va_W) {m : Nat} {D : Nat → Nat} {fi : Int32} {as : Int64} {ns : Nat} {ii : Int32} {de : Int64} {dl dp dc : Int32} {nr : Nat} {al wa : Int32} {rr : Nat → Int32} {s : Nat} (hk : s < ns) (hns : ns ≤ 12) {ml : Nat → Int32} (hr : ¬ rr s = 0) {nt : Nat} (hn0 : nt < 60) : Mt l G yX8_at mX8_at 3 64 0 0 [.ref m, .int (nI s), .int (nI nt)] ((m, .inr (8, [.int fi, .ref (D 0), .long as, .int (nI ns), .ref (D 1), .ref (D 2), .ref (D 3), .ref (D 4), .ref (D 5), .ref (D 6), .ref (D 7), .ref (D 8), .int ii, .long de, .int dl, .int dp, .int dc, .ref (D 9), .int (nI nr), .ref (D 10), .ref (D 11), .ref (D 12), .ref (D 13), .ref (D 14), .int al, .int wa])) :: (D 2, .inl (G.2.1.2.1, 12, .inl rr)) :: (D 3, .inl (G.2.1.1, 720, .inl ml)) :: r) (fun v w => v = some (.int (rowM ml s nt)) ∧ w = (m, .inr (8, [.int fi, .ref (D 0), .long as, .int (nI ns), .ref (D 1), .ref (D 2), .ref (D 3), .ref (D 4), .ref (D 5), .ref (D 6), .ref (D 7), .ref (D 8), .int ii, .long de, .int dl, .int dp, .int dc, .ref (D 9), .int (nI nr), .ref (D 10), .ref (D 11), .ref (D 12), .ref (D 13), .ref (D 14), .int al, .int wa])) :: (D 2, .inl (G.2.1.2.1, 12, .inl rr)) :: (D 3, .inl (G.2.1.1, 720, .inl ml)) :: r) := by
  refine Mt.of (by decide +kernel) rfl rfl (fun X B => ?_)
  show J G X mX8_at ((m, .inr (8, [.int fi, .ref (D 0), .long as, .int (nI ns), .ref (D 1), .ref (D 2), .ref (D 3), .ref (D 4), .ref (D 5), .ref (D 6), .ref (D 7), .ref (D 8), .int ii, .long de, .int dl, .int dp, .int dc, .ref (D 9), .int (nI nr), .ref (D 10), .ref (D 11), .ref (D 12), .ref (D 13), .ref (D 14), .int al, .int wa])) :: (D 2, .inl (G.2.1.2.1, 12, .inl rr)) :: (D 3, .inl (G.2.1.1, 720, .inl ml)) :: r) 0 0 0 [(0, .ref m), (1, .int (nI s)), (2, .int (nI nt))] []
  have hs : s < 12 := by omega
  have hnt : inR (nI nt) 0 59 = true := by rw [nI_inR (by omega)]; exact decide_eq_true ⟨by omega, by omega⟩
  refine J.aload_n 0 dX8_at_0 rfl ?_
  refine J.iload_n 1 dX8_at_1 rfl ?_
  refine J.callV 0 (st := []) B (c_X8_looked l G _ (k := s) hk hns hr) ml_X8_108 mf_yX8_looked mi_yX8_looked rfl dX8_at_2 rfl rfl rfl rfl (fun v_1 w_2 hp_3 => ?_)
  obtain ⟨rfl, rfl⟩ := hp_3
  show J G X mX8_at _ _ _ 5 _ [.int (0 : Int32)]
  refine J.istore_n [1, 2, 3, 0] (lv' := [(0, .ref m), (1, .int (nI s)), (2, .int (nI nt)), (3, .int (0 : Int32))]) dX8_at_5 rfl rfl ?_
  refine J.iload_n 3 dX8_at_6 rfl ?_
  refine J.if_ge dX8_at_7 (fun _ => ?_) (fun z => absurd z (by decide))
  refine J.iload_n 2 dX8_at_14 rfl ?_
  refine J.callS (st := []) B (c_X8_isNight l G _ (n := nI nt)) ml_X8_111 mf_yX8_isNight mS_yX8_isNight dX8_at_15 rfl rfl rfl (fun v_4 w_5 hp_6 => ?_)
  obtain ⟨rfl, rfl⟩ := hp_6
  show J G X mX8_at _ _ _ 18 _ [.int (b01 (inR (nI nt) 0 59))]
  refine J.if_eq dX8_at_18 (fun z => absurd z (by rw [hnt]; decide)) (fun h9 => ?_)
  refine J.aload_n 0 dX8_at_21 rfl ?_
  refine J.get 0 fl_X8_20 dX8_at_22 rfl rfl ?_
  refine J.bipush (60 : Int32) dX8_at_25 rfl ?_
  refine J.iload_n 1 dX8_at_27 rfl ?_
  refine J.imul dX8_at_28 ?_
  refine J.topi (y := nI (60 * s)) (pk_mul 60 s) ?_
  refine J.iload_n 2 dX8_at_29 rfl ?_
  refine J.iadd dX8_at_30 ?_
  refine J.topi (y := nI ((60 * s) + nt)) (nI_add (60 * s) nt) ?_
  refine J.iald 2 ((60 * s) + nt) dX8_at_31 rfl (rfl) (by omega) (by decide) ?_
  refine J.topi (y := rowM ml s nt) (rfl) ?_
  refine J.goto dX8_at_32 ?_
  exact J.iret B dX8_at_40 rfl (⟨rfl, rfl⟩)
set_option maxHeartbeats 4000000 in
set_option maxRecDepth 100000 in
theorem r_light_none (l : Launch) (G : jG) (r : va_W) {m : Nat} {D : Nat → Nat} {fi : Int32} {as : Int64} {ns : Nat} {ii : Int32} {de : Int64} {dl dp dc : Int32} {nr : Nat} {al wa : Int32} {rr : Nat → Int32} {s : Nat} (hk : s < ns) (hns : ns ≤ 12) {ml : Nat → Int32} (hr : ¬ rr s = 0) {nt : Nat} (hn0 : nt < 60) (hl0 : rowM ml s nt = -9) : Mt l G yX8_light mX8_light 3 64 0 0 [.ref m, .int (nI s), .int (nI nt)] ((m, .inr (8, [.int fi, .ref (D 0), .long as, .int (nI ns), .ref (D 1), .ref (D 2), .ref (D 3), .ref (D 4), .ref (D 5), .ref (D 6), .ref (D 7), .ref (D 8), .int ii, .long de, .int dl, .int dp, .int dc, .ref (D 9), .int (nI nr), .ref (D 10), .ref (D 11), .ref (D 12), .ref (D 13), .ref (D 14), .int al, .int wa])) :: (D 2, .inl (G.2.1.2.1, 12, .inl rr)) :: (D 3, .inl (G.2.1.1, 720, .inl ml)) :: r) (fun v w => v = some (.int (-9 : Int32)) ∧ w = (m, .inr (8, [.int fi, .ref (D 0), .long as, .int (nI ns), .ref (D 1), .ref (D 2), .ref (D 3), .ref (D 4), .ref (D 5), .ref (D 6), .ref (D 7), .ref (D 8), .int ii, .long de, .int dl, .int dp, .int dc, .ref (D 9), .int (nI nr), .ref (D 10), .ref (D 11), .ref (D 12), .ref (D 13), .ref (D 14), .int al, .int wa])) :: (D 2, .inl (G.2.1.2.1, 12, .inl rr)) :: (D 3, .inl (G.2.1.1, 720, .inl ml)) :: r) := by
  refine Mt.of (by decide +kernel) rfl rfl (fun X B => ?_)
  show J G X mX8_light ((m, .inr (8, [.int fi, .ref (D 0), .long as, .int (nI ns), .ref (D 1), .ref (D 2), .ref (D 3), .ref (D 4), .ref (D 5), .ref (D 6), .ref (D 7), .ref (D 8), .int ii, .long de, .int dl, .int dp, .int dc, .ref (D 9), .int (nI nr), .ref (D 10), .ref (D 11), .ref (D 12), .ref (D 13), .ref (D 14), .int al, .int wa])) :: (D 2, .inl (G.2.1.2.1, 12, .inl rr)) :: (D 3, .inl (G.2.1.1, 720, .inl ml)) :: r) 0 0 0 [(0, .ref m), (1, .int (nI s)), (2, .int (nI nt))] []
  have hs : s < 12 := by omega
  have hnt : inR (nI nt) 0 59 = true := by rw [nI_inR (by omega)]; exact decide_eq_true ⟨by omega, by omega⟩
  refine J.aload_n 0 dX8_light_0 rfl ?_
  refine J.iload_n 1 dX8_light_1 rfl ?_
  refine J.callV 0 (st := []) B (c_X8_looked l G _ (k := s) hk hns hr) ml_X8_108 mf_yX8_looked mi_yX8_looked rfl dX8_light_2 rfl rfl rfl rfl (fun v_1 w_2 hp_3 => ?_)
  obtain ⟨rfl, rfl⟩ := hp_3
  show J G X mX8_light _ _ _ 5 _ [.int (0 : Int32)]
  refine J.istore_n [1, 2, 3, 0] (lv' := [(0, .ref m), (1, .int (nI s)), (2, .int (nI nt)), (3, .int (0 : Int32))]) dX8_light_5 rfl rfl ?_
  refine J.iload_n 3 dX8_light_6 rfl ?_
  refine J.if_ge dX8_light_7 (fun _ => ?_) (fun z => absurd z (by decide))
  refine J.iload_n 2 dX8_light_12 rfl ?_
  refine J.callS (st := []) B (c_X8_isNight l G _ (n := nI nt)) ml_X8_111 mf_yX8_isNight mS_yX8_isNight dX8_light_13 rfl rfl rfl (fun v_4 w_5 hp_6 => ?_)
  obtain ⟨rfl, rfl⟩ := hp_6
  show J G X mX8_light _ _ _ 16 _ [.int (b01 (inR (nI nt) 0 59))]
  refine J.if_ne dX8_light_16 (fun h9 => ?_) (fun z => absurd z (by rw [hnt]; decide))
  refine J.aload_n 0 dX8_light_25 rfl ?_
  refine J.iload_n 1 dX8_light_26 rfl ?_
  refine J.iload_n 2 dX8_light_27 rfl ?_
  refine J.re [0, 2, 1] 3 (ws2 := (m, .inr (8, [.int fi, .ref (D 0), .long as, .int (nI ns), .ref (D 1), .ref (D 2), .ref (D 3), .ref (D 4), .ref (D 5), .ref (D 6), .ref (D 7), .ref (D 8), .int ii, .long de, .int dl, .int dp, .int dc, .ref (D 9), .int (nI nr), .ref (D 10), .ref (D 11), .ref (D 12), .ref (D 13), .ref (D 14), .int al, .int wa])) :: (D 3, .inl (G.2.1.1, 720, .inl ml)) :: (D 2, .inl (G.2.1.2.1, 12, .inl rr)) :: r) rfl rfl ?_
  refine J.callV 0 (st := []) B (c_X8_has l G _ (s := s) (n := nt) hs (by omega)) ml_X8_88 mf_yX8_has mi_yX8_has rfl dX8_light_28 rfl rfl rfl rfl (fun v_7 w_8 hp_9 => ?_)
  obtain ⟨rfl, rfl⟩ := hp_9
  refine J.re [0, 2, 1] 3 (ws2 := (m, .inr (8, [.int fi, .ref (D 0), .long as, .int (nI ns), .ref (D 1), .ref (D 2), .ref (D 3), .ref (D 4), .ref (D 5), .ref (D 6), .ref (D 7), .ref (D 8), .int ii, .long de, .int dl, .int dp, .int dc, .ref (D 9), .int (nI nr), .ref (D 10), .ref (D 11), .ref (D 12), .ref (D 13), .ref (D 14), .int al, .int wa])) :: (D 2, .inl (G.2.1.2.1, 12, .inl rr)) :: (D 3, .inl (G.2.1.1, 720, .inl ml)) :: r) rfl rfl ?_
  show J G X mX8_light _ _ _ 31 _ [.int (b01 (decide (¬ rowM ml s nt = -9)))]
  refine J.if_eq dX8_light_31 (fun h9 => ?_) (fun z => absurd (by rw [decide_eq_false (fun z => z hl0)]; rfl) z)
  refine J.bipush (-9 : Int32) dX8_light_48 rfl ?_
  exact J.iret B dX8_light_50 rfl (⟨rfl, rfl⟩)
set_option maxHeartbeats 4000000 in
set_option maxRecDepth 100000 in
theorem r_light (l : Launch) (G : jG) (r : va_W) {m : Nat} {D : Nat → Nat} {fi : Int32} {as : Int64} {ns : Nat} {ii : Int32} {de : Int64} {dl dp dc : Int32} {nr : Nat} {al wa : Int32} {rr : Nat → Int32} {s : Nat} (hk : s < ns) (hns : ns ≤ 12) {ml F : Nat → Int32} (hr : ¬ rr s = 0) {nt : Nat} (hn0 : nt < 60) (hl0 : ¬ rowM ml s nt = -9) : Mt l G yX8_light mX8_light 3 64 0 0 [.ref m, .int (nI s), .int (nI nt)] ((m, .inr (8, [.int fi, .ref (D 0), .long as, .int (nI ns), .ref (D 1), .ref (D 2), .ref (D 3), .ref (D 4), .ref (D 5), .ref (D 6), .ref (D 7), .ref (D 8), .int ii, .long de, .int dl, .int dp, .int dc, .ref (D 9), .int (nI nr), .ref (D 10), .ref (D 11), .ref (D 12), .ref (D 13), .ref (D 14), .int al, .int wa])) :: (D 2, .inl (G.2.1.2.1, 12, .inl rr)) :: (D 3, .inl (G.2.1.1, 720, .inl ml)) :: (D 4, .inl (G.2.1.1, 60, .inl F)) :: r) (fun v w => v = some (.int (1 : Int32)) ∧ w = (m, .inr (8, [.int fi, .ref (D 0), .long ((ltF (rowM ml s) F nt).toInt64), .int (nI ns), .ref (D 1), .ref (D 2), .ref (D 3), .ref (D 4), .ref (D 5), .ref (D 6), .ref (D 7), .ref (D 8), .int ii, .long de, .int dl, .int dp, .int dc, .ref (D 9), .int (nI nr), .ref (D 10), .ref (D 11), .ref (D 12), .ref (D 13), .ref (D 14), .int al, .int wa])) :: (D 2, .inl (G.2.1.2.1, 12, .inl rr)) :: (D 3, .inl (G.2.1.1, 720, .inl ml)) :: (D 4, .inl (G.2.1.1, 60, .inl F)) :: r) := by
  refine Mt.of (by decide +kernel) rfl rfl (fun X B => ?_)
  show J G X mX8_light ((m, .inr (8, [.int fi, .ref (D 0), .long as, .int (nI ns), .ref (D 1), .ref (D 2), .ref (D 3), .ref (D 4), .ref (D 5), .ref (D 6), .ref (D 7), .ref (D 8), .int ii, .long de, .int dl, .int dp, .int dc, .ref (D 9), .int (nI nr), .ref (D 10), .ref (D 11), .ref (D 12), .ref (D 13), .ref (D 14), .int al, .int wa])) :: (D 2, .inl (G.2.1.2.1, 12, .inl rr)) :: (D 3, .inl (G.2.1.1, 720, .inl ml)) :: (D 4, .inl (G.2.1.1, 60, .inl F)) :: r) 0 0 0 [(0, .ref m), (1, .int (nI s)), (2, .int (nI nt))] []
  have hs : s < 12 := by omega
  have hnt : inR (nI nt) 0 59 = true := by rw [nI_inR (by omega)]; exact decide_eq_true ⟨by omega, by omega⟩
  refine J.aload_n 0 dX8_light_0 rfl ?_
  refine J.iload_n 1 dX8_light_1 rfl ?_
  refine J.callV 0 (st := []) B (c_X8_looked l G _ (k := s) hk hns hr) ml_X8_108 mf_yX8_looked mi_yX8_looked rfl dX8_light_2 rfl rfl rfl rfl (fun v_1 w_2 hp_3 => ?_)
  obtain ⟨rfl, rfl⟩ := hp_3
  show J G X mX8_light _ _ _ 5 _ [.int (0 : Int32)]
  refine J.istore_n [1, 2, 3, 0] (lv' := [(0, .ref m), (1, .int (nI s)), (2, .int (nI nt)), (3, .int (0 : Int32))]) dX8_light_5 rfl rfl ?_
  refine J.iload_n 3 dX8_light_6 rfl ?_
  refine J.if_ge dX8_light_7 (fun _ => ?_) (fun z => absurd z (by decide))
  refine J.iload_n 2 dX8_light_12 rfl ?_
  refine J.callS (st := []) B (c_X8_isNight l G _ (n := nI nt)) ml_X8_111 mf_yX8_isNight mS_yX8_isNight dX8_light_13 rfl rfl rfl (fun v_4 w_5 hp_6 => ?_)
  obtain ⟨rfl, rfl⟩ := hp_6
  show J G X mX8_light _ _ _ 16 _ [.int (b01 (inR (nI nt) 0 59))]
  refine J.if_ne dX8_light_16 (fun h9 => ?_) (fun z => absurd z (by rw [hnt]; decide))
  refine J.aload_n 0 dX8_light_25 rfl ?_
  refine J.iload_n 1 dX8_light_26 rfl ?_
  refine J.iload_n 2 dX8_light_27 rfl ?_
  refine J.re [0, 2, 1, 3] 4 (ws2 := (m, .inr (8, [.int fi, .ref (D 0), .long as, .int (nI ns), .ref (D 1), .ref (D 2), .ref (D 3), .ref (D 4), .ref (D 5), .ref (D 6), .ref (D 7), .ref (D 8), .int ii, .long de, .int dl, .int dp, .int dc, .ref (D 9), .int (nI nr), .ref (D 10), .ref (D 11), .ref (D 12), .ref (D 13), .ref (D 14), .int al, .int wa])) :: (D 3, .inl (G.2.1.1, 720, .inl ml)) :: (D 2, .inl (G.2.1.2.1, 12, .inl rr)) :: (D 4, .inl (G.2.1.1, 60, .inl F)) :: r) rfl rfl ?_
  refine J.callV 0 (st := []) B (c_X8_has l G _ (s := s) (n := nt) hs (by omega)) ml_X8_88 mf_yX8_has mi_yX8_has rfl dX8_light_28 rfl rfl rfl rfl (fun v_7 w_8 hp_9 => ?_)
  obtain ⟨rfl, rfl⟩ := hp_9
  refine J.re [0, 2, 1, 3] 4 (ws2 := (m, .inr (8, [.int fi, .ref (D 0), .long as, .int (nI ns), .ref (D 1), .ref (D 2), .ref (D 3), .ref (D 4), .ref (D 5), .ref (D 6), .ref (D 7), .ref (D 8), .int ii, .long de, .int dl, .int dp, .int dc, .ref (D 9), .int (nI nr), .ref (D 10), .ref (D 11), .ref (D 12), .ref (D 13), .ref (D 14), .int al, .int wa])) :: (D 2, .inl (G.2.1.2.1, 12, .inl rr)) :: (D 3, .inl (G.2.1.1, 720, .inl ml)) :: (D 4, .inl (G.2.1.1, 60, .inl F)) :: r) rfl rfl ?_
  show J G X mX8_light _ _ _ 31 _ [.int (b01 (decide (¬ rowM ml s nt = -9)))]
  refine J.if_eq dX8_light_31 (fun z => absurd z (by rw [decide_eq_true hl0]; decide)) (fun h9 => ?_)
  refine J.aload_n 0 dX8_light_34 rfl ?_
  refine J.aload_n 0 dX8_light_35 rfl ?_
  refine J.iload_n 1 dX8_light_36 rfl ?_
  refine J.iload_n 2 dX8_light_37 rfl ?_
  refine J.re [0, 2, 3, 1] 4 (ws2 := (m, .inr (8, [.int fi, .ref (D 0), .long as, .int (nI ns), .ref (D 1), .ref (D 2), .ref (D 3), .ref (D 4), .ref (D 5), .ref (D 6), .ref (D 7), .ref (D 8), .int ii, .long de, .int dl, .int dp, .int dc, .ref (D 9), .int (nI nr), .ref (D 10), .ref (D 11), .ref (D 12), .ref (D 13), .ref (D 14), .int al, .int wa])) :: (D 3, .inl (G.2.1.1, 720, .inl ml)) :: (D 4, .inl (G.2.1.1, 60, .inl F)) :: (D 2, .inl (G.2.1.2.1, 12, .inl rr)) :: r) rfl rfl ?_
  refine J.callV 0 (st := [.ref m]) B (c_X8_lightOf l G _ (s := s) (n := nt) hs (by omega)) ml_X8_91 mf_yX8_lightOf mi_yX8_lightOf rfl dX8_light_38 rfl rfl rfl rfl (fun v_10 w_11 hp_12 => ?_)
  obtain ⟨rfl, rfl⟩ := hp_12
  refine J.re [0, 3, 1, 2] 4 (ws2 := (m, .inr (8, [.int fi, .ref (D 0), .long as, .int (nI ns), .ref (D 1), .ref (D 2), .ref (D 3), .ref (D 4), .ref (D 5), .ref (D 6), .ref (D 7), .ref (D 8), .int ii, .long de, .int dl, .int dp, .int dc, .ref (D 9), .int (nI nr), .ref (D 10), .ref (D 11), .ref (D 12), .ref (D 13), .ref (D 14), .int al, .int wa])) :: (D 2, .inl (G.2.1.2.1, 12, .inl rr)) :: (D 3, .inl (G.2.1.1, 720, .inl ml)) :: (D 4, .inl (G.2.1.1, 60, .inl F)) :: r) rfl rfl ?_
  show J G X mX8_light _ _ _ 41 _ [.int (ltF (rowM ml s) F nt), .ref m]
  refine J.i2l dX8_light_41 ?_
  refine J.callV 0 (st := []) B (c_X8_tell l G _ (t0 := (ltF (rowM ml s) F nt).toInt64)) ml_X8_114 mf_yX8_tell mi_yX8_tell rfl dX8_light_42 rfl rfl rfl rfl (fun v_13 w_14 hp_15 => ?_)
  obtain ⟨rfl, rfl⟩ := hp_15
  show J G X mX8_light _ _ _ 45 _ [.int (1 : Int32)]
  refine J.goto dX8_light_45 ?_
  exact J.iret B dX8_light_50 rfl (⟨rfl, rfl⟩)
set_option maxHeartbeats 4000000 in
set_option maxRecDepth 100000 in
theorem r_foot_bad (l : Launch) (G : jG) (r : va_W) {m : Nat} {D : Nat → Nat} {fi : Int32} {as : Int64} {ns : Nat} {ii : Int32} {de : Int64} {dl dp dc : Int32} {nr : Nat} {al wa : Int32} {nt v0 : Int32} (hb : (inR nt 0 59 && inR v0 (-10000) 10000) = false) : Mt l G yX8_foot mX8_foot 2 42 0 0 [.ref m, .int nt, .int v0] ((m, .inr (8, [.int fi, .ref (D 0), .long as, .int (nI ns), .ref (D 1), .ref (D 2), .ref (D 3), .ref (D 4), .ref (D 5), .ref (D 6), .ref (D 7), .ref (D 8), .int ii, .long de, .int dl, .int dp, .int dc, .ref (D 9), .int (nI nr), .ref (D 10), .ref (D 11), .ref (D 12), .ref (D 13), .ref (D 14), .int al, .int wa])) :: r) (fun v w => v = some (.int (-1 : Int32)) ∧ w = (m, .inr (8, [.int fi, .ref (D 0), .long as, .int (nI ns), .ref (D 1), .ref (D 2), .ref (D 3), .ref (D 4), .ref (D 5), .ref (D 6), .ref (D 7), .ref (D 8), .int ii, .long de, .int dl, .int dp, .int dc, .ref (D 9), .int (nI nr), .ref (D 10), .ref (D 11), .ref (D 12), .ref (D 13), .ref (D 14), .int al, .int wa])) :: r) := by
  refine Mt.of (by decide +kernel) rfl rfl (fun X B => ?_)
  show J G X mX8_foot ((m, .inr (8, [.int fi, .ref (D 0), .long as, .int (nI ns), .ref (D 1), .ref (D 2), .ref (D 3), .ref (D 4), .ref (D 5), .ref (D 6), .ref (D 7), .ref (D 8), .int ii, .long de, .int dl, .int dp, .int dc, .ref (D 9), .int (nI nr), .ref (D 10), .ref (D 11), .ref (D 12), .ref (D 13), .ref (D 14), .int al, .int wa])) :: r) 0 0 0 [(0, .ref m), (1, .int nt), (2, .int v0)] []
  refine J.iload_n 1 dX8_foot_0 rfl ?_
  refine J.callS (st := []) B (c_X8_isNight l G _ (n := nt)) ml_X8_111 mf_yX8_isNight mS_yX8_isNight dX8_foot_1 rfl rfl rfl (fun v_1 w_2 hp_3 => ?_)
  obtain ⟨rfl, rfl⟩ := hp_3
  show J G X mX8_foot _ _ _ 4 _ [.int (b01 (inR nt 0 59))]
  refine J.if_eq dX8_foot_4 (fun h9 => ?_) (fun h9 => ?_)
  · skip
    refine J.iconst (-1 : Int32) dX8_foot_20 rfl ?_
    exact J.iret B dX8_foot_21 rfl (⟨rfl, rfl⟩)
  · skip
    refine J.iload_n 2 dX8_foot_7 rfl ?_
    refine J.sipush (-10000 : Int32) dX8_foot_8 rfl ?_
    refine J.sipush (10000 : Int32) dX8_foot_11 rfl ?_
    refine J.callS (st := []) B (c_X8_in l G _ (v := v0) (lo := (-10000 : Int32)) (hi := (10000 : Int32)) (a := (-10000)) (b := 10000) rfl rfl) ml_X8_76 mf_yX8_in mS_yX8_in dX8_foot_14 rfl rfl rfl (fun v_4 w_5 hp_6 => ?_)
    obtain ⟨rfl, rfl⟩ := hp_6
    show J G X mX8_foot _ _ _ 17 _ [.int (b01 (inR v0 (-10000) 10000))]
    refine J.if_ne dX8_foot_17 (fun h8 => ?_) (fun h8 => ?_)
    · skip
      exact absurd (by rw [b01_1 h9, b01_1 h8]; rfl) (Bool.eq_false_iff.mp hb)
    · skip
      refine J.iconst (-1 : Int32) dX8_foot_20 rfl ?_
      exact J.iret B dX8_foot_21 rfl (⟨rfl, rfl⟩)
set_option maxHeartbeats 4000000 in
set_option maxRecDepth 100000 in
theorem r_foot (l : Launch) (G : jG) (r : va_W) {m : Nat} {D : Nat → Nat} {fi : Int32} {as : Int64} {ns : Nat} {ii : Int32} {de : Int64} {dl dp dc : Int32} {nr : Nat} {al wa : Int32} {F : Nat → Int32} {v0 : Int32} {nt : Nat} (hn0 : nt < 60) (hv : inR v0 (-10000) 10000 = true) : Mt l G yX8_foot mX8_foot 2 42 0 0 [.ref m, .int (nI nt), .int v0] ((m, .inr (8, [.int fi, .ref (D 0), .long as, .int (nI ns), .ref (D 1), .ref (D 2), .ref (D 3), .ref (D 4), .ref (D 5), .ref (D 6), .ref (D 7), .ref (D 8), .int ii, .long de, .int dl, .int dp, .int dc, .ref (D 9), .int (nI nr), .ref (D 10), .ref (D 11), .ref (D 12), .ref (D 13), .ref (D 14), .int al, .int wa])) :: (D 4, .inl (G.2.1.1, 60, .inl F)) :: r) (fun v w => v = some (.int (1 : Int32)) ∧ w = (m, .inr (8, [.int fi, .ref (D 0), .long as, .int (nI ns), .ref (D 1), .ref (D 2), .ref (D 3), .ref (D 4), .ref (D 5), .ref (D 6), .ref (D 7), .ref (D 8), .int ii, .long de, .int dl, .int dp, .int dc, .ref (D 9), .int (nI nr), .ref (D 10), .ref (D 11), .ref (D 12), .ref (D 13), .ref (D 14), .int al, .int wa])) :: (D 4, .inl (G.2.1.1, 60, .inl (upd F nt v0))) :: r) := by
  refine Mt.of (by decide +kernel) rfl rfl (fun X B => ?_)
  show J G X mX8_foot ((m, .inr (8, [.int fi, .ref (D 0), .long as, .int (nI ns), .ref (D 1), .ref (D 2), .ref (D 3), .ref (D 4), .ref (D 5), .ref (D 6), .ref (D 7), .ref (D 8), .int ii, .long de, .int dl, .int dp, .int dc, .ref (D 9), .int (nI nr), .ref (D 10), .ref (D 11), .ref (D 12), .ref (D 13), .ref (D 14), .int al, .int wa])) :: (D 4, .inl (G.2.1.1, 60, .inl F)) :: r) 0 0 0 [(0, .ref m), (1, .int (nI nt)), (2, .int v0)] []
  have hnt : inR (nI nt) 0 59 = true := by rw [nI_inR (by omega)]; exact decide_eq_true ⟨by omega, by omega⟩
  refine J.iload_n 1 dX8_foot_0 rfl ?_
  refine J.callS (st := []) B (c_X8_isNight l G _ (n := nI nt)) ml_X8_111 mf_yX8_isNight mS_yX8_isNight dX8_foot_1 rfl rfl rfl (fun v_1 w_2 hp_3 => ?_)
  obtain ⟨rfl, rfl⟩ := hp_3
  show J G X mX8_foot _ _ _ 4 _ [.int (b01 (inR (nI nt) 0 59))]
  refine J.if_eq dX8_foot_4 (fun z => absurd z (by rw [hnt]; decide)) (fun h9 => ?_)
  refine J.iload_n 2 dX8_foot_7 rfl ?_
  refine J.sipush (-10000 : Int32) dX8_foot_8 rfl ?_
  refine J.sipush (10000 : Int32) dX8_foot_11 rfl ?_
  refine J.callS (st := []) B (c_X8_in l G _ (v := v0) (lo := (-10000 : Int32)) (hi := (10000 : Int32)) (a := (-10000)) (b := 10000) rfl rfl) ml_X8_76 mf_yX8_in mS_yX8_in dX8_foot_14 rfl rfl rfl (fun v_4 w_5 hp_6 => ?_)
  obtain ⟨rfl, rfl⟩ := hp_6
  show J G X mX8_foot _ _ _ 17 _ [.int (b01 (inR v0 (-10000) 10000))]
  refine J.if_ne dX8_foot_17 (fun h9 => ?_) (fun z => absurd z (by rw [hv]; decide))
  refine J.aload_n 0 dX8_foot_22 rfl ?_
  refine J.get 0 fl_X8_23 dX8_foot_23 rfl rfl ?_
  refine J.iload_n 1 dX8_foot_26 rfl ?_
  refine J.iload_n 2 dX8_foot_27 rfl ?_
  refine J.iast 1 (nt) dX8_foot_28 rfl (rfl) (by omega) (by decide) (ws' := (m, .inr (8, [.int fi, .ref (D 0), .long as, .int (nI ns), .ref (D 1), .ref (D 2), .ref (D 3), .ref (D 4), .ref (D 5), .ref (D 6), .ref (D 7), .ref (D 8), .int ii, .long de, .int dl, .int dp, .int dc, .ref (D 9), .int (nI nr), .ref (D 10), .ref (D 11), .ref (D 12), .ref (D 13), .ref (D 14), .int al, .int wa])) :: (D 4, .inl (G.2.1.1, 60, .inl (upd F nt v0))) :: r) rfl ?_
  refine J.iconst (1 : Int32) dX8_foot_29 rfl ?_
  exact J.iret B dX8_foot_30 rfl (⟨rfl, rfl⟩)
set_option maxHeartbeats 4000000 in
set_option maxRecDepth 100000 in
theorem r_footing_bad (l : Launch) (G : jG) (r : va_W) {m : Nat} {D : Nat → Nat} {fi : Int32} {as : Int64} {ns : Nat} {ii : Int32} {de : Int64} {dl dp dc : Int32} {nr : Nat} {al wa : Int32} {nt : Int32} (hnt : inR nt 0 59 = false) : Mt l G yX8_footing mX8_footing 2 42 0 0 [.ref m, .int nt] ((m, .inr (8, [.int fi, .ref (D 0), .long as, .int (nI ns), .ref (D 1), .ref (D 2), .ref (D 3), .ref (D 4), .ref (D 5), .ref (D 6), .ref (D 7), .ref (D 8), .int ii, .long de, .int dl, .int dp, .int dc, .ref (D 9), .int (nI nr), .ref (D 10), .ref (D 11), .ref (D 12), .ref (D 13), .ref (D 14), .int al, .int wa])) :: r) (fun v w => v = some (.int (-1 : Int32)) ∧ w = (m, .inr (8, [.int fi, .ref (D 0), .long as, .int (nI ns), .ref (D 1), .ref (D 2), .ref (D 3), .ref (D 4), .ref (D 5), .ref (D 6), .ref (D 7), .ref (D 8), .int ii, .long de, .int dl, .int dp, .int dc, .ref (D 9), .int (nI nr), .ref (D 10), .ref (D 11), .ref (D 12), .ref (D 13), .ref (D 14), .int al, .int wa])) :: r) := by
  refine Mt.of (by decide +kernel) rfl rfl (fun X B => ?_)
  show J G X mX8_footing ((m, .inr (8, [.int fi, .ref (D 0), .long as, .int (nI ns), .ref (D 1), .ref (D 2), .ref (D 3), .ref (D 4), .ref (D 5), .ref (D 6), .ref (D 7), .ref (D 8), .int ii, .long de, .int dl, .int dp, .int dc, .ref (D 9), .int (nI nr), .ref (D 10), .ref (D 11), .ref (D 12), .ref (D 13), .ref (D 14), .int al, .int wa])) :: r) 0 0 0 [(0, .ref m), (1, .int nt)] []
  refine J.iload_n 1 dX8_footing_0 rfl ?_
  refine J.callS (st := []) B (c_X8_isNight l G _ (n := nt)) ml_X8_111 mf_yX8_isNight mS_yX8_isNight dX8_footing_1 rfl rfl rfl (fun v_1 w_2 hp_3 => ?_)
  obtain ⟨rfl, rfl⟩ := hp_3
  show J G X mX8_footing _ _ _ 4 _ [.int (b01 (inR nt 0 59))]
  refine J.if_eq dX8_footing_4 (fun h9 => ?_) (fun z => absurd (by rw [hnt]; rfl) z)
  refine J.iconst (-1 : Int32) dX8_footing_21 rfl ?_
  exact J.iret B dX8_footing_22 rfl (⟨rfl, rfl⟩)
set_option maxHeartbeats 4000000 in
set_option maxRecDepth 100000 in
theorem r_footing (l : Launch) (G : jG) (r : va_W) {m : Nat} {D : Nat → Nat} {fi : Int32} {as : Int64} {ns : Nat} {ii : Int32} {de : Int64} {dl dp dc : Int32} {nr : Nat} {al wa : Int32} {F : Nat → Int32} {nt : Nat} (hn0 : nt < 60) : Mt l G yX8_footing mX8_footing 2 42 0 0 [.ref m, .int (nI nt)] ((m, .inr (8, [.int fi, .ref (D 0), .long as, .int (nI ns), .ref (D 1), .ref (D 2), .ref (D 3), .ref (D 4), .ref (D 5), .ref (D 6), .ref (D 7), .ref (D 8), .int ii, .long de, .int dl, .int dp, .int dc, .ref (D 9), .int (nI nr), .ref (D 10), .ref (D 11), .ref (D 12), .ref (D 13), .ref (D 14), .int al, .int wa])) :: (D 4, .inl (G.2.1.1, 60, .inl F)) :: r) (fun v w => v = some (.int (1 : Int32)) ∧ w = (m, .inr (8, [.int fi, .ref (D 0), .long ((F nt).toInt64), .int (nI ns), .ref (D 1), .ref (D 2), .ref (D 3), .ref (D 4), .ref (D 5), .ref (D 6), .ref (D 7), .ref (D 8), .int ii, .long de, .int dl, .int dp, .int dc, .ref (D 9), .int (nI nr), .ref (D 10), .ref (D 11), .ref (D 12), .ref (D 13), .ref (D 14), .int al, .int wa])) :: (D 4, .inl (G.2.1.1, 60, .inl F)) :: r) := by
  refine Mt.of (by decide +kernel) rfl rfl (fun X B => ?_)
  show J G X mX8_footing ((m, .inr (8, [.int fi, .ref (D 0), .long as, .int (nI ns), .ref (D 1), .ref (D 2), .ref (D 3), .ref (D 4), .ref (D 5), .ref (D 6), .ref (D 7), .ref (D 8), .int ii, .long de, .int dl, .int dp, .int dc, .ref (D 9), .int (nI nr), .ref (D 10), .ref (D 11), .ref (D 12), .ref (D 13), .ref (D 14), .int al, .int wa])) :: (D 4, .inl (G.2.1.1, 60, .inl F)) :: r) 0 0 0 [(0, .ref m), (1, .int (nI nt))] []
  have hnt : inR (nI nt) 0 59 = true := by rw [nI_inR (by omega)]; exact decide_eq_true ⟨by omega, by omega⟩
  refine J.iload_n 1 dX8_footing_0 rfl ?_
  refine J.callS (st := []) B (c_X8_isNight l G _ (n := nI nt)) ml_X8_111 mf_yX8_isNight mS_yX8_isNight dX8_footing_1 rfl rfl rfl (fun v_1 w_2 hp_3 => ?_)
  obtain ⟨rfl, rfl⟩ := hp_3
  show J G X mX8_footing _ _ _ 4 _ [.int (b01 (inR (nI nt) 0 59))]
  refine J.if_eq dX8_footing_4 (fun z => absurd z (by rw [hnt]; decide)) (fun h9 => ?_)
  refine J.aload_n 0 dX8_footing_7 rfl ?_
  refine J.aload_n 0 dX8_footing_8 rfl ?_
  refine J.get 0 fl_X8_23 dX8_footing_9 rfl rfl ?_
  refine J.iload_n 1 dX8_footing_12 rfl ?_
  refine J.iald 1 (nt) dX8_footing_13 rfl (rfl) (by omega) (by decide) ?_
  refine J.i2l dX8_footing_14 ?_
  refine J.callV 0 (st := []) B (c_X8_tell l G _ (t0 := (F nt).toInt64)) ml_X8_114 mf_yX8_tell mi_yX8_tell rfl dX8_footing_15 rfl rfl rfl rfl (fun v_4 w_5 hp_6 => ?_)
  obtain ⟨rfl, rfl⟩ := hp_6
  show J G X mX8_footing _ _ _ 18 _ [.int (1 : Int32)]
  refine J.goto dX8_footing_18 ?_
  exact J.iret B dX8_footing_22 rfl (⟨rfl, rfl⟩)
