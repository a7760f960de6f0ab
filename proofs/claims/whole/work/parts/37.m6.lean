set_option maxHeartbeats 4000000 in
set_option maxRecDepth 100000 in
theorem r_levelOf_bad (l : Launch) (G : jG) (r : va_W) {m : Nat} {D : Nat → Nat} {fi : Int32} {as : Int64} {ns : Nat} {ii : Int32} {de : Int64} {dl dp dc : Int32} {nr : Nat} {al wa : Int32} {rr : Nat → Int32} {num : Int32} (hns : ns ≤ 12) (hnum : inR num 0 ((ns : Int) - 1) = false) : Mt l G yX8_levelOf mX8_levelOf 3 64 0 0 [.ref m, .int num] ((m, .inr (8, [.int fi, .ref (D 0), .long as, .int (nI ns), .ref (D 1), .ref (D 2), .ref (D 3), .ref (D 4), .ref (D 5), .ref (D 6), .ref (D 7), .ref (D 8), .int ii, .long de, .int dl, .int dp, .int dc, .ref (D 9), .int (nI nr), .ref (D 10), .ref (D 11), .ref (D 12), .ref (D 13), .ref (D 14), .int al, .int wa])) :: (D 2, .inl (G.2.1.2.1, 12, .inl rr)) :: r) (fun v w => v = some (.int (-1 : Int32)) ∧ w = (m, .inr (8, [.int fi, .ref (D 0), .long as, .int (nI ns), .ref (D 1), .ref (D 2), .ref (D 3), .ref (D 4), .ref (D 5), .ref (D 6), .ref (D 7), .ref (D 8), .int ii, .long de, .int dl, .int dp, .int dc, .ref (D 9), .int (nI nr), .ref (D 10), .ref (D 11), .ref (D 12), .ref (D 13), .ref (D 14), .int al, .int wa])) :: (D 2, .inl (G.2.1.2.1, 12, .inl rr)) :: r) := by
  refine Mt.of (by decide +kernel) rfl rfl (fun X B => ?_)
  show J G X mX8_levelOf ((m, .inr (8, [.int fi, .ref (D 0), .long as, .int (nI ns), .ref (D 1), .ref (D 2), .ref (D 3), .ref (D 4), .ref (D 5), .ref (D 6), .ref (D 7), .ref (D 8), .int ii, .long de, .int dl, .int dp, .int dc, .ref (D 9), .int (nI nr), .ref (D 10), .ref (D 11), .ref (D 12), .ref (D 13), .ref (D 14), .int al, .int wa])) :: (D 2, .inl (G.2.1.2.1, 12, .inl rr)) :: r) 0 0 0 [(0, .ref m), (1, .int num)] []
  refine J.aload_n 0 dX8_levelOf_0 rfl ?_
  refine J.iload_n 1 dX8_levelOf_1 rfl ?_
  refine J.callV 0 (st := []) B (c_X8_looked_bad l G _ hns hnum) ml_X8_108 mf_yX8_looked mi_yX8_looked rfl dX8_levelOf_2 rfl rfl rfl rfl (fun v_1 w_2 hp_3 => ?_)
  obtain ⟨rfl, rfl⟩ := hp_3
  show J G X mX8_levelOf _ _ _ 5 _ [.int (-1 : Int32)]
  refine J.istore_n [1, 2, 0] (lv' := [(0, .ref m), (1, .int num), (2, .int (-1 : Int32))]) dX8_levelOf_5 rfl rfl ?_
  refine J.iload_n 2 dX8_levelOf_6 rfl ?_
  refine J.if_ge dX8_levelOf_7 (fun z => absurd z (by decide)) (fun _ => ?_)
  refine J.iload_n 2 dX8_levelOf_10 rfl ?_
  refine J.goto dX8_levelOf_11 ?_
  exact J.iret B dX8_levelOf_41 rfl (⟨rfl, rfl⟩)
set_option maxHeartbeats 4000000 in
set_option maxRecDepth 100000 in
theorem r_levelOf_no (l : Launch) (G : jG) (r : va_W) {m : Nat} {D : Nat → Nat} {fi : Int32} {as : Int64} {ns : Nat} {ii : Int32} {de : Int64} {dl dp dc : Int32} {nr : Nat} {al wa : Int32} {rr : Nat → Int32} {s : Nat} (hk : s < ns) (hns : ns ≤ 12) {fc : Nat → Int32} (hr : rr s = 0) : Mt l G yX8_levelOf mX8_levelOf 3 64 0 0 [.ref m, .int (nI s)] ((m, .inr (8, [.int fi, .ref (D 0), .long as, .int (nI ns), .ref (D 1), .ref (D 2), .ref (D 3), .ref (D 4), .ref (D 5), .ref (D 6), .ref (D 7), .ref (D 8), .int ii, .long de, .int dl, .int dp, .int dc, .ref (D 9), .int (nI nr), .ref (D 10), .ref (D 11), .ref (D 12), .ref (D 13), .ref (D 14), .int al, .int wa])) :: (D 2, .inl (G.2.1.2.1, 12, .inl rr)) :: (D 0, .inl (G.2.1.1, 6, .inl fc)) :: r) (fun v w => v = some (.int (-3 : Int32)) ∧ w = (m, .inr (8, [.int (nI 1), .ref (D 0), .long as, .int (nI ns), .ref (D 1), .ref (D 2), .ref (D 3), .ref (D 4), .ref (D 5), .ref (D 6), .ref (D 7), .ref (D 8), .int ii, .long de, .int dl, .int dp, .int dc, .ref (D 9), .int (nI nr), .ref (D 10), .ref (D 11), .ref (D 12), .ref (D 13), .ref (D 14), .int al, .int wa])) :: (D 2, .inl (G.2.1.2.1, 12, .inl rr)) :: (D 0, .inl (G.2.1.1, 6, .inl (upd fc 1 (fc 1 + 1)))) :: r) := by
  refine Mt.of (by decide +kernel) rfl rfl (fun X B => ?_)
  show J G X mX8_levelOf ((m, .inr (8, [.int fi, .ref (D 0), .long as, .int (nI ns), .ref (D 1), .ref (D 2), .ref (D 3), .ref (D 4), .ref (D 5), .ref (D 6), .ref (D 7), .ref (D 8), .int ii, .long de, .int dl, .int dp, .int dc, .ref (D 9), .int (nI nr), .ref (D 10), .ref (D 11), .ref (D 12), .ref (D 13), .ref (D 14), .int al, .int wa])) :: (D 2, .inl (G.2.1.2.1, 12, .inl rr)) :: (D 0, .inl (G.2.1.1, 6, .inl fc)) :: r) 0 0 0 [(0, .ref m), (1, .int (nI s))] []
  refine J.aload_n 0 dX8_levelOf_0 rfl ?_
  refine J.iload_n 1 dX8_levelOf_1 rfl ?_
  refine J.callV 0 (st := []) B (c_X8_looked_no l G _ (k := s) hk hns hr) ml_X8_108 mf_yX8_looked mi_yX8_looked rfl dX8_levelOf_2 rfl rfl rfl rfl (fun v_1 w_2 hp_3 => ?_)
  obtain ⟨rfl, rfl⟩ := hp_3
  show J G X mX8_levelOf _ _ _ 5 _ [.int (-3 : Int32)]
  refine J.istore_n [1, 2, 0] (lv' := [(0, .ref m), (1, .int (nI s)), (2, .int (-3 : Int32))]) dX8_levelOf_5 rfl rfl ?_
  refine J.iload_n 2 dX8_levelOf_6 rfl ?_
  refine J.if_ge dX8_levelOf_7 (fun z => absurd z (by decide)) (fun _ => ?_)
  refine J.iload_n 2 dX8_levelOf_10 rfl ?_
  refine J.goto dX8_levelOf_11 ?_
  exact J.iret B dX8_levelOf_41 rfl (⟨rfl, rfl⟩)
set_option maxHeartbeats 4000000 in
set_option maxRecDepth 100000 in
theorem r_levelOf_nought (l : Launch) (G : jG) (r : va_W) {m : Nat} {D : Nat → Nat} {fi : Int32} {as : Int64} {ns : Nat} {ii : Int32} {de : Int64} {dl dp dc : Int32} {nr : Nat} {al wa : Int32} {rr : Nat → Int32} {s : Nat} (hk : s < ns) (hns : ns ≤ 12) {fc : Nat → Int32} {ml : Nat → Int32} (hr : ¬ rr s = 0) (h0 : nN (rowM ml s) = 0) : Mt l G yX8_levelOf mX8_levelOf 3 64 0 0 [.ref m, .int (nI s)] ((m, .inr (8, [.int fi, .ref (D 0), .long as, .int (nI ns), .ref (D 1), .ref (D 2), .ref (D 3), .ref (D 4), .ref (D 5), .ref (D 6), .ref (D 7), .ref (D 8), .int ii, .long de, .int dl, .int dp, .int dc, .ref (D 9), .int (nI nr), .ref (D 10), .ref (D 11), .ref (D 12), .ref (D 13), .ref (D 14), .int al, .int wa])) :: (D 2, .inl (G.2.1.2.1, 12, .inl rr)) :: (D 3, .inl (G.2.1.1, 720, .inl ml)) :: (D 0, .inl (G.2.1.1, 6, .inl fc)) :: r) (fun v w => v = some (.int (-3 : Int32)) ∧ w = (m, .inr (8, [.int (nI 4), .ref (D 0), .long as, .int (nI ns), .ref (D 1), .ref (D 2), .ref (D 3), .ref (D 4), .ref (D 5), .ref (D 6), .ref (D 7), .ref (D 8), .int ii, .long de, .int dl, .int dp, .int dc, .ref (D 9), .int (nI nr), .ref (D 10), .ref (D 11), .ref (D 12), .ref (D 13), .ref (D 14), .int al, .int wa])) :: (D 2, .inl (G.2.1.2.1, 12, .inl rr)) :: (D 3, .inl (G.2.1.1, 720, .inl ml)) :: (D 0, .inl (G.2.1.1, 6, .inl (upd fc 4 (fc 4 + 1)))) :: r) := by
  refine Mt.of (by decide +kernel) rfl rfl (fun X B => ?_)
  show J G X mX8_levelOf ((m, .inr (8, [.int fi, .ref (D 0), .long as, .int (nI ns), .ref (D 1), .ref (D 2), .ref (D 3), .ref (D 4), .ref (D 5), .ref (D 6), .ref (D 7), .ref (D 8), .int ii, .long de, .int dl, .int dp, .int dc, .ref (D 9), .int (nI nr), .ref (D 10), .ref (D 11), .ref (D 12), .ref (D 13), .ref (D 14), .int al, .int wa])) :: (D 2, .inl (G.2.1.2.1, 12, .inl rr)) :: (D 3, .inl (G.2.1.1, 720, .inl ml)) :: (D 0, .inl (G.2.1.1, 6, .inl fc)) :: r) 0 0 0 [(0, .ref m), (1, .int (nI s))] []
  have hs : s < 12 := by omega
  refine J.aload_n 0 dX8_levelOf_0 rfl ?_
  refine J.iload_n 1 dX8_levelOf_1 rfl ?_
  refine J.callV 0 (st := []) B (c_X8_looked l G _ (k := s) hk hns hr) ml_X8_108 mf_yX8_looked mi_yX8_looked rfl dX8_levelOf_2 rfl rfl rfl rfl (fun v_1 w_2 hp_3 => ?_)
  obtain ⟨rfl, rfl⟩ := hp_3
  show J G X mX8_levelOf _ _ _ 5 _ [.int (0 : Int32)]
  refine J.istore_n [1, 2, 0] (lv' := [(0, .ref m), (1, .int (nI s)), (2, .int (0 : Int32))]) dX8_levelOf_5 rfl rfl ?_
  refine J.iload_n 2 dX8_levelOf_6 rfl ?_
  refine J.if_ge dX8_levelOf_7 (fun _ => ?_) (fun z => absurd z (by decide))
  refine J.aload_n 0 dX8_levelOf_14 rfl ?_
  refine J.iload_n 1 dX8_levelOf_15 rfl ?_
  refine J.re [0, 2, 1, 3] 4 (ws2 := (m, .inr (8, [.int fi, .ref (D 0), .long as, .int (nI ns), .ref (D 1), .ref (D 2), .ref (D 3), .ref (D 4), .ref (D 5), .ref (D 6), .ref (D 7), .ref (D 8), .int ii, .long de, .int dl, .int dp, .int dc, .ref (D 9), .int (nI nr), .ref (D 10), .ref (D 11), .ref (D 12), .ref (D 13), .ref (D 14), .int al, .int wa])) :: (D 3, .inl (G.2.1.1, 720, .inl ml)) :: (D 2, .inl (G.2.1.2.1, 12, .inl rr)) :: (D 0, .inl (G.2.1.1, 6, .inl fc)) :: r) rfl rfl ?_
  refine J.callV 0 (st := []) B (c_X8_many l G _ (s := s) hs) ml_X8_99 mf_yX8_many mi_yX8_many rfl dX8_levelOf_16 rfl rfl rfl rfl (fun v_4 w_5 hp_6 => ?_)
  obtain ⟨rfl, rfl⟩ := hp_6
  refine J.re [0, 2, 1, 3] 4 (ws2 := (m, .inr (8, [.int fi, .ref (D 0), .long as, .int (nI ns), .ref (D 1), .ref (D 2), .ref (D 3), .ref (D 4), .ref (D 5), .ref (D 6), .ref (D 7), .ref (D 8), .int ii, .long de, .int dl, .int dp, .int dc, .ref (D 9), .int (nI nr), .ref (D 10), .ref (D 11), .ref (D 12), .ref (D 13), .ref (D 14), .int al, .int wa])) :: (D 2, .inl (G.2.1.2.1, 12, .inl rr)) :: (D 3, .inl (G.2.1.1, 720, .inl ml)) :: (D 0, .inl (G.2.1.1, 6, .inl fc)) :: r) rfl rfl ?_
  show J G X mX8_levelOf _ _ _ 19 _ [.int (nI (nN (rowM ml s)))]
  refine J.if_ne dX8_levelOf_19 (fun z => absurd (by rw [h0]; rfl) z) (fun h9 => ?_)
  refine J.aload_n 0 dX8_levelOf_22 rfl ?_
  refine J.iconst (4 : Int32) dX8_levelOf_23 rfl ?_
  refine J.re [0, 3, 1, 2] 4 (ws2 := (m, .inr (8, [.int fi, .ref (D 0), .long as, .int (nI ns), .ref (D 1), .ref (D 2), .ref (D 3), .ref (D 4), .ref (D 5), .ref (D 6), .ref (D 7), .ref (D 8), .int ii, .long de, .int dl, .int dp, .int dc, .ref (D 9), .int (nI nr), .ref (D 10), .ref (D 11), .ref (D 12), .ref (D 13), .ref (D 14), .int al, .int wa])) :: (D 0, .inl (G.2.1.1, 6, .inl fc)) :: (D 2, .inl (G.2.1.2.1, 12, .inl rr)) :: (D 3, .inl (G.2.1.1, 720, .inl ml)) :: r) rfl rfl ?_
  refine J.callV 0 (st := []) B (c_X8_meets l G _ (c := 4) (by decide)) ml_X8_95 mf_yX8_meets mi_yX8_meets rfl dX8_levelOf_24 rfl rfl rfl rfl (fun v_7 w_8 hp_9 => ?_)
  obtain ⟨rfl, rfl⟩ := hp_9
  refine J.re [0, 2, 3, 1] 4 (ws2 := (m, .inr (8, [.int (nI 4), .ref (D 0), .long as, .int (nI ns), .ref (D 1), .ref (D 2), .ref (D 3), .ref (D 4), .ref (D 5), .ref (D 6), .ref (D 7), .ref (D 8), .int ii, .long de, .int dl, .int dp, .int dc, .ref (D 9), .int (nI nr), .ref (D 10), .ref (D 11), .ref (D 12), .ref (D 13), .ref (D 14), .int al, .int wa])) :: (D 2, .inl (G.2.1.2.1, 12, .inl rr)) :: (D 3, .inl (G.2.1.1, 720, .inl ml)) :: (D 0, .inl (G.2.1.1, 6, .inl (upd fc 4 (fc 4 + 1)))) :: r) rfl rfl ?_
  show J G X mX8_levelOf _ _ _ 27 _ [.int (-3 : Int32)]
  refine J.goto dX8_levelOf_27 ?_
  exact J.iret B dX8_levelOf_41 rfl (⟨rfl, rfl⟩)
set_option maxHeartbeats 4000000 in
set_option maxRecDepth 100000 in
theorem r_levelOf (l : Launch) (G : jG) (r : va_W) {m : Nat} {D : Nat → Nat} {fi : Int32} {as : Int64} {ns : Nat} {ii : Int32} {de : Int64} {dl dp dc : Int32} {nr : Nat} {al wa : Int32} {rr : Nat → Int32} {s : Nat} (hk : s < ns) (hns : ns ≤ 12) {ml F : Nat → Int32} {so : Nat → Int32} (hr : ¬ rr s = 0) (h0 : 0 < nN (rowM ml s)) : Mt l G yX8_levelOf mX8_levelOf 3 64 0 0 [.ref m, .int (nI s)] ((m, .inr (8, [.int fi, .ref (D 0), .long as, .int (nI ns), .ref (D 1), .ref (D 2), .ref (D 3), .ref (D 4), .ref (D 5), .ref (D 6), .ref (D 7), .ref (D 8), .int ii, .long de, .int dl, .int dp, .int dc, .ref (D 9), .int (nI nr), .ref (D 10), .ref (D 11), .ref (D 12), .ref (D 13), .ref (D 14), .int al, .int wa])) :: (D 2, .inl (G.2.1.2.1, 12, .inl rr)) :: (D 3, .inl (G.2.1.1, 720, .inl ml)) :: (D 4, .inl (G.2.1.1, 60, .inl F)) :: (D 6, .inl (G.2.1.1, 60, .inl so)) :: r) (fun v w => ∃ so1, v = some (.int 1) ∧ w = (m, .inr (8, [.int fi, .ref (D 0), .long ((midV (lits (rowM ml s) F 60)).toInt64), .int (nI ns), .ref (D 1), .ref (D 2), .ref (D 3), .ref (D 4), .ref (D 5), .ref (D 6), .ref (D 7), .ref (D 8), .int ii, .long de, .int dl, .int dp, .int dc, .ref (D 9), .int (nI nr), .ref (D 10), .ref (D 11), .ref (D 12), .ref (D 13), .ref (D 14), .int al, .int wa])) :: (D 2, .inl (G.2.1.2.1, 12, .inl rr)) :: (D 3, .inl (G.2.1.1, 720, .inl ml)) :: (D 4, .inl (G.2.1.1, 60, .inl F)) :: (D 6, .inl (G.2.1.1, 60, .inl so1)) :: r) := by
  refine Mt.of (by decide +kernel) rfl rfl (fun X B => ?_)
  show J G X mX8_levelOf ((m, .inr (8, [.int fi, .ref (D 0), .long as, .int (nI ns), .ref (D 1), .ref (D 2), .ref (D 3), .ref (D 4), .ref (D 5), .ref (D 6), .ref (D 7), .ref (D 8), .int ii, .long de, .int dl, .int dp, .int dc, .ref (D 9), .int (nI nr), .ref (D 10), .ref (D 11), .ref (D 12), .ref (D 13), .ref (D 14), .int al, .int wa])) :: (D 2, .inl (G.2.1.2.1, 12, .inl rr)) :: (D 3, .inl (G.2.1.1, 720, .inl ml)) :: (D 4, .inl (G.2.1.1, 60, .inl F)) :: (D 6, .inl (G.2.1.1, 60, .inl so)) :: r) 0 0 0 [(0, .ref m), (1, .int (nI s))] []
  have hs : s < 12 := by omega
  have hn := nN_le (rowM ml s)
  refine J.aload_n 0 dX8_levelOf_0 rfl ?_
  refine J.iload_n 1 dX8_levelOf_1 rfl ?_
  refine J.callV 0 (st := []) B (c_X8_looked l G _ (k := s) hk hns hr) ml_X8_108 mf_yX8_looked mi_yX8_looked rfl dX8_levelOf_2 rfl rfl rfl rfl (fun v_1 w_2 hp_3 => ?_)
  obtain ⟨rfl, rfl⟩ := hp_3
  show J G X mX8_levelOf _ _ _ 5 _ [.int (0 : Int32)]
  refine J.istore_n [1, 2, 0] (lv' := [(0, .ref m), (1, .int (nI s)), (2, .int (0 : Int32))]) dX8_levelOf_5 rfl rfl ?_
  refine J.iload_n 2 dX8_levelOf_6 rfl ?_
  refine J.if_ge dX8_levelOf_7 (fun _ => ?_) (fun z => absurd z (by decide))
  refine J.aload_n 0 dX8_levelOf_14 rfl ?_
  refine J.iload_n 1 dX8_levelOf_15 rfl ?_
  refine J.re [0, 2, 1, 3, 4] 5 (ws2 := (m, .inr (8, [.int fi, .ref (D 0), .long as, .int (nI ns), .ref (D 1), .ref (D 2), .ref (D 3), .ref (D 4), .ref (D 5), .ref (D 6), .ref (D 7), .ref (D 8), .int ii, .long de, .int dl, .int dp, .int dc, .ref (D 9), .int (nI nr), .ref (D 10), .ref (D 11), .ref (D 12), .ref (D 13), .ref (D 14), .int al, .int wa])) :: (D 3, .inl (G.2.1.1, 720, .inl ml)) :: (D 2, .inl (G.2.1.2.1, 12, .inl rr)) :: (D 4, .inl (G.2.1.1, 60, .inl F)) :: (D 6, .inl (G.2.1.1, 60, .inl so)) :: r) rfl rfl ?_
  refine J.callV 0 (st := []) B (c_X8_many l G _ (s := s) hs) ml_X8_99 mf_yX8_many mi_yX8_many rfl dX8_levelOf_16 rfl rfl rfl rfl (fun v_4 w_5 hp_6 => ?_)
  obtain ⟨rfl, rfl⟩ := hp_6
  refine J.re [0, 2, 1, 3, 4] 5 (ws2 := (m, .inr (8, [.int fi, .ref (D 0), .long as, .int (nI ns), .ref (D 1), .ref (D 2), .ref (D 3), .ref (D 4), .ref (D 5), .ref (D 6), .ref (D 7), .ref (D 8), .int ii, .long de, .int dl, .int dp, .int dc, .ref (D 9), .int (nI nr), .ref (D 10), .ref (D 11), .ref (D 12), .ref (D 13), .ref (D 14), .int al, .int wa])) :: (D 2, .inl (G.2.1.2.1, 12, .inl rr)) :: (D 3, .inl (G.2.1.1, 720, .inl ml)) :: (D 4, .inl (G.2.1.1, 60, .inl F)) :: (D 6, .inl (G.2.1.1, 60, .inl so)) :: r) rfl rfl ?_
  show J G X mX8_levelOf _ _ _ 19 _ [.int (nI (nN (rowM ml s)))]
  refine J.if_ne dX8_levelOf_19 (fun h9 => ?_) (fun z => absurd z (nI_ne0 h0 (by omega)))
  refine J.aload_n 0 dX8_levelOf_30 rfl ?_
  refine J.aload_n 0 dX8_levelOf_31 rfl ?_
  refine J.iload_n 1 dX8_levelOf_32 rfl ?_
  refine J.iconst (0 : Int32) dX8_levelOf_33 rfl ?_
  refine J.re [0, 2, 4, 3, 1] 5 (ws2 := (m, .inr (8, [.int fi, .ref (D 0), .long as, .int (nI ns), .ref (D 1), .ref (D 2), .ref (D 3), .ref (D 4), .ref (D 5), .ref (D 6), .ref (D 7), .ref (D 8), .int ii, .long de, .int dl, .int dp, .int dc, .ref (D 9), .int (nI nr), .ref (D 10), .ref (D 11), .ref (D 12), .ref (D 13), .ref (D 14), .int al, .int wa])) :: (D 3, .inl (G.2.1.1, 720, .inl ml)) :: (D 6, .inl (G.2.1.1, 60, .inl so)) :: (D 4, .inl (G.2.1.1, 60, .inl F)) :: (D 2, .inl (G.2.1.2.1, 12, .inl rr)) :: r) rfl rfl ?_
  refine J.callV 0 (st := [.ref m]) B (c_X8_middle0 l G _ hs h0) ml_X8_123 mf_yX8_middle mi_yX8_middle rfl dX8_levelOf_34 rfl rfl rfl rfl (fun v_7 w_8 hp_9 => ?_)
  obtain ⟨so1, rfl, rfl⟩ := hp_9
  refine J.re [0, 4, 1, 3, 2] 5 (ws2 := (m, .inr (8, [.int fi, .ref (D 0), .long as, .int (nI ns), .ref (D 1), .ref (D 2), .ref (D 3), .ref (D 4), .ref (D 5), .ref (D 6), .ref (D 7), .ref (D 8), .int ii, .long de, .int dl, .int dp, .int dc, .ref (D 9), .int (nI nr), .ref (D 10), .ref (D 11), .ref (D 12), .ref (D 13), .ref (D 14), .int al, .int wa])) :: (D 2, .inl (G.2.1.2.1, 12, .inl rr)) :: (D 3, .inl (G.2.1.1, 720, .inl ml)) :: (D 4, .inl (G.2.1.1, 60, .inl F)) :: (D 6, .inl (G.2.1.1, 60, .inl so1)) :: r) rfl rfl ?_
  show J G X mX8_levelOf _ _ _ 37 _ [.int (midV (lits (rowM ml s) F 60)), .ref m]
  refine J.i2l dX8_levelOf_37 ?_
  refine J.callV 0 (st := []) B (c_X8_tell l G _ (t0 := (midV (lits (rowM ml s) F 60)).toInt64)) ml_X8_114 mf_yX8_tell mi_yX8_tell rfl dX8_levelOf_38 rfl rfl rfl rfl (fun v_10 w_11 hp_12 => ?_)
  obtain ⟨rfl, rfl⟩ := hp_12
  show J G X mX8_levelOf _ _ _ 41 _ [.int (1 : Int32)]
  exact J.iret B dX8_levelOf_41 rfl (⟨so1, rfl, rfl⟩)
set_option maxHeartbeats 4000000 in
set_option maxRecDepth 100000 in
theorem r_mean_bad (l : Launch) (G : jG) (r : va_W) {m : Nat} {D : Nat → Nat} {fi : Int32} {as : Int64} {ns : Nat} {ii : Int32} {de : Int64} {dl dp dc : Int32} {nr : Nat} {al wa : Int32} {rr : Nat → Int32} {num : Int32} (hns : ns ≤ 12) (hnum : inR num 0 ((ns : Int) - 1) = false) : Mt l G yX8_mean mX8_mean 3 64 0 0 [.ref m, .int num] ((m, .inr (8, [.int fi, .ref (D 0), .long as, .int (nI ns), .ref (D 1), .ref (D 2), .ref (D 3), .ref (D 4), .ref (D 5), .ref (D 6), .ref (D 7), .ref (D 8), .int ii, .long de, .int dl, .int dp, .int dc, .ref (D 9), .int (nI nr), .ref (D 10), .ref (D 11), .ref (D 12), .ref (D 13), .ref (D 14), .int al, .int wa])) :: (D 2, .inl (G.2.1.2.1, 12, .inl rr)) :: r) (fun v w => v = some (.int (-1 : Int32)) ∧ w = (m, .inr (8, [.int fi, .ref (D 0), .long as, .int (nI ns), .ref (D 1), .ref (D 2), .ref (D 3), .ref (D 4), .ref (D 5), .ref (D 6), .ref (D 7), .ref (D 8), .int ii, .long de, .int dl, .int dp, .int dc, .ref (D 9), .int (nI nr), .ref (D 10), .ref (D 11), .ref (D 12), .ref (D 13), .ref (D 14), .int al, .int wa])) :: (D 2, .inl (G.2.1.2.1, 12, .inl rr)) :: r) := by
  refine Mt.of (by decide +kernel) rfl rfl (fun X B => ?_)
  show J G X mX8_mean ((m, .inr (8, [.int fi, .ref (D 0), .long as, .int (nI ns), .ref (D 1), .ref (D 2), .ref (D 3), .ref (D 4), .ref (D 5), .ref (D 6), .ref (D 7), .ref (D 8), .int ii, .long de, .int dl, .int dp, .int dc, .ref (D 9), .int (nI nr), .ref (D 10), .ref (D 11), .ref (D 12), .ref (D 13), .ref (D 14), .int al, .int wa])) :: (D 2, .inl (G.2.1.2.1, 12, .inl rr)) :: r) 0 0 0 [(0, .ref m), (1, .int num)] []
  refine J.aload_n 0 dX8_mean_0 rfl ?_
  refine J.iload_n 1 dX8_mean_1 rfl ?_
  refine J.callV 0 (st := []) B (c_X8_looked_bad l G _ hns hnum) ml_X8_108 mf_yX8_looked mi_yX8_looked rfl dX8_mean_2 rfl rfl rfl rfl (fun v_1 w_2 hp_3 => ?_)
  obtain ⟨rfl, rfl⟩ := hp_3
  show J G X mX8_mean _ _ _ 5 _ [.int (-1 : Int32)]
  refine J.istore_n [1, 2, 0] (lv' := [(0, .ref m), (1, .int num), (2, .int (-1 : Int32))]) dX8_mean_5 rfl rfl ?_
  refine J.iload_n 2 dX8_mean_6 rfl ?_
  refine J.if_ge dX8_mean_7 (fun z => absurd z (by decide)) (fun _ => ?_)
  refine J.iload_n 2 dX8_mean_10 rfl ?_
  exact J.iret B dX8_mean_11 rfl (⟨rfl, rfl⟩)
set_option maxHeartbeats 4000000 in
set_option maxRecDepth 100000 in
theorem r_mean_no (l : Launch) (G : jG) (r : va_W) {m : Nat} {D : Nat → Nat} {fi : Int32} {as : Int64} {ns : Nat} {ii : Int32} {de : Int64} {dl dp dc : Int32} {nr : Nat} {al wa : Int32} {rr : Nat → Int32} {s : Nat} (hk : s < ns) (hns : ns ≤ 12) {fc : Nat → Int32} (hr : rr s = 0) : Mt l G yX8_mean mX8_mean 3 64 0 0 [.ref m, .int (nI s)] ((m, .inr (8, [.int fi, .ref (D 0), .long as, .int (nI ns), .ref (D 1), .ref (D 2), .ref (D 3), .ref (D 4), .ref (D 5), .ref (D 6), .ref (D 7), .ref (D 8), .int ii, .long de, .int dl, .int dp, .int dc, .ref (D 9), .int (nI nr), .ref (D 10), .ref (D 11), .ref (D 12), .ref (D 13), .ref (D 14), .int al, .int wa])) :: (D 2, .inl (G.2.1.2.1, 12, .inl rr)) :: (D 0, .inl (G.2.1.1, 6, .inl fc)) :: r) (fun v w => v = some (.int (-3 : Int32)) ∧ w = (m, .inr (8, [.int (nI 1), .ref (D 0), .long as, .int (nI ns), .ref (D 1), .ref (D 2), .ref (D 3), .ref (D 4), .ref (D 5), .ref (D 6), .ref (D 7), .ref (D 8), .int ii, .long de, .int dl, .int dp, .int dc, .ref (D 9), .int (nI nr), .ref (D 10), .ref (D 11), .ref (D 12), .ref (D 13), .ref (D 14), .int al, .int wa])) :: (D 2, .inl (G.2.1.2.1, 12, .inl rr)) :: (D 0, .inl (G.2.1.1, 6, .inl (upd fc 1 (fc 1 + 1)))) :: r) := by
  refine Mt.of (by decide +kernel) rfl rfl (fun X B => ?_)
  show J G X mX8_mean ((m, .inr (8, [.int fi, .ref (D 0), .long as, .int (nI ns), .ref (D 1), .ref (D 2), .ref (D 3), .ref (D 4), .ref (D 5), .ref (D 6), .ref (D 7), .ref (D 8), .int ii, .long de, .int dl, .int dp, .int dc, .ref (D 9), .int (nI nr), .ref (D 10), .ref (D 11), .ref (D 12), .ref (D 13), .ref (D 14), .int al, .int wa])) :: (D 2, .inl (G.2.1.2.1, 12, .inl rr)) :: (D 0, .inl (G.2.1.1, 6, .inl fc)) :: r) 0 0 0 [(0, .ref m), (1, .int (nI s))] []
  refine J.aload_n 0 dX8_mean_0 rfl ?_
  refine J.iload_n 1 dX8_mean_1 rfl ?_
  refine J.callV 0 (st := []) B (c_X8_looked_no l G _ (k := s) hk hns hr) ml_X8_108 mf_yX8_looked mi_yX8_looked rfl dX8_mean_2 rfl rfl rfl rfl (fun v_1 w_2 hp_3 => ?_)
  obtain ⟨rfl, rfl⟩ := hp_3
  show J G X mX8_mean _ _ _ 5 _ [.int (-3 : Int32)]
  refine J.istore_n [1, 2, 0] (lv' := [(0, .ref m), (1, .int (nI s)), (2, .int (-3 : Int32))]) dX8_mean_5 rfl rfl ?_
  refine J.iload_n 2 dX8_mean_6 rfl ?_
  refine J.if_ge dX8_mean_7 (fun z => absurd z (by decide)) (fun _ => ?_)
  refine J.iload_n 2 dX8_mean_10 rfl ?_
  exact J.iret B dX8_mean_11 rfl (⟨rfl, rfl⟩)
theorem sm_yes {L F : Nat → Int32} {k : Nat} (h : ¬ L k = -9) : Int64.ofInt (smI (ltF L F) allK (nts L (k + 1))) = Int64.ofInt (smI (ltF L F) allK (nts L k)) + (ltF L F k).toInt64 := by
  rw [smI_yes h, show allK k = true from rfl, if_pos rfl, l_add]
theorem sm_no {L F : Nat → Int32} {k : Nat} (h : L k = -9) : Int64.ofInt (smI (ltF L F) allK (nts L (k + 1))) = Int64.ofInt (smI (ltF L F) allK (nts L k)) + 0 := by
  rw [nts_no h, show (0 : Int64) = Int64.ofInt 0 from rfl, ← Int64.ofInt_add, Int.add_zero]
set_option maxHeartbeats 4000000 in
set_option maxRecDepth 100000 in
theorem X8_meanFC_lp {l : Launch} {G : jG} {X : jX} {r : va_W} {m : Nat} {D : Nat → Nat} {fi : Int32} {as : Int64} {ns : Nat} {ii : Int32} {de : Int64} {dl dp dc : Int32} {nr : Nat} {al wa : Int32} {ml F : Nat → Int32} {rr fc : Nat → Int32} {s : Nat} (B : jB l G X 3 64 0 0 (fun v w => v = some (.int (-3)) ∧ w = (m, .inr (8, [.int (nI 4), .ref (D 0), .long as, .int (nI ns), .ref (D 1), .ref (D 2), .ref (D 3), .ref (D 4), .ref (D 5), .ref (D 6), .ref (D 7), .ref (D 8), .int ii, .long de, .int dl, .int dp, .int dc, .ref (D 9), .int (nI nr), .ref (D 10), .ref (D 11), .ref (D 12), .ref (D 13), .ref (D 14), .int al, .int wa])) :: (D 2, .inl (G.2.1.2.1, 12, .inl rr)) :: (D 3, .inl (G.2.1.1, 720, .inl ml)) :: (D 4, .inl (G.2.1.1, 60, .inl F)) :: (D 0, .inl (G.2.1.1, 6, .inl (upd fc 4 (fc 4 + 1)))) :: r) "mean") (k : Nat) (hs : s < 12) (hk : k ≤ 60) (h0 : nN (rowM ml s) = 0) : J G X mX8_mean ((m, .inr (8, [.int fi, .ref (D 0), .long as, .int (nI ns), .ref (D 1), .ref (D 2), .ref (D 3), .ref (D 4), .ref (D 5), .ref (D 6), .ref (D 7), .ref (D 8), .int ii, .long de, .int dl, .int dp, .int dc, .ref (D 9), .int (nI nr), .ref (D 10), .ref (D 11), .ref (D 12), .ref (D 13), .ref (D 14), .int al, .int wa])) :: (D 2, .inl (G.2.1.2.1, 12, .inl rr)) :: (D 3, .inl (G.2.1.1, 720, .inl ml)) :: (D 4, .inl (G.2.1.1, 60, .inl F)) :: (D 0, .inl (G.2.1.1, 6, .inl fc)) :: r) 0 0 24 [(0, .ref m), (1, .int (nI s)), (2, .int (0 : Int32)), (3, .int (nI (nN (rowM ml s)))), (4, .long (Int64.ofInt (smI (ltF (rowM ml s) F) allK (nts (rowM ml s) k)))), (6, .int (nI k))] [] := by
  have hn := nN_le (rowM ml s)
  refine J.iload 5 dX8_mean_24 rfl ?_
  refine J.bipush (60 : Int32) dX8_mean_26 rfl ?_
  refine J.icmp_ge dX8_mean_28 (fun h9 => ?_) (fun h9 => ?_)
  · skip
    have h9 : 60 ≤ k := (nI_leI (a := 60) (b := k) (by omega) (by omega)).mp h9
    have e : k = 60 := by omega
    subst e
    refine J.iload_n 3 dX8_mean_64 rfl ?_
    refine J.if_ne dX8_mean_65 (fun z => absurd (by rw [h0]; rfl) z) (fun h9 => ?_)
    refine J.aload_n 0 dX8_mean_68 rfl ?_
    refine J.iconst (4 : Int32) dX8_mean_69 rfl ?_
    refine J.re [0, 4, 1, 2, 3] 5 (ws2 := (m, .inr (8, [.int fi, .ref (D 0), .long as, .int (nI ns), .ref (D 1), .ref (D 2), .ref (D 3), .ref (D 4), .ref (D 5), .ref (D 6), .ref (D 7), .ref (D 8), .int ii, .long de, .int dl, .int dp, .int dc, .ref (D 9), .int (nI nr), .ref (D 10), .ref (D 11), .ref (D 12), .ref (D 13), .ref (D 14), .int al, .int wa])) :: (D 0, .inl (G.2.1.1, 6, .inl fc)) :: (D 2, .inl (G.2.1.2.1, 12, .inl rr)) :: (D 3, .inl (G.2.1.1, 720, .inl ml)) :: (D 4, .inl (G.2.1.1, 60, .inl F)) :: r) rfl rfl ?_
    refine J.callV 0 (st := []) B (c_X8_meets l G _ (c := 4) (by decide)) ml_X8_95 mf_yX8_meets mi_yX8_meets rfl dX8_mean_70 rfl rfl rfl rfl (fun v_1 w_2 hp_3 => ?_)
    obtain ⟨rfl, rfl⟩ := hp_3
    refine J.re [0, 2, 3, 4, 1] 5 (ws2 := (m, .inr (8, [.int (nI 4), .ref (D 0), .long as, .int (nI ns), .ref (D 1), .ref (D 2), .ref (D 3), .ref (D 4), .ref (D 5), .ref (D 6), .ref (D 7), .ref (D 8), .int ii, .long de, .int dl, .int dp, .int dc, .ref (D 9), .int (nI nr), .ref (D 10), .ref (D 11), .ref (D 12), .ref (D 13), .ref (D 14), .int al, .int wa])) :: (D 2, .inl (G.2.1.2.1, 12, .inl rr)) :: (D 3, .inl (G.2.1.1, 720, .inl ml)) :: (D 4, .inl (G.2.1.1, 60, .inl F)) :: (D 0, .inl (G.2.1.1, 6, .inl (upd fc 4 (fc 4 + 1)))) :: r) rfl rfl ?_
    show J G X mX8_mean _ _ _ 73 _ [.int (-3 : Int32)]
    refine J.goto dX8_mean_73 ?_
    exact J.iret B dX8_mean_85 rfl (⟨rfl, rfl⟩)
  · skip
    have h9 : ¬ 60 ≤ k := fun z => h9 ((nI_leI (a := 60) (b := k) (by omega) (by omega)).mpr z)
    refine J.lload 4 dX8_mean_31 rfl ?_
    refine J.aload_n 0 dX8_mean_33 rfl ?_
    refine J.iload_n 1 dX8_mean_34 rfl ?_
    refine J.iload 5 dX8_mean_35 rfl ?_
    refine J.re [0, 2, 1, 3, 4] 5 (ws2 := (m, .inr (8, [.int fi, .ref (D 0), .long as, .int (nI ns), .ref (D 1), .ref (D 2), .ref (D 3), .ref (D 4), .ref (D 5), .ref (D 6), .ref (D 7), .ref (D 8), .int ii, .long de, .int dl, .int dp, .int dc, .ref (D 9), .int (nI nr), .ref (D 10), .ref (D 11), .ref (D 12), .ref (D 13), .ref (D 14), .int al, .int wa])) :: (D 3, .inl (G.2.1.1, 720, .inl ml)) :: (D 2, .inl (G.2.1.2.1, 12, .inl rr)) :: (D 4, .inl (G.2.1.1, 60, .inl F)) :: (D 0, .inl (G.2.1.1, 6, .inl fc)) :: r) rfl rfl ?_
    refine J.callV 0 (st := [.long (Int64.ofInt (smI (ltF (rowM ml s) F) allK (nts (rowM ml s) k)))]) B (c_X8_has l G _ (s := s) (n := k) hs (by omega)) ml_X8_88 mf_yX8_has mi_yX8_has rfl dX8_mean_37 rfl rfl rfl rfl (fun v_4 w_5 hp_6 => ?_)
    obtain ⟨rfl, rfl⟩ := hp_6
    refine J.re [0, 2, 1, 3, 4] 5 (ws2 := (m, .inr (8, [.int fi, .ref (D 0), .long as, .int (nI ns), .ref (D 1), .ref (D 2), .ref (D 3), .ref (D 4), .ref (D 5), .ref (D 6), .ref (D 7), .ref (D 8), .int ii, .long de, .int dl, .int dp, .int dc, .ref (D 9), .int (nI nr), .ref (D 10), .ref (D 11), .ref (D 12), .ref (D 13), .ref (D 14), .int al, .int wa])) :: (D 2, .inl (G.2.1.2.1, 12, .inl rr)) :: (D 3, .inl (G.2.1.1, 720, .inl ml)) :: (D 4, .inl (G.2.1.1, 60, .inl F)) :: (D 0, .inl (G.2.1.1, 6, .inl fc)) :: r) rfl rfl ?_
    show J G X mX8_mean _ _ _ 40 _ [.int (b01 (decide (¬ rowM ml s k = -9))), .long (Int64.ofInt (smI (ltF (rowM ml s) F) allK (nts (rowM ml s) k)))]
    refine J.if_eq dX8_mean_40 (fun h8 => ?_) (fun h8 => ?_)
    · skip
      have h8 : rowM ml s k = -9 := Decidable.of_not_not (of_decide_eq_false (b01_0 h8))
      refine J.lconst 0 dX8_mean_54 rfl ?_
      refine J.ladd dX8_mean_55 ?_
      refine J.lstore [1, 2, 3, 4, 0, 5] (lv' := [(0, .ref m), (1, .int (nI s)), (2, .int (0 : Int32)), (3, .int (nI (nN (rowM ml s)))), (4, .long ((Int64.ofInt (smI (ltF (rowM ml s) F) allK (nts (rowM ml s) k))) + (0 : Int64))), (6, .int (nI k))]) dX8_mean_56 rfl rfl ?_
      refine J.iinc 5 [1, 2, 3, 4, 5, 0] (lv' := [(0, .ref m), (1, .int (nI s)), (2, .int (0 : Int32)), (3, .int (nI (nN (rowM ml s)))), (4, .long ((Int64.ofInt (smI (ltF (rowM ml s) F) allK (nts (rowM ml s) k))) + (0 : Int64))), (6, .int (nI (k + 1)))]) dX8_mean_58 rfl (jinc1 _) rfl rfl ?_
      refine J.goto dX8_mean_61 ?_
      rw [← sm_no h8]
      exact X8_meanFC_lp B (k + 1) hs (by omega) h0
    · skip
      have h8 : ¬ rowM ml s k = -9 := of_decide_eq_true (b01_1 h8)
      refine J.aload_n 0 dX8_mean_43 rfl ?_
      refine J.iload_n 1 dX8_mean_44 rfl ?_
      refine J.iload 5 dX8_mean_45 rfl ?_
      refine J.re [0, 2, 3, 1, 4] 5 (ws2 := (m, .inr (8, [.int fi, .ref (D 0), .long as, .int (nI ns), .ref (D 1), .ref (D 2), .ref (D 3), .ref (D 4), .ref (D 5), .ref (D 6), .ref (D 7), .ref (D 8), .int ii, .long de, .int dl, .int dp, .int dc, .ref (D 9), .int (nI nr), .ref (D 10), .ref (D 11), .ref (D 12), .ref (D 13), .ref (D 14), .int al, .int wa])) :: (D 3, .inl (G.2.1.1, 720, .inl ml)) :: (D 4, .inl (G.2.1.1, 60, .inl F)) :: (D 2, .inl (G.2.1.2.1, 12, .inl rr)) :: (D 0, .inl (G.2.1.1, 6, .inl fc)) :: r) rfl rfl ?_
      refine J.callV 0 (st := [.long (Int64.ofInt (smI (ltF (rowM ml s) F) allK (nts (rowM ml s) k)))]) B (c_X8_lightOf l G _ (s := s) (n := k) hs (by omega)) ml_X8_91 mf_yX8_lightOf mi_yX8_lightOf rfl dX8_mean_47 rfl rfl rfl rfl (fun v_7 w_8 hp_9 => ?_)
      obtain ⟨rfl, rfl⟩ := hp_9
      refine J.re [0, 3, 1, 2, 4] 5 (ws2 := (m, .inr (8, [.int fi, .ref (D 0), .long as, .int (nI ns), .ref (D 1), .ref (D 2), .ref (D 3), .ref (D 4), .ref (D 5), .ref (D 6), .ref (D 7), .ref (D 8), .int ii, .long de, .int dl, .int dp, .int dc, .ref (D 9), .int (nI nr), .ref (D 10), .ref (D 11), .ref (D 12), .ref (D 13), .ref (D 14), .int al, .int wa])) :: (D 2, .inl (G.2.1.2.1, 12, .inl rr)) :: (D 3, .inl (G.2.1.1, 720, .inl ml)) :: (D 4, .inl (G.2.1.1, 60, .inl F)) :: (D 0, .inl (G.2.1.1, 6, .inl fc)) :: r) rfl rfl ?_
      show J G X mX8_mean _ _ _ 50 _ [.int (ltF (rowM ml s) F k), .long (Int64.ofInt (smI (ltF (rowM ml s) F) allK (nts (rowM ml s) k)))]
      refine J.i2l dX8_mean_50 ?_
      refine J.goto dX8_mean_51 ?_
      refine J.ladd dX8_mean_55 ?_
      refine J.lstore [1, 2, 3, 4, 0, 5] (lv' := [(0, .ref m), (1, .int (nI s)), (2, .int (0 : Int32)), (3, .int (nI (nN (rowM ml s)))), (4, .long ((Int64.ofInt (smI (ltF (rowM ml s) F) allK (nts (rowM ml s) k))) + ((ltF (rowM ml s) F k).toInt64))), (6, .int (nI k))]) dX8_mean_56 rfl rfl ?_
      refine J.iinc 5 [1, 2, 3, 4, 5, 0] (lv' := [(0, .ref m), (1, .int (nI s)), (2, .int (0 : Int32)), (3, .int (nI (nN (rowM ml s)))), (4, .long ((Int64.ofInt (smI (ltF (rowM ml s) F) allK (nts (rowM ml s) k))) + ((ltF (rowM ml s) F k).toInt64))), (6, .int (nI (k + 1)))]) dX8_mean_58 rfl (jinc1 _) rfl rfl ?_
      refine J.goto dX8_mean_61 ?_
      rw [← sm_yes h8]
      exact X8_meanFC_lp B (k + 1) hs (by omega) h0
termination_by 60 - k
decreasing_by all_goals omega
set_option maxHeartbeats 4000000 in
set_option maxRecDepth 100000 in
theorem r_mean_nought (l : Launch) (G : jG) (r : va_W) {m : Nat} {D : Nat → Nat} {fi : Int32} {as : Int64} {ns : Nat} {ii : Int32} {de : Int64} {dl dp dc : Int32} {nr : Nat} {al wa : Int32} {rr : Nat → Int32} {s : Nat} (hk : s < ns) (hns : ns ≤ 12) {fc : Nat → Int32} {ml F : Nat → Int32} (hr : ¬ rr s = 0) (h0 : nN (rowM ml s) = 0) : Mt l G yX8_mean mX8_mean 3 64 0 0 [.ref m, .int (nI s)] ((m, .inr (8, [.int fi, .ref (D 0), .long as, .int (nI ns), .ref (D 1), .ref (D 2), .ref (D 3), .ref (D 4), .ref (D 5), .ref (D 6), .ref (D 7), .ref (D 8), .int ii, .long de, .int dl, .int dp, .int dc, .ref (D 9), .int (nI nr), .ref (D 10), .ref (D 11), .ref (D 12), .ref (D 13), .ref (D 14), .int al, .int wa])) :: (D 2, .inl (G.2.1.2.1, 12, .inl rr)) :: (D 3, .inl (G.2.1.1, 720, .inl ml)) :: (D 4, .inl (G.2.1.1, 60, .inl F)) :: (D 0, .inl (G.2.1.1, 6, .inl fc)) :: r) (fun v w => v = some (.int (-3 : Int32)) ∧ w = (m, .inr (8, [.int (nI 4), .ref (D 0), .long as, .int (nI ns), .ref (D 1), .ref (D 2), .ref (D 3), .ref (D 4), .ref (D 5), .ref (D 6), .ref (D 7), .ref (D 8), .int ii, .long de, .int dl, .int dp, .int dc, .ref (D 9), .int (nI nr), .ref (D 10), .ref (D 11), .ref (D 12), .ref (D 13), .ref (D 14), .int al, .int wa])) :: (D 2, .inl (G.2.1.2.1, 12, .inl rr)) :: (D 3, .inl (G.2.1.1, 720, .inl ml)) :: (D 4, .inl (G.2.1.1, 60, .inl F)) :: (D 0, .inl (G.2.1.1, 6, .inl (upd fc 4 (fc 4 + 1)))) :: r) := by
  refine Mt.of (by decide +kernel) rfl rfl (fun X B => ?_)
  show J G X mX8_mean ((m, .inr (8, [.int fi, .ref (D 0), .long as, .int (nI ns), .ref (D 1), .ref (D 2), .ref (D 3), .ref (D 4), .ref (D 5), .ref (D 6), .ref (D 7), .ref (D 8), .int ii, .long de, .int dl, .int dp, .int dc, .ref (D 9), .int (nI nr), .ref (D 10), .ref (D 11), .ref (D 12), .ref (D 13), .ref (D 14), .int al, .int wa])) :: (D 2, .inl (G.2.1.2.1, 12, .inl rr)) :: (D 3, .inl (G.2.1.1, 720, .inl ml)) :: (D 4, .inl (G.2.1.1, 60, .inl F)) :: (D 0, .inl (G.2.1.1, 6, .inl fc)) :: r) 0 0 0 [(0, .ref m), (1, .int (nI s))] []
  have hs : s < 12 := by omega
  refine J.aload_n 0 dX8_mean_0 rfl ?_
  refine J.iload_n 1 dX8_mean_1 rfl ?_
  refine J.callV 0 (st := []) B (c_X8_looked l G _ (k := s) hk hns hr) ml_X8_108 mf_yX8_looked mi_yX8_looked rfl dX8_mean_2 rfl rfl rfl rfl (fun v_1 w_2 hp_3 => ?_)
  obtain ⟨rfl, rfl⟩ := hp_3
  show J G X mX8_mean _ _ _ 5 _ [.int (0 : Int32)]
  refine J.istore_n [1, 2, 0] (lv' := [(0, .ref m), (1, .int (nI s)), (2, .int (0 : Int32))]) dX8_mean_5 rfl rfl ?_
  refine J.iload_n 2 dX8_mean_6 rfl ?_
  refine J.if_ge dX8_mean_7 (fun _ => ?_) (fun z => absurd z (by decide))
  refine J.aload_n 0 dX8_mean_12 rfl ?_
  refine J.iload_n 1 dX8_mean_13 rfl ?_
  refine J.re [0, 2, 1, 3, 4] 5 (ws2 := (m, .inr (8, [.int fi, .ref (D 0), .long as, .int (nI ns), .ref (D 1), .ref (D 2), .ref (D 3), .ref (D 4), .ref (D 5), .ref (D 6), .ref (D 7), .ref (D 8), .int ii, .long de, .int dl, .int dp, .int dc, .ref (D 9), .int (nI nr), .ref (D 10), .ref (D 11), .ref (D 12), .ref (D 13), .ref (D 14), .int al, .int wa])) :: (D 3, .inl (G.2.1.1, 720, .inl ml)) :: (D 2, .inl (G.2.1.2.1, 12, .inl rr)) :: (D 4, .inl (G.2.1.1, 60, .inl F)) :: (D 0, .inl (G.2.1.1, 6, .inl fc)) :: r) rfl rfl ?_
  refine J.callV 0 (st := []) B (c_X8_many l G _ (s := s) hs) ml_X8_99 mf_yX8_many mi_yX8_many rfl dX8_mean_14 rfl rfl rfl rfl (fun v_4 w_5 hp_6 => ?_)
  obtain ⟨rfl, rfl⟩ := hp_6
  refine J.re [0, 2, 1, 3, 4] 5 (ws2 := (m, .inr (8, [.int fi, .ref (D 0), .long as, .int (nI ns), .ref (D 1), .ref (D 2), .ref (D 3), .ref (D 4), .ref (D 5), .ref (D 6), .ref (D 7), .ref (D 8), .int ii, .long de, .int dl, .int dp, .int dc, .ref (D 9), .int (nI nr), .ref (D 10), .ref (D 11), .ref (D 12), .ref (D 13), .ref (D 14), .int al, .int wa])) :: (D 2, .inl (G.2.1.2.1, 12, .inl rr)) :: (D 3, .inl (G.2.1.1, 720, .inl ml)) :: (D 4, .inl (G.2.1.1, 60, .inl F)) :: (D 0, .inl (G.2.1.1, 6, .inl fc)) :: r) rfl rfl ?_
  show J G X mX8_mean _ _ _ 17 _ [.int (nI (nN (rowM ml s)))]
  refine J.istore_n [1, 2, 3, 0] (lv' := [(0, .ref m), (1, .int (nI s)), (2, .int (0 : Int32)), (3, .int (nI (nN (rowM ml s))))]) dX8_mean_17 rfl rfl ?_
  refine J.lconst 0 dX8_mean_18 rfl ?_
  refine J.lstore [1, 2, 3, 4, 0] (lv' := [(0, .ref m), (1, .int (nI s)), (2, .int (0 : Int32)), (3, .int (nI (nN (rowM ml s)))), (4, .long (0 : Int64))]) dX8_mean_19 rfl rfl ?_
  refine J.iconst (0 : Int32) dX8_mean_21 rfl ?_
  refine J.istore [1, 2, 3, 4, 5, 0] (lv' := [(0, .ref m), (1, .int (nI s)), (2, .int (0 : Int32)), (3, .int (nI (nN (rowM ml s)))), (4, .long (0 : Int64)), (6, .int (0 : Int32))]) dX8_mean_22 rfl rfl ?_
  exact X8_meanFC_lp B 0 hs (by omega) h0
set_option maxHeartbeats 4000000 in
set_option maxRecDepth 100000 in
theorem X8_mean_lp {l : Launch} {G : jG} {X : jX} {r : va_W} {m : Nat} {D : Nat → Nat} {fi : Int32} {as : Int64} {ns : Nat} {ii : Int32} {de : Int64} {dl dp dc : Int32} {nr : Nat} {al wa : Int32} {ml F : Nat → Int32} {rr : Nat → Int32} {s : Nat} (B : jB l G X 3 64 0 0 (fun v w => v = some (.int 1) ∧ w = (m, .inr (8, [.int fi, .ref (D 0), .long (mnV (rowM ml s) F), .int (nI ns), .ref (D 1), .ref (D 2), .ref (D 3), .ref (D 4), .ref (D 5), .ref (D 6), .ref (D 7), .ref (D 8), .int ii, .long de, .int dl, .int dp, .int dc, .ref (D 9), .int (nI nr), .ref (D 10), .ref (D 11), .ref (D 12), .ref (D 13), .ref (D 14), .int al, .int wa])) :: (D 2, .inl (G.2.1.2.1, 12, .inl rr)) :: (D 3, .inl (G.2.1.1, 720, .inl ml)) :: (D 4, .inl (G.2.1.1, 60, .inl F)) :: r) "mean") (k : Nat) (hs : s < 12) (hk : k ≤ 60) (h0 : 0 < nN (rowM ml s)) : J G X mX8_mean ((m, .inr (8, [.int fi, .ref (D 0), .long as, .int (nI ns), .ref (D 1), .ref (D 2), .ref (D 3), .ref (D 4), .ref (D 5), .ref (D 6), .ref (D 7), .ref (D 8), .int ii, .long de, .int dl, .int dp, .int dc, .ref (D 9), .int (nI nr), .ref (D 10), .ref (D 11), .ref (D 12), .ref (D 13), .ref (D 14), .int al, .int wa])) :: (D 2, .inl (G.2.1.2.1, 12, .inl rr)) :: (D 3, .inl (G.2.1.1, 720, .inl ml)) :: (D 4, .inl (G.2.1.1, 60, .inl F)) :: r) 0 0 24 [(0, .ref m), (1, .int (nI s)), (2, .int (0 : Int32)), (3, .int (nI (nN (rowM ml s)))), (4, .long (Int64.ofInt (smI (ltF (rowM ml s) F) allK (nts (rowM ml s) k)))), (6, .int (nI k))] [] := by
  have hn := nN_le (rowM ml s)
  refine J.iload 5 dX8_mean_24 rfl ?_
  refine J.bipush (60 : Int32) dX8_mean_26 rfl ?_
  refine J.icmp_ge dX8_mean_28 (fun h9 => ?_) (fun h9 => ?_)
  · skip
    have h9 : 60 ≤ k := (nI_leI (a := 60) (b := k) (by omega) (by omega)).mp h9
    have e : k = 60 := by omega
    subst e
    refine J.iload_n 3 dX8_mean_64 rfl ?_
    refine J.if_ne dX8_mean_65 (fun h9 => ?_) (fun z => absurd z (nI_ne0 h0 (by omega)))
    refine J.aload_n 0 dX8_mean_76 rfl ?_
    refine J.lload 4 dX8_mean_77 rfl ?_
    refine J.iload_n 3 dX8_mean_79 rfl ?_
    refine J.i2l dX8_mean_80 ?_
    refine J.ldiv dX8_mean_81 (nI64_ne0 h0 (by omega)) ?_
    refine J.topl (y := mnV (rowM ml s) F) rfl ?_
    refine J.callV 0 (st := []) B (c_X8_tell l G _ (t0 := mnV (rowM ml s) F)) ml_X8_114 mf_yX8_tell mi_yX8_tell rfl dX8_mean_82 rfl rfl rfl rfl (fun v_1 w_2 hp_3 => ?_)
    obtain ⟨rfl, rfl⟩ := hp_3
    show J G X mX8_mean _ _ _ 85 _ [.int (1 : Int32)]
    exact J.iret B dX8_mean_85 rfl (⟨rfl, rfl⟩)
  · skip
    have h9 : ¬ 60 ≤ k := fun z => h9 ((nI_leI (a := 60) (b := k) (by omega) (by omega)).mpr z)
    refine J.lload 4 dX8_mean_31 rfl ?_
    refine J.aload_n 0 dX8_mean_33 rfl ?_
    refine J.iload_n 1 dX8_mean_34 rfl ?_
    refine J.iload 5 dX8_mean_35 rfl ?_
    refine J.re [0, 2, 1, 3] 4 (ws2 := (m, .inr (8, [.int fi, .ref (D 0), .long as, .int (nI ns), .ref (D 1), .ref (D 2), .ref (D 3), .ref (D 4), .ref (D 5), .ref (D 6), .ref (D 7), .ref (D 8), .int ii, .long de, .int dl, .int dp, .int dc, .ref (D 9), .int (nI nr), .ref (D 10), .ref (D 11), .ref (D 12), .ref (D 13), .ref (D 14), .int al, .int wa])) :: (D 3, .inl (G.2.1.1, 720, .inl ml)) :: (D 2, .inl (G.2.1.2.1, 12, .inl rr)) :: (D 4, .inl (G.2.1.1, 60, .inl F)) :: r) rfl rfl ?_
    refine J.callV 0 (st := [.long (Int64.ofInt (smI (ltF (rowM ml s) F) allK (nts (rowM ml s) k)))]) B (c_X8_has l G _ (s := s) (n := k) hs (by omega)) ml_X8_88 mf_yX8_has mi_yX8_has rfl dX8_mean_37 rfl rfl rfl rfl (fun v_4 w_5 hp_6 => ?_)
    obtain ⟨rfl, rfl⟩ := hp_6
    refine J.re [0, 2, 1, 3] 4 (ws2 := (m, .inr (8, [.int fi, .ref (D 0), .long as, .int (nI ns), .ref (D 1), .ref (D 2), .ref (D 3), .ref (D 4), .ref (D 5), .ref (D 6), .ref (D 7), .ref (D 8), .int ii, .long de, .int dl, .int dp, .int dc, .ref (D 9), .int (nI nr), .ref (D 10), .ref (D 11), .ref (D 12), .ref (D 13), .ref (D 14), .int al, .int wa])) :: (D 2, .inl (G.2.1.2.1, 12, .inl rr)) :: (D 3, .inl (G.2.1.1, 720, .inl ml)) :: (D 4, .inl (G.2.1.1, 60, .inl F)) :: r) rfl rfl ?_
    show J G X mX8_mean _ _ _ 40 _ [.int (b01 (decide (¬ rowM ml s k = -9))), .long (Int64.ofInt (smI (ltF (rowM ml s) F) allK (nts (rowM ml s) k)))]
    refine J.if_eq dX8_mean_40 (fun h8 => ?_) (fun h8 => ?_)
    · skip
      have h8 : rowM ml s k = -9 := Decidable.of_not_not (of_decide_eq_false (b01_0 h8))
      refine J.lconst 0 dX8_mean_54 rfl ?_
      refine J.ladd dX8_mean_55 ?_
      refine J.lstore [1, 2, 3, 4, 0, 5] (lv' := [(0, .ref m), (1, .int (nI s)), (2, .int (0 : Int32)), (3, .int (nI (nN (rowM ml s)))), (4, .long ((Int64.ofInt (smI (ltF (rowM ml s) F) allK (nts (rowM ml s) k))) + (0 : Int64))), (6, .int (nI k))]) dX8_mean_56 rfl rfl ?_
      refine J.iinc 5 [1, 2, 3, 4, 5, 0] (lv' := [(0, .ref m), (1, .int (nI s)), (2, .int (0 : Int32)), (3, .int (nI (nN (rowM ml s)))), (4, .long ((Int64.ofInt (smI (ltF (rowM ml s) F) allK (nts (rowM ml s) k))) + (0 : Int64))), (6, .int (nI (k + 1)))]) dX8_mean_58 rfl (jinc1 _) rfl rfl ?_
      refine J.goto dX8_mean_61 ?_
      rw [← sm_no h8]
      exact X8_mean_lp B (k + 1) hs (by omega) h0
    · skip
      have h8 : ¬ rowM ml s k = -9 := of_decide_eq_true (b01_1 h8)
      refine J.aload_n 0 dX8_mean_43 rfl ?_
      refine J.iload_n 1 dX8_mean_44 rfl ?_
      refine J.iload 5 dX8_mean_45 rfl ?_
      refine J.re [0, 2, 3, 1] 4 (ws2 := (m, .inr (8, [.int fi, .ref (D 0), .long as, .int (nI ns), .ref (D 1), .ref (D 2), .ref (D 3), .ref (D 4), .ref (D 5), .ref (D 6), .ref (D 7), .ref (D 8), .int ii, .long de, .int dl, .int dp, .int dc, .ref (D 9), .int (nI nr), .ref (D 10), .ref (D 11), .ref (D 12), .ref (D 13), .ref (D 14), .int al, .int wa])) :: (D 3, .inl (G.2.1.1, 720, .inl ml)) :: (D 4, .inl (G.2.1.1, 60, .inl F)) :: (D 2, .inl (G.2.1.2.1, 12, .inl rr)) :: r) rfl rfl ?_
      refine J.callV 0 (st := [.long (Int64.ofInt (smI (ltF (rowM ml s) F) allK (nts (rowM ml s) k)))]) B (c_X8_lightOf l G _ (s := s) (n := k) hs (by omega)) ml_X8_91 mf_yX8_lightOf mi_yX8_lightOf rfl dX8_mean_47 rfl rfl rfl rfl (fun v_7 w_8 hp_9 => ?_)
      obtain ⟨rfl, rfl⟩ := hp_9
      refine J.re [0, 3, 1, 2] 4 (ws2 := (m, .inr (8, [.int fi, .ref (D 0), .long as, .int (nI ns), .ref (D 1), .ref (D 2), .ref (D 3), .ref (D 4), .ref (D 5), .ref (D 6), .ref (D 7), .ref (D 8), .int ii, .long de, .int dl, .int dp, .int dc, .ref (D 9), .int (nI nr), .ref (D 10), .ref (D 11), .ref (D 12), .ref (D 13), .ref (D 14), .int al, .int wa])) :: (D 2, .inl (G.2.1.2.1, 12, .inl rr)) :: (D 3, .inl (G.2.1.1, 720, .inl ml)) :: (D 4, .inl (G.2.1.1, 60, .inl F)) :: r) rfl rfl ?_
      show J G X mX8_mean _ _ _ 50 _ [.int (ltF (rowM ml s) F k), .long (Int64.ofInt (smI (ltF (rowM ml s) F) allK (nts (rowM ml s) k)))]
      refine J.i2l dX8_mean_50 ?_
      refine J.goto dX8_mean_51 ?_
      refine J.ladd dX8_mean_55 ?_
      refine J.lstore [1, 2, 3, 4, 0, 5] (lv' := [(0, .ref m), (1, .int (nI s)), (2, .int (0 : Int32)), (3, .int (nI (nN (rowM ml s)))), (4, .long ((Int64.ofInt (smI (ltF (rowM ml s) F) allK (nts (rowM ml s) k))) + ((ltF (rowM ml s) F k).toInt64))), (6, .int (nI k))]) dX8_mean_56 rfl rfl ?_
      refine J.iinc 5 [1, 2, 3, 4, 5, 0] (lv' := [(0, .ref m), (1, .int (nI s)), (2, .int (0 : Int32)), (3, .int (nI (nN (rowM ml s)))), (4, .long ((Int64.ofInt (smI (ltF (rowM ml s) F) allK (nts (rowM ml s) k))) + ((ltF (rowM ml s) F k).toInt64))), (6, .int (nI (k + 1)))]) dX8_mean_58 rfl (jinc1 _) rfl rfl ?_
      refine J.goto dX8_mean_61 ?_
      rw [← sm_yes h8]
      exact X8_mean_lp B (k + 1) hs (by omega) h0
termination_by 60 - k
decreasing_by all_goals omega
set_option maxHeartbeats 4000000 in
set_option maxRecDepth 100000 in
theorem r_mean (l : Launch) (G : jG) (r : va_W) {m : Nat} {D : Nat → Nat} {fi : Int32} {as : Int64} {ns : Nat} {ii : Int32} {de : Int64} {dl dp dc : Int32} {nr : Nat} {al wa : Int32} {rr : Nat → Int32} {s : Nat} (hk : s < ns) (hns : ns ≤ 12) {ml F : Nat → Int32} (hr : ¬ rr s = 0) (h0 : 0 < nN (rowM ml s)) : Mt l G yX8_mean mX8_mean 3 64 0 0 [.ref m, .int (nI s)] ((m, .inr (8, [.int fi, .ref (D 0), .long as, .int (nI ns), .ref (D 1), .ref (D 2), .ref (D 3), .ref (D 4), .ref (D 5), .ref (D 6), .ref (D 7), .ref (D 8), .int ii, .long de, .int dl, .int dp, .int dc, .ref (D 9), .int (nI nr), .ref (D 10), .ref (D 11), .ref (D 12), .ref (D 13), .ref (D 14), .int al, .int wa])) :: (D 2, .inl (G.2.1.2.1, 12, .inl rr)) :: (D 3, .inl (G.2.1.1, 720, .inl ml)) :: (D 4, .inl (G.2.1.1, 60, .inl F)) :: r) (fun v w => v = some (.int (1 : Int32)) ∧ w = (m, .inr (8, [.int fi, .ref (D 0), .long (mnV (rowM ml s) F), .int (nI ns), .ref (D 1), .ref (D 2), .ref (D 3), .ref (D 4), .ref (D 5), .ref (D 6), .ref (D 7), .ref (D 8), .int ii, .long de, .int dl, .int dp, .int dc, .ref (D 9), .int (nI nr), .ref (D 10), .ref (D 11), .ref (D 12), .ref (D 13), .ref (D 14), .int al, .int wa])) :: (D 2, .inl (G.2.1.2.1, 12, .inl rr)) :: (D 3, .inl (G.2.1.1, 720, .inl ml)) :: (D 4, .inl (G.2.1.1, 60, .inl F)) :: r) := by
  refine Mt.of (by decide +kernel) rfl rfl (fun X B => ?_)
  show J G X mX8_mean ((m, .inr (8, [.int fi, .ref (D 0), .long as, .int (nI ns), .ref (D 1), .ref (D 2), .ref (D 3), .ref (D 4), .ref (D 5), .ref (D 6), .ref (D 7), .ref (D 8), .int ii, .long de, .int dl, .int dp, .int dc, .ref (D 9), .int (nI nr), .ref (D 10), .ref (D 11), .ref (D 12), .ref (D 13), .ref (D 14), .int al, .int wa])) :: (D 2, .inl (G.2.1.2.1, 12, .inl rr)) :: (D 3, .inl (G.2.1.1, 720, .inl ml)) :: (D 4, .inl (G.2.1.1, 60, .inl F)) :: r) 0 0 0 [(0, .ref m), (1, .int (nI s))] []
  have hs : s < 12 := by omega
  refine J.aload_n 0 dX8_mean_0 rfl ?_
  refine J.iload_n 1 dX8_mean_1 rfl ?_
  refine J.callV 0 (st := []) B (c_X8_looked l G _ (k := s) hk hns hr) ml_X8_108 mf_yX8_looked mi_yX8_looked rfl dX8_mean_2 rfl rfl rfl rfl (fun v_1 w_2 hp_3 => ?_)
  obtain ⟨rfl, rfl⟩ := hp_3
  show J G X mX8_mean _ _ _ 5 _ [.int (0 : Int32)]
  refine J.istore_n [1, 2, 0] (lv' := [(0, .ref m), (1, .int (nI s)), (2, .int (0 : Int32))]) dX8_mean_5 rfl rfl ?_
  refine J.iload_n 2 dX8_mean_6 rfl ?_
  refine J.if_ge dX8_mean_7 (fun _ => ?_) (fun z => absurd z (by decide))
  refine J.aload_n 0 dX8_mean_12 rfl ?_
  refine J.iload_n 1 dX8_mean_13 rfl ?_
  refine J.re [0, 2, 1, 3] 4 (ws2 := (m, .inr (8, [.int fi, .ref (D 0), .long as, .int (nI ns), .ref (D 1), .ref (D 2), .ref (D 3), .ref (D 4), .ref (D 5), .ref (D 6), .ref (D 7), .ref (D 8), .int ii, .long de, .int dl, .int dp, .int dc, .ref (D 9), .int (nI nr), .ref (D 10), .ref (D 11), .ref (D 12), .ref (D 13), .ref (D 14), .int al, .int wa])) :: (D 3, .inl (G.2.1.1, 720, .inl ml)) :: (D 2, .inl (G.2.1.2.1, 12, .inl rr)) :: (D 4, .inl (G.2.1.1, 60, .inl F)) :: r) rfl rfl ?_
  refine J.callV 0 (st := []) B (c_X8_many l G _ (s := s) hs) ml_X8_99 mf_yX8_many mi_yX8_many rfl dX8_mean_14 rfl rfl rfl rfl (fun v_4 w_5 hp_6 => ?_)
  obtain ⟨rfl, rfl⟩ := hp_6
  refine J.re [0, 2, 1, 3] 4 (ws2 := (m, .inr (8, [.int fi, .ref (D 0), .long as, .int (nI ns), .ref (D 1), .ref (D 2), .ref (D 3), .ref (D 4), .ref (D 5), .ref (D 6), .ref (D 7), .ref (D 8), .int ii, .long de, .int dl, .int dp, .int dc, .ref (D 9), .int (nI nr), .ref (D 10), .ref (D 11), .ref (D 12), .ref (D 13), .ref (D 14), .int al, .int wa])) :: (D 2, .inl (G.2.1.2.1, 12, .inl rr)) :: (D 3, .inl (G.2.1.1, 720, .inl ml)) :: (D 4, .inl (G.2.1.1, 60, .inl F)) :: r) rfl rfl ?_
  show J G X mX8_mean _ _ _ 17 _ [.int (nI (nN (rowM ml s)))]
  refine J.istore_n [1, 2, 3, 0] (lv' := [(0, .ref m), (1, .int (nI s)), (2, .int (0 : Int32)), (3, .int (nI (nN (rowM ml s))))]) dX8_mean_17 rfl rfl ?_
  refine J.lconst 0 dX8_mean_18 rfl ?_
  refine J.lstore [1, 2, 3, 4, 0] (lv' := [(0, .ref m), (1, .int (nI s)), (2, .int (0 : Int32)), (3, .int (nI (nN (rowM ml s)))), (4, .long (0 : Int64))]) dX8_mean_19 rfl rfl ?_
  refine J.iconst (0 : Int32) dX8_mean_21 rfl ?_
  refine J.istore [1, 2, 3, 4, 5, 0] (lv' := [(0, .ref m), (1, .int (nI s)), (2, .int (0 : Int32)), (3, .int (nI (nN (rowM ml s)))), (4, .long (0 : Int64)), (6, .int (0 : Int32))]) dX8_mean_22 rfl rfl ?_
  exact X8_mean_lp B 0 hs (by omega) h0
set_option maxHeartbeats 4000000 in
set_option maxRecDepth 100000 in
theorem r_phase_bad (l : Launch) (G : jG) (r : va_W) {m : Nat} {D : Nat → Nat} {fi : Int32} {as : Int64} {ns : Nat} {ii : Int32} {de : Int64} {dl dp dc : Int32} {nr : Nat} {al wa : Int32} {nt p q : Int32} (hb : (inR nt 0 59 && (inR p 1 600 && inR q 1 60)) = false) : Mt l G yX8_phase mX8_phase 2 42 0 0 [.ref m, .int nt, .int p, .int q] ((m, .inr (8, [.int fi, .ref (D 0), .long as, .int (nI ns), .ref (D 1), .ref (D 2), .ref (D 3), .ref (D 4), .ref (D 5), .ref (D 6), .ref (D 7), .ref (D 8), .int ii, .long de, .int dl, .int dp, .int dc, .ref (D 9), .int (nI nr), .ref (D 10), .ref (D 11), .ref (D 12), .ref (D 13), .ref (D 14), .int al, .int wa])) :: r) (fun v w => v = some (.int (-1 : Int32)) ∧ w = (m, .inr (8, [.int fi, .ref (D 0), .long as, .int (nI ns), .ref (D 1), .ref (D 2), .ref (D 3), .ref (D 4), .ref (D 5), .ref (D 6), .ref (D 7), .ref (D 8), .int ii, .long de, .int dl, .int dp, .int dc, .ref (D 9), .int (nI nr), .ref (D 10), .ref (D 11), .ref (D 12), .ref (D 13), .ref (D 14), .int al, .int wa])) :: r) := by
  refine Mt.of (by decide +kernel) rfl rfl (fun X B => ?_)
  show J G X mX8_phase ((m, .inr (8, [.int fi, .ref (D 0), .long as, .int (nI ns), .ref (D 1), .ref (D 2), .ref (D 3), .ref (D 4), .ref (D 5), .ref (D 6), .ref (D 7), .ref (D 8), .int ii, .long de, .int dl, .int dp, .int dc, .ref (D 9), .int (nI nr), .ref (D 10), .ref (D 11), .ref (D 12), .ref (D 13), .ref (D 14), .int al, .int wa])) :: r) 0 0 0 [(0, .ref m), (1, .int nt), (2, .int p), (3, .int q)] []
  refine J.iload_n 1 dX8_phase_0 rfl ?_
  refine J.callS (st := []) B (c_X8_isNight l G _ (n := nt)) ml_X8_111 mf_yX8_isNight mS_yX8_isNight dX8_phase_1 rfl rfl rfl (fun v_1 w_2 hp_3 => ?_)
  obtain ⟨rfl, rfl⟩ := hp_3
  show J G X mX8_phase _ _ _ 4 _ [.int (b01 (inR nt 0 59))]
  refine J.if_eq dX8_phase_4 (fun h9 => ?_) (fun h9 => ?_)
  · skip
    refine J.iconst (-1 : Int32) dX8_phase_29 rfl ?_
    exact J.iret B dX8_phase_30 rfl (⟨rfl, rfl⟩)
  · skip
    refine J.iload_n 2 dX8_phase_7 rfl ?_
    refine J.callS (st := []) B (c_X8_isPeriod l G _ (n := p)) ml_X8_127 mf_yX8_isPeriod mS_yX8_isPeriod dX8_phase_8 rfl rfl rfl (fun v_4 w_5 hp_6 => ?_)
    obtain ⟨rfl, rfl⟩ := hp_6
    show J G X mX8_phase _ _ _ 11 _ [.int (b01 (inR p 1 600))]
    refine J.if_eq dX8_phase_11 (fun h8 => ?_) (fun h8 => ?_)
    · skip
      refine J.iconst (-1 : Int32) dX8_phase_29 rfl ?_
      exact J.iret B dX8_phase_30 rfl (⟨rfl, rfl⟩)
    · skip
      refine J.iload_n 3 dX8_phase_14 rfl ?_
      refine J.callS (st := []) B (c_X8_isPart l G _ (n := q)) ml_X8_130 mf_yX8_isPart mS_yX8_isPart dX8_phase_15 rfl rfl rfl (fun v_7 w_8 hp_9 => ?_)
      obtain ⟨rfl, rfl⟩ := hp_9
      show J G X mX8_phase _ _ _ 18 _ [.int (b01 (inR q 1 60))]
      refine J.if_eq dX8_phase_18 (fun h7 => ?_) (fun h7 => ?_)
      · skip
        refine J.iconst (-1 : Int32) dX8_phase_29 rfl ?_
        exact J.iret B dX8_phase_30 rfl (⟨rfl, rfl⟩)
      · skip
        exact absurd (by rw [b01_1 h9, b01_1 h8, b01_1 h7]; rfl) (Bool.eq_false_iff.mp hb)
set_option maxHeartbeats 4000000 in
set_option maxRecDepth 100000 in
theorem r_phase (l : Launch) (G : jG) (r : va_W) {m : Nat} {D : Nat → Nat} {fi : Int32} {as : Int64} {ns : Nat} {ii : Int32} {de : Int64} {dl dp dc : Int32} {nr : Nat} {al wa : Int32} {nt : Nat} (hn0 : nt < 60) {p q : Nat} (hp1 : 1 ≤ p) (hp2 : p ≤ 600) (hq1 : 1 ≤ q) (hq2 : q ≤ 60) : Mt l G yX8_phase mX8_phase 2 42 0 0 [.ref m, .int (nI nt), .int (nI p), .int (nI q)] ((m, .inr (8, [.int fi, .ref (D 0), .long as, .int (nI ns), .ref (D 1), .ref (D 2), .ref (D 3), .ref (D 4), .ref (D 5), .ref (D 6), .ref (D 7), .ref (D 8), .int ii, .long de, .int dl, .int dp, .int dc, .ref (D 9), .int (nI nr), .ref (D 10), .ref (D 11), .ref (D 12), .ref (D 13), .ref (D 14), .int al, .int wa])) :: r) (fun v w => v = some (.int (nI (nt * q % p))) ∧ w = (m, .inr (8, [.int fi, .ref (D 0), .long as, .int (nI ns), .ref (D 1), .ref (D 2), .ref (D 3), .ref (D 4), .ref (D 5), .ref (D 6), .ref (D 7), .ref (D 8), .int ii, .long de, .int dl, .int dp, .int dc, .ref (D 9), .int (nI nr), .ref (D 10), .ref (D 11), .ref (D 12), .ref (D 13), .ref (D 14), .int al, .int wa])) :: r) := by
  refine Mt.of (by decide +kernel) rfl rfl (fun X B => ?_)
  show J G X mX8_phase ((m, .inr (8, [.int fi, .ref (D 0), .long as, .int (nI ns), .ref (D 1), .ref (D 2), .ref (D 3), .ref (D 4), .ref (D 5), .ref (D 6), .ref (D 7), .ref (D 8), .int ii, .long de, .int dl, .int dp, .int dc, .ref (D 9), .int (nI nr), .ref (D 10), .ref (D 11), .ref (D 12), .ref (D 13), .ref (D 14), .int al, .int wa])) :: r) 0 0 0 [(0, .ref m), (1, .int (nI nt)), (2, .int (nI p)), (3, .int (nI q))] []
  have hnt : inR (nI nt) 0 59 = true := by rw [nI_inR (by omega)]; exact decide_eq_true ⟨by omega, by omega⟩
  have hpi : inR (nI p) 1 600 = true := by rw [nI_inR (by omega)]; exact decide_eq_true ⟨by omega, by omega⟩
  have hqi : inR (nI q) 1 60 = true := by rw [nI_inR (by omega)]; exact decide_eq_true ⟨by omega, by omega⟩
  have hnq : nt * q ≤ 60 * 60 := Nat.mul_le_mul (by omega) hq2
  refine J.iload_n 1 dX8_phase_0 rfl ?_
  refine J.callS (st := []) B (c_X8_isNight l G _ (n := nI nt)) ml_X8_111 mf_yX8_isNight mS_yX8_isNight dX8_phase_1 rfl rfl rfl (fun v_1 w_2 hp_3 => ?_)
  obtain ⟨rfl, rfl⟩ := hp_3
  show J G X mX8_phase _ _ _ 4 _ [.int (b01 (inR (nI nt) 0 59))]
  refine J.if_eq dX8_phase_4 (fun z => absurd z (by rw [hnt]; decide)) (fun h9 => ?_)
  refine J.iload_n 2 dX8_phase_7 rfl ?_
  refine J.callS (st := []) B (c_X8_isPeriod l G _ (n := nI p)) ml_X8_127 mf_yX8_isPeriod mS_yX8_isPeriod dX8_phase_8 rfl rfl rfl (fun v_4 w_5 hp_6 => ?_)
  obtain ⟨rfl, rfl⟩ := hp_6
  show J G X mX8_phase _ _ _ 11 _ [.int (b01 (inR (nI p) 1 600))]
  refine J.if_eq dX8_phase_11 (fun z => absurd z (by rw [hpi]; decide)) (fun h9 => ?_)
  refine J.iload_n 3 dX8_phase_14 rfl ?_
  refine J.callS (st := []) B (c_X8_isPart l G _ (n := nI q)) ml_X8_130 mf_yX8_isPart mS_yX8_isPart dX8_phase_15 rfl rfl rfl (fun v_7 w_8 hp_9 => ?_)
  obtain ⟨rfl, rfl⟩ := hp_9
  show J G X mX8_phase _ _ _ 18 _ [.int (b01 (inR (nI q) 1 60))]
  refine J.if_eq dX8_phase_18 (fun z => absurd z (by rw [hqi]; decide)) (fun h9 => ?_)
  refine J.iload_n 1 dX8_phase_21 rfl ?_
  refine J.iload_n 3 dX8_phase_22 rfl ?_
  refine J.imul dX8_phase_23 ?_
  refine J.topi (y := nI (nt * q)) (pk_mul nt q) ?_
  refine J.iload_n 2 dX8_phase_24 rfl ?_
  refine J.irem dX8_phase_25 (nI_ne0 (n := p) (by omega) (by omega)) ?_
  refine J.topi (y := nI ((nt * q) % p)) (pk_rem (a := nt * q) (d := p) (by omega) (by omega) (by omega)) ?_
  refine J.goto dX8_phase_26 ?_
  exact J.iret B dX8_phase_30 rfl (⟨rfl, rfl⟩)
set_option maxHeartbeats 4000000 in
set_option maxRecDepth 100000 in
theorem r_string_p (l : Launch) (G : jG) (r : va_W) {m : Nat} {D : Nat → Nat} {fi : Int32} {as : Int64} {ns : Nat} {ii : Int32} {de : Int64} {dl dp dc : Int32} {nr : Nat} {al wa : Int32} {num p q : Int32} (hb : (inR p 1 600 && inR q 1 60) = false) : Mt l G yX8_string mX8_string 3 64 0 0 [.ref m, .int num, .int p, .int q] ((m, .inr (8, [.int fi, .ref (D 0), .long as, .int (nI ns), .ref (D 1), .ref (D 2), .ref (D 3), .ref (D 4), .ref (D 5), .ref (D 6), .ref (D 7), .ref (D 8), .int ii, .long de, .int dl, .int dp, .int dc, .ref (D 9), .int (nI nr), .ref (D 10), .ref (D 11), .ref (D 12), .ref (D 13), .ref (D 14), .int al, .int wa])) :: r) (fun v w => v = some (.int (-1 : Int32)) ∧ w = (m, .inr (8, [.int fi, .ref (D 0), .long as, .int (nI ns), .ref (D 1), .ref (D 2), .ref (D 3), .ref (D 4), .ref (D 5), .ref (D 6), .ref (D 7), .ref (D 8), .int ii, .long de, .int dl, .int dp, .int dc, .ref (D 9), .int (nI nr), .ref (D 10), .ref (D 11), .ref (D 12), .ref (D 13), .ref (D 14), .int al, .int wa])) :: r) := by
  refine Mt.of (by decide +kernel) rfl rfl (fun X B => ?_)
  show J G X mX8_string ((m, .inr (8, [.int fi, .ref (D 0), .long as, .int (nI ns), .ref (D 1), .ref (D 2), .ref (D 3), .ref (D 4), .ref (D 5), .ref (D 6), .ref (D 7), .ref (D 8), .int ii, .long de, .int dl, .int dp, .int dc, .ref (D 9), .int (nI nr), .ref (D 10), .ref (D 11), .ref (D 12), .ref (D 13), .ref (D 14), .int al, .int wa])) :: r) 0 0 0 [(0, .ref m), (1, .int num), (2, .int p), (3, .int q)] []
  refine J.iload_n 2 dX8_string_0 rfl ?_
  refine J.callS (st := []) B (c_X8_isPeriod l G _ (n := p)) ml_X8_127 mf_yX8_isPeriod mS_yX8_isPeriod dX8_string_1 rfl rfl rfl (fun v_1 w_2 hp_3 => ?_)
  obtain ⟨rfl, rfl⟩ := hp_3
  show J G X mX8_string _ _ _ 4 _ [.int (b01 (inR p 1 600))]
  refine J.if_eq dX8_string_4 (fun h9 => ?_) (fun h9 => ?_)
  · skip
    refine J.iconst (-1 : Int32) dX8_string_14 rfl ?_
    exact J.iret B dX8_string_15 rfl (⟨rfl, rfl⟩)
  · skip
    refine J.iload_n 3 dX8_string_7 rfl ?_
    refine J.callS (st := []) B (c_X8_isPart l G _ (n := q)) ml_X8_130 mf_yX8_isPart mS_yX8_isPart dX8_string_8 rfl rfl rfl (fun v_4 w_5 hp_6 => ?_)
    obtain ⟨rfl, rfl⟩ := hp_6
    show J G X mX8_string _ _ _ 11 _ [.int (b01 (inR q 1 60))]
    refine J.if_ne dX8_string_11 (fun h8 => ?_) (fun h8 => ?_)
    · skip
      exact absurd (by rw [b01_1 h9, b01_1 h8]; rfl) (Bool.eq_false_iff.mp hb)
    · skip
      refine J.iconst (-1 : Int32) dX8_string_14 rfl ?_
      exact J.iret B dX8_string_15 rfl (⟨rfl, rfl⟩)
set_option maxHeartbeats 4000000 in
set_option maxRecDepth 100000 in
theorem r_string_bad (l : Launch) (G : jG) (r : va_W) {m : Nat} {D : Nat → Nat} {fi : Int32} {as : Int64} {ns : Nat} {ii : Int32} {de : Int64} {dl dp dc : Int32} {nr : Nat} {al wa : Int32} {rr : Nat → Int32} {num : Int32} (hns : ns ≤ 12) (hnum : inR num 0 ((ns : Int) - 1) = false) {p q : Int32} (hb : (inR p 1 600 && inR q 1 60) = true) : Mt l G yX8_string mX8_string 3 64 0 0 [.ref m, .int num, .int p, .int q] ((m, .inr (8, [.int fi, .ref (D 0), .long as, .int (nI ns), .ref (D 1), .ref (D 2), .ref (D 3), .ref (D 4), .ref (D 5), .ref (D 6), .ref (D 7), .ref (D 8), .int ii, .long de, .int dl, .int dp, .int dc, .ref (D 9), .int (nI nr), .ref (D 10), .ref (D 11), .ref (D 12), .ref (D 13), .ref (D 14), .int al, .int wa])) :: (D 2, .inl (G.2.1.2.1, 12, .inl rr)) :: r) (fun v w => v = some (.int (-1 : Int32)) ∧ w = (m, .inr (8, [.int fi, .ref (D 0), .long as, .int (nI ns), .ref (D 1), .ref (D 2), .ref (D 3), .ref (D 4), .ref (D 5), .ref (D 6), .ref (D 7), .ref (D 8), .int ii, .long de, .int dl, .int dp, .int dc, .ref (D 9), .int (nI nr), .ref (D 10), .ref (D 11), .ref (D 12), .ref (D 13), .ref (D 14), .int al, .int wa])) :: (D 2, .inl (G.2.1.2.1, 12, .inl rr)) :: r) := by
  refine Mt.of (by decide +kernel) rfl rfl (fun X B => ?_)
  show J G X mX8_string ((m, .inr (8, [.int fi, .ref (D 0), .long as, .int (nI ns), .ref (D 1), .ref (D 2), .ref (D 3), .ref (D 4), .ref (D 5), .ref (D 6), .ref (D 7), .ref (D 8), .int ii, .long de, .int dl, .int dp, .int dc, .ref (D 9), .int (nI nr), .ref (D 10), .ref (D 11), .ref (D 12), .ref (D 13), .ref (D 14), .int al, .int wa])) :: (D 2, .inl (G.2.1.2.1, 12, .inl rr)) :: r) 0 0 0 [(0, .ref m), (1, .int num), (2, .int p), (3, .int q)] []
  obtain ⟨g1, g2⟩ := Bool.and_eq_true_iff.mp hb
  refine J.iload_n 2 dX8_string_0 rfl ?_
  refine J.callS (st := []) B (c_X8_isPeriod l G _ (n := p)) ml_X8_127 mf_yX8_isPeriod mS_yX8_isPeriod dX8_string_1 rfl rfl rfl (fun v_1 w_2 hp_3 => ?_)
  obtain ⟨rfl, rfl⟩ := hp_3
  show J G X mX8_string _ _ _ 4 _ [.int (b01 (inR p 1 600))]
  refine J.if_eq dX8_string_4 (fun z => absurd z (by rw [g1]; decide)) (fun h9 => ?_)
  refine J.iload_n 3 dX8_string_7 rfl ?_
  refine J.callS (st := []) B (c_X8_isPart l G _ (n := q)) ml_X8_130 mf_yX8_isPart mS_yX8_isPart dX8_string_8 rfl rfl rfl (fun v_4 w_5 hp_6 => ?_)
  obtain ⟨rfl, rfl⟩ := hp_6
  show J G X mX8_string _ _ _ 11 _ [.int (b01 (inR q 1 60))]
  refine J.if_ne dX8_string_11 (fun h9 => ?_) (fun z => absurd z (by rw [g2]; decide))
  refine J.aload_n 0 dX8_string_16 rfl ?_
  refine J.iload_n 1 dX8_string_17 rfl ?_
  refine J.callV 0 (st := []) B (c_X8_looked_bad l G _ hns hnum) ml_X8_108 mf_yX8_looked mi_yX8_looked rfl dX8_string_18 rfl rfl rfl rfl (fun v_7 w_8 hp_9 => ?_)
  obtain ⟨rfl, rfl⟩ := hp_9
  show J G X mX8_string _ _ _ 21 _ [.int (-1 : Int32)]
  refine J.istore [1, 2, 3, 4, 0] (lv' := [(0, .ref m), (1, .int num), (2, .int p), (3, .int q), (4, .int (-1 : Int32))]) dX8_string_21 rfl rfl ?_
  refine J.iload 4 dX8_string_23 rfl ?_
  refine J.if_ge dX8_string_25 (fun z => absurd z (by decide)) (fun _ => ?_)
  refine J.iload 4 dX8_string_28 rfl ?_
  refine J.goto dX8_string_30 ?_
  exact J.iret B dX8_string_44 rfl (⟨rfl, rfl⟩)
set_option maxHeartbeats 4000000 in
set_option maxRecDepth 100000 in
theorem r_string_no (l : Launch) (G : jG) (r : va_W) {m : Nat} {D : Nat → Nat} {fi : Int32} {as : Int64} {ns : Nat} {ii : Int32} {de : Int64} {dl dp dc : Int32} {nr : Nat} {al wa : Int32} {rr : Nat → Int32} {s : Nat} (hk : s < ns) (hns : ns ≤ 12) {fc : Nat → Int32} (hr : rr s = 0) {p q : Int32} (hb : (inR p 1 600 && inR q 1 60) = true) : Mt l G yX8_string mX8_string 3 64 0 0 [.ref m, .int (nI s), .int p, .int q] ((m, .inr (8, [.int fi, .ref (D 0), .long as, .int (nI ns), .ref (D 1), .ref (D 2), .ref (D 3), .ref (D 4), .ref (D 5), .ref (D 6), .ref (D 7), .ref (D 8), .int ii, .long de, .int dl, .int dp, .int dc, .ref (D 9), .int (nI nr), .ref (D 10), .ref (D 11), .ref (D 12), .ref (D 13), .ref (D 14), .int al, .int wa])) :: (D 2, .inl (G.2.1.2.1, 12, .inl rr)) :: (D 0, .inl (G.2.1.1, 6, .inl fc)) :: r) (fun v w => v = some (.int (-3 : Int32)) ∧ w = (m, .inr (8, [.int (nI 1), .ref (D 0), .long as, .int (nI ns), .ref (D 1), .ref (D 2), .ref (D 3), .ref (D 4), .ref (D 5), .ref (D 6), .ref (D 7), .ref (D 8), .int ii, .long de, .int dl, .int dp, .int dc, .ref (D 9), .int (nI nr), .ref (D 10), .ref (D 11), .ref (D 12), .ref (D 13), .ref (D 14), .int al, .int wa])) :: (D 2, .inl (G.2.1.2.1, 12, .inl rr)) :: (D 0, .inl (G.2.1.1, 6, .inl (upd fc 1 (fc 1 + 1)))) :: r) := by
  refine Mt.of (by decide +kernel) rfl rfl (fun X B => ?_)
  show J G X mX8_string ((m, .inr (8, [.int fi, .ref (D 0), .long as, .int (nI ns), .ref (D 1), .ref (D 2), .ref (D 3), .ref (D 4), .ref (D 5), .ref (D 6), .ref (D 7), .ref (D 8), .int ii, .long de, .int dl, .int dp, .int dc, .ref (D 9), .int (nI nr), .ref (D 10), .ref (D 11), .ref (D 12), .ref (D 13), .ref (D 14), .int al, .int wa])) :: (D 2, .inl (G.2.1.2.1, 12, .inl rr)) :: (D 0, .inl (G.2.1.1, 6, .inl fc)) :: r) 0 0 0 [(0, .ref m), (1, .int (nI s)), (2, .int p), (3, .int q)] []
  obtain ⟨g1, g2⟩ := Bool.and_eq_true_iff.mp hb
  refine J.iload_n 2 dX8_string_0 rfl ?_
  refine J.callS (st := []) B (c_X8_isPeriod l G _ (n := p)) ml_X8_127 mf_yX8_isPeriod mS_yX8_isPeriod dX8_string_1 rfl rfl rfl (fun v_1 w_2 hp_3 => ?_)
  obtain ⟨rfl, rfl⟩ := hp_3
  show J G X mX8_string _ _ _ 4 _ [.int (b01 (inR p 1 600))]
  refine J.if_eq dX8_string_4 (fun z => absurd z (by rw [g1]; decide)) (fun h9 => ?_)
  refine J.iload_n 3 dX8_string_7 rfl ?_
  refine J.callS (st := []) B (c_X8_isPart l G _ (n := q)) ml_X8_130 mf_yX8_isPart mS_yX8_isPart dX8_string_8 rfl rfl rfl (fun v_4 w_5 hp_6 => ?_)
  obtain ⟨rfl, rfl⟩ := hp_6
  show J G X mX8_string _ _ _ 11 _ [.int (b01 (inR q 1 60))]
  refine J.if_ne dX8_string_11 (fun h9 => ?_) (fun z => absurd z (by rw [g2]; decide))
  refine J.aload_n 0 dX8_string_16 rfl ?_
  refine J.iload_n 1 dX8_string_17 rfl ?_
  refine J.callV 0 (st := []) B (c_X8_looked_no l G _ (k := s) hk hns hr) ml_X8_108 mf_yX8_looked mi_yX8_looked rfl dX8_string_18 rfl rfl rfl rfl (fun v_7 w_8 hp_9 => ?_)
  obtain ⟨rfl, rfl⟩ := hp_9
  show J G X mX8_string _ _ _ 21 _ [.int (-3 : Int32)]
  refine J.istore [1, 2, 3, 4, 0] (lv' := [(0, .ref m), (1, .int (nI s)), (2, .int p), (3, .int q), (4, .int (-3 : Int32))]) dX8_string_21 rfl rfl ?_
  refine J.iload 4 dX8_string_23 rfl ?_
  refine J.if_ge dX8_string_25 (fun z => absurd z (by decide)) (fun _ => ?_)
  refine J.iload 4 dX8_string_28 rfl ?_
  refine J.goto dX8_string_30 ?_
  exact J.iret B dX8_string_44 rfl (⟨rfl, rfl⟩)
set_option maxHeartbeats 4000000 in
set_option maxRecDepth 100000 in
theorem r_string (l : Launch) (G : jG) (r : va_W) {m : Nat} {D : Nat → Nat} {fi : Int32} {as : Int64} {ns : Nat} {ii : Int32} {de : Int64} {dl dp dc : Int32} {nr : Nat} {al wa : Int32} {rr : Nat → Int32} {s : Nat} (hk : s < ns) (hns : ns ≤ 12) {ml F : Nat → Int32} {od : Nat → Int32} (hr : ¬ rr s = 0) (hb : BD (rowM ml s) F) {p q : Nat} (hp1 : 1 ≤ p) (hp2 : p ≤ 600) (hq1 : 1 ≤ q) (hq2 : q ≤ 60) : Mt l G yX8_string mX8_string 3 64 0 0 [.ref m, .int (nI s), .int (nI p), .int (nI q)] ((m, .inr (8, [.int fi, .ref (D 0), .long as, .int (nI ns), .ref (D 1), .ref (D 2), .ref (D 3), .ref (D 4), .ref (D 5), .ref (D 6), .ref (D 7), .ref (D 8), .int ii, .long de, .int dl, .int dp, .int dc, .ref (D 9), .int (nI nr), .ref (D 10), .ref (D 11), .ref (D 12), .ref (D 13), .ref (D 14), .int al, .int wa])) :: (D 2, .inl (G.2.1.2.1, 12, .inl rr)) :: (D 3, .inl (G.2.1.1, 720, .inl ml)) :: (D 4, .inl (G.2.1.1, 60, .inl F)) :: (D 8, .inl (G.2.1.1, 60, .inl od)) :: r) (fun v w => ∃ od1, v = some (.int 1) ∧ w = (m, .inr (8, [.int fi, .ref (D 0), .long (Int64.ofInt (strV (rowM ml s) F p q)), .int (nI ns), .ref (D 1), .ref (D 2), .ref (D 3), .ref (D 4), .ref (D 5), .ref (D 6), .ref (D 7), .ref (D 8), .int ii, .long de, .int dl, .int dp, .int dc, .ref (D 9), .int (nI nr), .ref (D 10), .ref (D 11), .ref (D 12), .ref (D 13), .ref (D 14), .int al, .int wa])) :: (D 2, .inl (G.2.1.2.1, 12, .inl rr)) :: (D 3, .inl (G.2.1.1, 720, .inl ml)) :: (D 4, .inl (G.2.1.1, 60, .inl F)) :: (D 8, .inl (G.2.1.1, 60, .inl od1)) :: r) := by
  refine Mt.of (by decide +kernel) rfl rfl (fun X B => ?_)
  show J G X mX8_string ((m, .inr (8, [.int fi, .ref (D 0), .long as, .int (nI ns), .ref (D 1), .ref (D 2), .ref (D 3), .ref (D 4), .ref (D 5), .ref (D 6), .ref (D 7), .ref (D 8), .int ii, .long de, .int dl, .int dp, .int dc, .ref (D 9), .int (nI nr), .ref (D 10), .ref (D 11), .ref (D 12), .ref (D 13), .ref (D 14), .int al, .int wa])) :: (D 2, .inl (G.2.1.2.1, 12, .inl rr)) :: (D 3, .inl (G.2.1.1, 720, .inl ml)) :: (D 4, .inl (G.2.1.1, 60, .inl F)) :: (D 8, .inl (G.2.1.1, 60, .inl od)) :: r) 0 0 0 [(0, .ref m), (1, .int (nI s)), (2, .int (nI p)), (3, .int (nI q))] []
  have hs : s < 12 := by omega
  have hpi : inR (nI p) 1 600 = true := by rw [nI_inR (by omega)]; exact decide_eq_true ⟨by omega, by omega⟩
  have hqi : inR (nI q) 1 60 = true := by rw [nI_inR (by omega)]; exact decide_eq_true ⟨by omega, by omega⟩
  refine J.iload_n 2 dX8_string_0 rfl ?_
  refine J.callS (st := []) B (c_X8_isPeriod l G _ (n := nI p)) ml_X8_127 mf_yX8_isPeriod mS_yX8_isPeriod dX8_string_1 rfl rfl rfl (fun v_1 w_2 hp_3 => ?_)
  obtain ⟨rfl, rfl⟩ := hp_3
  show J G X mX8_string _ _ _ 4 _ [.int (b01 (inR (nI p) 1 600))]
  refine J.if_eq dX8_string_4 (fun z => absurd z (by rw [hpi]; decide)) (fun h9 => ?_)
  refine J.iload_n 3 dX8_string_7 rfl ?_
  refine J.callS (st := []) B (c_X8_isPart l G _ (n := nI q)) ml_X8_130 mf_yX8_isPart mS_yX8_isPart dX8_string_8 rfl rfl rfl (fun v_4 w_5 hp_6 => ?_)
  obtain ⟨rfl, rfl⟩ := hp_6
  show J G X mX8_string _ _ _ 11 _ [.int (b01 (inR (nI q) 1 60))]
  refine J.if_ne dX8_string_11 (fun h9 => ?_) (fun z => absurd z (by rw [hqi]; decide))
  refine J.aload_n 0 dX8_string_16 rfl ?_
  refine J.iload_n 1 dX8_string_17 rfl ?_
  refine J.callV 0 (st := []) B (c_X8_looked l G _ (k := s) hk hns hr) ml_X8_108 mf_yX8_looked mi_yX8_looked rfl dX8_string_18 rfl rfl rfl rfl (fun v_7 w_8 hp_9 => ?_)
  obtain ⟨rfl, rfl⟩ := hp_9
  show J G X mX8_string _ _ _ 21 _ [.int (0 : Int32)]
  refine J.istore [1, 2, 3, 4, 0] (lv' := [(0, .ref m), (1, .int (nI s)), (2, .int (nI p)), (3, .int (nI q)), (4, .int (0 : Int32))]) dX8_string_21 rfl rfl ?_
  refine J.iload 4 dX8_string_23 rfl ?_
  refine J.if_ge dX8_string_25 (fun _ => ?_) (fun z => absurd z (by decide))
  refine J.aload_n 0 dX8_string_33 rfl ?_
  refine J.aload_n 0 dX8_string_34 rfl ?_
  refine J.iload_n 1 dX8_string_35 rfl ?_
  refine J.iload_n 2 dX8_string_36 rfl ?_
  refine J.iload_n 3 dX8_string_37 rfl ?_
  refine J.re [0, 2, 3, 4, 1] 5 (ws2 := (m, .inr (8, [.int fi, .ref (D 0), .long as, .int (nI ns), .ref (D 1), .ref (D 2), .ref (D 3), .ref (D 4), .ref (D 5), .ref (D 6), .ref (D 7), .ref (D 8), .int ii, .long de, .int dl, .int dp, .int dc, .ref (D 9), .int (nI nr), .ref (D 10), .ref (D 11), .ref (D 12), .ref (D 13), .ref (D 14), .int al, .int wa])) :: (D 3, .inl (G.2.1.1, 720, .inl ml)) :: (D 4, .inl (G.2.1.1, 60, .inl F)) :: (D 8, .inl (G.2.1.1, 60, .inl od)) :: (D 2, .inl (G.2.1.2.1, 12, .inl rr)) :: r) rfl rfl ?_
  refine J.callV 0 (st := [.ref m]) B (c_X8_stringOf l G _ (p := p) (q := q) hs hb hp1 hp2 hq2) ml_X8_133 mf_yX8_stringOf mi_yX8_stringOf rfl dX8_string_38 rfl rfl rfl rfl (fun v_10 w_11 hp_12 => ?_)
  obtain ⟨rfl, od1, rfl⟩ := hp_12
  refine J.re [0, 4, 1, 2, 3] 5 (ws2 := (m, .inr (8, [.int fi, .ref (D 0), .long as, .int (nI ns), .ref (D 1), .ref (D 2), .ref (D 3), .ref (D 4), .ref (D 5), .ref (D 6), .ref (D 7), .ref (D 8), .int ii, .long de, .int dl, .int dp, .int dc, .ref (D 9), .int (nI nr), .ref (D 10), .ref (D 11), .ref (D 12), .ref (D 13), .ref (D 14), .int al, .int wa])) :: (D 2, .inl (G.2.1.2.1, 12, .inl rr)) :: (D 3, .inl (G.2.1.1, 720, .inl ml)) :: (D 4, .inl (G.2.1.1, 60, .inl F)) :: (D 8, .inl (G.2.1.1, 60, .inl od1)) :: r) rfl rfl ?_
  show J G X mX8_string _ _ _ 41 _ [.long (Int64.ofInt (strV (rowM ml s) F p q)), .ref m]
  refine J.callV 0 (st := []) B (c_X8_tell l G _ (t0 := Int64.ofInt (strV (rowM ml s) F p q))) ml_X8_114 mf_yX8_tell mi_yX8_tell rfl dX8_string_41 rfl rfl rfl rfl (fun v_13 w_14 hp_15 => ?_)
  obtain ⟨rfl, rfl⟩ := hp_15
  show J G X mX8_string _ _ _ 44 _ [.int (1 : Int32)]
  exact J.iret B dX8_string_44 rfl (⟨od1, rfl, rfl⟩)
set_option maxHeartbeats 4000000 in
set_option maxRecDepth 100000 in
theorem r_period_a (l : Launch) (G : jG) (r : va_W) {m : Nat} {D : Nat → Nat} {fi : Int32} {as : Int64} {ns : Nat} {ii : Int32} {de : Int64} {dl dp dc : Int32} {nr : Nat} {al wa : Int32} {num : Int32} {q a b : Int32} (hf : (inR a 1 600 && inR q 1 60 && (inR b 1 600 && inR q 1 60) && decide (a ≤ b)) = false) : Mt l G yX8_period mX8_period 3 80 0 0 [.ref m, .int num, .int q, .int a, .int b] ((m, .inr (8, [.int fi, .ref (D 0), .long as, .int (nI ns), .ref (D 1), .ref (D 2), .ref (D 3), .ref (D 4), .ref (D 5), .ref (D 6), .ref (D 7), .ref (D 8), .int ii, .long de, .int dl, .int dp, .int dc, .ref (D 9), .int (nI nr), .ref (D 10), .ref (D 11), .ref (D 12), .ref (D 13), .ref (D 14), .int al, .int wa])) :: r) (fun v w => v = some (.int (-1 : Int32)) ∧ w = (m, .inr (8, [.int fi, .ref (D 0), .long as, .int (nI ns), .ref (D 1), .ref (D 2), .ref (D 3), .ref (D 4), .ref (D 5), .ref (D 6), .ref (D 7), .ref (D 8), .int ii, .long de, .int dl, .int dp, .int dc, .ref (D 9), .int (nI nr), .ref (D 10), .ref (D 11), .ref (D 12), .ref (D 13), .ref (D 14), .int al, .int wa])) :: r) := by
  refine Mt.of (by decide +kernel) rfl rfl (fun X B => ?_)
  show J G X mX8_period ((m, .inr (8, [.int fi, .ref (D 0), .long as, .int (nI ns), .ref (D 1), .ref (D 2), .ref (D 3), .ref (D 4), .ref (D 5), .ref (D 6), .ref (D 7), .ref (D 8), .int ii, .long de, .int dl, .int dp, .int dc, .ref (D 9), .int (nI nr), .ref (D 10), .ref (D 11), .ref (D 12), .ref (D 13), .ref (D 14), .int al, .int wa])) :: r) 0 0 0 [(0, .ref m), (1, .int num), (2, .int q), (3, .int a), (4, .int b)] []
  refine J.iload_n 2 dX8_period_0 rfl ?_
  refine J.callS (st := []) B (c_X8_isPart l G _ (n := q)) ml_X8_130 mf_yX8_isPart mS_yX8_isPart dX8_period_1 rfl rfl rfl (fun v_1 w_2 hp_3 => ?_)
  obtain ⟨rfl, rfl⟩ := hp_3
  show J G X mX8_period _ _ _ 4 _ [.int (b01 (inR q 1 60))]
  refine J.if_eq dX8_period_4 (fun h9 => ?_) (fun h9 => ?_)
  · skip
    refine J.iconst (-1 : Int32) dX8_period_28 rfl ?_
    exact J.iret B dX8_period_29 rfl (⟨rfl, rfl⟩)
  · skip
    refine J.iload_n 3 dX8_period_7 rfl ?_
    refine J.callS (st := []) B (c_X8_isPeriod l G _ (n := a)) ml_X8_127 mf_yX8_isPeriod mS_yX8_isPeriod dX8_period_8 rfl rfl rfl (fun v_4 w_5 hp_6 => ?_)
    obtain ⟨rfl, rfl⟩ := hp_6
    show J G X mX8_period _ _ _ 11 _ [.int (b01 (inR a 1 600))]
    refine J.if_eq dX8_period_11 (fun h8 => ?_) (fun h8 => ?_)
    · skip
      refine J.iconst (-1 : Int32) dX8_period_28 rfl ?_
      exact J.iret B dX8_period_29 rfl (⟨rfl, rfl⟩)
    · skip
      refine J.iload 4 dX8_period_14 rfl ?_
      refine J.callS (st := []) B (c_X8_isPeriod l G _ (n := b)) ml_X8_127 mf_yX8_isPeriod mS_yX8_isPeriod dX8_period_16 rfl rfl rfl (fun v_7 w_8 hp_9 => ?_)
      obtain ⟨rfl, rfl⟩ := hp_9
      show J G X mX8_period _ _ _ 19 _ [.int (b01 (inR b 1 600))]
      refine J.if_eq dX8_period_19 (fun h7 => ?_) (fun h7 => ?_)
      · skip
        refine J.iconst (-1 : Int32) dX8_period_28 rfl ?_
        exact J.iret B dX8_period_29 rfl (⟨rfl, rfl⟩)
      · skip
        refine J.iload_n 3 dX8_period_22 rfl ?_
        refine J.iload 4 dX8_period_23 rfl ?_
        refine J.icmp_le dX8_period_25 (fun h6 => ?_) (fun h6 => ?_)
        · skip
          exact absurd (by rw [b01_1 h9, b01_1 h8, b01_1 h7, decide_eq_true h6]; rfl) (Bool.eq_false_iff.mp hf)
        · skip
          refine J.iconst (-1 : Int32) dX8_period_28 rfl ?_
          exact J.iret B dX8_period_29 rfl (⟨rfl, rfl⟩)
set_option maxHeartbeats 4000000 in
set_option maxRecDepth 100000 in
theorem r_period_bad (l : Launch) (G : jG) (r : va_W) {m : Nat} {D : Nat → Nat} {fi : Int32} {as : Int64} {ns : Nat} {ii : Int32} {de : Int64} {dl dp dc : Int32} {nr : Nat} {al wa : Int32} {rr : Nat → Int32} {num : Int32} (hns : ns ≤ 12) (hnum : inR num 0 ((ns : Int) - 1) = false) {q a b : Int32} (hf : (inR a 1 600 && inR q 1 60 && (inR b 1 600 && inR q 1 60) && decide (a ≤ b)) = true) : Mt l G yX8_period mX8_period 3 80 0 0 [.ref m, .int num, .int q, .int a, .int b] ((m, .inr (8, [.int fi, .ref (D 0), .long as, .int (nI ns), .ref (D 1), .ref (D 2), .ref (D 3), .ref (D 4), .ref (D 5), .ref (D 6), .ref (D 7), .ref (D 8), .int ii, .long de, .int dl, .int dp, .int dc, .ref (D 9), .int (nI nr), .ref (D 10), .ref (D 11), .ref (D 12), .ref (D 13), .ref (D 14), .int al, .int wa])) :: (D 2, .inl (G.2.1.2.1, 12, .inl rr)) :: r) (fun v w => v = some (.int (-1 : Int32)) ∧ w = (m, .inr (8, [.int fi, .ref (D 0), .long as, .int (nI ns), .ref (D 1), .ref (D 2), .ref (D 3), .ref (D 4), .ref (D 5), .ref (D 6), .ref (D 7), .ref (D 8), .int ii, .long de, .int dl, .int dp, .int dc, .ref (D 9), .int (nI nr), .ref (D 10), .ref (D 11), .ref (D 12), .ref (D 13), .ref (D 14), .int al, .int wa])) :: (D 2, .inl (G.2.1.2.1, 12, .inl rr)) :: r) := by
  refine Mt.of (by decide +kernel) rfl rfl (fun X B => ?_)
  show J G X mX8_period ((m, .inr (8, [.int fi, .ref (D 0), .long as, .int (nI ns), .ref (D 1), .ref (D 2), .ref (D 3), .ref (D 4), .ref (D 5), .ref (D 6), .ref (D 7), .ref (D 8), .int ii, .long de, .int dl, .int dp, .int dc, .ref (D 9), .int (nI nr), .ref (D 10), .ref (D 11), .ref (D 12), .ref (D 13), .ref (D 14), .int al, .int wa])) :: (D 2, .inl (G.2.1.2.1, 12, .inl rr)) :: r) 0 0 0 [(0, .ref m), (1, .int num), (2, .int q), (3, .int a), (4, .int b)] []
  simp only [Bool.and_eq_true] at hf
  obtain ⟨⟨⟨g1, g2⟩, g3, -⟩, g4⟩ := hf
  have g4 := of_decide_eq_true g4
  refine J.iload_n 2 dX8_period_0 rfl ?_
  refine J.callS (st := []) B (c_X8_isPart l G _ (n := q)) ml_X8_130 mf_yX8_isPart mS_yX8_isPart dX8_period_1 rfl rfl rfl (fun v_1 w_2 hp_3 => ?_)
  obtain ⟨rfl, rfl⟩ := hp_3
  show J G X mX8_period _ _ _ 4 _ [.int (b01 (inR q 1 60))]
  refine J.if_eq dX8_period_4 (fun z => absurd z (by rw [g2]; decide)) (fun h9 => ?_)
  refine J.iload_n 3 dX8_period_7 rfl ?_
  refine J.callS (st := []) B (c_X8_isPeriod l G _ (n := a)) ml_X8_127 mf_yX8_isPeriod mS_yX8_isPeriod dX8_period_8 rfl rfl rfl (fun v_4 w_5 hp_6 => ?_)
  obtain ⟨rfl, rfl⟩ := hp_6
  show J G X mX8_period _ _ _ 11 _ [.int (b01 (inR a 1 600))]
  refine J.if_eq dX8_period_11 (fun z => absurd z (by rw [g1]; decide)) (fun h9 => ?_)
  refine J.iload 4 dX8_period_14 rfl ?_
  refine J.callS (st := []) B (c_X8_isPeriod l G _ (n := b)) ml_X8_127 mf_yX8_isPeriod mS_yX8_isPeriod dX8_period_16 rfl rfl rfl (fun v_7 w_8 hp_9 => ?_)
  obtain ⟨rfl, rfl⟩ := hp_9
  show J G X mX8_period _ _ _ 19 _ [.int (b01 (inR b 1 600))]
  refine J.if_eq dX8_period_19 (fun z => absurd z (by rw [g3]; decide)) (fun h9 => ?_)
  refine J.iload_n 3 dX8_period_22 rfl ?_
  refine J.iload 4 dX8_period_23 rfl ?_
  refine J.icmp_le dX8_period_25 (fun h6 => ?_) (fun z => absurd (g4) z)
  refine J.aload_n 0 dX8_period_30 rfl ?_
  refine J.iload_n 1 dX8_period_31 rfl ?_
  refine J.callV 0 (st := []) B (c_X8_looked_bad l G _ hns hnum) ml_X8_108 mf_yX8_looked mi_yX8_looked rfl dX8_period_32 rfl rfl rfl rfl (fun v_10 w_11 hp_12 => ?_)
  obtain ⟨rfl, rfl⟩ := hp_12
  show J G X mX8_period _ _ _ 35 _ [.int (-1 : Int32)]
  refine J.istore [1, 2, 3, 4, 5, 0] (lv' := [(0, .ref m), (1, .int num), (2, .int q), (3, .int a), (4, .int b), (5, .int (-1 : Int32))]) dX8_period_35 rfl rfl ?_
  refine J.iload 5 dX8_period_37 rfl ?_
  refine J.if_ge dX8_period_39 (fun z => absurd z (by decide)) (fun _ => ?_)
  refine J.iload 5 dX8_period_42 rfl ?_
  exact J.iret B dX8_period_44 rfl (⟨rfl, rfl⟩)
set_option maxHeartbeats 4000000 in
set_option maxRecDepth 100000 in
theorem r_period_no (l : Launch) (G : jG) (r : va_W) {m : Nat} {D : Nat → Nat} {fi : Int32} {as : Int64} {ns : Nat} {ii : Int32} {de : Int64} {dl dp dc : Int32} {nr : Nat} {al wa : Int32} {rr : Nat → Int32} {s : Nat} (hk : s < ns) (hns : ns ≤ 12) {fc : Nat → Int32} (hr : rr s = 0) {q a b : Int32} (hf : (inR a 1 600 && inR q 1 60 && (inR b 1 600 && inR q 1 60) && decide (a ≤ b)) = true) : Mt l G yX8_period mX8_period 3 80 0 0 [.ref m, .int (nI s), .int q, .int a, .int b] ((m, .inr (8, [.int fi, .ref (D 0), .long as, .int (nI ns), .ref (D 1), .ref (D 2), .ref (D 3), .ref (D 4), .ref (D 5), .ref (D 6), .ref (D 7), .ref (D 8), .int ii, .long de, .int dl, .int dp, .int dc, .ref (D 9), .int (nI nr), .ref (D 10), .ref (D 11), .ref (D 12), .ref (D 13), .ref (D 14), .int al, .int wa])) :: (D 2, .inl (G.2.1.2.1, 12, .inl rr)) :: (D 0, .inl (G.2.1.1, 6, .inl fc)) :: r) (fun v w => v = some (.int (-3 : Int32)) ∧ w = (m, .inr (8, [.int (nI 1), .ref (D 0), .long as, .int (nI ns), .ref (D 1), .ref (D 2), .ref (D 3), .ref (D 4), .ref (D 5), .ref (D 6), .ref (D 7), .ref (D 8), .int ii, .long de, .int dl, .int dp, .int dc, .ref (D 9), .int (nI nr), .ref (D 10), .ref (D 11), .ref (D 12), .ref (D 13), .ref (D 14), .int al, .int wa])) :: (D 2, .inl (G.2.1.2.1, 12, .inl rr)) :: (D 0, .inl (G.2.1.1, 6, .inl (upd fc 1 (fc 1 + 1)))) :: r) := by
  refine Mt.of (by decide +kernel) rfl rfl (fun X B => ?_)
  show J G X mX8_period ((m, .inr (8, [.int fi, .ref (D 0), .long as, .int (nI ns), .ref (D 1), .ref (D 2), .ref (D 3), .ref (D 4), .ref (D 5), .ref (D 6), .ref (D 7), .ref (D 8), .int ii, .long de, .int dl, .int dp, .int dc, .ref (D 9), .int (nI nr), .ref (D 10), .ref (D 11), .ref (D 12), .ref (D 13), .ref (D 14), .int al, .int wa])) :: (D 2, .inl (G.2.1.2.1, 12, .inl rr)) :: (D 0, .inl (G.2.1.1, 6, .inl fc)) :: r) 0 0 0 [(0, .ref m), (1, .int (nI s)), (2, .int q), (3, .int a), (4, .int b)] []
  simp only [Bool.and_eq_true] at hf
  obtain ⟨⟨⟨g1, g2⟩, g3, -⟩, g4⟩ := hf
  have g4 := of_decide_eq_true g4
  refine J.iload_n 2 dX8_period_0 rfl ?_
  refine J.callS (st := []) B (c_X8_isPart l G _ (n := q)) ml_X8_130 mf_yX8_isPart mS_yX8_isPart dX8_period_1 rfl rfl rfl (fun v_1 w_2 hp_3 => ?_)
  obtain ⟨rfl, rfl⟩ := hp_3
  show J G X mX8_period _ _ _ 4 _ [.int (b01 (inR q 1 60))]
  refine J.if_eq dX8_period_4 (fun z => absurd z (by rw [g2]; decide)) (fun h9 => ?_)
  refine J.iload_n 3 dX8_period_7 rfl ?_
  refine J.callS (st := []) B (c_X8_isPeriod l G _ (n := a)) ml_X8_127 mf_yX8_isPeriod mS_yX8_isPeriod dX8_period_8 rfl rfl rfl (fun v_4 w_5 hp_6 => ?_)
  obtain ⟨rfl, rfl⟩ := hp_6
  show J G X mX8_period _ _ _ 11 _ [.int (b01 (inR a 1 600))]
  refine J.if_eq dX8_period_11 (fun z => absurd z (by rw [g1]; decide)) (fun h9 => ?_)
  refine J.iload 4 dX8_period_14 rfl ?_
  refine J.callS (st := []) B (c_X8_isPeriod l G _ (n := b)) ml_X8_127 mf_yX8_isPeriod mS_yX8_isPeriod dX8_period_16 rfl rfl rfl (fun v_7 w_8 hp_9 => ?_)
  obtain ⟨rfl, rfl⟩ := hp_9
  show J G X mX8_period _ _ _ 19 _ [.int (b01 (inR b 1 600))]
  refine J.if_eq dX8_period_19 (fun z => absurd z (by rw [g3]; decide)) (fun h9 => ?_)
  refine J.iload_n 3 dX8_period_22 rfl ?_
  refine J.iload 4 dX8_period_23 rfl ?_
  refine J.icmp_le dX8_period_25 (fun h6 => ?_) (fun z => absurd (g4) z)
  refine J.aload_n 0 dX8_period_30 rfl ?_
  refine J.iload_n 1 dX8_period_31 rfl ?_
  refine J.callV 0 (st := []) B (c_X8_looked_no l G _ (k := s) hk hns hr) ml_X8_108 mf_yX8_looked mi_yX8_looked rfl dX8_period_32 rfl rfl rfl rfl (fun v_10 w_11 hp_12 => ?_)
  obtain ⟨rfl, rfl⟩ := hp_12
  show J G X mX8_period _ _ _ 35 _ [.int (-3 : Int32)]
  refine J.istore [1, 2, 3, 4, 5, 0] (lv' := [(0, .ref m), (1, .int (nI s)), (2, .int q), (3, .int a), (4, .int b), (5, .int (-3 : Int32))]) dX8_period_35 rfl rfl ?_
  refine J.iload 5 dX8_period_37 rfl ?_
  refine J.if_ge dX8_period_39 (fun z => absurd z (by decide)) (fun _ => ?_)
  refine J.iload 5 dX8_period_42 rfl ?_
  exact J.iret B dX8_period_44 rfl (⟨rfl, rfl⟩)
set_option maxHeartbeats 4000000 in
set_option maxRecDepth 100000 in
theorem r_period (l : Launch) (G : jG) (r : va_W) {m : Nat} {D : Nat → Nat} {fi : Int32} {as : Int64} {ns : Nat} {ii : Int32} {de : Int64} {dl dp dc : Int32} {nr : Nat} {al wa : Int32} {rr : Nat → Int32} {s : Nat} (hk : s < ns) (hns : ns ≤ 12) {ml F : Nat → Int32} {od : Nat → Int32} (hr : ¬ rr s = 0) {q a b : Nat} (hb : BD (rowM ml s) F) (ha : 1 ≤ a) (hb2 : b ≤ 600) (hab : a ≤ b) (hq1 : 1 ≤ q) (hq2 : q ≤ 60) : Mt l G yX8_period mX8_period 3 80 0 0 [.ref m, .int (nI s), .int (nI q), .int (nI a), .int (nI b)] ((m, .inr (8, [.int fi, .ref (D 0), .long as, .int (nI ns), .ref (D 1), .ref (D 2), .ref (D 3), .ref (D 4), .ref (D 5), .ref (D 6), .ref (D 7), .ref (D 8), .int ii, .long de, .int dl, .int dp, .int dc, .ref (D 9), .int (nI nr), .ref (D 10), .ref (D 11), .ref (D 12), .ref (D 13), .ref (D 14), .int al, .int wa])) :: (D 2, .inl (G.2.1.2.1, 12, .inl rr)) :: (D 3, .inl (G.2.1.1, 720, .inl ml)) :: (D 4, .inl (G.2.1.1, 60, .inl F)) :: (D 8, .inl (G.2.1.1, 60, .inl od)) :: r) (fun v w => ∃ od2, v = some (.int (nI (lstN (fun j => strV (rowM ml s) F j q) a (b - a)))) ∧ w = (m, .inr (8, [.int fi, .ref (D 0), .long (Int64.ofInt (strV (rowM ml s) F (lstN (fun j => strV (rowM ml s) F j q) a (b - a)) q)), .int (nI ns), .ref (D 1), .ref (D 2), .ref (D 3), .ref (D 4), .ref (D 5), .ref (D 6), .ref (D 7), .ref (D 8), .int ii, .long de, .int dl, .int dp, .int dc, .ref (D 9), .int (nI nr), .ref (D 10), .ref (D 11), .ref (D 12), .ref (D 13), .ref (D 14), .int al, .int wa])) :: (D 2, .inl (G.2.1.2.1, 12, .inl rr)) :: (D 3, .inl (G.2.1.1, 720, .inl ml)) :: (D 4, .inl (G.2.1.1, 60, .inl F)) :: (D 8, .inl (G.2.1.1, 60, .inl od2)) :: r) := by
  refine Mt.of (by decide +kernel) rfl rfl (fun X B => ?_)
  show J G X mX8_period ((m, .inr (8, [.int fi, .ref (D 0), .long as, .int (nI ns), .ref (D 1), .ref (D 2), .ref (D 3), .ref (D 4), .ref (D 5), .ref (D 6), .ref (D 7), .ref (D 8), .int ii, .long de, .int dl, .int dp, .int dc, .ref (D 9), .int (nI nr), .ref (D 10), .ref (D 11), .ref (D 12), .ref (D 13), .ref (D 14), .int al, .int wa])) :: (D 2, .inl (G.2.1.2.1, 12, .inl rr)) :: (D 3, .inl (G.2.1.1, 720, .inl ml)) :: (D 4, .inl (G.2.1.1, 60, .inl F)) :: (D 8, .inl (G.2.1.1, 60, .inl od)) :: r) 0 0 0 [(0, .ref m), (1, .int (nI s)), (2, .int (nI q)), (3, .int (nI a)), (4, .int (nI b))] []
  have hs : s < 12 := by omega
  have hai : inR (nI a) 1 600 = true := by rw [nI_inR (by omega)]; exact decide_eq_true ⟨by omega, by omega⟩
  have hbi : inR (nI b) 1 600 = true := by rw [nI_inR (by omega)]; exact decide_eq_true ⟨by omega, by omega⟩
  have hqi : inR (nI q) 1 60 = true := by rw [nI_inR (by omega)]; exact decide_eq_true ⟨by omega, by omega⟩
  have hl := lstN_in (fun j => strV (rowM ml s) F j q) a (b - a)
  refine J.iload_n 2 dX8_period_0 rfl ?_
  refine J.callS (st := []) B (c_X8_isPart l G _ (n := nI q)) ml_X8_130 mf_yX8_isPart mS_yX8_isPart dX8_period_1 rfl rfl rfl (fun v_1 w_2 hp_3 => ?_)
  obtain ⟨rfl, rfl⟩ := hp_3
  show J G X mX8_period _ _ _ 4 _ [.int (b01 (inR (nI q) 1 60))]
  refine J.if_eq dX8_period_4 (fun z => absurd z (by rw [hqi]; decide)) (fun h9 => ?_)
  refine J.iload_n 3 dX8_period_7 rfl ?_
  refine J.callS (st := []) B (c_X8_isPeriod l G _ (n := nI a)) ml_X8_127 mf_yX8_isPeriod mS_yX8_isPeriod dX8_period_8 rfl rfl rfl (fun v_4 w_5 hp_6 => ?_)
  obtain ⟨rfl, rfl⟩ := hp_6
  show J G X mX8_period _ _ _ 11 _ [.int (b01 (inR (nI a) 1 600))]
  refine J.if_eq dX8_period_11 (fun z => absurd z (by rw [hai]; decide)) (fun h9 => ?_)
  refine J.iload 4 dX8_period_14 rfl ?_
  refine J.callS (st := []) B (c_X8_isPeriod l G _ (n := nI b)) ml_X8_127 mf_yX8_isPeriod mS_yX8_isPeriod dX8_period_16 rfl rfl rfl (fun v_7 w_8 hp_9 => ?_)
  obtain ⟨rfl, rfl⟩ := hp_9
  show J G X mX8_period _ _ _ 19 _ [.int (b01 (inR (nI b) 1 600))]
  refine J.if_eq dX8_period_19 (fun z => absurd z (by rw [hbi]; decide)) (fun h9 => ?_)
  refine J.iload_n 3 dX8_period_22 rfl ?_
  refine J.iload 4 dX8_period_23 rfl ?_
  refine J.icmp_le dX8_period_25 (fun h6 => ?_) (fun h6 => ?_)
  · skip
    have h6 : a ≤ b := (nI_leI (a := a) (b := b) (by omega) (by omega)).mp h6
    refine J.aload_n 0 dX8_period_30 rfl ?_
    refine J.iload_n 1 dX8_period_31 rfl ?_
    refine J.callV 0 (st := []) B (c_X8_looked l G _ (k := s) hk hns hr) ml_X8_108 mf_yX8_looked mi_yX8_looked rfl dX8_period_32 rfl rfl rfl rfl (fun v_10 w_11 hp_12 => ?_)
    obtain ⟨rfl, rfl⟩ := hp_12
    show J G X mX8_period _ _ _ 35 _ [.int (0 : Int32)]
    refine J.istore [1, 2, 3, 4, 5, 0] (lv' := [(0, .ref m), (1, .int (nI s)), (2, .int (nI q)), (3, .int (nI a)), (4, .int (nI b)), (5, .int (0 : Int32))]) dX8_period_35 rfl rfl ?_
    refine J.iload 5 dX8_period_37 rfl ?_
    refine J.if_ge dX8_period_39 (fun _ => ?_) (fun z => absurd z (by decide))
    refine J.aload_n 0 dX8_period_45 rfl ?_
    refine J.iload_n 1 dX8_period_46 rfl ?_
    refine J.iload_n 2 dX8_period_47 rfl ?_
    refine J.iload_n 3 dX8_period_48 rfl ?_
    refine J.iload 4 dX8_period_49 rfl ?_
    refine J.re [0, 2, 3, 4, 1] 5 (ws2 := (m, .inr (8, [.int fi, .ref (D 0), .long as, .int (nI ns), .ref (D 1), .ref (D 2), .ref (D 3), .ref (D 4), .ref (D 5), .ref (D 6), .ref (D 7), .ref (D 8), .int ii, .long de, .int dl, .int dp, .int dc, .ref (D 9), .int (nI nr), .ref (D 10), .ref (D 11), .ref (D 12), .ref (D 13), .ref (D 14), .int al, .int wa])) :: (D 3, .inl (G.2.1.1, 720, .inl ml)) :: (D 4, .inl (G.2.1.1, 60, .inl F)) :: (D 8, .inl (G.2.1.1, 60, .inl od)) :: (D 2, .inl (G.2.1.2.1, 12, .inl rr)) :: r) rfl rfl ?_
    refine J.callV 0 (st := []) B (c_X8_bestOf l G _ (q := q) (a := a) (b := b) hs hb ha hb2 hq2 hab) ml_X8_137 mf_yX8_bestOf mi_yX8_bestOf rfl dX8_period_51 rfl rfl rfl rfl (fun v_13 w_14 hp_15 => ?_)
    obtain ⟨rfl, od1, rfl⟩ := hp_15
    refine J.re [0, 4, 1, 2, 3] 5 (ws2 := (m, .inr (8, [.int fi, .ref (D 0), .long as, .int (nI ns), .ref (D 1), .ref (D 2), .ref (D 3), .ref (D 4), .ref (D 5), .ref (D 6), .ref (D 7), .ref (D 8), .int ii, .long de, .int dl, .int dp, .int dc, .ref (D 9), .int (nI nr), .ref (D 10), .ref (D 11), .ref (D 12), .ref (D 13), .ref (D 14), .int al, .int wa])) :: (D 2, .inl (G.2.1.2.1, 12, .inl rr)) :: (D 3, .inl (G.2.1.1, 720, .inl ml)) :: (D 4, .inl (G.2.1.1, 60, .inl F)) :: (D 8, .inl (G.2.1.1, 60, .inl od1)) :: r) rfl rfl ?_
    show J G X mX8_period _ _ _ 54 _ [.int (nI (lstN (fun j => strV (rowM ml s) F j q) a (b - a)))]
    refine J.istore [1, 2, 3, 4, 5, 6, 0] (lv' := [(0, .ref m), (1, .int (nI s)), (2, .int (nI q)), (3, .int (nI a)), (4, .int (nI b)), (5, .int (0 : Int32)), (6, .int (nI (lstN (fun j => strV (rowM ml s) F j q) a (b - a))))]) dX8_period_54 rfl rfl ?_
    refine J.aload_n 0 dX8_period_56 rfl ?_
    refine J.aload_n 0 dX8_period_57 rfl ?_
    refine J.iload_n 1 dX8_period_58 rfl ?_
    refine J.iload 6 dX8_period_59 rfl ?_
    refine J.iload_n 2 dX8_period_61 rfl ?_
    refine J.re [0, 2, 3, 4, 1] 5 (ws2 := (m, .inr (8, [.int fi, .ref (D 0), .long as, .int (nI ns), .ref (D 1), .ref (D 2), .ref (D 3), .ref (D 4), .ref (D 5), .ref (D 6), .ref (D 7), .ref (D 8), .int ii, .long de, .int dl, .int dp, .int dc, .ref (D 9), .int (nI nr), .ref (D 10), .ref (D 11), .ref (D 12), .ref (D 13), .ref (D 14), .int al, .int wa])) :: (D 3, .inl (G.2.1.1, 720, .inl ml)) :: (D 4, .inl (G.2.1.1, 60, .inl F)) :: (D 8, .inl (G.2.1.1, 60, .inl od1)) :: (D 2, .inl (G.2.1.2.1, 12, .inl rr)) :: r) rfl rfl ?_
    refine J.callV 0 (st := [.ref m]) B (c_X8_stringOf l G _ (p := lstN (fun j => strV (rowM ml s) F j q) a (b - a)) (q := q) hs hb (by omega) (by omega) hq2) ml_X8_133 mf_yX8_stringOf mi_yX8_stringOf rfl dX8_period_62 rfl rfl rfl rfl (fun v_16 w_17 hp_18 => ?_)
    obtain ⟨rfl, od2, rfl⟩ := hp_18
    refine J.re [0, 4, 1, 2, 3] 5 (ws2 := (m, .inr (8, [.int fi, .ref (D 0), .long as, .int (nI ns), .ref (D 1), .ref (D 2), .ref (D 3), .ref (D 4), .ref (D 5), .ref (D 6), .ref (D 7), .ref (D 8), .int ii, .long de, .int dl, .int dp, .int dc, .ref (D 9), .int (nI nr), .ref (D 10), .ref (D 11), .ref (D 12), .ref (D 13), .ref (D 14), .int al, .int wa])) :: (D 2, .inl (G.2.1.2.1, 12, .inl rr)) :: (D 3, .inl (G.2.1.1, 720, .inl ml)) :: (D 4, .inl (G.2.1.1, 60, .inl F)) :: (D 8, .inl (G.2.1.1, 60, .inl od2)) :: r) rfl rfl ?_
    show J G X mX8_period _ _ _ 65 _ [.long (Int64.ofInt (strV (rowM ml s) F (lstN (fun j => strV (rowM ml s) F j q) a (b - a)) q)), .ref m]
    refine J.put 0 fp_X8_69 dX8_period_65 rfl (rfl) (rfl) rfl (ws' := (m, .inr (8, [.int fi, .ref (D 0), .long (Int64.ofInt (strV (rowM ml s) F (lstN (fun j => strV (rowM ml s) F j q) a (b - a)) q)), .int (nI ns), .ref (D 1), .ref (D 2), .ref (D 3), .ref (D 4), .ref (D 5), .ref (D 6), .ref (D 7), .ref (D 8), .int ii, .long de, .int dl, .int dp, .int dc, .ref (D 9), .int (nI nr), .ref (D 10), .ref (D 11), .ref (D 12), .ref (D 13), .ref (D 14), .int al, .int wa])) :: (D 2, .inl (G.2.1.2.1, 12, .inl rr)) :: (D 3, .inl (G.2.1.1, 720, .inl ml)) :: (D 4, .inl (G.2.1.1, 60, .inl F)) :: (D 8, .inl (G.2.1.1, 60, .inl od2)) :: r) rfl ?_
    refine J.iload 6 dX8_period_68 rfl ?_
    exact J.iret B dX8_period_70 rfl (⟨od2, rfl, rfl⟩)
  · skip
    have h6 : ¬ a ≤ b := fun z => h6 ((nI_leI (a := a) (b := b) (by omega) (by omega)).mpr z)
    omega
set_option maxHeartbeats 4000000 in
set_option maxRecDepth 100000 in
theorem r_asWell_a (l : Launch) (G : jG) (r : va_W) {m : Nat} {D : Nat → Nat} {fi : Int32} {as : Int64} {ns : Nat} {ii : Int32} {de : Int64} {dl dp dc : Int32} {nr : Nat} {al wa : Int32} {num : Int32} {q a b : Int32} {h : Int32} (hf : ((inR a 1 600 && inR q 1 60 && (inR b 1 600 && inR q 1 60) && decide (a ≤ b)) && inR h 0 100) = false) : Mt l G yX8_asWell mX8_asWell 3 80 0 0 [.ref m, .int num, .int q, .int a, .int b, .int h] ((m, .inr (8, [.int fi, .ref (D 0), .long as, .int (nI ns), .ref (D 1), .ref (D 2), .ref (D 3), .ref (D 4), .ref (D 5), .ref (D 6), .ref (D 7), .ref (D 8), .int ii, .long de, .int dl, .int dp, .int dc, .ref (D 9), .int (nI nr), .ref (D 10), .ref (D 11), .ref (D 12), .ref (D 13), .ref (D 14), .int al, .int wa])) :: r) (fun v w => v = some (.int (-1 : Int32)) ∧ w = (m, .inr (8, [.int fi, .ref (D 0), .long as, .int (nI ns), .ref (D 1), .ref (D 2), .ref (D 3), .ref (D 4), .ref (D 5), .ref (D 6), .ref (D 7), .ref (D 8), .int ii, .long de, .int dl, .int dp, .int dc, .ref (D 9), .int (nI nr), .ref (D 10), .ref (D 11), .ref (D 12), .ref (D 13), .ref (D 14), .int al, .int wa])) :: r) := by
  refine Mt.of (by decide +kernel) rfl rfl (fun X B => ?_)
  show J G X mX8_asWell ((m, .inr (8, [.int fi, .ref (D 0), .long as, .int (nI ns), .ref (D 1), .ref (D 2), .ref (D 3), .ref (D 4), .ref (D 5), .ref (D 6), .ref (D 7), .ref (D 8), .int ii, .long de, .int dl, .int dp, .int dc, .ref (D 9), .int (nI nr), .ref (D 10), .ref (D 11), .ref (D 12), .ref (D 13), .ref (D 14), .int al, .int wa])) :: r) 0 0 0 [(0, .ref m), (1, .int num), (2, .int q), (3, .int a), (4, .int b), (5, .int h)] []
  refine J.iload_n 2 dX8_asWell_0 rfl ?_
  refine J.callS (st := []) B (c_X8_isPart l G _ (n := q)) ml_X8_130 mf_yX8_isPart mS_yX8_isPart dX8_asWell_1 rfl rfl rfl (fun v_1 w_2 hp_3 => ?_)
  obtain ⟨rfl, rfl⟩ := hp_3
  show J G X mX8_asWell _ _ _ 4 _ [.int (b01 (inR q 1 60))]
  refine J.if_eq dX8_asWell_4 (fun h9 => ?_) (fun h9 => ?_)
  · skip
    refine J.iconst (-1 : Int32) dX8_asWell_39 rfl ?_
    exact J.iret B dX8_asWell_40 rfl (⟨rfl, rfl⟩)
  · skip
    refine J.iload_n 3 dX8_asWell_7 rfl ?_
    refine J.callS (st := []) B (c_X8_isPeriod l G _ (n := a)) ml_X8_127 mf_yX8_isPeriod mS_yX8_isPeriod dX8_asWell_8 rfl rfl rfl (fun v_4 w_5 hp_6 => ?_)
    obtain ⟨rfl, rfl⟩ := hp_6
    show J G X mX8_asWell _ _ _ 11 _ [.int (b01 (inR a 1 600))]
    refine J.if_eq dX8_asWell_11 (fun h8 => ?_) (fun h8 => ?_)
    · skip
      refine J.iconst (-1 : Int32) dX8_asWell_39 rfl ?_
      exact J.iret B dX8_asWell_40 rfl (⟨rfl, rfl⟩)
    · skip
      refine J.iload 4 dX8_asWell_14 rfl ?_
      refine J.callS (st := []) B (c_X8_isPeriod l G _ (n := b)) ml_X8_127 mf_yX8_isPeriod mS_yX8_isPeriod dX8_asWell_16 rfl rfl rfl (fun v_7 w_8 hp_9 => ?_)
      obtain ⟨rfl, rfl⟩ := hp_9
      show J G X mX8_asWell _ _ _ 19 _ [.int (b01 (inR b 1 600))]
      refine J.if_eq dX8_asWell_19 (fun h7 => ?_) (fun h7 => ?_)
      · skip
        refine J.iconst (-1 : Int32) dX8_asWell_39 rfl ?_
        exact J.iret B dX8_asWell_40 rfl (⟨rfl, rfl⟩)
      · skip
        refine J.iload_n 3 dX8_asWell_22 rfl ?_
        refine J.iload 4 dX8_asWell_23 rfl ?_
        refine J.icmp_gt dX8_asWell_25 (fun h6 => ?_) (fun h6 => ?_)
        · skip
          refine J.iconst (-1 : Int32) dX8_asWell_39 rfl ?_
          exact J.iret B dX8_asWell_40 rfl (⟨rfl, rfl⟩)
        · skip
          refine J.iload 5 dX8_asWell_28 rfl ?_
          refine J.iconst (0 : Int32) dX8_asWell_30 rfl ?_
          refine J.bipush (100 : Int32) dX8_asWell_31 rfl ?_
          refine J.callS (st := []) B (c_X8_in l G _ (v := h) (lo := (0 : Int32)) (hi := (100 : Int32)) (a := 0) (b := 100) rfl rfl) ml_X8_76 mf_yX8_in mS_yX8_in dX8_asWell_33 rfl rfl rfl (fun v_10 w_11 hp_12 => ?_)
          obtain ⟨rfl, rfl⟩ := hp_12
          show J G X mX8_asWell _ _ _ 36 _ [.int (b01 (inR h 0 100))]
          refine J.if_ne dX8_asWell_36 (fun h5 => ?_) (fun h5 => ?_)
          · skip
            exact absurd (by rw [b01_1 h9, b01_1 h8, b01_1 h7, decide_eq_true (Int32.not_lt.mp h6), b01_1 h5]; rfl) (Bool.eq_false_iff.mp hf)
          · skip
            refine J.iconst (-1 : Int32) dX8_asWell_39 rfl ?_
            exact J.iret B dX8_asWell_40 rfl (⟨rfl, rfl⟩)
set_option maxHeartbeats 4000000 in
set_option maxRecDepth 100000 in
theorem r_asWell_bad (l : Launch) (G : jG) (r : va_W) {m : Nat} {D : Nat → Nat} {fi : Int32} {as : Int64} {ns : Nat} {ii : Int32} {de : Int64} {dl dp dc : Int32} {nr : Nat} {al wa : Int32} {rr : Nat → Int32} {num : Int32} (hns : ns ≤ 12) (hnum : inR num 0 ((ns : Int) - 1) = false) {q a b : Int32} {h : Int32} (hf : ((inR a 1 600 && inR q 1 60 && (inR b 1 600 && inR q 1 60) && decide (a ≤ b)) && inR h 0 100) = true) : Mt l G yX8_asWell mX8_asWell 3 80 0 0 [.ref m, .int num, .int q, .int a, .int b, .int h] ((m, .inr (8, [.int fi, .ref (D 0), .long as, .int (nI ns), .ref (D 1), .ref (D 2), .ref (D 3), .ref (D 4), .ref (D 5), .ref (D 6), .ref (D 7), .ref (D 8), .int ii, .long de, .int dl, .int dp, .int dc, .ref (D 9), .int (nI nr), .ref (D 10), .ref (D 11), .ref (D 12), .ref (D 13), .ref (D 14), .int al, .int wa])) :: (D 2, .inl (G.2.1.2.1, 12, .inl rr)) :: r) (fun v w => v = some (.int (-1 : Int32)) ∧ w = (m, .inr (8, [.int fi, .ref (D 0), .long as, .int (nI ns), .ref (D 1), .ref (D 2), .ref (D 3), .ref (D 4), .ref (D 5), .ref (D 6), .ref (D 7), .ref (D 8), .int ii, .long de, .int dl, .int dp, .int dc, .ref (D 9), .int (nI nr), .ref (D 10), .ref (D 11), .ref (D 12), .ref (D 13), .ref (D 14), .int al, .int wa])) :: (D 2, .inl (G.2.1.2.1, 12, .inl rr)) :: r) := by
  refine Mt.of (by decide +kernel) rfl rfl (fun X B => ?_)
  show J G X mX8_asWell ((m, .inr (8, [.int fi, .ref (D 0), .long as, .int (nI ns), .ref (D 1), .ref (D 2), .ref (D 3), .ref (D 4), .ref (D 5), .ref (D 6), .ref (D 7), .ref (D 8), .int ii, .long de, .int dl, .int dp, .int dc, .ref (D 9), .int (nI nr), .ref (D 10), .ref (D 11), .ref (D 12), .ref (D 13), .ref (D 14), .int al, .int wa])) :: (D 2, .inl (G.2.1.2.1, 12, .inl rr)) :: r) 0 0 0 [(0, .ref m), (1, .int num), (2, .int q), (3, .int a), (4, .int b), (5, .int h)] []
  simp only [Bool.and_eq_true] at hf
  obtain ⟨⟨⟨⟨g1, g2⟩, g3, -⟩, g4⟩, g5⟩ := hf
  have g4 := of_decide_eq_true g4
  refine J.iload_n 2 dX8_asWell_0 rfl ?_
  refine J.callS (st := []) B (c_X8_isPart l G _ (n := q)) ml_X8_130 mf_yX8_isPart mS_yX8_isPart dX8_asWell_1 rfl rfl rfl (fun v_1 w_2 hp_3 => ?_)
  obtain ⟨rfl, rfl⟩ := hp_3
  show J G X mX8_asWell _ _ _ 4 _ [.int (b01 (inR q 1 60))]
  refine J.if_eq dX8_asWell_4 (fun z => absurd z (by rw [g2]; decide)) (fun h9 => ?_)
  refine J.iload_n 3 dX8_asWell_7 rfl ?_
  refine J.callS (st := []) B (c_X8_isPeriod l G _ (n := a)) ml_X8_127 mf_yX8_isPeriod mS_yX8_isPeriod dX8_asWell_8 rfl rfl rfl (fun v_4 w_5 hp_6 => ?_)
  obtain ⟨rfl, rfl⟩ := hp_6
  show J G X mX8_asWell _ _ _ 11 _ [.int (b01 (inR a 1 600))]
  refine J.if_eq dX8_asWell_11 (fun z => absurd z (by rw [g1]; decide)) (fun h9 => ?_)
  refine J.iload 4 dX8_asWell_14 rfl ?_
  refine J.callS (st := []) B (c_X8_isPeriod l G _ (n := b)) ml_X8_127 mf_yX8_isPeriod mS_yX8_isPeriod dX8_asWell_16 rfl rfl rfl (fun v_7 w_8 hp_9 => ?_)
  obtain ⟨rfl, rfl⟩ := hp_9
  show J G X mX8_asWell _ _ _ 19 _ [.int (b01 (inR b 1 600))]
  refine J.if_eq dX8_asWell_19 (fun z => absurd z (by rw [g3]; decide)) (fun h9 => ?_)
  refine J.iload_n 3 dX8_asWell_22 rfl ?_
  refine J.iload 4 dX8_asWell_23 rfl ?_
  refine J.icmp_gt dX8_asWell_25 (fun z => absurd z (Int32.not_lt.mpr g4)) (fun h6 => ?_)
  refine J.iload 5 dX8_asWell_28 rfl ?_
  refine J.iconst (0 : Int32) dX8_asWell_30 rfl ?_
  refine J.bipush (100 : Int32) dX8_asWell_31 rfl ?_
  refine J.callS (st := []) B (c_X8_in l G _ (v := h) (lo := (0 : Int32)) (hi := (100 : Int32)) (a := 0) (b := 100) rfl rfl) ml_X8_76 mf_yX8_in mS_yX8_in dX8_asWell_33 rfl rfl rfl (fun v_10 w_11 hp_12 => ?_)
  obtain ⟨rfl, rfl⟩ := hp_12
  show J G X mX8_asWell _ _ _ 36 _ [.int (b01 (inR h 0 100))]
  refine J.if_ne dX8_asWell_36 (fun h9 => ?_) (fun z => absurd z (by rw [g5]; decide))
  refine J.aload_n 0 dX8_asWell_41 rfl ?_
  refine J.iload_n 1 dX8_asWell_42 rfl ?_
  refine J.callV 0 (st := []) B (c_X8_looked_bad l G _ hns hnum) ml_X8_108 mf_yX8_looked mi_yX8_looked rfl dX8_asWell_43 rfl rfl rfl rfl (fun v_13 w_14 hp_15 => ?_)
  obtain ⟨rfl, rfl⟩ := hp_15
  show J G X mX8_asWell _ _ _ 46 _ [.int (-1 : Int32)]
  refine J.istore [1, 2, 3, 4, 5, 6, 0] (lv' := [(0, .ref m), (1, .int num), (2, .int q), (3, .int a), (4, .int b), (5, .int h), (6, .int (-1 : Int32))]) dX8_asWell_46 rfl rfl ?_
  refine J.iload 6 dX8_asWell_48 rfl ?_
  refine J.if_ge dX8_asWell_50 (fun z => absurd z (by decide)) (fun _ => ?_)
  refine J.iload 6 dX8_asWell_53 rfl ?_
  exact J.iret B dX8_asWell_55 rfl (⟨rfl, rfl⟩)
set_option maxHeartbeats 4000000 in
set_option maxRecDepth 100000 in
theorem r_asWell_no (l : Launch) (G : jG) (r : va_W) {m : Nat} {D : Nat → Nat} {fi : Int32} {as : Int64} {ns : Nat} {ii : Int32} {de : Int64} {dl dp dc : Int32} {nr : Nat} {al wa : Int32} {rr : Nat → Int32} {s : Nat} (hk : s < ns) (hns : ns ≤ 12) {fc : Nat → Int32} (hr : rr s = 0) {q a b : Int32} {h : Int32} (hf : ((inR a 1 600 && inR q 1 60 && (inR b 1 600 && inR q 1 60) && decide (a ≤ b)) && inR h 0 100) = true) : Mt l G yX8_asWell mX8_asWell 3 80 0 0 [.ref m, .int (nI s), .int q, .int a, .int b, .int h] ((m, .inr (8, [.int fi, .ref (D 0), .long as, .int (nI ns), .ref (D 1), .ref (D 2), .ref (D 3), .ref (D 4), .ref (D 5), .ref (D 6), .ref (D 7), .ref (D 8), .int ii, .long de, .int dl, .int dp, .int dc, .ref (D 9), .int (nI nr), .ref (D 10), .ref (D 11), .ref (D 12), .ref (D 13), .ref (D 14), .int al, .int wa])) :: (D 2, .inl (G.2.1.2.1, 12, .inl rr)) :: (D 0, .inl (G.2.1.1, 6, .inl fc)) :: r) (fun v w => v = some (.int (-3 : Int32)) ∧ w = (m, .inr (8, [.int (nI 1), .ref (D 0), .long as, .int (nI ns), .ref (D 1), .ref (D 2), .ref (D 3), .ref (D 4), .ref (D 5), .ref (D 6), .ref (D 7), .ref (D 8), .int ii, .long de, .int dl, .int dp, .int dc, .ref (D 9), .int (nI nr), .ref (D 10), .ref (D 11), .ref (D 12), .ref (D 13), .ref (D 14), .int al, .int wa])) :: (D 2, .inl (G.2.1.2.1, 12, .inl rr)) :: (D 0, .inl (G.2.1.1, 6, .inl (upd fc 1 (fc 1 + 1)))) :: r) := by
  refine Mt.of (by decide +kernel) rfl rfl (fun X B => ?_)
  show J G X mX8_asWell ((m, .inr (8, [.int fi, .ref (D 0), .long as, .int (nI ns), .ref (D 1), .ref (D 2), .ref (D 3), .ref (D 4), .ref (D 5), .ref (D 6), .ref (D 7), .ref (D 8), .int ii, .long de, .int dl, .int dp, .int dc, .ref (D 9), .int (nI nr), .ref (D 10), .ref (D 11), .ref (D 12), .ref (D 13), .ref (D 14), .int al, .int wa])) :: (D 2, .inl (G.2.1.2.1, 12, .inl rr)) :: (D 0, .inl (G.2.1.1, 6, .inl fc)) :: r) 0 0 0 [(0, .ref m), (1, .int (nI s)), (2, .int q), (3, .int a), (4, .int b), (5, .int h)] []
  simp only [Bool.and_eq_true] at hf
  obtain ⟨⟨⟨⟨g1, g2⟩, g3, -⟩, g4⟩, g5⟩ := hf
  have g4 := of_decide_eq_true g4
  refine J.iload_n 2 dX8_asWell_0 rfl ?_
  refine J.callS (st := []) B (c_X8_isPart l G _ (n := q)) ml_X8_130 mf_yX8_isPart mS_yX8_isPart dX8_asWell_1 rfl rfl rfl (fun v_1 w_2 hp_3 => ?_)
  obtain ⟨rfl, rfl⟩ := hp_3
  show J G X mX8_asWell _ _ _ 4 _ [.int (b01 (inR q 1 60))]
  refine J.if_eq dX8_asWell_4 (fun z => absurd z (by rw [g2]; decide)) (fun h9 => ?_)
  refine J.iload_n 3 dX8_asWell_7 rfl ?_
  refine J.callS (st := []) B (c_X8_isPeriod l G _ (n := a)) ml_X8_127 mf_yX8_isPeriod mS_yX8_isPeriod dX8_asWell_8 rfl rfl rfl (fun v_4 w_5 hp_6 => ?_)
  obtain ⟨rfl, rfl⟩ := hp_6
  show J G X mX8_asWell _ _ _ 11 _ [.int (b01 (inR a 1 600))]
  refine J.if_eq dX8_asWell_11 (fun z => absurd z (by rw [g1]; decide)) (fun h9 => ?_)
  refine J.iload 4 dX8_asWell_14 rfl ?_
  refine J.callS (st := []) B (c_X8_isPeriod l G _ (n := b)) ml_X8_127 mf_yX8_isPeriod mS_yX8_isPeriod dX8_asWell_16 rfl rfl rfl (fun v_7 w_8 hp_9 => ?_)
  obtain ⟨rfl, rfl⟩ := hp_9
  show J G X mX8_asWell _ _ _ 19 _ [.int (b01 (inR b 1 600))]
  refine J.if_eq dX8_asWell_19 (fun z => absurd z (by rw [g3]; decide)) (fun h9 => ?_)
  refine J.iload_n 3 dX8_asWell_22 rfl ?_
  refine J.iload 4 dX8_asWell_23 rfl ?_
  refine J.icmp_gt dX8_asWell_25 (fun z => absurd z (Int32.not_lt.mpr g4)) (fun h6 => ?_)
  refine J.iload 5 dX8_asWell_28 rfl ?_
  refine J.iconst (0 : Int32) dX8_asWell_30 rfl ?_
  refine J.bipush (100 : Int32) dX8_asWell_31 rfl ?_
  refine J.callS (st := []) B (c_X8_in l G _ (v := h) (lo := (0 : Int32)) (hi := (100 : Int32)) (a := 0) (b := 100) rfl rfl) ml_X8_76 mf_yX8_in mS_yX8_in dX8_asWell_33 rfl rfl rfl (fun v_10 w_11 hp_12 => ?_)
  obtain ⟨rfl, rfl⟩ := hp_12
  show J G X mX8_asWell _ _ _ 36 _ [.int (b01 (inR h 0 100))]
  refine J.if_ne dX8_asWell_36 (fun h9 => ?_) (fun z => absurd z (by rw [g5]; decide))
  refine J.aload_n 0 dX8_asWell_41 rfl ?_
  refine J.iload_n 1 dX8_asWell_42 rfl ?_
  refine J.callV 0 (st := []) B (c_X8_looked_no l G _ (k := s) hk hns hr) ml_X8_108 mf_yX8_looked mi_yX8_looked rfl dX8_asWell_43 rfl rfl rfl rfl (fun v_13 w_14 hp_15 => ?_)
  obtain ⟨rfl, rfl⟩ := hp_15
  show J G X mX8_asWell _ _ _ 46 _ [.int (-3 : Int32)]
  refine J.istore [1, 2, 3, 4, 5, 6, 0] (lv' := [(0, .ref m), (1, .int (nI s)), (2, .int q), (3, .int a), (4, .int b), (5, .int h), (6, .int (-3 : Int32))]) dX8_asWell_46 rfl rfl ?_
  refine J.iload 6 dX8_asWell_48 rfl ?_
  refine J.if_ge dX8_asWell_50 (fun z => absurd z (by decide)) (fun _ => ?_)
  refine J.iload 6 dX8_asWell_53 rfl ?_
  exact J.iret B dX8_asWell_55 rfl (⟨rfl, rfl⟩)
set_option maxHeartbeats 4000000 in
set_option maxRecDepth 100000 in
theorem X8_aw_lp {l : Launch} {G : jG} {X : jX} {r : va_W} {m : Nat} {D : Nat → Nat} {fi : Int32} {as : Int64} {ns : Nat} {ii : Int32} {de : Int64} {dl dp dc : Int32} {nr : Nat} {al wa : Int32} {ml F : Nat → Int32} {rr : Nat → Int32} {s h q a b : Nat} (B : jB l G X 3 80 0 0 (fun v w => ∃ od2, v = some (.int (nI (awN (fun j => strV (rowM ml s) F j q) h (lstN (fun j => strV (rowM ml s) F j q) a (b - a)) a (b - a + 1)))) ∧ w = (m, .inr (8, [.int fi, .ref (D 0), .long as, .int (nI ns), .ref (D 1), .ref (D 2), .ref (D 3), .ref (D 4), .ref (D 5), .ref (D 6), .ref (D 7), .ref (D 8), .int ii, .long de, .int dl, .int dp, .int dc, .ref (D 9), .int (nI nr), .ref (D 10), .ref (D 11), .ref (D 12), .ref (D 13), .ref (D 14), .int al, .int wa])) :: (D 2, .inl (G.2.1.2.1, 12, .inl rr)) :: (D 3, .inl (G.2.1.1, 720, .inl ml)) :: (D 4, .inl (G.2.1.1, 60, .inl F)) :: (D 8, .inl (G.2.1.1, 60, .inl od2)) :: r) "asWell") (d : Nat) (od : Nat → Int32) (hs : s < 12) (hb : BD (rowM ml s) F) (hh : h ≤ 100) (ha : 1 ≤ a) (hb2 : b ≤ 600) (hab : a ≤ b) (hq2 : q ≤ 60) (hd : a + d ≤ b + 1) : J G X mX8_asWell ((m, .inr (8, [.int fi, .ref (D 0), .long as, .int (nI ns), .ref (D 1), .ref (D 2), .ref (D 3), .ref (D 4), .ref (D 5), .ref (D 6), .ref (D 7), .ref (D 8), .int ii, .long de, .int dl, .int dp, .int dc, .ref (D 9), .int (nI nr), .ref (D 10), .ref (D 11), .ref (D 12), .ref (D 13), .ref (D 14), .int al, .int wa])) :: (D 2, .inl (G.2.1.2.1, 12, .inl rr)) :: (D 3, .inl (G.2.1.1, 720, .inl ml)) :: (D 4, .inl (G.2.1.1, 60, .inl F)) :: (D 8, .inl (G.2.1.1, 60, .inl od)) :: r) 0 0 83 [(0, .ref m), (1, .int (nI s)), (2, .int (nI q)), (3, .int (nI a)), (4, .int (nI b)), (5, .int (nI h)), (6, .int (0 : Int32)), (7, .int (nI (lstN (fun j => strV (rowM ml s) F j q) a (b - a)))), (8, .long (Int64.ofInt (strV (rowM ml s) F (lstN (fun j => strV (rowM ml s) F j q) a (b - a)) q))), (10, .int (nI (awN (fun j => strV (rowM ml s) F j q) h (lstN (fun j => strV (rowM ml s) F j q) a (b - a)) a d))), (11, .int (nI (a + d)))] [] := by
  have hl := lstN_in (fun j => strV (rowM ml s) F j q) a (b - a)
  have hal := awN_le (fun j => strV (rowM ml s) F j q) h (lstN (fun j => strV (rowM ml s) F j q) a (b - a)) a d
  refine J.iload 10 dX8_asWell_83 rfl ?_
  refine J.iload 4 dX8_asWell_85 rfl ?_
  refine J.icmp_gt dX8_asWell_87 (fun h9 => ?_) (fun h9 => ?_)
  · skip
    have h9 : b < (a + d) := (nI_ltI (a := b) (b := (a + d)) (by omega) (by omega)).mp h9
    refine J.iload 9 dX8_asWell_139 rfl ?_
    exact J.iret B dX8_asWell_141 rfl (⟨od, by rw [show b - a + 1 = d by omega], rfl⟩)
  · skip
    have h9 : ¬ b < (a + d) := fun z => h9 ((nI_ltI (a := b) (b := (a + d)) (by omega) (by omega)).mpr z)
    refine J.iload 9 dX8_asWell_90 rfl ?_
    refine J.iload 10 dX8_asWell_92 rfl ?_
    refine J.iload 7 dX8_asWell_94 rfl ?_
    refine J.icmp_eq dX8_asWell_96 (fun h8 => ?_) (fun h8 => ?_)
    · skip
      have h8 : (a + d) = (lstN (fun j => strV (rowM ml s) F j q) a (b - a)) := (nI_eq (a := (a + d)) (b := (lstN (fun j => strV (rowM ml s) F j q) a (b - a))) (by omega) (by omega)).mp h8
      refine J.iconst (0 : Int32) dX8_asWell_129 rfl ?_
      refine J.iadd dX8_asWell_130 ?_
      refine J.topi (y := nI ((awN (fun j => strV (rowM ml s) F j q) h (lstN (fun j => strV (rowM ml s) F j q) a (b - a)) a d) + 0)) (nI_add (awN (fun j => strV (rowM ml s) F j q) h (lstN (fun j => strV (rowM ml s) F j q) a (b - a)) a d) 0) ?_
      refine J.istore [1, 2, 3, 4, 5, 6, 7, 8, 9, 0, 10] (lv' := [(0, .ref m), (1, .int (nI s)), (2, .int (nI q)), (3, .int (nI a)), (4, .int (nI b)), (5, .int (nI h)), (6, .int (0 : Int32)), (7, .int (nI (lstN (fun j => strV (rowM ml s) F j q) a (b - a)))), (8, .long (Int64.ofInt (strV (rowM ml s) F (lstN (fun j => strV (rowM ml s) F j q) a (b - a)) q))), (10, .int (nI ((awN (fun j => strV (rowM ml s) F j q) h (lstN (fun j => strV (rowM ml s) F j q) a (b - a)) a d) + 0))), (11, .int (nI (a + d)))]) dX8_asWell_131 rfl rfl ?_
      refine J.iinc 10 [1, 2, 3, 4, 5, 6, 7, 8, 9, 10, 0] (lv' := [(0, .ref m), (1, .int (nI s)), (2, .int (nI q)), (3, .int (nI a)), (4, .int (nI b)), (5, .int (nI h)), (6, .int (0 : Int32)), (7, .int (nI (lstN (fun j => strV (rowM ml s) F j q) a (b - a)))), (8, .long (Int64.ofInt (strV (rowM ml s) F (lstN (fun j => strV (rowM ml s) F j q) a (b - a)) q))), (10, .int (nI ((awN (fun j => strV (rowM ml s) F j q) h (lstN (fun j => strV (rowM ml s) F j q) a (b - a)) a d) + 0))), (11, .int (nI (a + d + 1)))]) dX8_asWell_133 rfl (jinc1 _) rfl rfl ?_
      refine J.goto dX8_asWell_136 ?_
      have he : awN (fun j => strV (rowM ml s) F j q) h (lstN (fun j => strV (rowM ml s) F j q) a (b - a)) a (d + 1) = awN (fun j => strV (rowM ml s) F j q) h (lstN (fun j => strV (rowM ml s) F j q) a (b - a)) a d := by
        rw [awN_s, if_neg (fun z => by first | exact z.1 h8 | exact h7 z.2), Nat.add_zero]
      have hq9 := X8_aw_lp B (d + 1) od hs hb hh ha hb2 hab hq2 (by omega)
      rw [he] at hq9
      exact hq9
    · skip
      have h8 : ¬ (a + d) = (lstN (fun j => strV (rowM ml s) F j q) a (b - a)) := fun z => h8 ((nI_eq (a := (a + d)) (b := (lstN (fun j => strV (rowM ml s) F j q) a (b - a))) (by omega) (by omega)).mpr z)
      refine J.ldc2 dX8_asWell_99 kl_X8_141 ?_
      refine J.aload_n 0 dX8_asWell_102 rfl ?_
      refine J.iload_n 1 dX8_asWell_103 rfl ?_
      refine J.iload 10 dX8_asWell_104 rfl ?_
      refine J.iload_n 2 dX8_asWell_106 rfl ?_
      refine J.re [0, 2, 3, 4, 1] 5 (ws2 := (m, .inr (8, [.int fi, .ref (D 0), .long as, .int (nI ns), .ref (D 1), .ref (D 2), .ref (D 3), .ref (D 4), .ref (D 5), .ref (D 6), .ref (D 7), .ref (D 8), .int ii, .long de, .int dl, .int dp, .int dc, .ref (D 9), .int (nI nr), .ref (D 10), .ref (D 11), .ref (D 12), .ref (D 13), .ref (D 14), .int al, .int wa])) :: (D 3, .inl (G.2.1.1, 720, .inl ml)) :: (D 4, .inl (G.2.1.1, 60, .inl F)) :: (D 8, .inl (G.2.1.1, 60, .inl od)) :: (D 2, .inl (G.2.1.2.1, 12, .inl rr)) :: r) rfl rfl ?_
      refine J.callV 0 (st := [.long (100 : Int64), .int (nI (awN (fun j => strV (rowM ml s) F j q) h (lstN (fun j => strV (rowM ml s) F j q) a (b - a)) a d))]) B (c_X8_stringOf l G _ (p := a + d) (q := q) hs hb (by omega) (by omega) hq2) ml_X8_133 mf_yX8_stringOf mi_yX8_stringOf rfl dX8_asWell_107 rfl rfl rfl rfl (fun v_1 w_2 hp_3 => ?_)
      obtain ⟨rfl, od2, rfl⟩ := hp_3
      refine J.re [0, 4, 1, 2, 3] 5 (ws2 := (m, .inr (8, [.int fi, .ref (D 0), .long as, .int (nI ns), .ref (D 1), .ref (D 2), .ref (D 3), .ref (D 4), .ref (D 5), .ref (D 6), .ref (D 7), .ref (D 8), .int ii, .long de, .int dl, .int dp, .int dc, .ref (D 9), .int (nI nr), .ref (D 10), .ref (D 11), .ref (D 12), .ref (D 13), .ref (D 14), .int al, .int wa])) :: (D 2, .inl (G.2.1.2.1, 12, .inl rr)) :: (D 3, .inl (G.2.1.1, 720, .inl ml)) :: (D 4, .inl (G.2.1.1, 60, .inl F)) :: (D 8, .inl (G.2.1.1, 60, .inl od2)) :: r) rfl rfl ?_
      show J G X mX8_asWell _ _ _ 110 _ [.long (Int64.ofInt (strV (rowM ml s) F (a + d) q)), .long (100 : Int64), .int (nI (awN (fun j => strV (rowM ml s) F j q) h (lstN (fun j => strV (rowM ml s) F j q) a (b - a)) a d))]
      refine J.lmul dX8_asWell_110 ?_
      refine J.ldc2 dX8_asWell_111 kl_X8_141 ?_
      refine J.iload 5 dX8_asWell_114 rfl ?_
      refine J.i2l dX8_asWell_116 ?_
      refine J.ladd dX8_asWell_117 ?_
      refine J.lload 8 dX8_asWell_118 rfl ?_
      refine J.lmul dX8_asWell_120 ?_
      refine J.lcmp dX8_asWell_121 ?_
      refine J.if_gt dX8_asWell_122 (fun h7 => ?_) (fun h7 => ?_)
      · skip
        have h7 := jc_gt_t h7
        have h7 : ¬ 100 * (fun j => strV (rowM ml s) F j q) (a + d) ≤ (100 + (h : Int)) * (fun j => strV (rowM ml s) F j q) (lstN (fun j => strV (rowM ml s) F j q) a (b - a)) := fun z => absurd h7 (Int64.not_lt.mpr ((aw_le hh (strV_bd hb _ _) (strV_bd hb _ _)).mpr z))
        refine J.iconst (0 : Int32) dX8_asWell_129 rfl ?_
        refine J.iadd dX8_asWell_130 ?_
        refine J.topi (y := nI ((awN (fun j => strV (rowM ml s) F j q) h (lstN (fun j => strV (rowM ml s) F j q) a (b - a)) a d) + 0)) (nI_add (awN (fun j => strV (rowM ml s) F j q) h (lstN (fun j => strV (rowM ml s) F j q) a (b - a)) a d) 0) ?_
        refine J.istore [1, 2, 3, 4, 5, 6, 7, 8, 9, 0, 10] (lv' := [(0, .ref m), (1, .int (nI s)), (2, .int (nI q)), (3, .int (nI a)), (4, .int (nI b)), (5, .int (nI h)), (6, .int (0 : Int32)), (7, .int (nI (lstN (fun j => strV (rowM ml s) F j q) a (b - a)))), (8, .long (Int64.ofInt (strV (rowM ml s) F (lstN (fun j => strV (rowM ml s) F j q) a (b - a)) q))), (10, .int (nI ((awN (fun j => strV (rowM ml s) F j q) h (lstN (fun j => strV (rowM ml s) F j q) a (b - a)) a d) + 0))), (11, .int (nI (a + d)))]) dX8_asWell_131 rfl rfl ?_
        refine J.iinc 10 [1, 2, 3, 4, 5, 6, 7, 8, 9, 10, 0] (lv' := [(0, .ref m), (1, .int (nI s)), (2, .int (nI q)), (3, .int (nI a)), (4, .int (nI b)), (5, .int (nI h)), (6, .int (0 : Int32)), (7, .int (nI (lstN (fun j => strV (rowM ml s) F j q) a (b - a)))), (8, .long (Int64.ofInt (strV (rowM ml s) F (lstN (fun j => strV (rowM ml s) F j q) a (b - a)) q))), (10, .int (nI ((awN (fun j => strV (rowM ml s) F j q) h (lstN (fun j => strV (rowM ml s) F j q) a (b - a)) a d) + 0))), (11, .int (nI (a + d + 1)))]) dX8_asWell_133 rfl (jinc1 _) rfl rfl ?_
        refine J.goto dX8_asWell_136 ?_
        have he : awN (fun j => strV (rowM ml s) F j q) h (lstN (fun j => strV (rowM ml s) F j q) a (b - a)) a (d + 1) = awN (fun j => strV (rowM ml s) F j q) h (lstN (fun j => strV (rowM ml s) F j q) a (b - a)) a d := by
          rw [awN_s, if_neg (fun z => by first | exact z.1 h8 | exact h7 z.2), Nat.add_zero]
        have hq9 := X8_aw_lp B (d + 1) od2 hs hb hh ha hb2 hab hq2 (by omega)
        rw [he] at hq9
        exact hq9
      · skip
        have h7 := jc_gt_f h7
        have h7 : 100 * (fun j => strV (rowM ml s) F j q) (a + d) ≤ (100 + (h : Int)) * (fun j => strV (rowM ml s) F j q) (lstN (fun j => strV (rowM ml s) F j q) a (b - a)) := (aw_le hh (strV_bd hb _ _) (strV_bd hb _ _)).mp (Int64.not_lt.mp h7)
        refine J.iconst (1 : Int32) dX8_asWell_125 rfl ?_
        refine J.goto dX8_asWell_126 ?_
        refine J.iadd dX8_asWell_130 ?_
        refine J.topi (y := nI ((awN (fun j => strV (rowM ml s) F j q) h (lstN (fun j => strV (rowM ml s) F j q) a (b - a)) a d) + 1)) (nI_add (awN (fun j => strV (rowM ml s) F j q) h (lstN (fun j => strV (rowM ml s) F j q) a (b - a)) a d) 1) ?_
        refine J.istore [1, 2, 3, 4, 5, 6, 7, 8, 9, 0, 10] (lv' := [(0, .ref m), (1, .int (nI s)), (2, .int (nI q)), (3, .int (nI a)), (4, .int (nI b)), (5, .int (nI h)), (6, .int (0 : Int32)), (7, .int (nI (lstN (fun j => strV (rowM ml s) F j q) a (b - a)))), (8, .long (Int64.ofInt (strV (rowM ml s) F (lstN (fun j => strV (rowM ml s) F j q) a (b - a)) q))), (10, .int (nI ((awN (fun j => strV (rowM ml s) F j q) h (lstN (fun j => strV (rowM ml s) F j q) a (b - a)) a d) + 1))), (11, .int (nI (a + d)))]) dX8_asWell_131 rfl rfl ?_
        refine J.iinc 10 [1, 2, 3, 4, 5, 6, 7, 8, 9, 10, 0] (lv' := [(0, .ref m), (1, .int (nI s)), (2, .int (nI q)), (3, .int (nI a)), (4, .int (nI b)), (5, .int (nI h)), (6, .int (0 : Int32)), (7, .int (nI (lstN (fun j => strV (rowM ml s) F j q) a (b - a)))), (8, .long (Int64.ofInt (strV (rowM ml s) F (lstN (fun j => strV (rowM ml s) F j q) a (b - a)) q))), (10, .int (nI ((awN (fun j => strV (rowM ml s) F j q) h (lstN (fun j => strV (rowM ml s) F j q) a (b - a)) a d) + 1))), (11, .int (nI (a + d + 1)))]) dX8_asWell_133 rfl (jinc1 _) rfl rfl ?_
        refine J.goto dX8_asWell_136 ?_
        have he : awN (fun j => strV (rowM ml s) F j q) h (lstN (fun j => strV (rowM ml s) F j q) a (b - a)) a (d + 1) = awN (fun j => strV (rowM ml s) F j q) h (lstN (fun j => strV (rowM ml s) F j q) a (b - a)) a d + 1 := by
          rw [awN_s, if_pos ⟨h8, h7⟩]
        have hq9 := X8_aw_lp B (d + 1) od2 hs hb hh ha hb2 hab hq2 (by omega)
        rw [he] at hq9
        exact hq9
termination_by b + 1 - (a + d)
decreasing_by all_goals omega
set_option maxHeartbeats 4000000 in
set_option maxRecDepth 100000 in
theorem r_asWell (l : Launch) (G : jG) (r : va_W) {m : Nat} {D : Nat → Nat} {fi : Int32} {as : Int64} {ns : Nat} {ii : Int32} {de : Int64} {dl dp dc : Int32} {nr : Nat} {al wa : Int32} {rr : Nat → Int32} {s : Nat} (hk : s < ns) (hns : ns ≤ 12) {ml F : Nat → Int32} {od : Nat → Int32} (hr : ¬ rr s = 0) {q a b : Nat} (hb : BD (rowM ml s) F) (ha : 1 ≤ a) (hb2 : b ≤ 600) (hab : a ≤ b) (hq1 : 1 ≤ q) (hq2 : q ≤ 60) {h : Nat} (hh : h ≤ 100) : Mt l G yX8_asWell mX8_asWell 3 80 0 0 [.ref m, .int (nI s), .int (nI q), .int (nI a), .int (nI b), .int (nI h)] ((m, .inr (8, [.int fi, .ref (D 0), .long as, .int (nI ns), .ref (D 1), .ref (D 2), .ref (D 3), .ref (D 4), .ref (D 5), .ref (D 6), .ref (D 7), .ref (D 8), .int ii, .long de, .int dl, .int dp, .int dc, .ref (D 9), .int (nI nr), .ref (D 10), .ref (D 11), .ref (D 12), .ref (D 13), .ref (D 14), .int al, .int wa])) :: (D 2, .inl (G.2.1.2.1, 12, .inl rr)) :: (D 3, .inl (G.2.1.1, 720, .inl ml)) :: (D 4, .inl (G.2.1.1, 60, .inl F)) :: (D 8, .inl (G.2.1.1, 60, .inl od)) :: r) (fun v w => ∃ od2, v = some (.int (nI (awN (fun j => strV (rowM ml s) F j q) h (lstN (fun j => strV (rowM ml s) F j q) a (b - a)) a (b - a + 1)))) ∧ w = (m, .inr (8, [.int fi, .ref (D 0), .long as, .int (nI ns), .ref (D 1), .ref (D 2), .ref (D 3), .ref (D 4), .ref (D 5), .ref (D 6), .ref (D 7), .ref (D 8), .int ii, .long de, .int dl, .int dp, .int dc, .ref (D 9), .int (nI nr), .ref (D 10), .ref (D 11), .ref (D 12), .ref (D 13), .ref (D 14), .int al, .int wa])) :: (D 2, .inl (G.2.1.2.1, 12, .inl rr)) :: (D 3, .inl (G.2.1.1, 720, .inl ml)) :: (D 4, .inl (G.2.1.1, 60, .inl F)) :: (D 8, .inl (G.2.1.1, 60, .inl od2)) :: r) := by
  refine Mt.of (by decide +kernel) rfl rfl (fun X B => ?_)
  show J G X mX8_asWell ((m, .inr (8, [.int fi, .ref (D 0), .long as, .int (nI ns), .ref (D 1), .ref (D 2), .ref (D 3), .ref (D 4), .ref (D 5), .ref (D 6), .ref (D 7), .ref (D 8), .int ii, .long de, .int dl, .int dp, .int dc, .ref (D 9), .int (nI nr), .ref (D 10), .ref (D 11), .ref (D 12), .ref (D 13), .ref (D 14), .int al, .int wa])) :: (D 2, .inl (G.2.1.2.1, 12, .inl rr)) :: (D 3, .inl (G.2.1.1, 720, .inl ml)) :: (D 4, .inl (G.2.1.1, 60, .inl F)) :: (D 8, .inl (G.2.1.1, 60, .inl od)) :: r) 0 0 0 [(0, .ref m), (1, .int (nI s)), (2, .int (nI q)), (3, .int (nI a)), (4, .int (nI b)), (5, .int (nI h))] []
  have hs : s < 12 := by omega
  have hai : inR (nI a) 1 600 = true := by rw [nI_inR (by omega)]; exact decide_eq_true ⟨by omega, by omega⟩
  have hbi : inR (nI b) 1 600 = true := by rw [nI_inR (by omega)]; exact decide_eq_true ⟨by omega, by omega⟩
  have hqi : inR (nI q) 1 60 = true := by rw [nI_inR (by omega)]; exact decide_eq_true ⟨by omega, by omega⟩
  have hl := lstN_in (fun j => strV (rowM ml s) F j q) a (b - a)
  have hhi : inR (nI h) 0 100 = true := by rw [nI_inR (by omega)]; exact decide_eq_true ⟨by omega, by omega⟩
  refine J.iload_n 2 dX8_asWell_0 rfl ?_
  refine J.callS (st := []) B (c_X8_isPart l G _ (n := nI q)) ml_X8_130 mf_yX8_isPart mS_yX8_isPart dX8_asWell_1 rfl rfl rfl (fun v_1 w_2 hp_3 => ?_)
  obtain ⟨rfl, rfl⟩ := hp_3
  show J G X mX8_asWell _ _ _ 4 _ [.int (b01 (inR (nI q) 1 60))]
  refine J.if_eq dX8_asWell_4 (fun z => absurd z (by rw [hqi]; decide)) (fun h9 => ?_)
  refine J.iload_n 3 dX8_asWell_7 rfl ?_
  refine J.callS (st := []) B (c_X8_isPeriod l G _ (n := nI a)) ml_X8_127 mf_yX8_isPeriod mS_yX8_isPeriod dX8_asWell_8 rfl rfl rfl (fun v_4 w_5 hp_6 => ?_)
  obtain ⟨rfl, rfl⟩ := hp_6
  show J G X mX8_asWell _ _ _ 11 _ [.int (b01 (inR (nI a) 1 600))]
  refine J.if_eq dX8_asWell_11 (fun z => absurd z (by rw [hai]; decide)) (fun h9 => ?_)
  refine J.iload 4 dX8_asWell_14 rfl ?_
  refine J.callS (st := []) B (c_X8_isPeriod l G _ (n := nI b)) ml_X8_127 mf_yX8_isPeriod mS_yX8_isPeriod dX8_asWell_16 rfl rfl rfl (fun v_7 w_8 hp_9 => ?_)
  obtain ⟨rfl, rfl⟩ := hp_9
  show J G X mX8_asWell _ _ _ 19 _ [.int (b01 (inR (nI b) 1 600))]
  refine J.if_eq dX8_asWell_19 (fun z => absurd z (by rw [hbi]; decide)) (fun h9 => ?_)
  refine J.iload_n 3 dX8_asWell_22 rfl ?_
  refine J.iload 4 dX8_asWell_23 rfl ?_
  refine J.icmp_gt dX8_asWell_25 (fun h6 => ?_) (fun h6 => ?_)
  · skip
    have h6 : b < a := (nI_ltI (a := b) (b := a) (by omega) (by omega)).mp h6
    omega
  · skip
    have h6 : ¬ b < a := fun z => h6 ((nI_ltI (a := b) (b := a) (by omega) (by omega)).mpr z)
    refine J.iload 5 dX8_asWell_28 rfl ?_
    refine J.iconst (0 : Int32) dX8_asWell_30 rfl ?_
    refine J.bipush (100 : Int32) dX8_asWell_31 rfl ?_
    refine J.callS (st := []) B (c_X8_in l G _ (v := nI h) (lo := (0 : Int32)) (hi := (100 : Int32)) (a := 0) (b := 100) rfl rfl) ml_X8_76 mf_yX8_in mS_yX8_in dX8_asWell_33 rfl rfl rfl (fun v_10 w_11 hp_12 => ?_)
    obtain ⟨rfl, rfl⟩ := hp_12
    show J G X mX8_asWell _ _ _ 36 _ [.int (b01 (inR (nI h) 0 100))]
    refine J.if_ne dX8_asWell_36 (fun h9 => ?_) (fun z => absurd z (by rw [hhi]; decide))
    refine J.aload_n 0 dX8_asWell_41 rfl ?_
    refine J.iload_n 1 dX8_asWell_42 rfl ?_
    refine J.callV 0 (st := []) B (c_X8_looked l G _ (k := s) hk hns hr) ml_X8_108 mf_yX8_looked mi_yX8_looked rfl dX8_asWell_43 rfl rfl rfl rfl (fun v_13 w_14 hp_15 => ?_)
    obtain ⟨rfl, rfl⟩ := hp_15
    show J G X mX8_asWell _ _ _ 46 _ [.int (0 : Int32)]
    refine J.istore [1, 2, 3, 4, 5, 6, 0] (lv' := [(0, .ref m), (1, .int (nI s)), (2, .int (nI q)), (3, .int (nI a)), (4, .int (nI b)), (5, .int (nI h)), (6, .int (0 : Int32))]) dX8_asWell_46 rfl rfl ?_
    refine J.iload 6 dX8_asWell_48 rfl ?_
    refine J.if_ge dX8_asWell_50 (fun _ => ?_) (fun z => absurd z (by decide))
    refine J.aload_n 0 dX8_asWell_56 rfl ?_
    refine J.iload_n 1 dX8_asWell_57 rfl ?_
    refine J.iload_n 2 dX8_asWell_58 rfl ?_
    refine J.iload_n 3 dX8_asWell_59 rfl ?_
    refine J.iload 4 dX8_asWell_60 rfl ?_
    refine J.re [0, 2, 3, 4, 1] 5 (ws2 := (m, .inr (8, [.int fi, .ref (D 0), .long as, .int (nI ns), .ref (D 1), .ref (D 2), .ref (D 3), .ref (D 4), .ref (D 5), .ref (D 6), .ref (D 7), .ref (D 8), .int ii, .long de, .int dl, .int dp, .int dc, .ref (D 9), .int (nI nr), .ref (D 10), .ref (D 11), .ref (D 12), .ref (D 13), .ref (D 14), .int al, .int wa])) :: (D 3, .inl (G.2.1.1, 720, .inl ml)) :: (D 4, .inl (G.2.1.1, 60, .inl F)) :: (D 8, .inl (G.2.1.1, 60, .inl od)) :: (D 2, .inl (G.2.1.2.1, 12, .inl rr)) :: r) rfl rfl ?_
    refine J.callV 0 (st := []) B (c_X8_bestOf l G _ (q := q) (a := a) (b := b) hs hb ha hb2 hq2 hab) ml_X8_137 mf_yX8_bestOf mi_yX8_bestOf rfl dX8_asWell_62 rfl rfl rfl rfl (fun v_16 w_17 hp_18 => ?_)
    obtain ⟨rfl, od1, rfl⟩ := hp_18
    refine J.re [0, 4, 1, 2, 3] 5 (ws2 := (m, .inr (8, [.int fi, .ref (D 0), .long as, .int (nI ns), .ref (D 1), .ref (D 2), .ref (D 3), .ref (D 4), .ref (D 5), .ref (D 6), .ref (D 7), .ref (D 8), .int ii, .long de, .int dl, .int dp, .int dc, .ref (D 9), .int (nI nr), .ref (D 10), .ref (D 11), .ref (D 12), .ref (D 13), .ref (D 14), .int al, .int wa])) :: (D 2, .inl (G.2.1.2.1, 12, .inl rr)) :: (D 3, .inl (G.2.1.1, 720, .inl ml)) :: (D 4, .inl (G.2.1.1, 60, .inl F)) :: (D 8, .inl (G.2.1.1, 60, .inl od1)) :: r) rfl rfl ?_
    show J G X mX8_asWell _ _ _ 65 _ [.int (nI (lstN (fun j => strV (rowM ml s) F j q) a (b - a)))]
    refine J.istore [1, 2, 3, 4, 5, 6, 7, 0] (lv' := [(0, .ref m), (1, .int (nI s)), (2, .int (nI q)), (3, .int (nI a)), (4, .int (nI b)), (5, .int (nI h)), (6, .int (0 : Int32)), (7, .int (nI (lstN (fun j => strV (rowM ml s) F j q) a (b - a))))]) dX8_asWell_65 rfl rfl ?_
    refine J.aload_n 0 dX8_asWell_67 rfl ?_
    refine J.iload_n 1 dX8_asWell_68 rfl ?_
    refine J.iload 7 dX8_asWell_69 rfl ?_
    refine J.iload_n 2 dX8_asWell_71 rfl ?_
    refine J.re [0, 2, 3, 4, 1] 5 (ws2 := (m, .inr (8, [.int fi, .ref (D 0), .long as, .int (nI ns), .ref (D 1), .ref (D 2), .ref (D 3), .ref (D 4), .ref (D 5), .ref (D 6), .ref (D 7), .ref (D 8), .int ii, .long de, .int dl, .int dp, .int dc, .ref (D 9), .int (nI nr), .ref (D 10), .ref (D 11), .ref (D 12), .ref (D 13), .ref (D 14), .int al, .int wa])) :: (D 3, .inl (G.2.1.1, 720, .inl ml)) :: (D 4, .inl (G.2.1.1, 60, .inl F)) :: (D 8, .inl (G.2.1.1, 60, .inl od1)) :: (D 2, .inl (G.2.1.2.1, 12, .inl rr)) :: r) rfl rfl ?_
    refine J.callV 0 (st := []) B (c_X8_stringOf l G _ (p := lstN (fun j => strV (rowM ml s) F j q) a (b - a)) (q := q) hs hb (by omega) (by omega) hq2) ml_X8_133 mf_yX8_stringOf mi_yX8_stringOf rfl dX8_asWell_72 rfl rfl rfl rfl (fun v_19 w_20 hp_21 => ?_)
    obtain ⟨rfl, od2, rfl⟩ := hp_21
    refine J.re [0, 4, 1, 2, 3] 5 (ws2 := (m, .inr (8, [.int fi, .ref (D 0), .long as, .int (nI ns), .ref (D 1), .ref (D 2), .ref (D 3), .ref (D 4), .ref (D 5), .ref (D 6), .ref (D 7), .ref (D 8), .int ii, .long de, .int dl, .int dp, .int dc, .ref (D 9), .int (nI nr), .ref (D 10), .ref (D 11), .ref (D 12), .ref (D 13), .ref (D 14), .int al, .int wa])) :: (D 2, .inl (G.2.1.2.1, 12, .inl rr)) :: (D 3, .inl (G.2.1.1, 720, .inl ml)) :: (D 4, .inl (G.2.1.1, 60, .inl F)) :: (D 8, .inl (G.2.1.1, 60, .inl od2)) :: r) rfl rfl ?_
    show J G X mX8_asWell _ _ _ 75 _ [.long (Int64.ofInt (strV (rowM ml s) F (lstN (fun j => strV (rowM ml s) F j q) a (b - a)) q))]
    refine J.lstore [1, 2, 3, 4, 5, 6, 7, 8, 0] (lv' := [(0, .ref m), (1, .int (nI s)), (2, .int (nI q)), (3, .int (nI a)), (4, .int (nI b)), (5, .int (nI h)), (6, .int (0 : Int32)), (7, .int (nI (lstN (fun j => strV (rowM ml s) F j q) a (b - a)))), (8, .long (Int64.ofInt (strV (rowM ml s) F (lstN (fun j => strV (rowM ml s) F j q) a (b - a)) q)))]) dX8_asWell_75 rfl rfl ?_
    refine J.iconst (0 : Int32) dX8_asWell_77 rfl ?_
    refine J.istore [1, 2, 3, 4, 5, 6, 7, 8, 9, 0] (lv' := [(0, .ref m), (1, .int (nI s)), (2, .int (nI q)), (3, .int (nI a)), (4, .int (nI b)), (5, .int (nI h)), (6, .int (0 : Int32)), (7, .int (nI (lstN (fun j => strV (rowM ml s) F j q) a (b - a)))), (8, .long (Int64.ofInt (strV (rowM ml s) F (lstN (fun j => strV (rowM ml s) F j q) a (b - a)) q))), (10, .int (0 : Int32))]) dX8_asWell_78 rfl rfl ?_
    refine J.iload_n 3 dX8_asWell_80 rfl ?_
    refine J.istore [1, 2, 3, 4, 5, 6, 7, 8, 9, 10, 0] (lv' := [(0, .ref m), (1, .int (nI s)), (2, .int (nI q)), (3, .int (nI a)), (4, .int (nI b)), (5, .int (nI h)), (6, .int (0 : Int32)), (7, .int (nI (lstN (fun j => strV (rowM ml s) F j q) a (b - a)))), (8, .long (Int64.ofInt (strV (rowM ml s) F (lstN (fun j => strV (rowM ml s) F j q) a (b - a)) q))), (10, .int (0 : Int32)), (11, .int (nI a))]) dX8_asWell_81 rfl rfl ?_
    exact X8_aw_lp B 0 od2 hs hb hh ha hb2 hab hq2 (by omega)
theorem dp_in {p f : Int32} (h1 : 2 ≤ p.toInt) (h2 : p.toInt ≤ 600) : inR f 0 (p - 1).toInt = (decide (0 ≤ f) && decide (f < p)) := by
  have e : (p - 1).toInt = p.toInt - 1 := fb_subI (by show _ ≤ p.toInt - (1 : Int); omega) (by show p.toInt - (1 : Int) < _; omega)
  unfold inR
  rw [e, Bool.eq_iff_iff, Bool.and_eq_true, decide_eq_true_eq, decide_eq_true_eq, decide_eq_true_eq, fa_le, fa_lt]
  show _ ↔ (0 : Int) ≤ f.toInt ∧ _
  omega
set_option maxHeartbeats 4000000 in
set_option maxRecDepth 100000 in
theorem r_depth_a (l : Launch) (G : jG) (r : va_W) {m : Nat} {D : Nat → Nat} {fi : Int32} {as : Int64} {ns : Nat} {ii : Int32} {de : Int64} {dl dp dc : Int32} {nr : Nat} {al wa : Int32} {num : Int32} {p d f : Int32} (hf : (inR p 2 600 && inR d 1 30 && decide (d < p) && (decide (0 ≤ f) && decide (f < p))) = false) : Mt l G yX8_depth mX8_depth 3 64 0 0 [.ref m, .int num, .int p, .int d, .int f] ((m, .inr (8, [.int fi, .ref (D 0), .long as, .int (nI ns), .ref (D 1), .ref (D 2), .ref (D 3), .ref (D 4), .ref (D 5), .ref (D 6), .ref (D 7), .ref (D 8), .int ii, .long de, .int dl, .int dp, .int dc, .ref (D 9), .int (nI nr), .ref (D 10), .ref (D 11), .ref (D 12), .ref (D 13), .ref (D 14), .int al, .int wa])) :: r) (fun v w => v = some (.int (-1 : Int32)) ∧ w = (m, .inr (8, [.int fi, .ref (D 0), .long as, .int (nI ns), .ref (D 1), .ref (D 2), .ref (D 3), .ref (D 4), .ref (D 5), .ref (D 6), .ref (D 7), .ref (D 8), .int ii, .long de, .int dl, .int dp, .int dc, .ref (D 9), .int (nI nr), .ref (D 10), .ref (D 11), .ref (D 12), .ref (D 13), .ref (D 14), .int al, .int wa])) :: r) := by
  refine Mt.of (by decide +kernel) rfl rfl (fun X B => ?_)
  show J G X mX8_depth ((m, .inr (8, [.int fi, .ref (D 0), .long as, .int (nI ns), .ref (D 1), .ref (D 2), .ref (D 3), .ref (D 4), .ref (D 5), .ref (D 6), .ref (D 7), .ref (D 8), .int ii, .long de, .int dl, .int dp, .int dc, .ref (D 9), .int (nI nr), .ref (D 10), .ref (D 11), .ref (D 12), .ref (D 13), .ref (D 14), .int al, .int wa])) :: r) 0 0 0 [(0, .ref m), (1, .int num), (2, .int p), (3, .int d), (4, .int f)] []
  refine J.iload_n 2 dX8_depth_0 rfl ?_
  refine J.iconst (2 : Int32) dX8_depth_1 rfl ?_
  refine J.sipush (600 : Int32) dX8_depth_2 rfl ?_
  refine J.callS (st := []) B (c_X8_in l G _ (v := p) (lo := (2 : Int32)) (hi := (600 : Int32)) (a := 2) (b := 600) rfl rfl) ml_X8_76 mf_yX8_in mS_yX8_in dX8_depth_5 rfl rfl rfl (fun v_1 w_2 hp_3 => ?_)
  obtain ⟨rfl, rfl⟩ := hp_3
  show J G X mX8_depth _ _ _ 8 _ [.int (b01 (inR p 2 600))]
  refine J.if_eq dX8_depth_8 (fun h9 => ?_) (fun h9 => ?_)
  · skip
    refine J.iconst (-1 : Int32) dX8_depth_38 rfl ?_
    exact J.iret B dX8_depth_39 rfl (⟨rfl, rfl⟩)
  · skip
    have g1 := inR_of (b01_1 h9)
    refine J.iload_n 3 dX8_depth_11 rfl ?_
    refine J.iconst (1 : Int32) dX8_depth_12 rfl ?_
    refine J.bipush (30 : Int32) dX8_depth_13 rfl ?_
    refine J.callS (st := []) B (c_X8_in l G _ (v := d) (lo := (1 : Int32)) (hi := (30 : Int32)) (a := 1) (b := 30) rfl rfl) ml_X8_76 mf_yX8_in mS_yX8_in dX8_depth_15 rfl rfl rfl (fun v_4 w_5 hp_6 => ?_)
    obtain ⟨rfl, rfl⟩ := hp_6
    show J G X mX8_depth _ _ _ 18 _ [.int (b01 (inR d 1 30))]
    refine J.if_eq dX8_depth_18 (fun h8 => ?_) (fun h8 => ?_)
    · skip
      refine J.iconst (-1 : Int32) dX8_depth_38 rfl ?_
      exact J.iret B dX8_depth_39 rfl (⟨rfl, rfl⟩)
    · skip
      refine J.iload_n 3 dX8_depth_21 rfl ?_
      refine J.iload_n 2 dX8_depth_22 rfl ?_
      refine J.icmp_ge dX8_depth_23 (fun h7 => ?_) (fun h7 => ?_)
      · skip
        refine J.iconst (-1 : Int32) dX8_depth_38 rfl ?_
        exact J.iret B dX8_depth_39 rfl (⟨rfl, rfl⟩)
      · skip
        refine J.iload 4 dX8_depth_26 rfl ?_
        refine J.iconst (0 : Int32) dX8_depth_28 rfl ?_
        refine J.iload_n 2 dX8_depth_29 rfl ?_
        refine J.iconst (1 : Int32) dX8_depth_30 rfl ?_
        refine J.isub dX8_depth_31 ?_
        refine J.callS (st := []) B (c_X8_in l G _ (v := f) (lo := (0 : Int32)) (hi := p - (1 : Int32)) (a := 0) (b := (p - (1 : Int32)).toInt) rfl rfl) ml_X8_76 mf_yX8_in mS_yX8_in dX8_depth_32 rfl rfl rfl (fun v_7 w_8 hp_9 => ?_)
        obtain ⟨rfl, rfl⟩ := hp_9
        rw [dp_in g1.1 g1.2]
        show J G X mX8_depth _ _ _ 35 _ [.int (b01 (decide (0 ≤ f) && decide (f < p)))]
        refine J.if_ne dX8_depth_35 (fun h6 => ?_) (fun h6 => ?_)
        · skip
          exact absurd (by rw [b01_1 h9, b01_1 h8, decide_eq_true (Int32.not_le.mp h7), b01_1 h6]; rfl) (Bool.eq_false_iff.mp hf)
        · skip
          refine J.iconst (-1 : Int32) dX8_depth_38 rfl ?_
          exact J.iret B dX8_depth_39 rfl (⟨rfl, rfl⟩)
set_option maxHeartbeats 4000000 in
set_option maxRecDepth 100000 in
theorem r_depth_bad (l : Launch) (G : jG) (r : va_W) {m : Nat} {D : Nat → Nat} {fi : Int32} {as : Int64} {ns : Nat} {ii : Int32} {de : Int64} {dl dp dc : Int32} {nr : Nat} {al wa : Int32} {rr : Nat → Int32} {num : Int32} (hns : ns ≤ 12) (hnum : inR num 0 ((ns : Int) - 1) = false) {p d f : Int32} (hf : (inR p 2 600 && inR d 1 30 && decide (d < p) && (decide (0 ≤ f) && decide (f < p))) = true) : Mt l G yX8_depth mX8_depth 3 64 0 0 [.ref m, .int num, .int p, .int d, .int f] ((m, .inr (8, [.int fi, .ref (D 0), .long as, .int (nI ns), .ref (D 1), .ref (D 2), .ref (D 3), .ref (D 4), .ref (D 5), .ref (D 6), .ref (D 7), .ref (D 8), .int ii, .long de, .int dl, .int dp, .int dc, .ref (D 9), .int (nI nr), .ref (D 10), .ref (D 11), .ref (D 12), .ref (D 13), .ref (D 14), .int al, .int wa])) :: (D 2, .inl (G.2.1.2.1, 12, .inl rr)) :: r) (fun v w => v = some (.int (-1 : Int32)) ∧ w = (m, .inr (8, [.int fi, .ref (D 0), .long as, .int (nI ns), .ref (D 1), .ref (D 2), .ref (D 3), .ref (D 4), .ref (D 5), .ref (D 6), .ref (D 7), .ref (D 8), .int ii, .long de, .int dl, .int dp, .int dc, .ref (D 9), .int (nI nr), .ref (D 10), .ref (D 11), .ref (D 12), .ref (D 13), .ref (D 14), .int al, .int wa])) :: (D 2, .inl (G.2.1.2.1, 12, .inl rr)) :: r) := by
  refine Mt.of (by decide +kernel) rfl rfl (fun X B => ?_)
  show J G X mX8_depth ((m, .inr (8, [.int fi, .ref (D 0), .long as, .int (nI ns), .ref (D 1), .ref (D 2), .ref (D 3), .ref (D 4), .ref (D 5), .ref (D 6), .ref (D 7), .ref (D 8), .int ii, .long de, .int dl, .int dp, .int dc, .ref (D 9), .int (nI nr), .ref (D 10), .ref (D 11), .ref (D 12), .ref (D 13), .ref (D 14), .int al, .int wa])) :: (D 2, .inl (G.2.1.2.1, 12, .inl rr)) :: r) 0 0 0 [(0, .ref m), (1, .int num), (2, .int p), (3, .int d), (4, .int f)] []
  obtain ⟨h1, g5⟩ := Bool.and_eq_true_iff.mp hf
  obtain ⟨h2, g4⟩ := Bool.and_eq_true_iff.mp h1
  obtain ⟨g0, g3⟩ := Bool.and_eq_true_iff.mp h2
  have g1 := inR_of g0
  have g4 := of_decide_eq_true g4
  refine J.iload_n 2 dX8_depth_0 rfl ?_
  refine J.iconst (2 : Int32) dX8_depth_1 rfl ?_
  refine J.sipush (600 : Int32) dX8_depth_2 rfl ?_
  refine J.callS (st := []) B (c_X8_in l G _ (v := p) (lo := (2 : Int32)) (hi := (600 : Int32)) (a := 2) (b := 600) rfl rfl) ml_X8_76 mf_yX8_in mS_yX8_in dX8_depth_5 rfl rfl rfl (fun v_1 w_2 hp_3 => ?_)
  obtain ⟨rfl, rfl⟩ := hp_3
  show J G X mX8_depth _ _ _ 8 _ [.int (b01 (inR p 2 600))]
  refine J.if_eq dX8_depth_8 (fun z => absurd z (by rw [g0]; decide)) (fun h9 => ?_)
  refine J.iload_n 3 dX8_depth_11 rfl ?_
  refine J.iconst (1 : Int32) dX8_depth_12 rfl ?_
  refine J.bipush (30 : Int32) dX8_depth_13 rfl ?_
  refine J.callS (st := []) B (c_X8_in l G _ (v := d) (lo := (1 : Int32)) (hi := (30 : Int32)) (a := 1) (b := 30) rfl rfl) ml_X8_76 mf_yX8_in mS_yX8_in dX8_depth_15 rfl rfl rfl (fun v_4 w_5 hp_6 => ?_)
  obtain ⟨rfl, rfl⟩ := hp_6
  show J G X mX8_depth _ _ _ 18 _ [.int (b01 (inR d 1 30))]
  refine J.if_eq dX8_depth_18 (fun z => absurd z (by rw [g3]; decide)) (fun h9 => ?_)
  refine J.iload_n 3 dX8_depth_21 rfl ?_
  refine J.iload_n 2 dX8_depth_22 rfl ?_
  refine J.icmp_ge dX8_depth_23 (fun z => absurd z (Int32.not_le.mpr g4)) (fun h7 => ?_)
  refine J.iload 4 dX8_depth_26 rfl ?_
  refine J.iconst (0 : Int32) dX8_depth_28 rfl ?_
  refine J.iload_n 2 dX8_depth_29 rfl ?_
  refine J.iconst (1 : Int32) dX8_depth_30 rfl ?_
  refine J.isub dX8_depth_31 ?_
  refine J.callS (st := []) B (c_X8_in l G _ (v := f) (lo := (0 : Int32)) (hi := p - (1 : Int32)) (a := 0) (b := (p - (1 : Int32)).toInt) rfl rfl) ml_X8_76 mf_yX8_in mS_yX8_in dX8_depth_32 rfl rfl rfl (fun v_7 w_8 hp_9 => ?_)
  obtain ⟨rfl, rfl⟩ := hp_9
  rw [dp_in g1.1 g1.2]
  show J G X mX8_depth _ _ _ 35 _ [.int (b01 (decide (0 ≤ f) && decide (f < p)))]
  refine J.if_ne dX8_depth_35 (fun h9 => ?_) (fun z => absurd z (by rw [g5]; decide))
  refine J.aload_n 0 dX8_depth_40 rfl ?_
  refine J.iload_n 1 dX8_depth_41 rfl ?_
  refine J.callV 0 (st := []) B (c_X8_looked_bad l G _ hns hnum) ml_X8_108 mf_yX8_looked mi_yX8_looked rfl dX8_depth_42 rfl rfl rfl rfl (fun v_10 w_11 hp_12 => ?_)
  obtain ⟨rfl, rfl⟩ := hp_12
  show J G X mX8_depth _ _ _ 45 _ [.int (-1 : Int32)]
  refine J.istore [1, 2, 3, 4, 5, 0] (lv' := [(0, .ref m), (1, .int num), (2, .int p), (3, .int d), (4, .int f), (5, .int (-1 : Int32))]) dX8_depth_45 rfl rfl ?_
  refine J.iload 5 dX8_depth_47 rfl ?_
  refine J.if_ge dX8_depth_49 (fun z => absurd z (by decide)) (fun _ => ?_)
  refine J.iload 5 dX8_depth_52 rfl ?_
  refine J.goto dX8_depth_54 ?_
  exact J.iret B dX8_depth_82 rfl (⟨rfl, rfl⟩)
set_option maxHeartbeats 4000000 in
set_option maxRecDepth 100000 in
theorem r_depth_no (l : Launch) (G : jG) (r : va_W) {m : Nat} {D : Nat → Nat} {fi : Int32} {as : Int64} {ns : Nat} {ii : Int32} {de : Int64} {dl dp dc : Int32} {nr : Nat} {al wa : Int32} {rr : Nat → Int32} {s : Nat} (hk : s < ns) (hns : ns ≤ 12) {fc : Nat → Int32} (hr : rr s = 0) {p d f : Int32} (hf : (inR p 2 600 && inR d 1 30 && decide (d < p) && (decide (0 ≤ f) && decide (f < p))) = true) : Mt l G yX8_depth mX8_depth 3 64 0 0 [.ref m, .int (nI s), .int p, .int d, .int f] ((m, .inr (8, [.int fi, .ref (D 0), .long as, .int (nI ns), .ref (D 1), .ref (D 2), .ref (D 3), .ref (D 4), .ref (D 5), .ref (D 6), .ref (D 7), .ref (D 8), .int ii, .long de, .int dl, .int dp, .int dc, .ref (D 9), .int (nI nr), .ref (D 10), .ref (D 11), .ref (D 12), .ref (D 13), .ref (D 14), .int al, .int wa])) :: (D 2, .inl (G.2.1.2.1, 12, .inl rr)) :: (D 0, .inl (G.2.1.1, 6, .inl fc)) :: r) (fun v w => v = some (.int (-3 : Int32)) ∧ w = (m, .inr (8, [.int (nI 1), .ref (D 0), .long as, .int (nI ns), .ref (D 1), .ref (D 2), .ref (D 3), .ref (D 4), .ref (D 5), .ref (D 6), .ref (D 7), .ref (D 8), .int ii, .long de, .int dl, .int dp, .int dc, .ref (D 9), .int (nI nr), .ref (D 10), .ref (D 11), .ref (D 12), .ref (D 13), .ref (D 14), .int al, .int wa])) :: (D 2, .inl (G.2.1.2.1, 12, .inl rr)) :: (D 0, .inl (G.2.1.1, 6, .inl (upd fc 1 (fc 1 + 1)))) :: r) := by
  refine Mt.of (by decide +kernel) rfl rfl (fun X B => ?_)
  show J G X mX8_depth ((m, .inr (8, [.int fi, .ref (D 0), .long as, .int (nI ns), .ref (D 1), .ref (D 2), .ref (D 3), .ref (D 4), .ref (D 5), .ref (D 6), .ref (D 7), .ref (D 8), .int ii, .long de, .int dl, .int dp, .int dc, .ref (D 9), .int (nI nr), .ref (D 10), .ref (D 11), .ref (D 12), .ref (D 13), .ref (D 14), .int al, .int wa])) :: (D 2, .inl (G.2.1.2.1, 12, .inl rr)) :: (D 0, .inl (G.2.1.1, 6, .inl fc)) :: r) 0 0 0 [(0, .ref m), (1, .int (nI s)), (2, .int p), (3, .int d), (4, .int f)] []
  obtain ⟨h1, g5⟩ := Bool.and_eq_true_iff.mp hf
  obtain ⟨h2, g4⟩ := Bool.and_eq_true_iff.mp h1
  obtain ⟨g0, g3⟩ := Bool.and_eq_true_iff.mp h2
  have g1 := inR_of g0
  have g4 := of_decide_eq_true g4
  refine J.iload_n 2 dX8_depth_0 rfl ?_
  refine J.iconst (2 : Int32) dX8_depth_1 rfl ?_
  refine J.sipush (600 : Int32) dX8_depth_2 rfl ?_
  refine J.callS (st := []) B (c_X8_in l G _ (v := p) (lo := (2 : Int32)) (hi := (600 : Int32)) (a := 2) (b := 600) rfl rfl) ml_X8_76 mf_yX8_in mS_yX8_in dX8_depth_5 rfl rfl rfl (fun v_1 w_2 hp_3 => ?_)
  obtain ⟨rfl, rfl⟩ := hp_3
  show J G X mX8_depth _ _ _ 8 _ [.int (b01 (inR p 2 600))]
  refine J.if_eq dX8_depth_8 (fun z => absurd z (by rw [g0]; decide)) (fun h9 => ?_)
  refine J.iload_n 3 dX8_depth_11 rfl ?_
  refine J.iconst (1 : Int32) dX8_depth_12 rfl ?_
  refine J.bipush (30 : Int32) dX8_depth_13 rfl ?_
  refine J.callS (st := []) B (c_X8_in l G _ (v := d) (lo := (1 : Int32)) (hi := (30 : Int32)) (a := 1) (b := 30) rfl rfl) ml_X8_76 mf_yX8_in mS_yX8_in dX8_depth_15 rfl rfl rfl (fun v_4 w_5 hp_6 => ?_)
  obtain ⟨rfl, rfl⟩ := hp_6
  show J G X mX8_depth _ _ _ 18 _ [.int (b01 (inR d 1 30))]
  refine J.if_eq dX8_depth_18 (fun z => absurd z (by rw [g3]; decide)) (fun h9 => ?_)
  refine J.iload_n 3 dX8_depth_21 rfl ?_
  refine J.iload_n 2 dX8_depth_22 rfl ?_
  refine J.icmp_ge dX8_depth_23 (fun z => absurd z (Int32.not_le.mpr g4)) (fun h7 => ?_)
  refine J.iload 4 dX8_depth_26 rfl ?_
  refine J.iconst (0 : Int32) dX8_depth_28 rfl ?_
  refine J.iload_n 2 dX8_depth_29 rfl ?_
  refine J.iconst (1 : Int32) dX8_depth_30 rfl ?_
  refine J.isub dX8_depth_31 ?_
  refine J.callS (st := []) B (c_X8_in l G _ (v := f) (lo := (0 : Int32)) (hi := p - (1 : Int32)) (a := 0) (b := (p - (1 : Int32)).toInt) rfl rfl) ml_X8_76 mf_yX8_in mS_yX8_in dX8_depth_32 rfl rfl rfl (fun v_7 w_8 hp_9 => ?_)
  obtain ⟨rfl, rfl⟩ := hp_9
  rw [dp_in g1.1 g1.2]
  show J G X mX8_depth _ _ _ 35 _ [.int (b01 (decide (0 ≤ f) && decide (f < p)))]
  refine J.if_ne dX8_depth_35 (fun h9 => ?_) (fun z => absurd z (by rw [g5]; decide))
  refine J.aload_n 0 dX8_depth_40 rfl ?_
  refine J.iload_n 1 dX8_depth_41 rfl ?_
  refine J.callV 0 (st := []) B (c_X8_looked_no l G _ (k := s) hk hns hr) ml_X8_108 mf_yX8_looked mi_yX8_looked rfl dX8_depth_42 rfl rfl rfl rfl (fun v_10 w_11 hp_12 => ?_)
  obtain ⟨rfl, rfl⟩ := hp_12
  show J G X mX8_depth _ _ _ 45 _ [.int (-3 : Int32)]
  refine J.istore [1, 2, 3, 4, 5, 0] (lv' := [(0, .ref m), (1, .int (nI s)), (2, .int p), (3, .int d), (4, .int f), (5, .int (-3 : Int32))]) dX8_depth_45 rfl rfl ?_
  refine J.iload 5 dX8_depth_47 rfl ?_
  refine J.if_ge dX8_depth_49 (fun z => absurd z (by decide)) (fun _ => ?_)
  refine J.iload 5 dX8_depth_52 rfl ?_
  refine J.goto dX8_depth_54 ?_
  exact J.iret B dX8_depth_82 rfl (⟨rfl, rfl⟩)
set_option maxHeartbeats 4000000 in
set_option maxRecDepth 100000 in
theorem r_depth (l : Launch) (G : jG) (r : va_W) {m : Nat} {D : Nat → Nat} {fi : Int32} {as : Int64} {ns : Nat} {ii : Int32} {de : Int64} {dl dp dc : Int32} {nr : Nat} {al wa : Int32} {rr : Nat → Int32} {s : Nat} (hk : s < ns) (hns : ns ≤ 12) {ml F : Nat → Int32} (hr : ¬ rr s = 0) (hb : BD (rowM ml s) F) {p d f : Nat} (hp : 2 ≤ p) (hp2 : p ≤ 600) (hd1 : 1 ≤ d) (hd2 : d ≤ 30) (hdp : d < p) (hfp : f < p) : Mt l G yX8_depth mX8_depth 3 64 0 0 [.ref m, .int (nI s), .int (nI p), .int (nI d), .int (nI f)] ((m, .inr (8, [.int fi, .ref (D 0), .long as, .int (nI ns), .ref (D 1), .ref (D 2), .ref (D 3), .ref (D 4), .ref (D 5), .ref (D 6), .ref (D 7), .ref (D 8), .int ii, .long de, .int dl, .int dp, .int dc, .ref (D 9), .int (nI nr), .ref (D 10), .ref (D 11), .ref (D 12), .ref (D 13), .ref (D 14), .int al, .int wa])) :: (D 2, .inl (G.2.1.2.1, 12, .inl rr)) :: (D 3, .inl (G.2.1.1, 720, .inl ml)) :: (D 4, .inl (G.2.1.1, 60, .inl F)) :: r) (fun v w => v = some (.int (if 0 < cI (rowM ml s) p d f ∧ cI (rowM ml s) p d f < nN (rowM ml s) then 1 else -9)) ∧ w = (m, .inr (8, [.int fi, .ref (D 0), .long (if 0 < cI (rowM ml s) p d f ∧ cI (rowM ml s) p d f < nN (rowM ml s) then Int64.ofInt (dpI (rowM ml s) F p d f) else as), .int (nI ns), .ref (D 1), .ref (D 2), .ref (D 3), .ref (D 4), .ref (D 5), .ref (D 6), .ref (D 7), .ref (D 8), .int (nI (cI (rowM ml s) p d f)), .long (Int64.ofInt (dpI (rowM ml s) F p d f)), .int dl, .int dp, .int dc, .ref (D 9), .int (nI nr), .ref (D 10), .ref (D 11), .ref (D 12), .ref (D 13), .ref (D 14), .int al, .int wa])) :: (D 2, .inl (G.2.1.2.1, 12, .inl rr)) :: (D 3, .inl (G.2.1.1, 720, .inl ml)) :: (D 4, .inl (G.2.1.1, 60, .inl F)) :: r) := by
  refine Mt.of (by decide +kernel) rfl rfl (fun X B => ?_)
  show J G X mX8_depth ((m, .inr (8, [.int fi, .ref (D 0), .long as, .int (nI ns), .ref (D 1), .ref (D 2), .ref (D 3), .ref (D 4), .ref (D 5), .ref (D 6), .ref (D 7), .ref (D 8), .int ii, .long de, .int dl, .int dp, .int dc, .ref (D 9), .int (nI nr), .ref (D 10), .ref (D 11), .ref (D 12), .ref (D 13), .ref (D 14), .int al, .int wa])) :: (D 2, .inl (G.2.1.2.1, 12, .inl rr)) :: (D 3, .inl (G.2.1.1, 720, .inl ml)) :: (D 4, .inl (G.2.1.1, 60, .inl F)) :: r) 0 0 0 [(0, .ref m), (1, .int (nI s)), (2, .int (nI p)), (3, .int (nI d)), (4, .int (nI f))] []
  have hs : s < 12 := by omega
  have hpi : inR (nI p) 2 600 = true := by rw [nI_inR (by omega)]; exact decide_eq_true ⟨by omega, by omega⟩
  have hdi : inR (nI d) 1 30 = true := by rw [nI_inR (by omega)]; exact decide_eq_true ⟨by omega, by omega⟩
  have hfi : inR (nI f) 0 ((p : Int) - 1) = true := by rw [nI_inR (by omega)]; exact decide_eq_true ⟨by omega, by omega⟩
  refine J.iload_n 2 dX8_depth_0 rfl ?_
  refine J.iconst (2 : Int32) dX8_depth_1 rfl ?_
  refine J.sipush (600 : Int32) dX8_depth_2 rfl ?_
  refine J.callS (st := []) B (c_X8_in l G _ (v := nI p) (lo := (2 : Int32)) (hi := (600 : Int32)) (a := 2) (b := 600) rfl rfl) ml_X8_76 mf_yX8_in mS_yX8_in dX8_depth_5 rfl rfl rfl (fun v_1 w_2 hp_3 => ?_)
  obtain ⟨rfl, rfl⟩ := hp_3
  show J G X mX8_depth _ _ _ 8 _ [.int (b01 (inR (nI p) 2 600))]
  refine J.if_eq dX8_depth_8 (fun z => absurd z (by rw [hpi]; decide)) (fun h9 => ?_)
  refine J.iload_n 3 dX8_depth_11 rfl ?_
  refine J.iconst (1 : Int32) dX8_depth_12 rfl ?_
  refine J.bipush (30 : Int32) dX8_depth_13 rfl ?_
  refine J.callS (st := []) B (c_X8_in l G _ (v := nI d) (lo := (1 : Int32)) (hi := (30 : Int32)) (a := 1) (b := 30) rfl rfl) ml_X8_76 mf_yX8_in mS_yX8_in dX8_depth_15 rfl rfl rfl (fun v_4 w_5 hp_6 => ?_)
  obtain ⟨rfl, rfl⟩ := hp_6
  show J G X mX8_depth _ _ _ 18 _ [.int (b01 (inR (nI d) 1 30))]
  refine J.if_eq dX8_depth_18 (fun z => absurd z (by rw [hdi]; decide)) (fun h9 => ?_)
  refine J.iload_n 3 dX8_depth_21 rfl ?_
  refine J.iload_n 2 dX8_depth_22 rfl ?_
  refine J.icmp_ge dX8_depth_23 (fun h7 => ?_) (fun h7 => ?_)
  · skip
    have h7 : p ≤ d := (nI_leI (a := p) (b := d) (by omega) (by omega)).mp h7
    omega
  · skip
    have h7 : ¬ p ≤ d := fun z => h7 ((nI_leI (a := p) (b := d) (by omega) (by omega)).mpr z)
    refine J.iload 4 dX8_depth_26 rfl ?_
    refine J.iconst (0 : Int32) dX8_depth_28 rfl ?_
    refine J.iload_n 2 dX8_depth_29 rfl ?_
    refine J.iconst (1 : Int32) dX8_depth_30 rfl ?_
    refine J.isub dX8_depth_31 ?_
    refine J.callS (st := []) B (c_X8_in l G _ (v := nI f) (lo := 0) (hi := (nI p) - (1 : Int32)) (a := 0) (b := (p : Int) - 1) rfl (pk_sub_toInt (a := p) (b := 1) (by omega) (by omega))) ml_X8_76 mf_yX8_in mS_yX8_in dX8_depth_32 rfl rfl rfl (fun v_7 w_8 hp_9 => ?_)
    obtain ⟨rfl, rfl⟩ := hp_9
    show J G X mX8_depth _ _ _ 35 _ [.int (b01 (inR (nI f) 0 ((p : Int) - 1)))]
    refine J.if_ne dX8_depth_35 (fun h9 => ?_) (fun z => absurd z (by rw [hfi]; decide))
    refine J.aload_n 0 dX8_depth_40 rfl ?_
    refine J.iload_n 1 dX8_depth_41 rfl ?_
    refine J.callV 0 (st := []) B (c_X8_looked l G _ (k := s) hk hns hr) ml_X8_108 mf_yX8_looked mi_yX8_looked rfl dX8_depth_42 rfl rfl rfl rfl (fun v_10 w_11 hp_12 => ?_)
    obtain ⟨rfl, rfl⟩ := hp_12
    show J G X mX8_depth _ _ _ 45 _ [.int (0 : Int32)]
    refine J.istore [1, 2, 3, 4, 5, 0] (lv' := [(0, .ref m), (1, .int (nI s)), (2, .int (nI p)), (3, .int (nI d)), (4, .int (nI f)), (5, .int (0 : Int32))]) dX8_depth_45 rfl rfl ?_
    refine J.iload 5 dX8_depth_47 rfl ?_
    refine J.if_ge dX8_depth_49 (fun _ => ?_) (fun z => absurd z (by decide))
    refine J.aload_n 0 dX8_depth_57 rfl ?_
    refine J.iload_n 1 dX8_depth_58 rfl ?_
    refine J.iload_n 2 dX8_depth_59 rfl ?_
    refine J.iload_n 3 dX8_depth_60 rfl ?_
    refine J.iload 4 dX8_depth_61 rfl ?_
    refine J.re [0, 2, 3, 1] 4 (ws2 := (m, .inr (8, [.int fi, .ref (D 0), .long as, .int (nI ns), .ref (D 1), .ref (D 2), .ref (D 3), .ref (D 4), .ref (D 5), .ref (D 6), .ref (D 7), .ref (D 8), .int ii, .long de, .int dl, .int dp, .int dc, .ref (D 9), .int (nI nr), .ref (D 10), .ref (D 11), .ref (D 12), .ref (D 13), .ref (D 14), .int al, .int wa])) :: (D 3, .inl (G.2.1.1, 720, .inl ml)) :: (D 4, .inl (G.2.1.1, 60, .inl F)) :: (D 2, .inl (G.2.1.2.1, 12, .inl rr)) :: r) rfl rfl ?_
    refine J.callV 0 (st := []) B (c_X8_dips l G _ (p := p) (d := d) (f := f) hs hb (by omega) hp2 hfp (by omega)) ml_X8_149 mf_yX8_dips mi_yX8_dips rfl dX8_depth_63 rfl rfl rfl rfl (fun v_13 w_14 hp_15 => ?_)
    obtain ⟨rfl, rfl⟩ := hp_15
    refine J.re [0, 3, 1, 2] 4 (ws2 := (m, .inr (8, [.int fi, .ref (D 0), .long as, .int (nI ns), .ref (D 1), .ref (D 2), .ref (D 3), .ref (D 4), .ref (D 5), .ref (D 6), .ref (D 7), .ref (D 8), .int (nI (cI (rowM ml s) p d f)), .long (Int64.ofInt (dpI (rowM ml s) F p d f)), .int dl, .int dp, .int dc, .ref (D 9), .int (nI nr), .ref (D 10), .ref (D 11), .ref (D 12), .ref (D 13), .ref (D 14), .int al, .int wa])) :: (D 2, .inl (G.2.1.2.1, 12, .inl rr)) :: (D 3, .inl (G.2.1.1, 720, .inl ml)) :: (D 4, .inl (G.2.1.1, 60, .inl F)) :: r) rfl rfl ?_
    show J G X mX8_depth _ _ _ 66 _ [.int (b01 (decide (0 < cI (rowM ml s) p d f ∧ cI (rowM ml s) p d f < nN (rowM ml s))))]
    refine J.if_eq dX8_depth_66 (fun h6 => ?_) (fun h6 => ?_)
    · skip
      have hno : ¬ (0 < cI (rowM ml s) p d f ∧ cI (rowM ml s) p d f < nN (rowM ml s)) := of_decide_eq_false (b01_0 h6)
      refine J.bipush (-9 : Int32) dX8_depth_80 rfl ?_
      exact J.iret B dX8_depth_82 rfl (⟨by rw [if_neg hno], by rw [if_neg hno]⟩)
    · skip
      have hyes : 0 < cI (rowM ml s) p d f ∧ cI (rowM ml s) p d f < nN (rowM ml s) := of_decide_eq_true (b01_1 h6)
      refine J.aload_n 0 dX8_depth_69 rfl ?_
      refine J.aload_n 0 dX8_depth_70 rfl ?_
      refine J.get 0 fl_X8_146 dX8_depth_71 rfl rfl ?_
      refine J.callV 0 (st := []) B (c_X8_tell l G _ (t0 := Int64.ofInt (dpI (rowM ml s) F p d f))) ml_X8_114 mf_yX8_tell mi_yX8_tell rfl dX8_depth_74 rfl rfl rfl rfl (fun v_16 w_17 hp_18 => ?_)
      obtain ⟨rfl, rfl⟩ := hp_18
      show J G X mX8_depth _ _ _ 77 _ [.int (1 : Int32)]
      refine J.goto dX8_depth_77 ?_
      exact J.iret B dX8_depth_82 rfl (⟨by rw [if_pos hyes], by rw [if_pos hyes]⟩)
set_option maxHeartbeats 4000000 in
set_option maxRecDepth 100000 in
theorem r_dip_a (l : Launch) (G : jG) (r : va_W) {m : Nat} {D : Nat → Nat} {fi : Int32} {as : Int64} {ns : Nat} {ii : Int32} {de : Int64} {dl dp dc : Int32} {nr : Nat} {al wa : Int32} {num : Int32} {p mo : Int32} (hf : (inR p 2 600 && inR mo 1 30) = false) : Mt l G yX8_dip mX8_dip 3 64 0 0 [.ref m, .int num, .int p, .int mo] ((m, .inr (8, [.int fi, .ref (D 0), .long as, .int (nI ns), .ref (D 1), .ref (D 2), .ref (D 3), .ref (D 4), .ref (D 5), .ref (D 6), .ref (D 7), .ref (D 8), .int ii, .long de, .int dl, .int dp, .int dc, .ref (D 9), .int (nI nr), .ref (D 10), .ref (D 11), .ref (D 12), .ref (D 13), .ref (D 14), .int al, .int wa])) :: r) (fun v w => v = some (.int (-1 : Int32)) ∧ w = (m, .inr (8, [.int fi, .ref (D 0), .long as, .int (nI ns), .ref (D 1), .ref (D 2), .ref (D 3), .ref (D 4), .ref (D 5), .ref (D 6), .ref (D 7), .ref (D 8), .int ii, .long de, .int dl, .int dp, .int dc, .ref (D 9), .int (nI nr), .ref (D 10), .ref (D 11), .ref (D 12), .ref (D 13), .ref (D 14), .int al, .int wa])) :: r) := by
  refine Mt.of (by decide +kernel) rfl rfl (fun X B => ?_)
  show J G X mX8_dip ((m, .inr (8, [.int fi, .ref (D 0), .long as, .int (nI ns), .ref (D 1), .ref (D 2), .ref (D 3), .ref (D 4), .ref (D 5), .ref (D 6), .ref (D 7), .ref (D 8), .int ii, .long de, .int dl, .int dp, .int dc, .ref (D 9), .int (nI nr), .ref (D 10), .ref (D 11), .ref (D 12), .ref (D 13), .ref (D 14), .int al, .int wa])) :: r) 0 0 0 [(0, .ref m), (1, .int num), (2, .int p), (3, .int mo)] []
  refine J.iload_n 2 dX8_dip_0 rfl ?_
  refine J.iconst (2 : Int32) dX8_dip_1 rfl ?_
  refine J.sipush (600 : Int32) dX8_dip_2 rfl ?_
  refine J.callS (st := []) B (c_X8_in l G _ (v := p) (lo := (2 : Int32)) (hi := (600 : Int32)) (a := 2) (b := 600) rfl rfl) ml_X8_76 mf_yX8_in mS_yX8_in dX8_dip_5 rfl rfl rfl (fun v_1 w_2 hp_3 => ?_)
  obtain ⟨rfl, rfl⟩ := hp_3
  show J G X mX8_dip _ _ _ 8 _ [.int (b01 (inR p 2 600))]
  refine J.if_eq dX8_dip_8 (fun h9 => ?_) (fun h9 => ?_)
  · skip
    refine J.iconst (-1 : Int32) dX8_dip_21 rfl ?_
    exact J.iret B dX8_dip_22 rfl (⟨rfl, rfl⟩)
  · skip
    refine J.iload_n 3 dX8_dip_11 rfl ?_
    refine J.iconst (1 : Int32) dX8_dip_12 rfl ?_
    refine J.bipush (30 : Int32) dX8_dip_13 rfl ?_
    refine J.callS (st := []) B (c_X8_in l G _ (v := mo) (lo := (1 : Int32)) (hi := (30 : Int32)) (a := 1) (b := 30) rfl rfl) ml_X8_76 mf_yX8_in mS_yX8_in dX8_dip_15 rfl rfl rfl (fun v_4 w_5 hp_6 => ?_)
    obtain ⟨rfl, rfl⟩ := hp_6
    show J G X mX8_dip _ _ _ 18 _ [.int (b01 (inR mo 1 30))]
    refine J.if_ne dX8_dip_18 (fun h8 => ?_) (fun h8 => ?_)
    · skip
      exact absurd (by rw [b01_1 h9, b01_1 h8]; rfl) (Bool.eq_false_iff.mp hf)
    · skip
      refine J.iconst (-1 : Int32) dX8_dip_21 rfl ?_
      exact J.iret B dX8_dip_22 rfl (⟨rfl, rfl⟩)
set_option maxHeartbeats 4000000 in
set_option maxRecDepth 100000 in
theorem r_dip_bad (l : Launch) (G : jG) (r : va_W) {m : Nat} {D : Nat → Nat} {fi : Int32} {as : Int64} {ns : Nat} {ii : Int32} {de : Int64} {dl dp dc : Int32} {nr : Nat} {al wa : Int32} {rr : Nat → Int32} {num : Int32} (hns : ns ≤ 12) (hnum : inR num 0 ((ns : Int) - 1) = false) {p mo : Int32} (hf : (inR p 2 600 && inR mo 1 30) = true) : Mt l G yX8_dip mX8_dip 3 64 0 0 [.ref m, .int num, .int p, .int mo] ((m, .inr (8, [.int fi, .ref (D 0), .long as, .int (nI ns), .ref (D 1), .ref (D 2), .ref (D 3), .ref (D 4), .ref (D 5), .ref (D 6), .ref (D 7), .ref (D 8), .int ii, .long de, .int dl, .int dp, .int dc, .ref (D 9), .int (nI nr), .ref (D 10), .ref (D 11), .ref (D 12), .ref (D 13), .ref (D 14), .int al, .int wa])) :: (D 2, .inl (G.2.1.2.1, 12, .inl rr)) :: r) (fun v w => v = some (.int (-1 : Int32)) ∧ w = (m, .inr (8, [.int fi, .ref (D 0), .long as, .int (nI ns), .ref (D 1), .ref (D 2), .ref (D 3), .ref (D 4), .ref (D 5), .ref (D 6), .ref (D 7), .ref (D 8), .int ii, .long de, .int dl, .int dp, .int dc, .ref (D 9), .int (nI nr), .ref (D 10), .ref (D 11), .ref (D 12), .ref (D 13), .ref (D 14), .int al, .int wa])) :: (D 2, .inl (G.2.1.2.1, 12, .inl rr)) :: r) := by
  refine Mt.of (by decide +kernel) rfl rfl (fun X B => ?_)
  show J G X mX8_dip ((m, .inr (8, [.int fi, .ref (D 0), .long as, .int (nI ns), .ref (D 1), .ref (D 2), .ref (D 3), .ref (D 4), .ref (D 5), .ref (D 6), .ref (D 7), .ref (D 8), .int ii, .long de, .int dl, .int dp, .int dc, .ref (D 9), .int (nI nr), .ref (D 10), .ref (D 11), .ref (D 12), .ref (D 13), .ref (D 14), .int al, .int wa])) :: (D 2, .inl (G.2.1.2.1, 12, .inl rr)) :: r) 0 0 0 [(0, .ref m), (1, .int num), (2, .int p), (3, .int mo)] []
  obtain ⟨g1, g2⟩ := Bool.and_eq_true_iff.mp hf
  refine J.iload_n 2 dX8_dip_0 rfl ?_
  refine J.iconst (2 : Int32) dX8_dip_1 rfl ?_
  refine J.sipush (600 : Int32) dX8_dip_2 rfl ?_
  refine J.callS (st := []) B (c_X8_in l G _ (v := p) (lo := (2 : Int32)) (hi := (600 : Int32)) (a := 2) (b := 600) rfl rfl) ml_X8_76 mf_yX8_in mS_yX8_in dX8_dip_5 rfl rfl rfl (fun v_1 w_2 hp_3 => ?_)
  obtain ⟨rfl, rfl⟩ := hp_3
  show J G X mX8_dip _ _ _ 8 _ [.int (b01 (inR p 2 600))]
  refine J.if_eq dX8_dip_8 (fun z => absurd z (by rw [g1]; decide)) (fun h9 => ?_)
  refine J.iload_n 3 dX8_dip_11 rfl ?_
  refine J.iconst (1 : Int32) dX8_dip_12 rfl ?_
  refine J.bipush (30 : Int32) dX8_dip_13 rfl ?_
  refine J.callS (st := []) B (c_X8_in l G _ (v := mo) (lo := (1 : Int32)) (hi := (30 : Int32)) (a := 1) (b := 30) rfl rfl) ml_X8_76 mf_yX8_in mS_yX8_in dX8_dip_15 rfl rfl rfl (fun v_4 w_5 hp_6 => ?_)
  obtain ⟨rfl, rfl⟩ := hp_6
  show J G X mX8_dip _ _ _ 18 _ [.int (b01 (inR mo 1 30))]
  refine J.if_ne dX8_dip_18 (fun h9 => ?_) (fun z => absurd z (by rw [g2]; decide))
  refine J.aload_n 0 dX8_dip_23 rfl ?_
  refine J.iload_n 1 dX8_dip_24 rfl ?_
  refine J.callV 0 (st := []) B (c_X8_looked_bad l G _ hns hnum) ml_X8_108 mf_yX8_looked mi_yX8_looked rfl dX8_dip_25 rfl rfl rfl rfl (fun v_7 w_8 hp_9 => ?_)
  obtain ⟨rfl, rfl⟩ := hp_9
  show J G X mX8_dip _ _ _ 28 _ [.int (-1 : Int32)]
  refine J.istore [1, 2, 3, 4, 0] (lv' := [(0, .ref m), (1, .int num), (2, .int p), (3, .int mo), (4, .int (-1 : Int32))]) dX8_dip_28 rfl rfl ?_
  refine J.iload 4 dX8_dip_30 rfl ?_
  refine J.if_ge dX8_dip_32 (fun z => absurd z (by decide)) (fun _ => ?_)
  refine J.iload 4 dX8_dip_35 rfl ?_
  exact J.iret B dX8_dip_37 rfl (⟨rfl, rfl⟩)
set_option maxHeartbeats 4000000 in
set_option maxRecDepth 100000 in
theorem r_dip_no (l : Launch) (G : jG) (r : va_W) {m : Nat} {D : Nat → Nat} {fi : Int32} {as : Int64} {ns : Nat} {ii : Int32} {de : Int64} {dl dp dc : Int32} {nr : Nat} {al wa : Int32} {rr : Nat → Int32} {s : Nat} (hk : s < ns) (hns : ns ≤ 12) {fc : Nat → Int32} (hr : rr s = 0) {p mo : Int32} (hf : (inR p 2 600 && inR mo 1 30) = true) : Mt l G yX8_dip mX8_dip 3 64 0 0 [.ref m, .int (nI s), .int p, .int mo] ((m, .inr (8, [.int fi, .ref (D 0), .long as, .int (nI ns), .ref (D 1), .ref (D 2), .ref (D 3), .ref (D 4), .ref (D 5), .ref (D 6), .ref (D 7), .ref (D 8), .int ii, .long de, .int dl, .int dp, .int dc, .ref (D 9), .int (nI nr), .ref (D 10), .ref (D 11), .ref (D 12), .ref (D 13), .ref (D 14), .int al, .int wa])) :: (D 2, .inl (G.2.1.2.1, 12, .inl rr)) :: (D 0, .inl (G.2.1.1, 6, .inl fc)) :: r) (fun v w => v = some (.int (-3 : Int32)) ∧ w = (m, .inr (8, [.int (nI 1), .ref (D 0), .long as, .int (nI ns), .ref (D 1), .ref (D 2), .ref (D 3), .ref (D 4), .ref (D 5), .ref (D 6), .ref (D 7), .ref (D 8), .int ii, .long de, .int dl, .int dp, .int dc, .ref (D 9), .int (nI nr), .ref (D 10), .ref (D 11), .ref (D 12), .ref (D 13), .ref (D 14), .int al, .int wa])) :: (D 2, .inl (G.2.1.2.1, 12, .inl rr)) :: (D 0, .inl (G.2.1.1, 6, .inl (upd fc 1 (fc 1 + 1)))) :: r) := by
  refine Mt.of (by decide +kernel) rfl rfl (fun X B => ?_)
  show J G X mX8_dip ((m, .inr (8, [.int fi, .ref (D 0), .long as, .int (nI ns), .ref (D 1), .ref (D 2), .ref (D 3), .ref (D 4), .ref (D 5), .ref (D 6), .ref (D 7), .ref (D 8), .int ii, .long de, .int dl, .int dp, .int dc, .ref (D 9), .int (nI nr), .ref (D 10), .ref (D 11), .ref (D 12), .ref (D 13), .ref (D 14), .int al, .int wa])) :: (D 2, .inl (G.2.1.2.1, 12, .inl rr)) :: (D 0, .inl (G.2.1.1, 6, .inl fc)) :: r) 0 0 0 [(0, .ref m), (1, .int (nI s)), (2, .int p), (3, .int mo)] []
  obtain ⟨g1, g2⟩ := Bool.and_eq_true_iff.mp hf
  refine J.iload_n 2 dX8_dip_0 rfl ?_
  refine J.iconst (2 : Int32) dX8_dip_1 rfl ?_
  refine J.sipush (600 : Int32) dX8_dip_2 rfl ?_
  refine J.callS (st := []) B (c_X8_in l G _ (v := p) (lo := (2 : Int32)) (hi := (600 : Int32)) (a := 2) (b := 600) rfl rfl) ml_X8_76 mf_yX8_in mS_yX8_in dX8_dip_5 rfl rfl rfl (fun v_1 w_2 hp_3 => ?_)
  obtain ⟨rfl, rfl⟩ := hp_3
  show J G X mX8_dip _ _ _ 8 _ [.int (b01 (inR p 2 600))]
  refine J.if_eq dX8_dip_8 (fun z => absurd z (by rw [g1]; decide)) (fun h9 => ?_)
  refine J.iload_n 3 dX8_dip_11 rfl ?_
  refine J.iconst (1 : Int32) dX8_dip_12 rfl ?_
  refine J.bipush (30 : Int32) dX8_dip_13 rfl ?_
  refine J.callS (st := []) B (c_X8_in l G _ (v := mo) (lo := (1 : Int32)) (hi := (30 : Int32)) (a := 1) (b := 30) rfl rfl) ml_X8_76 mf_yX8_in mS_yX8_in dX8_dip_15 rfl rfl rfl (fun v_4 w_5 hp_6 => ?_)
  obtain ⟨rfl, rfl⟩ := hp_6
  show J G X mX8_dip _ _ _ 18 _ [.int (b01 (inR mo 1 30))]
  refine J.if_ne dX8_dip_18 (fun h9 => ?_) (fun z => absurd z (by rw [g2]; decide))
  refine J.aload_n 0 dX8_dip_23 rfl ?_
  refine J.iload_n 1 dX8_dip_24 rfl ?_
  refine J.callV 0 (st := []) B (c_X8_looked_no l G _ (k := s) hk hns hr) ml_X8_108 mf_yX8_looked mi_yX8_looked rfl dX8_dip_25 rfl rfl rfl rfl (fun v_7 w_8 hp_9 => ?_)
  obtain ⟨rfl, rfl⟩ := hp_9
  show J G X mX8_dip _ _ _ 28 _ [.int (-3 : Int32)]
  refine J.istore [1, 2, 3, 4, 0] (lv' := [(0, .ref m), (1, .int (nI s)), (2, .int p), (3, .int mo), (4, .int (-3 : Int32))]) dX8_dip_28 rfl rfl ?_
  refine J.iload 4 dX8_dip_30 rfl ?_
  refine J.if_ge dX8_dip_32 (fun z => absurd z (by decide)) (fun _ => ?_)
  refine J.iload 4 dX8_dip_35 rfl ?_
  exact J.iret B dX8_dip_37 rfl (⟨rfl, rfl⟩)
set_option maxHeartbeats 4000000 in
set_option maxRecDepth 100000 in
theorem X8_dip_in {l : Launch} {G : jG} {X : jX} {r : va_W} {m : Nat} {D : Nat → Nat} {fi : Int32} {as : Int64} {ns : Nat} {dl dp dc : Int32} {nr : Nat} {al wa : Int32} {ml F : Nat → Int32} {rr : Nat → Int32} {s p mo : Nat} (B : jB l G X 3 64 0 0 (fun v w => ∃ ii1 de1, v = some (.int (if (dpO (rowM ml s) F p (min mo (p - 1))).1 then nI (dpO (rowM ml s) F p (min mo (p - 1))).2.2.1 else -9)) ∧ w = (m, .inr (8, [.int fi, .ref (D 0), .long as, .int (nI ns), .ref (D 1), .ref (D 2), .ref (D 3), .ref (D 4), .ref (D 5), .ref (D 6), .ref (D 7), .ref (D 8), .int ii1, .long de1, .int (dpV (dpO (rowM ml s) F p (min mo (p - 1))).1 (dpO (rowM ml s) F p (min mo (p - 1))).2.2.1 dl), .int (dpV (dpO (rowM ml s) F p (min mo (p - 1))).1 (dpO (rowM ml s) F p (min mo (p - 1))).2.2.2.1 dp), .int (dpV (dpO (rowM ml s) F p (min mo (p - 1))).1 (dpO (rowM ml s) F p (min mo (p - 1))).2.2.2.2 dc), .ref (D 9), .int (nI nr), .ref (D 10), .ref (D 11), .ref (D 12), .ref (D 13), .ref (D 14), .int al, .int wa])) :: (D 2, .inl (G.2.1.2.1, 12, .inl rr)) :: (D 3, .inl (G.2.1.1, 720, .inl ml)) :: (D 4, .inl (G.2.1.1, 60, .inl F)) :: r) "dip") (hs : s < 12) (hb : BD (rowM ml s) F) (hp : 2 ≤ p) (hp2 : p ≤ 600) (hmo : mo ≤ 30) (l0 : Nat) (hl0 : l0 + 1 < p) (hl1 : l0 + 1 ≤ 30) (hK : ∀ (sg : dpT) (ii2 : Int32) (de2 : Int64), sg = dpN (rowM ml s) F p (l0 + 1) (dpO (rowM ml s) F p l0) p → sg.2.2.1 ≤ 30 → J G X mX8_dip ((m, .inr (8, [.int fi, .ref (D 0), .long as, .int (nI ns), .ref (D 1), .ref (D 2), .ref (D 3), .ref (D 4), .ref (D 5), .ref (D 6), .ref (D 7), .ref (D 8), .int ii2, .long de2, .int (dpV sg.1 sg.2.2.1 dl), .int (dpV sg.1 sg.2.2.2.1 dp), .int (dpV sg.1 sg.2.2.2.2 dc), .ref (D 9), .int (nI nr), .ref (D 10), .ref (D 11), .ref (D 12), .ref (D 13), .ref (D 14), .int al, .int wa])) :: (D 2, .inl (G.2.1.2.1, 12, .inl rr)) :: (D 3, .inl (G.2.1.1, 720, .inl ml)) :: (D 4, .inl (G.2.1.1, 60, .inl F)) :: r) 0 0 133 [(0, .ref m), (1, .int (nI s)), (2, .int (nI p)), (3, .int (nI mo)), (4, .int (0 : Int32)), (5, .int (dpV sg.1 sg.2.2.1 (-9))), (6, .long (Int64.ofInt sg.2.1)), (8, .int (nI (l0 + 1)))] []) (f : Nat) (sg : dpT) (ii : Int32) (de : Int64) (hfp : f ≤ p) (hx : sg.2.2.1 ≤ 30) (hgb : dgb sg) (hs9 : sg = dpN (rowM ml s) F p (l0 + 1) (dpO (rowM ml s) F p l0) f) : J G X mX8_dip ((m, .inr (8, [.int fi, .ref (D 0), .long as, .int (nI ns), .ref (D 1), .ref (D 2), .ref (D 3), .ref (D 4), .ref (D 5), .ref (D 6), .ref (D 7), .ref (D 8), .int ii, .long de, .int (dpV sg.1 sg.2.2.1 dl), .int (dpV sg.1 sg.2.2.2.1 dp), .int (dpV sg.1 sg.2.2.2.2 dc), .ref (D 9), .int (nI nr), .ref (D 10), .ref (D 11), .ref (D 12), .ref (D 13), .ref (D 14), .int al, .int wa])) :: (D 2, .inl (G.2.1.2.1, 12, .inl rr)) :: (D 3, .inl (G.2.1.1, 720, .inl ml)) :: (D 4, .inl (G.2.1.1, 60, .inl F)) :: r) 0 0 63 [(0, .ref m), (1, .int (nI s)), (2, .int (nI p)), (3, .int (nI mo)), (4, .int (0 : Int32)), (5, .int (dpV sg.1 sg.2.2.1 (-9))), (6, .long (Int64.ofInt sg.2.1)), (8, .int (nI (l0 + 1))), (9, .int (nI f))] [] := by
  obtain ⟨sb, g, x, y, z⟩ := sg
  have hx : x ≤ 30 := hx
  have hgb : -1000000000 ≤ g ∧ g ≤ 1000000000 := hgb
  have hcle := cI_le (rowM ml s) p (l0 + 1) f
  have hn := nN_le (rowM ml s)
  cases sb with
  | false =>
    show J G X mX8_dip ((m, .inr (8, [.int fi, .ref (D 0), .long as, .int (nI ns), .ref (D 1), .ref (D 2), .ref (D 3), .ref (D 4), .ref (D 5), .ref (D 6), .ref (D 7), .ref (D 8), .int ii, .long de, .int dl, .int dp, .int dc, .ref (D 9), .int (nI nr), .ref (D 10), .ref (D 11), .ref (D 12), .ref (D 13), .ref (D 14), .int al, .int wa])) :: (D 2, .inl (G.2.1.2.1, 12, .inl rr)) :: (D 3, .inl (G.2.1.1, 720, .inl ml)) :: (D 4, .inl (G.2.1.1, 60, .inl F)) :: r) 0 0 63 [(0, .ref m), (1, .int (nI s)), (2, .int (nI p)), (3, .int (nI mo)), (4, .int (0 : Int32)), (5, .int (-9 : Int32)), (6, .long (Int64.ofInt g)), (8, .int (nI (l0 + 1))), (9, .int (nI f))] []
    refine J.iload 8 dX8_dip_63 rfl ?_
    refine J.iload_n 2 dX8_dip_65 rfl ?_
    refine J.icmp_ge dX8_dip_66 (fun h9 => ?_) (fun h9 => ?_)
    · skip
      have h9 : p ≤ f := (nI_leI (a := p) (b := f) (by omega) (by omega)).mp h9
      have e : p = f := by omega
      subst e
      refine J.loc [0, 1, 2, 3, 4, 5, 6, 7] (lv' := [(0, .ref m), (1, .int (nI s)), (2, .int (nI p)), (3, .int (nI mo)), (4, .int (0 : Int32)), (5, .int (-9 : Int32)), (6, .long (Int64.ofInt g)), (8, .int (nI (l0 + 1)))]) rfl ?_
      exact hK (false, g, x, y, z) ii de hs9 hx
    · skip
      have h9 : ¬ p ≤ f := fun z => h9 ((nI_leI (a := p) (b := f) (by omega) (by omega)).mpr z)
      have hfp : f < p := by omega
      refine J.aload_n 0 dX8_dip_69 rfl ?_
      refine J.iload_n 1 dX8_dip_70 rfl ?_
      refine J.iload_n 2 dX8_dip_71 rfl ?_
      refine J.iload 7 dX8_dip_72 rfl ?_
      refine J.iload 8 dX8_dip_74 rfl ?_
      refine J.re [0, 2, 3, 1] 4 (ws2 := (m, .inr (8, [.int fi, .ref (D 0), .long as, .int (nI ns), .ref (D 1), .ref (D 2), .ref (D 3), .ref (D 4), .ref (D 5), .ref (D 6), .ref (D 7), .ref (D 8), .int ii, .long de, .int dl, .int dp, .int dc, .ref (D 9), .int (nI nr), .ref (D 10), .ref (D 11), .ref (D 12), .ref (D 13), .ref (D 14), .int al, .int wa])) :: (D 3, .inl (G.2.1.1, 720, .inl ml)) :: (D 4, .inl (G.2.1.1, 60, .inl F)) :: (D 2, .inl (G.2.1.2.1, 12, .inl rr)) :: r) rfl rfl ?_
      refine J.callV 0 (st := []) B (c_X8_dips l G _ (p := p) (d := l0 + 1) (f := f) hs hb (by omega) hp2 hfp (by omega)) ml_X8_149 mf_yX8_dips mi_yX8_dips rfl dX8_dip_76 rfl rfl rfl rfl (fun v_1 w_2 hp_3 => ?_)
      obtain ⟨rfl, rfl⟩ := hp_3
      refine J.re [0, 3, 1, 2] 4 (ws2 := (m, .inr (8, [.int fi, .ref (D 0), .long as, .int (nI ns), .ref (D 1), .ref (D 2), .ref (D 3), .ref (D 4), .ref (D 5), .ref (D 6), .ref (D 7), .ref (D 8), .int (nI (cI (rowM ml s) p (l0 + 1) f)), .long (Int64.ofInt (dpI (rowM ml s) F p (l0 + 1) f)), .int dl, .int dp, .int dc, .ref (D 9), .int (nI nr), .ref (D 10), .ref (D 11), .ref (D 12), .ref (D 13), .ref (D 14), .int al, .int wa])) :: (D 2, .inl (G.2.1.2.1, 12, .inl rr)) :: (D 3, .inl (G.2.1.1, 720, .inl ml)) :: (D 4, .inl (G.2.1.1, 60, .inl F)) :: r) rfl rfl ?_
      show J G X mX8_dip _ _ _ 79 _ [.int (b01 (decide (0 < cI (rowM ml s) p (l0 + 1) f ∧ cI (rowM ml s) p (l0 + 1) f < nN (rowM ml s))))]
      refine J.if_eq dX8_dip_79 (fun h7 => ?_) (fun h7 => ?_)
      · skip
        have h7 := of_decide_eq_false (b01_0 h7)
        refine J.iinc 8 [1, 2, 3, 4, 5, 6, 7, 8, 0] (lv' := [(0, .ref m), (1, .int (nI s)), (2, .int (nI p)), (3, .int (nI mo)), (4, .int (0 : Int32)), (5, .int (-9 : Int32)), (6, .long (Int64.ofInt g)), (8, .int (nI (l0 + 1))), (9, .int (nI (f + 1)))]) dX8_dip_127 rfl (jinc1 _) rfl rfl ?_
        refine J.goto dX8_dip_130 ?_
        exact X8_dip_in B hs hb hp hp2 hmo l0 hl0 hl1 hK (f + 1) (false, g, x, y, z) _ _ (by omega) hx hgb (by rw [dpN_s, ← hs9]; unfold dpG; rw [if_neg (fun z9 => by first | exact h7 ⟨z9.1, z9.2.1⟩ | exact z9.2.2.elim (fun q => by cases q) (fun q => absurd (show g < dpI (rowM ml s) F p (l0 + 1) f from q) (by omega)))])
      · skip
        have h7 := of_decide_eq_true (b01_1 h7)
        refine J.iload 5 dX8_dip_82 rfl ?_
        refine J.if_lt dX8_dip_84 (fun _ => ?_) (fun z => absurd z (by decide))
        refine J.iload 7 dX8_dip_97 rfl ?_
        refine J.istore [1, 2, 3, 4, 5, 0, 6, 7, 8] (lv' := [(0, .ref m), (1, .int (nI s)), (2, .int (nI p)), (3, .int (nI mo)), (4, .int (0 : Int32)), (5, .int (nI (l0 + 1))), (6, .long (Int64.ofInt g)), (8, .int (nI (l0 + 1))), (9, .int (nI f))]) dX8_dip_99 rfl rfl ?_
        refine J.aload_n 0 dX8_dip_101 rfl ?_
        refine J.get 0 fl_X8_146 dX8_dip_102 rfl rfl ?_
        refine J.lstore [1, 2, 3, 4, 5, 6, 0, 7, 8] (lv' := [(0, .ref m), (1, .int (nI s)), (2, .int (nI p)), (3, .int (nI mo)), (4, .int (0 : Int32)), (5, .int (nI (l0 + 1))), (6, .long (Int64.ofInt (dpI (rowM ml s) F p (l0 + 1) f))), (8, .int (nI (l0 + 1))), (9, .int (nI f))]) dX8_dip_105 rfl rfl ?_
        refine J.aload_n 0 dX8_dip_107 rfl ?_
        refine J.iload 7 dX8_dip_108 rfl ?_
        refine J.put 0 fp_X8_38 dX8_dip_110 rfl (rfl) (rfl) rfl (ws' := (m, .inr (8, [.int fi, .ref (D 0), .long as, .int (nI ns), .ref (D 1), .ref (D 2), .ref (D 3), .ref (D 4), .ref (D 5), .ref (D 6), .ref (D 7), .ref (D 8), .int (nI (cI (rowM ml s) p (l0 + 1) f)), .long (Int64.ofInt (dpI (rowM ml s) F p (l0 + 1) f)), .int (nI (l0 + 1)), .int dp, .int dc, .ref (D 9), .int (nI nr), .ref (D 10), .ref (D 11), .ref (D 12), .ref (D 13), .ref (D 14), .int al, .int wa])) :: (D 2, .inl (G.2.1.2.1, 12, .inl rr)) :: (D 3, .inl (G.2.1.1, 720, .inl ml)) :: (D 4, .inl (G.2.1.1, 60, .inl F)) :: r) rfl ?_
        refine J.aload_n 0 dX8_dip_113 rfl ?_
        refine J.iload 8 dX8_dip_114 rfl ?_
        refine J.put 0 fp_X8_42 dX8_dip_116 rfl (rfl) (rfl) rfl (ws' := (m, .inr (8, [.int fi, .ref (D 0), .long as, .int (nI ns), .ref (D 1), .ref (D 2), .ref (D 3), .ref (D 4), .ref (D 5), .ref (D 6), .ref (D 7), .ref (D 8), .int (nI (cI (rowM ml s) p (l0 + 1) f)), .long (Int64.ofInt (dpI (rowM ml s) F p (l0 + 1) f)), .int (nI (l0 + 1)), .int (nI f), .int dc, .ref (D 9), .int (nI nr), .ref (D 10), .ref (D 11), .ref (D 12), .ref (D 13), .ref (D 14), .int al, .int wa])) :: (D 2, .inl (G.2.1.2.1, 12, .inl rr)) :: (D 3, .inl (G.2.1.1, 720, .inl ml)) :: (D 4, .inl (G.2.1.1, 60, .inl F)) :: r) rfl ?_
        refine J.aload_n 0 dX8_dip_119 rfl ?_
        refine J.aload_n 0 dX8_dip_120 rfl ?_
        refine J.get 0 fl_X8_143 dX8_dip_121 rfl rfl ?_
        refine J.put 0 fp_X8_45 dX8_dip_124 rfl (rfl) (rfl) rfl (ws' := (m, .inr (8, [.int fi, .ref (D 0), .long as, .int (nI ns), .ref (D 1), .ref (D 2), .ref (D 3), .ref (D 4), .ref (D 5), .ref (D 6), .ref (D 7), .ref (D 8), .int (nI (cI (rowM ml s) p (l0 + 1) f)), .long (Int64.ofInt (dpI (rowM ml s) F p (l0 + 1) f)), .int (nI (l0 + 1)), .int (nI f), .int (nI (cI (rowM ml s) p (l0 + 1) f)), .ref (D 9), .int (nI nr), .ref (D 10), .ref (D 11), .ref (D 12), .ref (D 13), .ref (D 14), .int al, .int wa])) :: (D 2, .inl (G.2.1.2.1, 12, .inl rr)) :: (D 3, .inl (G.2.1.1, 720, .inl ml)) :: (D 4, .inl (G.2.1.1, 60, .inl F)) :: r) rfl ?_
        refine J.iinc 8 [1, 2, 3, 4, 5, 6, 7, 8, 0] (lv' := [(0, .ref m), (1, .int (nI s)), (2, .int (nI p)), (3, .int (nI mo)), (4, .int (0 : Int32)), (5, .int (nI (l0 + 1))), (6, .long (Int64.ofInt (dpI (rowM ml s) F p (l0 + 1) f))), (8, .int (nI (l0 + 1))), (9, .int (nI (f + 1)))]) dX8_dip_127 rfl (jinc1 _) rfl rfl ?_
        refine J.goto dX8_dip_130 ?_
        exact X8_dip_in B hs hb hp hp2 hmo l0 hl0 hl1 hK (f + 1) (true, dpI (rowM ml s) F p (l0 + 1) f, l0 + 1, f, cI (rowM ml s) p (l0 + 1) f) _ _ (by omega) hl1 (dpI_bd hb p (l0 + 1) f) (by rw [dpN_s, ← hs9]; unfold dpG; rw [if_pos ⟨h7.1, h7.2, Or.inl rfl⟩])
  | true =>
    show J G X mX8_dip ((m, .inr (8, [.int fi, .ref (D 0), .long as, .int (nI ns), .ref (D 1), .ref (D 2), .ref (D 3), .ref (D 4), .ref (D 5), .ref (D 6), .ref (D 7), .ref (D 8), .int ii, .long de, .int (nI x), .int (nI y), .int (nI z), .ref (D 9), .int (nI nr), .ref (D 10), .ref (D 11), .ref (D 12), .ref (D 13), .ref (D 14), .int al, .int wa])) :: (D 2, .inl (G.2.1.2.1, 12, .inl rr)) :: (D 3, .inl (G.2.1.1, 720, .inl ml)) :: (D 4, .inl (G.2.1.1, 60, .inl F)) :: r) 0 0 63 [(0, .ref m), (1, .int (nI s)), (2, .int (nI p)), (3, .int (nI mo)), (4, .int (0 : Int32)), (5, .int (nI x)), (6, .long (Int64.ofInt g)), (8, .int (nI (l0 + 1))), (9, .int (nI f))] []
    refine J.iload 8 dX8_dip_63 rfl ?_
    refine J.iload_n 2 dX8_dip_65 rfl ?_
    refine J.icmp_ge dX8_dip_66 (fun h9 => ?_) (fun h9 => ?_)
    · skip
      have h9 : p ≤ f := (nI_leI (a := p) (b := f) (by omega) (by omega)).mp h9
      have e : p = f := by omega
      subst e
      refine J.loc [0, 1, 2, 3, 4, 5, 6, 7] (lv' := [(0, .ref m), (1, .int (nI s)), (2, .int (nI p)), (3, .int (nI mo)), (4, .int (0 : Int32)), (5, .int (nI x)), (6, .long (Int64.ofInt g)), (8, .int (nI (l0 + 1)))]) rfl ?_
      exact hK (true, g, x, y, z) ii de hs9 hx
    · skip
      have h9 : ¬ p ≤ f := fun z => h9 ((nI_leI (a := p) (b := f) (by omega) (by omega)).mpr z)
      have hfp : f < p := by omega
      refine J.aload_n 0 dX8_dip_69 rfl ?_
      refine J.iload_n 1 dX8_dip_70 rfl ?_
      refine J.iload_n 2 dX8_dip_71 rfl ?_
      refine J.iload 7 dX8_dip_72 rfl ?_
      refine J.iload 8 dX8_dip_74 rfl ?_
      refine J.re [0, 2, 3, 1] 4 (ws2 := (m, .inr (8, [.int fi, .ref (D 0), .long as, .int (nI ns), .ref (D 1), .ref (D 2), .ref (D 3), .ref (D 4), .ref (D 5), .ref (D 6), .ref (D 7), .ref (D 8), .int ii, .long de, .int (nI x), .int (nI y), .int (nI z), .ref (D 9), .int (nI nr), .ref (D 10), .ref (D 11), .ref (D 12), .ref (D 13), .ref (D 14), .int al, .int wa])) :: (D 3, .inl (G.2.1.1, 720, .inl ml)) :: (D 4, .inl (G.2.1.1, 60, .inl F)) :: (D 2, .inl (G.2.1.2.1, 12, .inl rr)) :: r) rfl rfl ?_
      refine J.callV 0 (st := []) B (c_X8_dips l G _ (p := p) (d := l0 + 1) (f := f) hs hb (by omega) hp2 hfp (by omega)) ml_X8_149 mf_yX8_dips mi_yX8_dips rfl dX8_dip_76 rfl rfl rfl rfl (fun v_1 w_2 hp_3 => ?_)
      obtain ⟨rfl, rfl⟩ := hp_3
      refine J.re [0, 3, 1, 2] 4 (ws2 := (m, .inr (8, [.int fi, .ref (D 0), .long as, .int (nI ns), .ref (D 1), .ref (D 2), .ref (D 3), .ref (D 4), .ref (D 5), .ref (D 6), .ref (D 7), .ref (D 8), .int (nI (cI (rowM ml s) p (l0 + 1) f)), .long (Int64.ofInt (dpI (rowM ml s) F p (l0 + 1) f)), .int (nI x), .int (nI y), .int (nI z), .ref (D 9), .int (nI nr), .ref (D 10), .ref (D 11), .ref (D 12), .ref (D 13), .ref (D 14), .int al, .int wa])) :: (D 2, .inl (G.2.1.2.1, 12, .inl rr)) :: (D 3, .inl (G.2.1.1, 720, .inl ml)) :: (D 4, .inl (G.2.1.1, 60, .inl F)) :: r) rfl rfl ?_
      show J G X mX8_dip _ _ _ 79 _ [.int (b01 (decide (0 < cI (rowM ml s) p (l0 + 1) f ∧ cI (rowM ml s) p (l0 + 1) f < nN (rowM ml s))))]
      refine J.if_eq dX8_dip_79 (fun h7 => ?_) (fun h7 => ?_)
      · skip
        have h7 := of_decide_eq_false (b01_0 h7)
        refine J.iinc 8 [1, 2, 3, 4, 5, 6, 7, 8, 0] (lv' := [(0, .ref m), (1, .int (nI s)), (2, .int (nI p)), (3, .int (nI mo)), (4, .int (0 : Int32)), (5, .int (nI x)), (6, .long (Int64.ofInt g)), (8, .int (nI (l0 + 1))), (9, .int (nI (f + 1)))]) dX8_dip_127 rfl (jinc1 _) rfl rfl ?_
        refine J.goto dX8_dip_130 ?_
        exact X8_dip_in B hs hb hp hp2 hmo l0 hl0 hl1 hK (f + 1) (true, g, x, y, z) _ _ (by omega) hx hgb (by rw [dpN_s, ← hs9]; unfold dpG; rw [if_neg (fun z9 => by first | exact h7 ⟨z9.1, z9.2.1⟩ | exact z9.2.2.elim (fun q => by cases q) (fun q => absurd (show g < dpI (rowM ml s) F p (l0 + 1) f from q) (by omega)))])
      · skip
        have h7 := of_decide_eq_true (b01_1 h7)
        refine J.iload 5 dX8_dip_82 rfl ?_
        refine J.if_lt dX8_dip_84 (fun h5 => ?_) (fun h5 => ?_)
        · skip
          have h5 : x < 0 := (nI_ltI (a := x) (b := 0) (by omega) (by omega)).mp h5
          omega
        · skip
          have h5 : ¬ x < 0 := fun z => h5 ((nI_ltI (a := x) (b := 0) (by omega) (by omega)).mpr z)
          refine J.aload_n 0 dX8_dip_87 rfl ?_
          refine J.get 0 fl_X8_146 dX8_dip_88 rfl rfl ?_
          refine J.lload 6 dX8_dip_91 rfl ?_
          refine J.lcmp dX8_dip_93 ?_
          refine J.if_le dX8_dip_94 (fun h6 => ?_) (fun h6 => ?_)
          · skip
            have h6 := jc_le_t h6
            rw [dep_le (dpI_bd hb p (l0 + 1) f) hgb] at h6
            have h6 : dpI (rowM ml s) F p (l0 + 1) f ≤ g := h6
            refine J.iinc 8 [1, 2, 3, 4, 5, 6, 7, 8, 0] (lv' := [(0, .ref m), (1, .int (nI s)), (2, .int (nI p)), (3, .int (nI mo)), (4, .int (0 : Int32)), (5, .int (nI x)), (6, .long (Int64.ofInt g)), (8, .int (nI (l0 + 1))), (9, .int (nI (f + 1)))]) dX8_dip_127 rfl (jinc1 _) rfl rfl ?_
            refine J.goto dX8_dip_130 ?_
            exact X8_dip_in B hs hb hp hp2 hmo l0 hl0 hl1 hK (f + 1) (true, g, x, y, z) _ _ (by omega) hx hgb (by rw [dpN_s, ← hs9]; unfold dpG; rw [if_neg (fun z9 => by first | exact h7 ⟨z9.1, z9.2.1⟩ | exact z9.2.2.elim (fun q => by cases q) (fun q => absurd (show g < dpI (rowM ml s) F p (l0 + 1) f from q) (by omega)))])
          · skip
            have h6 := jc_le_f h6
            rw [dep_le (dpI_bd hb p (l0 + 1) f) hgb] at h6
            have h6 : ¬ dpI (rowM ml s) F p (l0 + 1) f ≤ g := h6
            refine J.iload 7 dX8_dip_97 rfl ?_
            refine J.istore [1, 2, 3, 4, 5, 0, 6, 7, 8] (lv' := [(0, .ref m), (1, .int (nI s)), (2, .int (nI p)), (3, .int (nI mo)), (4, .int (0 : Int32)), (5, .int (nI (l0 + 1))), (6, .long (Int64.ofInt g)), (8, .int (nI (l0 + 1))), (9, .int (nI f))]) dX8_dip_99 rfl rfl ?_
            refine J.aload_n 0 dX8_dip_101 rfl ?_
            refine J.get 0 fl_X8_146 dX8_dip_102 rfl rfl ?_
            refine J.lstore [1, 2, 3, 4, 5, 6, 0, 7, 8] (lv' := [(0, .ref m), (1, .int (nI s)), (2, .int (nI p)), (3, .int (nI mo)), (4, .int (0 : Int32)), (5, .int (nI (l0 + 1))), (6, .long (Int64.ofInt (dpI (rowM ml s) F p (l0 + 1) f))), (8, .int (nI (l0 + 1))), (9, .int (nI f))]) dX8_dip_105 rfl rfl ?_
            refine J.aload_n 0 dX8_dip_107 rfl ?_
            refine J.iload 7 dX8_dip_108 rfl ?_
            refine J.put 0 fp_X8_38 dX8_dip_110 rfl (rfl) (rfl) rfl (ws' := (m, .inr (8, [.int fi, .ref (D 0), .long as, .int (nI ns), .ref (D 1), .ref (D 2), .ref (D 3), .ref (D 4), .ref (D 5), .ref (D 6), .ref (D 7), .ref (D 8), .int (nI (cI (rowM ml s) p (l0 + 1) f)), .long (Int64.ofInt (dpI (rowM ml s) F p (l0 + 1) f)), .int (nI (l0 + 1)), .int (nI y), .int (nI z), .ref (D 9), .int (nI nr), .ref (D 10), .ref (D 11), .ref (D 12), .ref (D 13), .ref (D 14), .int al, .int wa])) :: (D 2, .inl (G.2.1.2.1, 12, .inl rr)) :: (D 3, .inl (G.2.1.1, 720, .inl ml)) :: (D 4, .inl (G.2.1.1, 60, .inl F)) :: r) rfl ?_
            refine J.aload_n 0 dX8_dip_113 rfl ?_
            refine J.iload 8 dX8_dip_114 rfl ?_
            refine J.put 0 fp_X8_42 dX8_dip_116 rfl (rfl) (rfl) rfl (ws' := (m, .inr (8, [.int fi, .ref (D 0), .long as, .int (nI ns), .ref (D 1), .ref (D 2), .ref (D 3), .ref (D 4), .ref (D 5), .ref (D 6), .ref (D 7), .ref (D 8), .int (nI (cI (rowM ml s) p (l0 + 1) f)), .long (Int64.ofInt (dpI (rowM ml s) F p (l0 + 1) f)), .int (nI (l0 + 1)), .int (nI f), .int (nI z), .ref (D 9), .int (nI nr), .ref (D 10), .ref (D 11), .ref (D 12), .ref (D 13), .ref (D 14), .int al, .int wa])) :: (D 2, .inl (G.2.1.2.1, 12, .inl rr)) :: (D 3, .inl (G.2.1.1, 720, .inl ml)) :: (D 4, .inl (G.2.1.1, 60, .inl F)) :: r) rfl ?_
            refine J.aload_n 0 dX8_dip_119 rfl ?_
            refine J.aload_n 0 dX8_dip_120 rfl ?_
            refine J.get 0 fl_X8_143 dX8_dip_121 rfl rfl ?_
            refine J.put 0 fp_X8_45 dX8_dip_124 rfl (rfl) (rfl) rfl (ws' := (m, .inr (8, [.int fi, .ref (D 0), .long as, .int (nI ns), .ref (D 1), .ref (D 2), .ref (D 3), .ref (D 4), .ref (D 5), .ref (D 6), .ref (D 7), .ref (D 8), .int (nI (cI (rowM ml s) p (l0 + 1) f)), .long (Int64.ofInt (dpI (rowM ml s) F p (l0 + 1) f)), .int (nI (l0 + 1)), .int (nI f), .int (nI (cI (rowM ml s) p (l0 + 1) f)), .ref (D 9), .int (nI nr), .ref (D 10), .ref (D 11), .ref (D 12), .ref (D 13), .ref (D 14), .int al, .int wa])) :: (D 2, .inl (G.2.1.2.1, 12, .inl rr)) :: (D 3, .inl (G.2.1.1, 720, .inl ml)) :: (D 4, .inl (G.2.1.1, 60, .inl F)) :: r) rfl ?_
            refine J.iinc 8 [1, 2, 3, 4, 5, 6, 7, 8, 0] (lv' := [(0, .ref m), (1, .int (nI s)), (2, .int (nI p)), (3, .int (nI mo)), (4, .int (0 : Int32)), (5, .int (nI (l0 + 1))), (6, .long (Int64.ofInt (dpI (rowM ml s) F p (l0 + 1) f))), (8, .int (nI (l0 + 1))), (9, .int (nI (f + 1)))]) dX8_dip_127 rfl (jinc1 _) rfl rfl ?_
            refine J.goto dX8_dip_130 ?_
            exact X8_dip_in B hs hb hp hp2 hmo l0 hl0 hl1 hK (f + 1) (true, dpI (rowM ml s) F p (l0 + 1) f, l0 + 1, f, cI (rowM ml s) p (l0 + 1) f) _ _ (by omega) hl1 (dpI_bd hb p (l0 + 1) f) (by rw [dpN_s, ← hs9]; unfold dpG; rw [if_pos ⟨h7.1, h7.2, Or.inr (show g < dpI (rowM ml s) F p (l0 + 1) f by omega)⟩])
termination_by p - f
decreasing_by all_goals omega
set_option maxHeartbeats 4000000 in
set_option maxRecDepth 100000 in
theorem X8_dip_out {l : Launch} {G : jG} {X : jX} {r : va_W} {m : Nat} {D : Nat → Nat} {fi : Int32} {as : Int64} {ns : Nat} {dl dp dc : Int32} {nr : Nat} {al wa : Int32} {ml F : Nat → Int32} {rr : Nat → Int32} {s p mo : Nat} (B : jB l G X 3 64 0 0 (fun v w => ∃ ii1 de1, v = some (.int (if (dpO (rowM ml s) F p (min mo (p - 1))).1 then nI (dpO (rowM ml s) F p (min mo (p - 1))).2.2.1 else -9)) ∧ w = (m, .inr (8, [.int fi, .ref (D 0), .long as, .int (nI ns), .ref (D 1), .ref (D 2), .ref (D 3), .ref (D 4), .ref (D 5), .ref (D 6), .ref (D 7), .ref (D 8), .int ii1, .long de1, .int (dpV (dpO (rowM ml s) F p (min mo (p - 1))).1 (dpO (rowM ml s) F p (min mo (p - 1))).2.2.1 dl), .int (dpV (dpO (rowM ml s) F p (min mo (p - 1))).1 (dpO (rowM ml s) F p (min mo (p - 1))).2.2.2.1 dp), .int (dpV (dpO (rowM ml s) F p (min mo (p - 1))).1 (dpO (rowM ml s) F p (min mo (p - 1))).2.2.2.2 dc), .ref (D 9), .int (nI nr), .ref (D 10), .ref (D 11), .ref (D 12), .ref (D 13), .ref (D 14), .int al, .int wa])) :: (D 2, .inl (G.2.1.2.1, 12, .inl rr)) :: (D 3, .inl (G.2.1.1, 720, .inl ml)) :: (D 4, .inl (G.2.1.1, 60, .inl F)) :: r) "dip") (l0 : Nat) (ii : Int32) (de : Int64) (hs : s < 12) (hb : BD (rowM ml s) F) (hp : 2 ≤ p) (hp2 : p ≤ 600) (hmo : mo ≤ 30) (hm : l0 ≤ min mo (p - 1)) (hx : (dpO (rowM ml s) F p l0).2.2.1 ≤ 30) : J G X mX8_dip ((m, .inr (8, [.int fi, .ref (D 0), .long as, .int (nI ns), .ref (D 1), .ref (D 2), .ref (D 3), .ref (D 4), .ref (D 5), .ref (D 6), .ref (D 7), .ref (D 8), .int ii, .long de, .int (dpV (dpO (rowM ml s) F p l0).1 (dpO (rowM ml s) F p l0).2.2.1 dl), .int (dpV (dpO (rowM ml s) F p l0).1 (dpO (rowM ml s) F p l0).2.2.2.1 dp), .int (dpV (dpO (rowM ml s) F p l0).1 (dpO (rowM ml s) F p l0).2.2.2.2 dc), .ref (D 9), .int (nI nr), .ref (D 10), .ref (D 11), .ref (D 12), .ref (D 13), .ref (D 14), .int al, .int wa])) :: (D 2, .inl (G.2.1.2.1, 12, .inl rr)) :: (D 3, .inl (G.2.1.1, 720, .inl ml)) :: (D 4, .inl (G.2.1.1, 60, .inl F)) :: r) 0 0 48 [(0, .ref m), (1, .int (nI s)), (2, .int (nI p)), (3, .int (nI mo)), (4, .int (0 : Int32)), (5, .int (dpV (dpO (rowM ml s) F p l0).1 (dpO (rowM ml s) F p l0).2.2.1 (-9))), (6, .long (Int64.ofInt ((dpO (rowM ml s) F p l0).2.1))), (8, .int (nI (l0 + 1)))] [] := by
  have hmm : min mo (p - 1) ≤ mo := Nat.min_le_left _ _
  have hmp : min mo (p - 1) ≤ p - 1 := Nat.min_le_right _ _
  refine J.iload 7 dX8_dip_48 rfl ?_
  refine J.iload_n 3 dX8_dip_50 rfl ?_
  refine J.icmp_gt dX8_dip_51 (fun h9 => ?_) (fun h9 => ?_)
  · skip
    have h9 : mo < (l0 + 1) := (nI_ltI (a := mo) (b := (l0 + 1)) (by omega) (by omega)).mp h9
    have e : l0 = min mo (p - 1) := by omega
    subst e
    refine J.iload 5 dX8_dip_139 rfl ?_
    exact J.iret B dX8_dip_141 rfl (⟨ii, de, rfl, rfl⟩)
  · skip
    have h9 : ¬ mo < (l0 + 1) := fun z => h9 ((nI_ltI (a := mo) (b := (l0 + 1)) (by omega) (by omega)).mpr z)
    refine J.iload 7 dX8_dip_54 rfl ?_
    refine J.iload_n 2 dX8_dip_56 rfl ?_
    refine J.icmp_ge dX8_dip_57 (fun h8 => ?_) (fun h8 => ?_)
    · skip
      have h8 : p ≤ (l0 + 1) := (nI_leI (a := p) (b := (l0 + 1)) (by omega) (by omega)).mp h8
      have e : l0 = min mo (p - 1) := by omega
      subst e
      refine J.iload 5 dX8_dip_139 rfl ?_
      exact J.iret B dX8_dip_141 rfl (⟨ii, de, rfl, rfl⟩)
    · skip
      have h8 : ¬ p ≤ (l0 + 1) := fun z => h8 ((nI_leI (a := p) (b := (l0 + 1)) (by omega) (by omega)).mpr z)
      refine J.iconst (0 : Int32) dX8_dip_60 rfl ?_
      refine J.istore [1, 2, 3, 4, 5, 6, 7, 8, 0] (lv' := [(0, .ref m), (1, .int (nI s)), (2, .int (nI p)), (3, .int (nI mo)), (4, .int (0 : Int32)), (5, .int (dpV (dpO (rowM ml s) F p l0).1 (dpO (rowM ml s) F p l0).2.2.1 (-9))), (6, .long (Int64.ofInt ((dpO (rowM ml s) F p l0).2.1))), (8, .int (nI (l0 + 1))), (9, .int (0 : Int32))]) dX8_dip_61 rfl rfl ?_
      refine X8_dip_in B hs hb hp hp2 hmo l0 (by omega) (by omega) (fun sg ii2 de2 h1 h2 => ?_) 0 (dpO (rowM ml s) F p l0) ii de (by omega) hx (dpO_bd hb l0) rfl
      rw [← dpO_s] at h1
      subst h1
      refine J.iinc 7 [1, 2, 3, 4, 5, 6, 7, 0] (lv' := [(0, .ref m), (1, .int (nI s)), (2, .int (nI p)), (3, .int (nI mo)), (4, .int (0 : Int32)), (5, .int (dpV (dpO (rowM ml s) F p (l0 + 1)).1 (dpO (rowM ml s) F p (l0 + 1)).2.2.1 (-9))), (6, .long (Int64.ofInt ((dpO (rowM ml s) F p (l0 + 1)).2.1))), (8, .int (nI (l0 + 1 + 1)))]) dX8_dip_133 rfl (jinc1 _) rfl rfl ?_
      refine J.goto dX8_dip_136 ?_
      exact X8_dip_out B (l0 + 1) ii2 de2 hs hb hp hp2 hmo (by omega) h2
termination_by p - l0
decreasing_by all_goals omega
set_option maxHeartbeats 4000000 in
set_option maxRecDepth 100000 in
theorem r_dip (l : Launch) (G : jG) (r : va_W) {m : Nat} {D : Nat → Nat} {fi : Int32} {as : Int64} {ns : Nat} {ii : Int32} {de : Int64} {dl dp dc : Int32} {nr : Nat} {al wa : Int32} {rr : Nat → Int32} {s : Nat} (hk : s < ns) (hns : ns ≤ 12) {ml F : Nat → Int32} (hr : ¬ rr s = 0) (hb : BD (rowM ml s) F) {p mo : Nat} (hp : 2 ≤ p) (hp2 : p ≤ 600) (hm1 : 1 ≤ mo) (hmo : mo ≤ 30) : Mt l G yX8_dip mX8_dip 3 64 0 0 [.ref m, .int (nI s), .int (nI p), .int (nI mo)] ((m, .inr (8, [.int fi, .ref (D 0), .long as, .int (nI ns), .ref (D 1), .ref (D 2), .ref (D 3), .ref (D 4), .ref (D 5), .ref (D 6), .ref (D 7), .ref (D 8), .int ii, .long de, .int dl, .int dp, .int dc, .ref (D 9), .int (nI nr), .ref (D 10), .ref (D 11), .ref (D 12), .ref (D 13), .ref (D 14), .int al, .int wa])) :: (D 2, .inl (G.2.1.2.1, 12, .inl rr)) :: (D 3, .inl (G.2.1.1, 720, .inl ml)) :: (D 4, .inl (G.2.1.1, 60, .inl F)) :: r) (fun v w => ∃ ii1 de1, v = some (.int (if (dpO (rowM ml s) F p (min mo (p - 1))).1 then nI (dpO (rowM ml s) F p (min mo (p - 1))).2.2.1 else -9)) ∧ w = (m, .inr (8, [.int fi, .ref (D 0), .long as, .int (nI ns), .ref (D 1), .ref (D 2), .ref (D 3), .ref (D 4), .ref (D 5), .ref (D 6), .ref (D 7), .ref (D 8), .int ii1, .long de1, .int (dpV (dpO (rowM ml s) F p (min mo (p - 1))).1 (dpO (rowM ml s) F p (min mo (p - 1))).2.2.1 dl), .int (dpV (dpO (rowM ml s) F p (min mo (p - 1))).1 (dpO (rowM ml s) F p (min mo (p - 1))).2.2.2.1 dp), .int (dpV (dpO (rowM ml s) F p (min mo (p - 1))).1 (dpO (rowM ml s) F p (min mo (p - 1))).2.2.2.2 dc), .ref (D 9), .int (nI nr), .ref (D 10), .ref (D 11), .ref (D 12), .ref (D 13), .ref (D 14), .int al, .int wa])) :: (D 2, .inl (G.2.1.2.1, 12, .inl rr)) :: (D 3, .inl (G.2.1.1, 720, .inl ml)) :: (D 4, .inl (G.2.1.1, 60, .inl F)) :: r) := by
  refine Mt.of (by decide +kernel) rfl rfl (fun X B => ?_)
  show J G X mX8_dip ((m, .inr (8, [.int fi, .ref (D 0), .long as, .int (nI ns), .ref (D 1), .ref (D 2), .ref (D 3), .ref (D 4), .ref (D 5), .ref (D 6), .ref (D 7), .ref (D 8), .int ii, .long de, .int dl, .int dp, .int dc, .ref (D 9), .int (nI nr), .ref (D 10), .ref (D 11), .ref (D 12), .ref (D 13), .ref (D 14), .int al, .int wa])) :: (D 2, .inl (G.2.1.2.1, 12, .inl rr)) :: (D 3, .inl (G.2.1.1, 720, .inl ml)) :: (D 4, .inl (G.2.1.1, 60, .inl F)) :: r) 0 0 0 [(0, .ref m), (1, .int (nI s)), (2, .int (nI p)), (3, .int (nI mo))] []
  have hs : s < 12 := by omega
  have hpi : inR (nI p) 2 600 = true := by rw [nI_inR (by omega)]; exact decide_eq_true ⟨by omega, by omega⟩
  have hmi : inR (nI mo) 1 30 = true := by rw [nI_inR (by omega)]; exact decide_eq_true ⟨by omega, by omega⟩
  refine J.iload_n 2 dX8_dip_0 rfl ?_
  refine J.iconst (2 : Int32) dX8_dip_1 rfl ?_
  refine J.sipush (600 : Int32) dX8_dip_2 rfl ?_
  refine J.callS (st := []) B (c_X8_in l G _ (v := nI p) (lo := (2 : Int32)) (hi := (600 : Int32)) (a := 2) (b := 600) rfl rfl) ml_X8_76 mf_yX8_in mS_yX8_in dX8_dip_5 rfl rfl rfl (fun v_1 w_2 hp_3 => ?_)
  obtain ⟨rfl, rfl⟩ := hp_3
  show J G X mX8_dip _ _ _ 8 _ [.int (b01 (inR (nI p) 2 600))]
  refine J.if_eq dX8_dip_8 (fun z => absurd z (by rw [hpi]; decide)) (fun h9 => ?_)
  refine J.iload_n 3 dX8_dip_11 rfl ?_
  refine J.iconst (1 : Int32) dX8_dip_12 rfl ?_
  refine J.bipush (30 : Int32) dX8_dip_13 rfl ?_
  refine J.callS (st := []) B (c_X8_in l G _ (v := nI mo) (lo := (1 : Int32)) (hi := (30 : Int32)) (a := 1) (b := 30) rfl rfl) ml_X8_76 mf_yX8_in mS_yX8_in dX8_dip_15 rfl rfl rfl (fun v_4 w_5 hp_6 => ?_)
  obtain ⟨rfl, rfl⟩ := hp_6
  show J G X mX8_dip _ _ _ 18 _ [.int (b01 (inR (nI mo) 1 30))]
  refine J.if_ne dX8_dip_18 (fun h9 => ?_) (fun z => absurd z (by rw [hmi]; decide))
  refine J.aload_n 0 dX8_dip_23 rfl ?_
  refine J.iload_n 1 dX8_dip_24 rfl ?_
  refine J.callV 0 (st := []) B (c_X8_looked l G _ (k := s) hk hns hr) ml_X8_108 mf_yX8_looked mi_yX8_looked rfl dX8_dip_25 rfl rfl rfl rfl (fun v_7 w_8 hp_9 => ?_)
  obtain ⟨rfl, rfl⟩ := hp_9
  show J G X mX8_dip _ _ _ 28 _ [.int (0 : Int32)]
  refine J.istore [1, 2, 3, 4, 0] (lv' := [(0, .ref m), (1, .int (nI s)), (2, .int (nI p)), (3, .int (nI mo)), (4, .int (0 : Int32))]) dX8_dip_28 rfl rfl ?_
  refine J.iload 4 dX8_dip_30 rfl ?_
  refine J.if_ge dX8_dip_32 (fun _ => ?_) (fun z => absurd z (by decide))
  refine J.bipush (-9 : Int32) dX8_dip_38 rfl ?_
  refine J.istore [1, 2, 3, 4, 5, 0] (lv' := [(0, .ref m), (1, .int (nI s)), (2, .int (nI p)), (3, .int (nI mo)), (4, .int (0 : Int32)), (5, .int (-9 : Int32))]) dX8_dip_40 rfl rfl ?_
  refine J.lconst 0 dX8_dip_42 rfl ?_
  refine J.lstore [1, 2, 3, 4, 5, 6, 0] (lv' := [(0, .ref m), (1, .int (nI s)), (2, .int (nI p)), (3, .int (nI mo)), (4, .int (0 : Int32)), (5, .int (-9 : Int32)), (6, .long (0 : Int64))]) dX8_dip_43 rfl rfl ?_
  refine J.iconst (1 : Int32) dX8_dip_45 rfl ?_
  refine J.istore [1, 2, 3, 4, 5, 6, 7, 0] (lv' := [(0, .ref m), (1, .int (nI s)), (2, .int (nI p)), (3, .int (nI mo)), (4, .int (0 : Int32)), (5, .int (-9 : Int32)), (6, .long (0 : Int64)), (8, .int (1 : Int32))]) dX8_dip_46 rfl rfl ?_
  exact X8_dip_out B 0 ii de hs hb hp hp2 hmo (by omega) (show (0 : Nat) ≤ 30 by decide)
set_option maxHeartbeats 4000000 in
set_option maxRecDepth 100000 in
theorem r_dipOf_bad (l : Launch) (G : jG) (r : va_W) {m : Nat} {D : Nat → Nat} {fi : Int32} {as : Int64} {ns : Nat} {ii : Int32} {de : Int64} {dl dp dc : Int32} {nr : Nat} {al wa : Int32} {a : Int32} (ha : inR a 0 2 = false) : Mt l G yX8_dipOf mX8_dipOf 0 0 0 0 [.ref m, .int a] ((m, .inr (8, [.int fi, .ref (D 0), .long as, .int (nI ns), .ref (D 1), .ref (D 2), .ref (D 3), .ref (D 4), .ref (D 5), .ref (D 6), .ref (D 7), .ref (D 8), .int ii, .long de, .int dl, .int dp, .int dc, .ref (D 9), .int (nI nr), .ref (D 10), .ref (D 11), .ref (D 12), .ref (D 13), .ref (D 14), .int al, .int wa])) :: r) (fun v w => v = some (.int (-1 : Int32)) ∧ w = (m, .inr (8, [.int fi, .ref (D 0), .long as, .int (nI ns), .ref (D 1), .ref (D 2), .ref (D 3), .ref (D 4), .ref (D 5), .ref (D 6), .ref (D 7), .ref (D 8), .int ii, .long de, .int dl, .int dp, .int dc, .ref (D 9), .int (nI nr), .ref (D 10), .ref (D 11), .ref (D 12), .ref (D 13), .ref (D 14), .int al, .int wa])) :: r) := by
  refine Mt.of (by decide +kernel) rfl rfl (fun X B => ?_)
  show J G X mX8_dipOf ((m, .inr (8, [.int fi, .ref (D 0), .long as, .int (nI ns), .ref (D 1), .ref (D 2), .ref (D 3), .ref (D 4), .ref (D 5), .ref (D 6), .ref (D 7), .ref (D 8), .int ii, .long de, .int dl, .int dp, .int dc, .ref (D 9), .int (nI nr), .ref (D 10), .ref (D 11), .ref (D 12), .ref (D 13), .ref (D 14), .int al, .int wa])) :: r) 0 0 0 [(0, .ref m), (1, .int a)] []
  refine J.iload_n 1 dX8_dipOf_0 rfl ?_
  refine J.if_ne dX8_dipOf_1 (fun h9 => ?_) (fun h9 => ?_)
  · skip
    refine J.iload_n 1 dX8_dipOf_11 rfl ?_
    refine J.iconst (1 : Int32) dX8_dipOf_12 rfl ?_
    refine J.icmp_ne dX8_dipOf_13 (fun h8 => ?_) (fun h8 => ?_)
    · skip
      refine J.iload_n 1 dX8_dipOf_23 rfl ?_
      refine J.iconst (2 : Int32) dX8_dipOf_24 rfl ?_
      refine J.icmp_ne dX8_dipOf_25 (fun h7 => ?_) (fun h7 => ?_)
      · skip
        refine J.iconst (-1 : Int32) dX8_dipOf_35 rfl ?_
        exact J.iret B dX8_dipOf_36 rfl (⟨rfl, rfl⟩)
      · skip
        subst h7; exact absurd ha (by decide)
    · skip
      subst h8; exact absurd ha (by decide)
  · skip
    subst h9; exact absurd ha (by decide)
set_option maxHeartbeats 4000000 in
set_option maxRecDepth 100000 in
theorem r_dipOf0 (l : Launch) (G : jG) (r : va_W) {m : Nat} {D : Nat → Nat} {fi : Int32} {as : Int64} {ns : Nat} {ii : Int32} {de : Int64} {dl dp dc : Int32} {nr : Nat} {al wa : Int32} : Mt l G yX8_dipOf mX8_dipOf 0 0 0 0 [.ref m, .int (0 : Int32)] ((m, .inr (8, [.int fi, .ref (D 0), .long as, .int (nI ns), .ref (D 1), .ref (D 2), .ref (D 3), .ref (D 4), .ref (D 5), .ref (D 6), .ref (D 7), .ref (D 8), .int ii, .long de, .int dl, .int dp, .int dc, .ref (D 9), .int (nI nr), .ref (D 10), .ref (D 11), .ref (D 12), .ref (D 13), .ref (D 14), .int al, .int wa])) :: r) (fun v w => v = some (.int dl) ∧ w = (m, .inr (8, [.int fi, .ref (D 0), .long as, .int (nI ns), .ref (D 1), .ref (D 2), .ref (D 3), .ref (D 4), .ref (D 5), .ref (D 6), .ref (D 7), .ref (D 8), .int ii, .long de, .int dl, .int dp, .int dc, .ref (D 9), .int (nI nr), .ref (D 10), .ref (D 11), .ref (D 12), .ref (D 13), .ref (D 14), .int al, .int wa])) :: r) := by
  refine Mt.of (by decide +kernel) rfl rfl (fun X B => ?_)
  show J G X mX8_dipOf ((m, .inr (8, [.int fi, .ref (D 0), .long as, .int (nI ns), .ref (D 1), .ref (D 2), .ref (D 3), .ref (D 4), .ref (D 5), .ref (D 6), .ref (D 7), .ref (D 8), .int ii, .long de, .int dl, .int dp, .int dc, .ref (D 9), .int (nI nr), .ref (D 10), .ref (D 11), .ref (D 12), .ref (D 13), .ref (D 14), .int al, .int wa])) :: r) 0 0 0 [(0, .ref m), (1, .int (0 : Int32))] []
  refine J.iload_n 1 dX8_dipOf_0 rfl ?_
  refine J.if_ne dX8_dipOf_1 (fun z => absurd z (by decide)) (fun _ => ?_)
  refine J.aload_n 0 dX8_dipOf_4 rfl ?_
  refine J.get 0 fl_X8_38 dX8_dipOf_5 rfl rfl ?_
  refine J.goto dX8_dipOf_8 ?_
  exact J.iret B dX8_dipOf_36 rfl (⟨rfl, rfl⟩)
set_option maxHeartbeats 4000000 in
set_option maxRecDepth 100000 in
theorem r_dipOf1 (l : Launch) (G : jG) (r : va_W) {m : Nat} {D : Nat → Nat} {fi : Int32} {as : Int64} {ns : Nat} {ii : Int32} {de : Int64} {dl dp dc : Int32} {nr : Nat} {al wa : Int32} : Mt l G yX8_dipOf mX8_dipOf 0 0 0 0 [.ref m, .int (1 : Int32)] ((m, .inr (8, [.int fi, .ref (D 0), .long as, .int (nI ns), .ref (D 1), .ref (D 2), .ref (D 3), .ref (D 4), .ref (D 5), .ref (D 6), .ref (D 7), .ref (D 8), .int ii, .long de, .int dl, .int dp, .int dc, .ref (D 9), .int (nI nr), .ref (D 10), .ref (D 11), .ref (D 12), .ref (D 13), .ref (D 14), .int al, .int wa])) :: r) (fun v w => v = some (.int dp) ∧ w = (m, .inr (8, [.int fi, .ref (D 0), .long as, .int (nI ns), .ref (D 1), .ref (D 2), .ref (D 3), .ref (D 4), .ref (D 5), .ref (D 6), .ref (D 7), .ref (D 8), .int ii, .long de, .int dl, .int dp, .int dc, .ref (D 9), .int (nI nr), .ref (D 10), .ref (D 11), .ref (D 12), .ref (D 13), .ref (D 14), .int al, .int wa])) :: r) := by
  refine Mt.of (by decide +kernel) rfl rfl (fun X B => ?_)
  show J G X mX8_dipOf ((m, .inr (8, [.int fi, .ref (D 0), .long as, .int (nI ns), .ref (D 1), .ref (D 2), .ref (D 3), .ref (D 4), .ref (D 5), .ref (D 6), .ref (D 7), .ref (D 8), .int ii, .long de, .int dl, .int dp, .int dc, .ref (D 9), .int (nI nr), .ref (D 10), .ref (D 11), .ref (D 12), .ref (D 13), .ref (D 14), .int al, .int wa])) :: r) 0 0 0 [(0, .ref m), (1, .int (1 : Int32))] []
  refine J.iload_n 1 dX8_dipOf_0 rfl ?_
  refine J.if_ne dX8_dipOf_1 (fun _ => ?_) (fun z => absurd z (by decide))
  refine J.iload_n 1 dX8_dipOf_11 rfl ?_
  refine J.iconst (1 : Int32) dX8_dipOf_12 rfl ?_
  refine J.icmp_ne dX8_dipOf_13 (fun z => absurd z (by decide)) (fun _ => ?_)
  refine J.aload_n 0 dX8_dipOf_16 rfl ?_
  refine J.get 0 fl_X8_42 dX8_dipOf_17 rfl rfl ?_
  refine J.goto dX8_dipOf_20 ?_
  exact J.iret B dX8_dipOf_36 rfl (⟨rfl, rfl⟩)
set_option maxHeartbeats 4000000 in
set_option maxRecDepth 100000 in
theorem r_dipOf2 (l : Launch) (G : jG) (r : va_W) {m : Nat} {D : Nat → Nat} {fi : Int32} {as : Int64} {ns : Nat} {ii : Int32} {de : Int64} {dl dp dc : Int32} {nr : Nat} {al wa : Int32} : Mt l G yX8_dipOf mX8_dipOf 0 0 0 0 [.ref m, .int (2 : Int32)] ((m, .inr (8, [.int fi, .ref (D 0), .long as, .int (nI ns), .ref (D 1), .ref (D 2), .ref (D 3), .ref (D 4), .ref (D 5), .ref (D 6), .ref (D 7), .ref (D 8), .int ii, .long de, .int dl, .int dp, .int dc, .ref (D 9), .int (nI nr), .ref (D 10), .ref (D 11), .ref (D 12), .ref (D 13), .ref (D 14), .int al, .int wa])) :: r) (fun v w => v = some (.int dc) ∧ w = (m, .inr (8, [.int fi, .ref (D 0), .long as, .int (nI ns), .ref (D 1), .ref (D 2), .ref (D 3), .ref (D 4), .ref (D 5), .ref (D 6), .ref (D 7), .ref (D 8), .int ii, .long de, .int dl, .int dp, .int dc, .ref (D 9), .int (nI nr), .ref (D 10), .ref (D 11), .ref (D 12), .ref (D 13), .ref (D 14), .int al, .int wa])) :: r) := by
  refine Mt.of (by decide +kernel) rfl rfl (fun X B => ?_)
  show J G X mX8_dipOf ((m, .inr (8, [.int fi, .ref (D 0), .long as, .int (nI ns), .ref (D 1), .ref (D 2), .ref (D 3), .ref (D 4), .ref (D 5), .ref (D 6), .ref (D 7), .ref (D 8), .int ii, .long de, .int dl, .int dp, .int dc, .ref (D 9), .int (nI nr), .ref (D 10), .ref (D 11), .ref (D 12), .ref (D 13), .ref (D 14), .int al, .int wa])) :: r) 0 0 0 [(0, .ref m), (1, .int (2 : Int32))] []
  refine J.iload_n 1 dX8_dipOf_0 rfl ?_
  refine J.if_ne dX8_dipOf_1 (fun _ => ?_) (fun z => absurd z (by decide))
  refine J.iload_n 1 dX8_dipOf_11 rfl ?_
  refine J.iconst (1 : Int32) dX8_dipOf_12 rfl ?_
  refine J.icmp_ne dX8_dipOf_13 (fun _ => ?_) (fun z => absurd z (by decide))
  refine J.iload_n 1 dX8_dipOf_23 rfl ?_
  refine J.iconst (2 : Int32) dX8_dipOf_24 rfl ?_
  refine J.icmp_ne dX8_dipOf_25 (fun z => absurd z (by decide)) (fun _ => ?_)
  refine J.aload_n 0 dX8_dipOf_28 rfl ?_
  refine J.get 0 fl_X8_45 dX8_dipOf_29 rfl rfl ?_
  refine J.goto dX8_dipOf_32 ?_
  exact J.iret B dX8_dipOf_36 rfl (⟨rfl, rfl⟩)
