theorem low_in {i : Int32} {n : Nat} (h : n ≤ 60) : inR i 0 ((n : Int) - 1) = decide (0 ≤ i ∧ i < nI n) := by
  unfold inR
  rw [decide_eq_decide, fa_le, fa_lt, nI_toInt (by omega)]
  show _ ↔ (0 : Int) ≤ i.toInt ∧ _
  omega
set_option maxHeartbeats 4000000 in
set_option maxRecDepth 100000 in
theorem r_lows_d (l : Launch) (G : jG) (r : va_W) {m : Nat} {D : Nat → Nat} {fi : Int32} {as : Int64} {ns : Nat} {ii : Int32} {de : Int64} {dl dp dc : Int32} {nr : Nat} {al wa : Int32} {num : Int32} {d : Int32} (hd : inR d 1 10000 = false) : Mt l G yX8_lows mX8_lows 4 97 0 0 [.ref m, .int num, .int d] ((m, .inr (8, [.int fi, .ref (D 0), .long as, .int (nI ns), .ref (D 1), .ref (D 2), .ref (D 3), .ref (D 4), .ref (D 5), .ref (D 6), .ref (D 7), .ref (D 8), .int ii, .long de, .int dl, .int dp, .int dc, .ref (D 9), .int (nI nr), .ref (D 10), .ref (D 11), .ref (D 12), .ref (D 13), .ref (D 14), .int al, .int wa])) :: r) (fun v w => v = some (.int (-1 : Int32)) ∧ w = (m, .inr (8, [.int fi, .ref (D 0), .long as, .int (nI ns), .ref (D 1), .ref (D 2), .ref (D 3), .ref (D 4), .ref (D 5), .ref (D 6), .ref (D 7), .ref (D 8), .int ii, .long de, .int dl, .int dp, .int dc, .ref (D 9), .int (nI nr), .ref (D 10), .ref (D 11), .ref (D 12), .ref (D 13), .ref (D 14), .int al, .int wa])) :: r) := by
  refine Mt.of (by decide +kernel) rfl rfl (fun X B => ?_)
  show J G X mX8_lows ((m, .inr (8, [.int fi, .ref (D 0), .long as, .int (nI ns), .ref (D 1), .ref (D 2), .ref (D 3), .ref (D 4), .ref (D 5), .ref (D 6), .ref (D 7), .ref (D 8), .int ii, .long de, .int dl, .int dp, .int dc, .ref (D 9), .int (nI nr), .ref (D 10), .ref (D 11), .ref (D 12), .ref (D 13), .ref (D 14), .int al, .int wa])) :: r) 0 0 0 [(0, .ref m), (1, .int num), (2, .int d)] []
  refine J.aload_n 0 dX8_lows_0 rfl ?_
  refine J.iload_n 1 dX8_lows_1 rfl ?_
  refine J.iload_n 2 dX8_lows_2 rfl ?_
  refine J.callV 0 (st := []) B (c_X8_lowsOf_d l G _ hd) ml_X8_153 mf_yX8_lowsOf mi_yX8_lowsOf rfl dX8_lows_3 rfl rfl rfl rfl (fun v_1 w_2 hp_3 => ?_)
  obtain ⟨rfl, rfl⟩ := hp_3
  show J G X mX8_lows _ _ _ 6 _ [.int (-1 : Int32)]
  exact J.iret B dX8_lows_6 rfl (⟨rfl, rfl⟩)
set_option maxHeartbeats 4000000 in
set_option maxRecDepth 100000 in
theorem r_lows_bad (l : Launch) (G : jG) (r : va_W) {m : Nat} {D : Nat → Nat} {fi : Int32} {as : Int64} {ns : Nat} {ii : Int32} {de : Int64} {dl dp dc : Int32} {nr : Nat} {al wa : Int32} {rr : Nat → Int32} {num : Int32} (hns : ns ≤ 12) (hnum : inR num 0 ((ns : Int) - 1) = false) {d : Int32} (hd : inR d 1 10000 = true) : Mt l G yX8_lows mX8_lows 4 97 0 0 [.ref m, .int num, .int d] ((m, .inr (8, [.int fi, .ref (D 0), .long as, .int (nI ns), .ref (D 1), .ref (D 2), .ref (D 3), .ref (D 4), .ref (D 5), .ref (D 6), .ref (D 7), .ref (D 8), .int ii, .long de, .int dl, .int dp, .int dc, .ref (D 9), .int (nI nr), .ref (D 10), .ref (D 11), .ref (D 12), .ref (D 13), .ref (D 14), .int al, .int wa])) :: (D 2, .inl (G.2.1.2.1, 12, .inl rr)) :: r) (fun v w => v = some (.int (-1 : Int32)) ∧ w = (m, .inr (8, [.int fi, .ref (D 0), .long as, .int (nI ns), .ref (D 1), .ref (D 2), .ref (D 3), .ref (D 4), .ref (D 5), .ref (D 6), .ref (D 7), .ref (D 8), .int ii, .long de, .int dl, .int dp, .int dc, .ref (D 9), .int (nI nr), .ref (D 10), .ref (D 11), .ref (D 12), .ref (D 13), .ref (D 14), .int al, .int wa])) :: (D 2, .inl (G.2.1.2.1, 12, .inl rr)) :: r) := by
  refine Mt.of (by decide +kernel) rfl rfl (fun X B => ?_)
  show J G X mX8_lows ((m, .inr (8, [.int fi, .ref (D 0), .long as, .int (nI ns), .ref (D 1), .ref (D 2), .ref (D 3), .ref (D 4), .ref (D 5), .ref (D 6), .ref (D 7), .ref (D 8), .int ii, .long de, .int dl, .int dp, .int dc, .ref (D 9), .int (nI nr), .ref (D 10), .ref (D 11), .ref (D 12), .ref (D 13), .ref (D 14), .int al, .int wa])) :: (D 2, .inl (G.2.1.2.1, 12, .inl rr)) :: r) 0 0 0 [(0, .ref m), (1, .int num), (2, .int d)] []
  refine J.aload_n 0 dX8_lows_0 rfl ?_
  refine J.iload_n 1 dX8_lows_1 rfl ?_
  refine J.iload_n 2 dX8_lows_2 rfl ?_
  refine J.callV 0 (st := []) B (c_X8_lowsOf_bad l G _ hns hnum hd) ml_X8_153 mf_yX8_lowsOf mi_yX8_lowsOf rfl dX8_lows_3 rfl rfl rfl rfl (fun v_1 w_2 hp_3 => ?_)
  obtain ⟨rfl, rfl⟩ := hp_3
  show J G X mX8_lows _ _ _ 6 _ [.int (-1 : Int32)]
  exact J.iret B dX8_lows_6 rfl (⟨rfl, rfl⟩)
set_option maxHeartbeats 4000000 in
set_option maxRecDepth 100000 in
theorem r_lows_no (l : Launch) (G : jG) (r : va_W) {m : Nat} {D : Nat → Nat} {fi : Int32} {as : Int64} {ns : Nat} {ii : Int32} {de : Int64} {dl dp dc : Int32} {nr : Nat} {al wa : Int32} {rr : Nat → Int32} {s : Nat} (hk : s < ns) (hns : ns ≤ 12) {fc : Nat → Int32} (hr : rr s = 0) {d : Int32} (hd : inR d 1 10000 = true) : Mt l G yX8_lows mX8_lows 4 97 0 0 [.ref m, .int (nI s), .int d] ((m, .inr (8, [.int fi, .ref (D 0), .long as, .int (nI ns), .ref (D 1), .ref (D 2), .ref (D 3), .ref (D 4), .ref (D 5), .ref (D 6), .ref (D 7), .ref (D 8), .int ii, .long de, .int dl, .int dp, .int dc, .ref (D 9), .int (nI nr), .ref (D 10), .ref (D 11), .ref (D 12), .ref (D 13), .ref (D 14), .int al, .int wa])) :: (D 2, .inl (G.2.1.2.1, 12, .inl rr)) :: (D 0, .inl (G.2.1.1, 6, .inl fc)) :: r) (fun v w => v = some (.int (-3 : Int32)) ∧ w = (m, .inr (8, [.int (nI 1), .ref (D 0), .long as, .int (nI ns), .ref (D 1), .ref (D 2), .ref (D 3), .ref (D 4), .ref (D 5), .ref (D 6), .ref (D 7), .ref (D 8), .int ii, .long de, .int dl, .int dp, .int dc, .ref (D 9), .int (nI nr), .ref (D 10), .ref (D 11), .ref (D 12), .ref (D 13), .ref (D 14), .int al, .int wa])) :: (D 2, .inl (G.2.1.2.1, 12, .inl rr)) :: (D 0, .inl (G.2.1.1, 6, .inl (upd fc 1 (fc 1 + 1)))) :: r) := by
  refine Mt.of (by decide +kernel) rfl rfl (fun X B => ?_)
  show J G X mX8_lows ((m, .inr (8, [.int fi, .ref (D 0), .long as, .int (nI ns), .ref (D 1), .ref (D 2), .ref (D 3), .ref (D 4), .ref (D 5), .ref (D 6), .ref (D 7), .ref (D 8), .int ii, .long de, .int dl, .int dp, .int dc, .ref (D 9), .int (nI nr), .ref (D 10), .ref (D 11), .ref (D 12), .ref (D 13), .ref (D 14), .int al, .int wa])) :: (D 2, .inl (G.2.1.2.1, 12, .inl rr)) :: (D 0, .inl (G.2.1.1, 6, .inl fc)) :: r) 0 0 0 [(0, .ref m), (1, .int (nI s)), (2, .int d)] []
  refine J.aload_n 0 dX8_lows_0 rfl ?_
  refine J.iload_n 1 dX8_lows_1 rfl ?_
  refine J.iload_n 2 dX8_lows_2 rfl ?_
  refine J.callV 0 (st := []) B (c_X8_lowsOf_no l G _ hk hns hr hd) ml_X8_153 mf_yX8_lowsOf mi_yX8_lowsOf rfl dX8_lows_3 rfl rfl rfl rfl (fun v_1 w_2 hp_3 => ?_)
  obtain ⟨rfl, rfl⟩ := hp_3
  show J G X mX8_lows _ _ _ 6 _ [.int (-3 : Int32)]
  exact J.iret B dX8_lows_6 rfl (⟨rfl, rfl⟩)
set_option maxHeartbeats 4000000 in
set_option maxRecDepth 100000 in
theorem r_lows_nought (l : Launch) (G : jG) (r : va_W) {m : Nat} {D : Nat → Nat} {fi : Int32} {as : Int64} {ns : Nat} {ii : Int32} {de : Int64} {dl dp dc : Int32} {nr : Nat} {al wa : Int32} {rr : Nat → Int32} {s : Nat} (hk : s < ns) (hns : ns ≤ 12) {fc : Nat → Int32} {ml : Nat → Int32} (hr : ¬ rr s = 0) (h0 : nN (rowM ml s) = 0) {d : Int32} (hd : inR d 1 10000 = true) : Mt l G yX8_lows mX8_lows 4 97 0 0 [.ref m, .int (nI s), .int d] ((m, .inr (8, [.int fi, .ref (D 0), .long as, .int (nI ns), .ref (D 1), .ref (D 2), .ref (D 3), .ref (D 4), .ref (D 5), .ref (D 6), .ref (D 7), .ref (D 8), .int ii, .long de, .int dl, .int dp, .int dc, .ref (D 9), .int (nI nr), .ref (D 10), .ref (D 11), .ref (D 12), .ref (D 13), .ref (D 14), .int al, .int wa])) :: (D 2, .inl (G.2.1.2.1, 12, .inl rr)) :: (D 3, .inl (G.2.1.1, 720, .inl ml)) :: (D 0, .inl (G.2.1.1, 6, .inl fc)) :: r) (fun v w => v = some (.int (-3 : Int32)) ∧ w = (m, .inr (8, [.int (nI 4), .ref (D 0), .long as, .int (nI ns), .ref (D 1), .ref (D 2), .ref (D 3), .ref (D 4), .ref (D 5), .ref (D 6), .ref (D 7), .ref (D 8), .int ii, .long de, .int dl, .int dp, .int dc, .ref (D 9), .int (nI nr), .ref (D 10), .ref (D 11), .ref (D 12), .ref (D 13), .ref (D 14), .int al, .int wa])) :: (D 2, .inl (G.2.1.2.1, 12, .inl rr)) :: (D 3, .inl (G.2.1.1, 720, .inl ml)) :: (D 0, .inl (G.2.1.1, 6, .inl (upd fc 4 (fc 4 + 1)))) :: r) := by
  refine Mt.of (by decide +kernel) rfl rfl (fun X B => ?_)
  show J G X mX8_lows ((m, .inr (8, [.int fi, .ref (D 0), .long as, .int (nI ns), .ref (D 1), .ref (D 2), .ref (D 3), .ref (D 4), .ref (D 5), .ref (D 6), .ref (D 7), .ref (D 8), .int ii, .long de, .int dl, .int dp, .int dc, .ref (D 9), .int (nI nr), .ref (D 10), .ref (D 11), .ref (D 12), .ref (D 13), .ref (D 14), .int al, .int wa])) :: (D 2, .inl (G.2.1.2.1, 12, .inl rr)) :: (D 3, .inl (G.2.1.1, 720, .inl ml)) :: (D 0, .inl (G.2.1.1, 6, .inl fc)) :: r) 0 0 0 [(0, .ref m), (1, .int (nI s)), (2, .int d)] []
  refine J.aload_n 0 dX8_lows_0 rfl ?_
  refine J.iload_n 1 dX8_lows_1 rfl ?_
  refine J.iload_n 2 dX8_lows_2 rfl ?_
  refine J.callV 0 (st := []) B (c_X8_lowsOf_nought l G _ hk hns hr h0 hd) ml_X8_153 mf_yX8_lowsOf mi_yX8_lowsOf rfl dX8_lows_3 rfl rfl rfl rfl (fun v_1 w_2 hp_3 => ?_)
  obtain ⟨rfl, rfl⟩ := hp_3
  show J G X mX8_lows _ _ _ 6 _ [.int (-3 : Int32)]
  exact J.iret B dX8_lows_6 rfl (⟨rfl, rfl⟩)
set_option maxHeartbeats 4000000 in
set_option maxRecDepth 100000 in
theorem r_lows (l : Launch) (G : jG) (r : va_W) {m : Nat} {D : Nat → Nat} {fi : Int32} {as : Int64} {ns : Nat} {ii : Int32} {de : Int64} {dl dp dc : Int32} {nr : Nat} {al wa : Int32} {rr : Nat → Int32} {s : Nat} (hk : s < ns) (hns : ns ≤ 12) {ml F : Nat → Int32} {so lti : Nat → Int32} (hr : ¬ rr s = 0) (h0 : 0 < nN (rowM ml s)) {d : Int32} (hd : inR d 1 10000 = true) : Mt l G yX8_lows mX8_lows 4 97 0 0 [.ref m, .int (nI s), .int d] ((m, .inr (8, [.int fi, .ref (D 0), .long as, .int (nI ns), .ref (D 1), .ref (D 2), .ref (D 3), .ref (D 4), .ref (D 5), .ref (D 6), .ref (D 7), .ref (D 8), .int ii, .long de, .int dl, .int dp, .int dc, .ref (D 9), .int (nI nr), .ref (D 10), .ref (D 11), .ref (D 12), .ref (D 13), .ref (D 14), .int al, .int wa])) :: (D 2, .inl (G.2.1.2.1, 12, .inl rr)) :: (D 3, .inl (G.2.1.1, 720, .inl ml)) :: (D 4, .inl (G.2.1.1, 60, .inl F)) :: (D 6, .inl (G.2.1.1, 60, .inl so)) :: (D 9, .inl (G.2.1.1, 60, .inl lti)) :: r) (fun v w => ∃ so1 lt1, v = some (.int (nI (lowF (ltF (rowM ml s) F) (midV (lits (rowM ml s) F 60) - d) (nts (rowM ml s) 60)).1.length)) ∧ w = (m, .inr (8, [.int fi, .ref (D 0), .long as, .int (nI ns), .ref (D 1), .ref (D 2), .ref (D 3), .ref (D 4), .ref (D 5), .ref (D 6), .ref (D 7), .ref (D 8), .int ii, .long de, .int dl, .int dp, .int dc, .ref (D 9), .int (nI nr), .ref (D 10), .ref (D 11), .ref (D 12), .ref (D 13), .ref (D 14), .int al, .int wa])) :: (D 2, .inl (G.2.1.2.1, 12, .inl rr)) :: (D 3, .inl (G.2.1.1, 720, .inl ml)) :: (D 4, .inl (G.2.1.1, 60, .inl F)) :: (D 6, .inl (G.2.1.1, 60, .inl so1)) :: (D 9, .inl (G.2.1.1, 60, .inl lt1)) :: r) := by
  refine Mt.of (by decide +kernel) rfl rfl (fun X B => ?_)
  show J G X mX8_lows ((m, .inr (8, [.int fi, .ref (D 0), .long as, .int (nI ns), .ref (D 1), .ref (D 2), .ref (D 3), .ref (D 4), .ref (D 5), .ref (D 6), .ref (D 7), .ref (D 8), .int ii, .long de, .int dl, .int dp, .int dc, .ref (D 9), .int (nI nr), .ref (D 10), .ref (D 11), .ref (D 12), .ref (D 13), .ref (D 14), .int al, .int wa])) :: (D 2, .inl (G.2.1.2.1, 12, .inl rr)) :: (D 3, .inl (G.2.1.1, 720, .inl ml)) :: (D 4, .inl (G.2.1.1, 60, .inl F)) :: (D 6, .inl (G.2.1.1, 60, .inl so)) :: (D 9, .inl (G.2.1.1, 60, .inl lti)) :: r) 0 0 0 [(0, .ref m), (1, .int (nI s)), (2, .int d)] []
  refine J.aload_n 0 dX8_lows_0 rfl ?_
  refine J.iload_n 1 dX8_lows_1 rfl ?_
  refine J.iload_n 2 dX8_lows_2 rfl ?_
  refine J.callV 0 (st := []) B (c_X8_lowsOf l G _ hk hns hr h0 hd) ml_X8_153 mf_yX8_lowsOf mi_yX8_lowsOf rfl dX8_lows_3 rfl rfl rfl rfl (fun v_1 w_2 hp_3 => ?_)
  obtain ⟨so1, lt1, hlt, rfl, rfl⟩ := hp_3
  show J G X mX8_lows _ _ _ 6 _ [.int (nI ((lowF (ltF (rowM ml s) F) (midV (lits (rowM ml s) F 60) - d) (nts (rowM ml s) 60)).1.length))]
  exact J.iret B dX8_lows_6 rfl (⟨so1, lt1, rfl, rfl⟩)
set_option maxHeartbeats 4000000 in
set_option maxRecDepth 100000 in
theorem r_low_d (l : Launch) (G : jG) (r : va_W) {m : Nat} {D : Nat → Nat} {fi : Int32} {as : Int64} {ns : Nat} {ii : Int32} {de : Int64} {dl dp dc : Int32} {nr : Nat} {al wa : Int32} {num : Int32} {i : Int32} {d : Int32} (hd : inR d 1 10000 = false) : Mt l G yX8_low mX8_low 4 97 0 0 [.ref m, .int num, .int d, .int i] ((m, .inr (8, [.int fi, .ref (D 0), .long as, .int (nI ns), .ref (D 1), .ref (D 2), .ref (D 3), .ref (D 4), .ref (D 5), .ref (D 6), .ref (D 7), .ref (D 8), .int ii, .long de, .int dl, .int dp, .int dc, .ref (D 9), .int (nI nr), .ref (D 10), .ref (D 11), .ref (D 12), .ref (D 13), .ref (D 14), .int al, .int wa])) :: r) (fun v w => v = some (.int (-1 : Int32)) ∧ w = (m, .inr (8, [.int fi, .ref (D 0), .long as, .int (nI ns), .ref (D 1), .ref (D 2), .ref (D 3), .ref (D 4), .ref (D 5), .ref (D 6), .ref (D 7), .ref (D 8), .int ii, .long de, .int dl, .int dp, .int dc, .ref (D 9), .int (nI nr), .ref (D 10), .ref (D 11), .ref (D 12), .ref (D 13), .ref (D 14), .int al, .int wa])) :: r) := by
  refine Mt.of (by decide +kernel) rfl rfl (fun X B => ?_)
  show J G X mX8_low ((m, .inr (8, [.int fi, .ref (D 0), .long as, .int (nI ns), .ref (D 1), .ref (D 2), .ref (D 3), .ref (D 4), .ref (D 5), .ref (D 6), .ref (D 7), .ref (D 8), .int ii, .long de, .int dl, .int dp, .int dc, .ref (D 9), .int (nI nr), .ref (D 10), .ref (D 11), .ref (D 12), .ref (D 13), .ref (D 14), .int al, .int wa])) :: r) 0 0 0 [(0, .ref m), (1, .int num), (2, .int d), (3, .int i)] []
  refine J.aload_n 0 dX8_low_0 rfl ?_
  refine J.iload_n 1 dX8_low_1 rfl ?_
  refine J.iload_n 2 dX8_low_2 rfl ?_
  refine J.callV 0 (st := []) B (c_X8_lowsOf_d l G _ hd) ml_X8_153 mf_yX8_lowsOf mi_yX8_lowsOf rfl dX8_low_3 rfl rfl rfl rfl (fun v_1 w_2 hp_3 => ?_)
  obtain ⟨rfl, rfl⟩ := hp_3
  show J G X mX8_low _ _ _ 6 _ [.int (-1 : Int32)]
  refine J.istore [1, 2, 3, 4, 0] (lv' := [(0, .ref m), (1, .int num), (2, .int d), (3, .int i), (4, .int (-1 : Int32))]) dX8_low_6 rfl rfl ?_
  refine J.iload 4 dX8_low_8 rfl ?_
  refine J.if_ge dX8_low_10 (fun z => absurd z (by decide)) (fun _ => ?_)
  refine J.iload 4 dX8_low_13 rfl ?_
  refine J.goto dX8_low_15 ?_
  exact J.iret B dX8_low_41 rfl (⟨rfl, rfl⟩)
set_option maxHeartbeats 4000000 in
set_option maxRecDepth 100000 in
theorem r_low_bad (l : Launch) (G : jG) (r : va_W) {m : Nat} {D : Nat → Nat} {fi : Int32} {as : Int64} {ns : Nat} {ii : Int32} {de : Int64} {dl dp dc : Int32} {nr : Nat} {al wa : Int32} {rr : Nat → Int32} {num : Int32} (hns : ns ≤ 12) (hnum : inR num 0 ((ns : Int) - 1) = false) {i : Int32} {d : Int32} (hd : inR d 1 10000 = true) : Mt l G yX8_low mX8_low 4 97 0 0 [.ref m, .int num, .int d, .int i] ((m, .inr (8, [.int fi, .ref (D 0), .long as, .int (nI ns), .ref (D 1), .ref (D 2), .ref (D 3), .ref (D 4), .ref (D 5), .ref (D 6), .ref (D 7), .ref (D 8), .int ii, .long de, .int dl, .int dp, .int dc, .ref (D 9), .int (nI nr), .ref (D 10), .ref (D 11), .ref (D 12), .ref (D 13), .ref (D 14), .int al, .int wa])) :: (D 2, .inl (G.2.1.2.1, 12, .inl rr)) :: r) (fun v w => v = some (.int (-1 : Int32)) ∧ w = (m, .inr (8, [.int fi, .ref (D 0), .long as, .int (nI ns), .ref (D 1), .ref (D 2), .ref (D 3), .ref (D 4), .ref (D 5), .ref (D 6), .ref (D 7), .ref (D 8), .int ii, .long de, .int dl, .int dp, .int dc, .ref (D 9), .int (nI nr), .ref (D 10), .ref (D 11), .ref (D 12), .ref (D 13), .ref (D 14), .int al, .int wa])) :: (D 2, .inl (G.2.1.2.1, 12, .inl rr)) :: r) := by
  refine Mt.of (by decide +kernel) rfl rfl (fun X B => ?_)
  show J G X mX8_low ((m, .inr (8, [.int fi, .ref (D 0), .long as, .int (nI ns), .ref (D 1), .ref (D 2), .ref (D 3), .ref (D 4), .ref (D 5), .ref (D 6), .ref (D 7), .ref (D 8), .int ii, .long de, .int dl, .int dp, .int dc, .ref (D 9), .int (nI nr), .ref (D 10), .ref (D 11), .ref (D 12), .ref (D 13), .ref (D 14), .int al, .int wa])) :: (D 2, .inl (G.2.1.2.1, 12, .inl rr)) :: r) 0 0 0 [(0, .ref m), (1, .int num), (2, .int d), (3, .int i)] []
  refine J.aload_n 0 dX8_low_0 rfl ?_
  refine J.iload_n 1 dX8_low_1 rfl ?_
  refine J.iload_n 2 dX8_low_2 rfl ?_
  refine J.callV 0 (st := []) B (c_X8_lowsOf_bad l G _ hns hnum hd) ml_X8_153 mf_yX8_lowsOf mi_yX8_lowsOf rfl dX8_low_3 rfl rfl rfl rfl (fun v_1 w_2 hp_3 => ?_)
  obtain ⟨rfl, rfl⟩ := hp_3
  show J G X mX8_low _ _ _ 6 _ [.int (-1 : Int32)]
  refine J.istore [1, 2, 3, 4, 0] (lv' := [(0, .ref m), (1, .int num), (2, .int d), (3, .int i), (4, .int (-1 : Int32))]) dX8_low_6 rfl rfl ?_
  refine J.iload 4 dX8_low_8 rfl ?_
  refine J.if_ge dX8_low_10 (fun z => absurd z (by decide)) (fun _ => ?_)
  refine J.iload 4 dX8_low_13 rfl ?_
  refine J.goto dX8_low_15 ?_
  exact J.iret B dX8_low_41 rfl (⟨rfl, rfl⟩)
set_option maxHeartbeats 4000000 in
set_option maxRecDepth 100000 in
theorem r_low_no (l : Launch) (G : jG) (r : va_W) {m : Nat} {D : Nat → Nat} {fi : Int32} {as : Int64} {ns : Nat} {ii : Int32} {de : Int64} {dl dp dc : Int32} {nr : Nat} {al wa : Int32} {rr : Nat → Int32} {s : Nat} (hk : s < ns) (hns : ns ≤ 12) {fc : Nat → Int32} {i : Int32} (hr : rr s = 0) {d : Int32} (hd : inR d 1 10000 = true) : Mt l G yX8_low mX8_low 4 97 0 0 [.ref m, .int (nI s), .int d, .int i] ((m, .inr (8, [.int fi, .ref (D 0), .long as, .int (nI ns), .ref (D 1), .ref (D 2), .ref (D 3), .ref (D 4), .ref (D 5), .ref (D 6), .ref (D 7), .ref (D 8), .int ii, .long de, .int dl, .int dp, .int dc, .ref (D 9), .int (nI nr), .ref (D 10), .ref (D 11), .ref (D 12), .ref (D 13), .ref (D 14), .int al, .int wa])) :: (D 2, .inl (G.2.1.2.1, 12, .inl rr)) :: (D 0, .inl (G.2.1.1, 6, .inl fc)) :: r) (fun v w => v = some (.int (-3 : Int32)) ∧ w = (m, .inr (8, [.int (nI 1), .ref (D 0), .long as, .int (nI ns), .ref (D 1), .ref (D 2), .ref (D 3), .ref (D 4), .ref (D 5), .ref (D 6), .ref (D 7), .ref (D 8), .int ii, .long de, .int dl, .int dp, .int dc, .ref (D 9), .int (nI nr), .ref (D 10), .ref (D 11), .ref (D 12), .ref (D 13), .ref (D 14), .int al, .int wa])) :: (D 2, .inl (G.2.1.2.1, 12, .inl rr)) :: (D 0, .inl (G.2.1.1, 6, .inl (upd fc 1 (fc 1 + 1)))) :: r) := by
  refine Mt.of (by decide +kernel) rfl rfl (fun X B => ?_)
  show J G X mX8_low ((m, .inr (8, [.int fi, .ref (D 0), .long as, .int (nI ns), .ref (D 1), .ref (D 2), .ref (D 3), .ref (D 4), .ref (D 5), .ref (D 6), .ref (D 7), .ref (D 8), .int ii, .long de, .int dl, .int dp, .int dc, .ref (D 9), .int (nI nr), .ref (D 10), .ref (D 11), .ref (D 12), .ref (D 13), .ref (D 14), .int al, .int wa])) :: (D 2, .inl (G.2.1.2.1, 12, .inl rr)) :: (D 0, .inl (G.2.1.1, 6, .inl fc)) :: r) 0 0 0 [(0, .ref m), (1, .int (nI s)), (2, .int d), (3, .int i)] []
  refine J.aload_n 0 dX8_low_0 rfl ?_
  refine J.iload_n 1 dX8_low_1 rfl ?_
  refine J.iload_n 2 dX8_low_2 rfl ?_
  refine J.callV 0 (st := []) B (c_X8_lowsOf_no l G _ hk hns hr hd) ml_X8_153 mf_yX8_lowsOf mi_yX8_lowsOf rfl dX8_low_3 rfl rfl rfl rfl (fun v_1 w_2 hp_3 => ?_)
  obtain ⟨rfl, rfl⟩ := hp_3
  show J G X mX8_low _ _ _ 6 _ [.int (-3 : Int32)]
  refine J.istore [1, 2, 3, 4, 0] (lv' := [(0, .ref m), (1, .int (nI s)), (2, .int d), (3, .int i), (4, .int (-3 : Int32))]) dX8_low_6 rfl rfl ?_
  refine J.iload 4 dX8_low_8 rfl ?_
  refine J.if_ge dX8_low_10 (fun z => absurd z (by decide)) (fun _ => ?_)
  refine J.iload 4 dX8_low_13 rfl ?_
  refine J.goto dX8_low_15 ?_
  exact J.iret B dX8_low_41 rfl (⟨rfl, rfl⟩)
set_option maxHeartbeats 4000000 in
set_option maxRecDepth 100000 in
theorem r_low_nought (l : Launch) (G : jG) (r : va_W) {m : Nat} {D : Nat → Nat} {fi : Int32} {as : Int64} {ns : Nat} {ii : Int32} {de : Int64} {dl dp dc : Int32} {nr : Nat} {al wa : Int32} {rr : Nat → Int32} {s : Nat} (hk : s < ns) (hns : ns ≤ 12) {fc : Nat → Int32} {ml : Nat → Int32} {i : Int32} (hr : ¬ rr s = 0) (h0 : nN (rowM ml s) = 0) {d : Int32} (hd : inR d 1 10000 = true) : Mt l G yX8_low mX8_low 4 97 0 0 [.ref m, .int (nI s), .int d, .int i] ((m, .inr (8, [.int fi, .ref (D 0), .long as, .int (nI ns), .ref (D 1), .ref (D 2), .ref (D 3), .ref (D 4), .ref (D 5), .ref (D 6), .ref (D 7), .ref (D 8), .int ii, .long de, .int dl, .int dp, .int dc, .ref (D 9), .int (nI nr), .ref (D 10), .ref (D 11), .ref (D 12), .ref (D 13), .ref (D 14), .int al, .int wa])) :: (D 2, .inl (G.2.1.2.1, 12, .inl rr)) :: (D 3, .inl (G.2.1.1, 720, .inl ml)) :: (D 0, .inl (G.2.1.1, 6, .inl fc)) :: r) (fun v w => v = some (.int (-3 : Int32)) ∧ w = (m, .inr (8, [.int (nI 4), .ref (D 0), .long as, .int (nI ns), .ref (D 1), .ref (D 2), .ref (D 3), .ref (D 4), .ref (D 5), .ref (D 6), .ref (D 7), .ref (D 8), .int ii, .long de, .int dl, .int dp, .int dc, .ref (D 9), .int (nI nr), .ref (D 10), .ref (D 11), .ref (D 12), .ref (D 13), .ref (D 14), .int al, .int wa])) :: (D 2, .inl (G.2.1.2.1, 12, .inl rr)) :: (D 3, .inl (G.2.1.1, 720, .inl ml)) :: (D 0, .inl (G.2.1.1, 6, .inl (upd fc 4 (fc 4 + 1)))) :: r) := by
  refine Mt.of (by decide +kernel) rfl rfl (fun X B => ?_)
  show J G X mX8_low ((m, .inr (8, [.int fi, .ref (D 0), .long as, .int (nI ns), .ref (D 1), .ref (D 2), .ref (D 3), .ref (D 4), .ref (D 5), .ref (D 6), .ref (D 7), .ref (D 8), .int ii, .long de, .int dl, .int dp, .int dc, .ref (D 9), .int (nI nr), .ref (D 10), .ref (D 11), .ref (D 12), .ref (D 13), .ref (D 14), .int al, .int wa])) :: (D 2, .inl (G.2.1.2.1, 12, .inl rr)) :: (D 3, .inl (G.2.1.1, 720, .inl ml)) :: (D 0, .inl (G.2.1.1, 6, .inl fc)) :: r) 0 0 0 [(0, .ref m), (1, .int (nI s)), (2, .int d), (3, .int i)] []
  refine J.aload_n 0 dX8_low_0 rfl ?_
  refine J.iload_n 1 dX8_low_1 rfl ?_
  refine J.iload_n 2 dX8_low_2 rfl ?_
  refine J.callV 0 (st := []) B (c_X8_lowsOf_nought l G _ hk hns hr h0 hd) ml_X8_153 mf_yX8_lowsOf mi_yX8_lowsOf rfl dX8_low_3 rfl rfl rfl rfl (fun v_1 w_2 hp_3 => ?_)
  obtain ⟨rfl, rfl⟩ := hp_3
  show J G X mX8_low _ _ _ 6 _ [.int (-3 : Int32)]
  refine J.istore [1, 2, 3, 4, 0] (lv' := [(0, .ref m), (1, .int (nI s)), (2, .int d), (3, .int i), (4, .int (-3 : Int32))]) dX8_low_6 rfl rfl ?_
  refine J.iload 4 dX8_low_8 rfl ?_
  refine J.if_ge dX8_low_10 (fun z => absurd z (by decide)) (fun _ => ?_)
  refine J.iload 4 dX8_low_13 rfl ?_
  refine J.goto dX8_low_15 ?_
  exact J.iret B dX8_low_41 rfl (⟨rfl, rfl⟩)
set_option maxHeartbeats 4000000 in
set_option maxRecDepth 100000 in
theorem r_low_none (l : Launch) (G : jG) (r : va_W) {m : Nat} {D : Nat → Nat} {fi : Int32} {as : Int64} {ns : Nat} {ii : Int32} {de : Int64} {dl dp dc : Int32} {nr : Nat} {al wa : Int32} {rr : Nat → Int32} {s : Nat} (hk : s < ns) (hns : ns ≤ 12) {ml F : Nat → Int32} {so lti : Nat → Int32} (hr : ¬ rr s = 0) (h0 : 0 < nN (rowM ml s)) {d : Int32} (hd : inR d 1 10000 = true) {i : Int32} (hi : inR i 0 (((lowF (ltF (rowM ml s) F) (midV (lits (rowM ml s) F 60) - d) (nts (rowM ml s) 60)).1.length : Int) - 1) = false) : Mt l G yX8_low mX8_low 4 97 0 0 [.ref m, .int (nI s), .int d, .int i] ((m, .inr (8, [.int fi, .ref (D 0), .long as, .int (nI ns), .ref (D 1), .ref (D 2), .ref (D 3), .ref (D 4), .ref (D 5), .ref (D 6), .ref (D 7), .ref (D 8), .int ii, .long de, .int dl, .int dp, .int dc, .ref (D 9), .int (nI nr), .ref (D 10), .ref (D 11), .ref (D 12), .ref (D 13), .ref (D 14), .int al, .int wa])) :: (D 2, .inl (G.2.1.2.1, 12, .inl rr)) :: (D 3, .inl (G.2.1.1, 720, .inl ml)) :: (D 4, .inl (G.2.1.1, 60, .inl F)) :: (D 6, .inl (G.2.1.1, 60, .inl so)) :: (D 9, .inl (G.2.1.1, 60, .inl lti)) :: r) (fun v w => ∃ so1 lt1, v = some (.int (-9)) ∧ w = (m, .inr (8, [.int fi, .ref (D 0), .long as, .int (nI ns), .ref (D 1), .ref (D 2), .ref (D 3), .ref (D 4), .ref (D 5), .ref (D 6), .ref (D 7), .ref (D 8), .int ii, .long de, .int dl, .int dp, .int dc, .ref (D 9), .int (nI nr), .ref (D 10), .ref (D 11), .ref (D 12), .ref (D 13), .ref (D 14), .int al, .int wa])) :: (D 2, .inl (G.2.1.2.1, 12, .inl rr)) :: (D 3, .inl (G.2.1.1, 720, .inl ml)) :: (D 4, .inl (G.2.1.1, 60, .inl F)) :: (D 6, .inl (G.2.1.1, 60, .inl so1)) :: (D 9, .inl (G.2.1.1, 60, .inl lt1)) :: r) := by
  refine Mt.of (by decide +kernel) rfl rfl (fun X B => ?_)
  show J G X mX8_low ((m, .inr (8, [.int fi, .ref (D 0), .long as, .int (nI ns), .ref (D 1), .ref (D 2), .ref (D 3), .ref (D 4), .ref (D 5), .ref (D 6), .ref (D 7), .ref (D 8), .int ii, .long de, .int dl, .int dp, .int dc, .ref (D 9), .int (nI nr), .ref (D 10), .ref (D 11), .ref (D 12), .ref (D 13), .ref (D 14), .int al, .int wa])) :: (D 2, .inl (G.2.1.2.1, 12, .inl rr)) :: (D 3, .inl (G.2.1.1, 720, .inl ml)) :: (D 4, .inl (G.2.1.1, 60, .inl F)) :: (D 6, .inl (G.2.1.1, 60, .inl so)) :: (D 9, .inl (G.2.1.1, 60, .inl lti)) :: r) 0 0 0 [(0, .ref m), (1, .int (nI s)), (2, .int d), (3, .int i)] []
  have hll : (lowF (ltF (rowM ml s) F) (midV (lits (rowM ml s) F 60) - d) (nts (rowM ml s) 60)).1.length ≤ 60 := Nat.le_trans (lowF_le _ _ _) (nN_le (rowM ml s))
  refine J.aload_n 0 dX8_low_0 rfl ?_
  refine J.iload_n 1 dX8_low_1 rfl ?_
  refine J.iload_n 2 dX8_low_2 rfl ?_
  refine J.callV 0 (st := []) B (c_X8_lowsOf l G _ hk hns hr h0 hd) ml_X8_153 mf_yX8_lowsOf mi_yX8_lowsOf rfl dX8_low_3 rfl rfl rfl rfl (fun v_1 w_2 hp_3 => ?_)
  obtain ⟨so1, lt1, hlt, rfl, rfl⟩ := hp_3
  show J G X mX8_low _ _ _ 6 _ [.int (nI ((lowF (ltF (rowM ml s) F) (midV (lits (rowM ml s) F 60) - d) (nts (rowM ml s) 60)).1.length))]
  refine J.istore [1, 2, 3, 4, 0] (lv' := [(0, .ref m), (1, .int (nI s)), (2, .int d), (3, .int i), (4, .int (nI ((lowF (ltF (rowM ml s) F) (midV (lits (rowM ml s) F 60) - d) (nts (rowM ml s) 60)).1.length)))]) dX8_low_6 rfl rfl ?_
  refine J.iload 4 dX8_low_8 rfl ?_
  refine J.if_ge dX8_low_10 (fun h9 => ?_) (fun h9 => ?_)
  · skip
    have h9 : 0 ≤ ((lowF (ltF (rowM ml s) F) (midV (lits (rowM ml s) F 60) - d) (nts (rowM ml s) 60)).1.length) := (nI_leI (a := 0) (b := ((lowF (ltF (rowM ml s) F) (midV (lits (rowM ml s) F 60) - d) (nts (rowM ml s) 60)).1.length)) (by omega) (by omega)).mp h9
    refine J.iload_n 3 dX8_low_18 rfl ?_
    refine J.iconst (0 : Int32) dX8_low_19 rfl ?_
    refine J.iload 4 dX8_low_20 rfl ?_
    refine J.iconst (1 : Int32) dX8_low_22 rfl ?_
    refine J.isub dX8_low_23 ?_
    refine J.callS (st := []) B (c_X8_in l G _ (v := i) (lo := 0) (hi := (nI ((lowF (ltF (rowM ml s) F) (midV (lits (rowM ml s) F 60) - d) (nts (rowM ml s) 60)).1.length)) - (1 : Int32)) (a := 0) (b := ((lowF (ltF (rowM ml s) F) (midV (lits (rowM ml s) F 60) - d) (nts (rowM ml s) 60)).1.length : Int) - 1) rfl (pk_sub_toInt (a := (lowF (ltF (rowM ml s) F) (midV (lits (rowM ml s) F 60) - d) (nts (rowM ml s) 60)).1.length) (b := 1) (by omega) (by omega))) ml_X8_76 mf_yX8_in mS_yX8_in dX8_low_24 rfl rfl rfl (fun v_4 w_5 hp_6 => ?_)
    obtain ⟨rfl, rfl⟩ := hp_6
    show J G X mX8_low _ _ _ 27 _ [.int (b01 (inR i 0 (((lowF (ltF (rowM ml s) F) (midV (lits (rowM ml s) F 60) - d) (nts (rowM ml s) 60)).1.length : Int) - 1)))]
    refine J.if_eq dX8_low_27 (fun h9 => ?_) (fun z => absurd (by rw [hi]; rfl) z)
    refine J.bipush (-9 : Int32) dX8_low_39 rfl ?_
    exact J.iret B dX8_low_41 rfl (⟨so1, lt1, rfl, rfl⟩)
  · skip
    have h9 : ¬ 0 ≤ ((lowF (ltF (rowM ml s) F) (midV (lits (rowM ml s) F 60) - d) (nts (rowM ml s) 60)).1.length) := fun z => h9 ((nI_leI (a := 0) (b := ((lowF (ltF (rowM ml s) F) (midV (lits (rowM ml s) F 60) - d) (nts (rowM ml s) 60)).1.length)) (by omega) (by omega)).mpr z)
    omega
set_option maxHeartbeats 4000000 in
set_option maxRecDepth 100000 in
theorem r_low (l : Launch) (G : jG) (r : va_W) {m : Nat} {D : Nat → Nat} {fi : Int32} {as : Int64} {ns : Nat} {ii : Int32} {de : Int64} {dl dp dc : Int32} {nr : Nat} {al wa : Int32} {rr : Nat → Int32} {s : Nat} (hk : s < ns) (hns : ns ≤ 12) {ml F : Nat → Int32} {so lti : Nat → Int32} (hr : ¬ rr s = 0) (h0 : 0 < nN (rowM ml s)) {d : Int32} (hd : inR d 1 10000 = true) {i : Nat} (hi : i < (lowF (ltF (rowM ml s) F) (midV (lits (rowM ml s) F 60) - d) (nts (rowM ml s) 60)).1.length) : Mt l G yX8_low mX8_low 4 97 0 0 [.ref m, .int (nI s), .int d, .int (nI i)] ((m, .inr (8, [.int fi, .ref (D 0), .long as, .int (nI ns), .ref (D 1), .ref (D 2), .ref (D 3), .ref (D 4), .ref (D 5), .ref (D 6), .ref (D 7), .ref (D 8), .int ii, .long de, .int dl, .int dp, .int dc, .ref (D 9), .int (nI nr), .ref (D 10), .ref (D 11), .ref (D 12), .ref (D 13), .ref (D 14), .int al, .int wa])) :: (D 2, .inl (G.2.1.2.1, 12, .inl rr)) :: (D 3, .inl (G.2.1.1, 720, .inl ml)) :: (D 4, .inl (G.2.1.1, 60, .inl F)) :: (D 6, .inl (G.2.1.1, 60, .inl so)) :: (D 9, .inl (G.2.1.1, 60, .inl lti)) :: r) (fun v w => ∃ so1 lt1, v = some (.int (nI (rg (lowF (ltF (rowM ml s) F) (midV (lits (rowM ml s) F 60) - d) (nts (rowM ml s) 60)).1 i))) ∧ w = (m, .inr (8, [.int fi, .ref (D 0), .long as, .int (nI ns), .ref (D 1), .ref (D 2), .ref (D 3), .ref (D 4), .ref (D 5), .ref (D 6), .ref (D 7), .ref (D 8), .int ii, .long de, .int dl, .int dp, .int dc, .ref (D 9), .int (nI nr), .ref (D 10), .ref (D 11), .ref (D 12), .ref (D 13), .ref (D 14), .int al, .int wa])) :: (D 2, .inl (G.2.1.2.1, 12, .inl rr)) :: (D 3, .inl (G.2.1.1, 720, .inl ml)) :: (D 4, .inl (G.2.1.1, 60, .inl F)) :: (D 6, .inl (G.2.1.1, 60, .inl so1)) :: (D 9, .inl (G.2.1.1, 60, .inl lt1)) :: r) := by
  refine Mt.of (by decide +kernel) rfl rfl (fun X B => ?_)
  show J G X mX8_low ((m, .inr (8, [.int fi, .ref (D 0), .long as, .int (nI ns), .ref (D 1), .ref (D 2), .ref (D 3), .ref (D 4), .ref (D 5), .ref (D 6), .ref (D 7), .ref (D 8), .int ii, .long de, .int dl, .int dp, .int dc, .ref (D 9), .int (nI nr), .ref (D 10), .ref (D 11), .ref (D 12), .ref (D 13), .ref (D 14), .int al, .int wa])) :: (D 2, .inl (G.2.1.2.1, 12, .inl rr)) :: (D 3, .inl (G.2.1.1, 720, .inl ml)) :: (D 4, .inl (G.2.1.1, 60, .inl F)) :: (D 6, .inl (G.2.1.1, 60, .inl so)) :: (D 9, .inl (G.2.1.1, 60, .inl lti)) :: r) 0 0 0 [(0, .ref m), (1, .int (nI s)), (2, .int d), (3, .int (nI i))] []
  have hll : (lowF (ltF (rowM ml s) F) (midV (lits (rowM ml s) F 60) - d) (nts (rowM ml s) 60)).1.length ≤ 60 := Nat.le_trans (lowF_le _ _ _) (nN_le (rowM ml s))
  have hii : inR (nI i) 0 (((lowF (ltF (rowM ml s) F) (midV (lits (rowM ml s) F 60) - d) (nts (rowM ml s) 60)).1.length : Int) - 1) = true := by rw [nI_inR (by omega)]; exact decide_eq_true ⟨by omega, by omega⟩
  refine J.aload_n 0 dX8_low_0 rfl ?_
  refine J.iload_n 1 dX8_low_1 rfl ?_
  refine J.iload_n 2 dX8_low_2 rfl ?_
  refine J.callV 0 (st := []) B (c_X8_lowsOf l G _ hk hns hr h0 hd) ml_X8_153 mf_yX8_lowsOf mi_yX8_lowsOf rfl dX8_low_3 rfl rfl rfl rfl (fun v_1 w_2 hp_3 => ?_)
  obtain ⟨so1, lt1, hlt, rfl, rfl⟩ := hp_3
  show J G X mX8_low _ _ _ 6 _ [.int (nI ((lowF (ltF (rowM ml s) F) (midV (lits (rowM ml s) F 60) - d) (nts (rowM ml s) 60)).1.length))]
  refine J.istore [1, 2, 3, 4, 0] (lv' := [(0, .ref m), (1, .int (nI s)), (2, .int d), (3, .int (nI i)), (4, .int (nI ((lowF (ltF (rowM ml s) F) (midV (lits (rowM ml s) F 60) - d) (nts (rowM ml s) 60)).1.length)))]) dX8_low_6 rfl rfl ?_
  refine J.iload 4 dX8_low_8 rfl ?_
  refine J.if_ge dX8_low_10 (fun h9 => ?_) (fun h9 => ?_)
  · skip
    have h9 : 0 ≤ ((lowF (ltF (rowM ml s) F) (midV (lits (rowM ml s) F 60) - d) (nts (rowM ml s) 60)).1.length) := (nI_leI (a := 0) (b := ((lowF (ltF (rowM ml s) F) (midV (lits (rowM ml s) F 60) - d) (nts (rowM ml s) 60)).1.length)) (by omega) (by omega)).mp h9
    refine J.iload_n 3 dX8_low_18 rfl ?_
    refine J.iconst (0 : Int32) dX8_low_19 rfl ?_
    refine J.iload 4 dX8_low_20 rfl ?_
    refine J.iconst (1 : Int32) dX8_low_22 rfl ?_
    refine J.isub dX8_low_23 ?_
    refine J.callS (st := []) B (c_X8_in l G _ (v := nI i) (lo := 0) (hi := (nI ((lowF (ltF (rowM ml s) F) (midV (lits (rowM ml s) F 60) - d) (nts (rowM ml s) 60)).1.length)) - (1 : Int32)) (a := 0) (b := ((lowF (ltF (rowM ml s) F) (midV (lits (rowM ml s) F 60) - d) (nts (rowM ml s) 60)).1.length : Int) - 1) rfl (pk_sub_toInt (a := (lowF (ltF (rowM ml s) F) (midV (lits (rowM ml s) F 60) - d) (nts (rowM ml s) 60)).1.length) (b := 1) (by omega) (by omega))) ml_X8_76 mf_yX8_in mS_yX8_in dX8_low_24 rfl rfl rfl (fun v_4 w_5 hp_6 => ?_)
    obtain ⟨rfl, rfl⟩ := hp_6
    show J G X mX8_low _ _ _ 27 _ [.int (b01 (inR (nI i) 0 (((lowF (ltF (rowM ml s) F) (midV (lits (rowM ml s) F 60) - d) (nts (rowM ml s) 60)).1.length : Int) - 1)))]
    refine J.if_eq dX8_low_27 (fun z => absurd z (by rw [hii]; decide)) (fun h9 => ?_)
    refine J.aload_n 0 dX8_low_30 rfl ?_
    refine J.get 0 fl_X8_48 dX8_low_31 rfl rfl ?_
    refine J.iload_n 3 dX8_low_34 rfl ?_
    refine J.iald 5 (i) dX8_low_35 rfl (rfl) (by omega) (by decide) ?_
    refine J.topi (y := nI (rg (lowF (ltF (rowM ml s) F) (midV (lits (rowM ml s) F 60) - d) (nts (rowM ml s) 60)).1 i)) (AG_rg hlt hi) ?_
    refine J.goto dX8_low_36 ?_
    exact J.iret B dX8_low_41 rfl (⟨so1, lt1, rfl, rfl⟩)
  · skip
    have h9 : ¬ 0 ≤ ((lowF (ltF (rowM ml s) F) (midV (lits (rowM ml s) F 60) - d) (nts (rowM ml s) 60)).1.length) := fun z => h9 ((nI_leI (a := 0) (b := ((lowF (ltF (rowM ml s) F) (midV (lits (rowM ml s) F 60) - d) (nts (rowM ml s) 60)).1.length)) (by omega) (by omega)).mpr z)
    omega
set_option maxHeartbeats 4000000 in
set_option maxRecDepth 100000 in
theorem r_turn_clk (l : Launch) (G : jG) (r : va_W) {m : Nat} {D : Nat → Nat} {fi : Int32} {as : Int64} {ns : Nat} {ii : Int32} {de : Int64} {dl dp dc : Int32} {nr : Nat} {al wa : Int32} {num d : Int32} {i c p q : Int32} (hc : (inR c 0 59 && (inR p 1 600 && inR q 1 60)) = false) : Mt l G yX8_turn mX8_turn 4 97 0 0 [.ref m, .int num, .int d, .int i, .int c, .int p, .int q] ((m, .inr (8, [.int fi, .ref (D 0), .long as, .int (nI ns), .ref (D 1), .ref (D 2), .ref (D 3), .ref (D 4), .ref (D 5), .ref (D 6), .ref (D 7), .ref (D 8), .int ii, .long de, .int dl, .int dp, .int dc, .ref (D 9), .int (nI nr), .ref (D 10), .ref (D 11), .ref (D 12), .ref (D 13), .ref (D 14), .int al, .int wa])) :: r) (fun v w => v = some (.int (-1 : Int32)) ∧ w = (m, .inr (8, [.int fi, .ref (D 0), .long as, .int (nI ns), .ref (D 1), .ref (D 2), .ref (D 3), .ref (D 4), .ref (D 5), .ref (D 6), .ref (D 7), .ref (D 8), .int ii, .long de, .int dl, .int dp, .int dc, .ref (D 9), .int (nI nr), .ref (D 10), .ref (D 11), .ref (D 12), .ref (D 13), .ref (D 14), .int al, .int wa])) :: r) := by
  refine Mt.of (by decide +kernel) rfl rfl (fun X B => ?_)
  show J G X mX8_turn ((m, .inr (8, [.int fi, .ref (D 0), .long as, .int (nI ns), .ref (D 1), .ref (D 2), .ref (D 3), .ref (D 4), .ref (D 5), .ref (D 6), .ref (D 7), .ref (D 8), .int ii, .long de, .int dl, .int dp, .int dc, .ref (D 9), .int (nI nr), .ref (D 10), .ref (D 11), .ref (D 12), .ref (D 13), .ref (D 14), .int al, .int wa])) :: r) 0 0 0 [(0, .ref m), (1, .int num), (2, .int d), (3, .int i), (4, .int c), (5, .int p), (6, .int q)] []
  refine J.iload 4 dX8_turn_0 rfl ?_
  refine J.iload 5 dX8_turn_2 rfl ?_
  refine J.iload 6 dX8_turn_4 rfl ?_
  refine J.callS (st := []) B (c_X8_isClock l G _ (c := c) (p := p) (q := q)) ml_X8_166 mf_yX8_isClock mS_yX8_isClock dX8_turn_6 rfl rfl rfl (fun v_1 w_2 hp_3 => ?_)
  obtain ⟨rfl, rfl⟩ := hp_3
  show J G X mX8_turn _ _ _ 9 _ [.int (b01 (inR c 0 59 && (inR p 1 600 && inR q 1 60)))]
  refine J.if_ne dX8_turn_9 (fun z => absurd (by rw [hc]; rfl) z) (fun h9 => ?_)
  refine J.iconst (-1 : Int32) dX8_turn_12 rfl ?_
  exact J.iret B dX8_turn_13 rfl (⟨rfl, rfl⟩)
set_option maxHeartbeats 4000000 in
set_option maxRecDepth 100000 in
theorem r_turn_d (l : Launch) (G : jG) (r : va_W) {m : Nat} {D : Nat → Nat} {fi : Int32} {as : Int64} {ns : Nat} {ii : Int32} {de : Int64} {dl dp dc : Int32} {nr : Nat} {al wa : Int32} {num : Int32} {i c p q : Int32} (hc : (inR c 0 59 && (inR p 1 600 && inR q 1 60)) = true) {d : Int32} (hd : inR d 1 10000 = false) : Mt l G yX8_turn mX8_turn 4 97 0 0 [.ref m, .int num, .int d, .int i, .int c, .int p, .int q] ((m, .inr (8, [.int fi, .ref (D 0), .long as, .int (nI ns), .ref (D 1), .ref (D 2), .ref (D 3), .ref (D 4), .ref (D 5), .ref (D 6), .ref (D 7), .ref (D 8), .int ii, .long de, .int dl, .int dp, .int dc, .ref (D 9), .int (nI nr), .ref (D 10), .ref (D 11), .ref (D 12), .ref (D 13), .ref (D 14), .int al, .int wa])) :: r) (fun v w => v = some (.int (-1 : Int32)) ∧ w = (m, .inr (8, [.int fi, .ref (D 0), .long as, .int (nI ns), .ref (D 1), .ref (D 2), .ref (D 3), .ref (D 4), .ref (D 5), .ref (D 6), .ref (D 7), .ref (D 8), .int ii, .long de, .int dl, .int dp, .int dc, .ref (D 9), .int (nI nr), .ref (D 10), .ref (D 11), .ref (D 12), .ref (D 13), .ref (D 14), .int al, .int wa])) :: r) := by
  refine Mt.of (by decide +kernel) rfl rfl (fun X B => ?_)
  show J G X mX8_turn ((m, .inr (8, [.int fi, .ref (D 0), .long as, .int (nI ns), .ref (D 1), .ref (D 2), .ref (D 3), .ref (D 4), .ref (D 5), .ref (D 6), .ref (D 7), .ref (D 8), .int ii, .long de, .int dl, .int dp, .int dc, .ref (D 9), .int (nI nr), .ref (D 10), .ref (D 11), .ref (D 12), .ref (D 13), .ref (D 14), .int al, .int wa])) :: r) 0 0 0 [(0, .ref m), (1, .int num), (2, .int d), (3, .int i), (4, .int c), (5, .int p), (6, .int q)] []
  refine J.iload 4 dX8_turn_0 rfl ?_
  refine J.iload 5 dX8_turn_2 rfl ?_
  refine J.iload 6 dX8_turn_4 rfl ?_
  refine J.callS (st := []) B (c_X8_isClock l G _ (c := c) (p := p) (q := q)) ml_X8_166 mf_yX8_isClock mS_yX8_isClock dX8_turn_6 rfl rfl rfl (fun v_1 w_2 hp_3 => ?_)
  obtain ⟨rfl, rfl⟩ := hp_3
  show J G X mX8_turn _ _ _ 9 _ [.int (b01 (inR c 0 59 && (inR p 1 600 && inR q 1 60)))]
  refine J.if_ne dX8_turn_9 (fun h9 => ?_) (fun z => absurd z (by rw [hc]; decide))
  refine J.aload_n 0 dX8_turn_14 rfl ?_
  refine J.iload_n 1 dX8_turn_15 rfl ?_
  refine J.iload_n 2 dX8_turn_16 rfl ?_
  refine J.callV 0 (st := []) B (c_X8_lowsOf_d l G _ hd) ml_X8_153 mf_yX8_lowsOf mi_yX8_lowsOf rfl dX8_turn_17 rfl rfl rfl rfl (fun v_4 w_5 hp_6 => ?_)
  obtain ⟨rfl, rfl⟩ := hp_6
  show J G X mX8_turn _ _ _ 20 _ [.int (-1 : Int32)]
  refine J.istore [1, 2, 3, 4, 5, 6, 7, 0] (lv' := [(0, .ref m), (1, .int num), (2, .int d), (3, .int i), (4, .int c), (5, .int p), (6, .int q), (7, .int (-1 : Int32))]) dX8_turn_20 rfl rfl ?_
  refine J.iload 7 dX8_turn_22 rfl ?_
  refine J.if_ge dX8_turn_24 (fun z => absurd z (by decide)) (fun _ => ?_)
  refine J.iload 7 dX8_turn_27 rfl ?_
  refine J.goto dX8_turn_29 ?_
  exact J.iret B dX8_turn_64 rfl (⟨rfl, rfl⟩)
set_option maxHeartbeats 4000000 in
set_option maxRecDepth 100000 in
theorem r_turn_bad (l : Launch) (G : jG) (r : va_W) {m : Nat} {D : Nat → Nat} {fi : Int32} {as : Int64} {ns : Nat} {ii : Int32} {de : Int64} {dl dp dc : Int32} {nr : Nat} {al wa : Int32} {rr : Nat → Int32} {num : Int32} (hns : ns ≤ 12) (hnum : inR num 0 ((ns : Int) - 1) = false) {i c p q : Int32} (hc : (inR c 0 59 && (inR p 1 600 && inR q 1 60)) = true) {d : Int32} (hd : inR d 1 10000 = true) : Mt l G yX8_turn mX8_turn 4 97 0 0 [.ref m, .int num, .int d, .int i, .int c, .int p, .int q] ((m, .inr (8, [.int fi, .ref (D 0), .long as, .int (nI ns), .ref (D 1), .ref (D 2), .ref (D 3), .ref (D 4), .ref (D 5), .ref (D 6), .ref (D 7), .ref (D 8), .int ii, .long de, .int dl, .int dp, .int dc, .ref (D 9), .int (nI nr), .ref (D 10), .ref (D 11), .ref (D 12), .ref (D 13), .ref (D 14), .int al, .int wa])) :: (D 2, .inl (G.2.1.2.1, 12, .inl rr)) :: r) (fun v w => v = some (.int (-1 : Int32)) ∧ w = (m, .inr (8, [.int fi, .ref (D 0), .long as, .int (nI ns), .ref (D 1), .ref (D 2), .ref (D 3), .ref (D 4), .ref (D 5), .ref (D 6), .ref (D 7), .ref (D 8), .int ii, .long de, .int dl, .int dp, .int dc, .ref (D 9), .int (nI nr), .ref (D 10), .ref (D 11), .ref (D 12), .ref (D 13), .ref (D 14), .int al, .int wa])) :: (D 2, .inl (G.2.1.2.1, 12, .inl rr)) :: r) := by
  refine Mt.of (by decide +kernel) rfl rfl (fun X B => ?_)
  show J G X mX8_turn ((m, .inr (8, [.int fi, .ref (D 0), .long as, .int (nI ns), .ref (D 1), .ref (D 2), .ref (D 3), .ref (D 4), .ref (D 5), .ref (D 6), .ref (D 7), .ref (D 8), .int ii, .long de, .int dl, .int dp, .int dc, .ref (D 9), .int (nI nr), .ref (D 10), .ref (D 11), .ref (D 12), .ref (D 13), .ref (D 14), .int al, .int wa])) :: (D 2, .inl (G.2.1.2.1, 12, .inl rr)) :: r) 0 0 0 [(0, .ref m), (1, .int num), (2, .int d), (3, .int i), (4, .int c), (5, .int p), (6, .int q)] []
  refine J.iload 4 dX8_turn_0 rfl ?_
  refine J.iload 5 dX8_turn_2 rfl ?_
  refine J.iload 6 dX8_turn_4 rfl ?_
  refine J.callS (st := []) B (c_X8_isClock l G _ (c := c) (p := p) (q := q)) ml_X8_166 mf_yX8_isClock mS_yX8_isClock dX8_turn_6 rfl rfl rfl (fun v_1 w_2 hp_3 => ?_)
  obtain ⟨rfl, rfl⟩ := hp_3
  show J G X mX8_turn _ _ _ 9 _ [.int (b01 (inR c 0 59 && (inR p 1 600 && inR q 1 60)))]
  refine J.if_ne dX8_turn_9 (fun h9 => ?_) (fun z => absurd z (by rw [hc]; decide))
  refine J.aload_n 0 dX8_turn_14 rfl ?_
  refine J.iload_n 1 dX8_turn_15 rfl ?_
  refine J.iload_n 2 dX8_turn_16 rfl ?_
  refine J.callV 0 (st := []) B (c_X8_lowsOf_bad l G _ hns hnum hd) ml_X8_153 mf_yX8_lowsOf mi_yX8_lowsOf rfl dX8_turn_17 rfl rfl rfl rfl (fun v_4 w_5 hp_6 => ?_)
  obtain ⟨rfl, rfl⟩ := hp_6
  show J G X mX8_turn _ _ _ 20 _ [.int (-1 : Int32)]
  refine J.istore [1, 2, 3, 4, 5, 6, 7, 0] (lv' := [(0, .ref m), (1, .int num), (2, .int d), (3, .int i), (4, .int c), (5, .int p), (6, .int q), (7, .int (-1 : Int32))]) dX8_turn_20 rfl rfl ?_
  refine J.iload 7 dX8_turn_22 rfl ?_
  refine J.if_ge dX8_turn_24 (fun z => absurd z (by decide)) (fun _ => ?_)
  refine J.iload 7 dX8_turn_27 rfl ?_
  refine J.goto dX8_turn_29 ?_
  exact J.iret B dX8_turn_64 rfl (⟨rfl, rfl⟩)
set_option maxHeartbeats 4000000 in
set_option maxRecDepth 100000 in
theorem r_turn_no (l : Launch) (G : jG) (r : va_W) {m : Nat} {D : Nat → Nat} {fi : Int32} {as : Int64} {ns : Nat} {ii : Int32} {de : Int64} {dl dp dc : Int32} {nr : Nat} {al wa : Int32} {rr : Nat → Int32} {s : Nat} (hk : s < ns) (hns : ns ≤ 12) {fc : Nat → Int32} {i c p q : Int32} (hc : (inR c 0 59 && (inR p 1 600 && inR q 1 60)) = true) (hr : rr s = 0) {d : Int32} (hd : inR d 1 10000 = true) : Mt l G yX8_turn mX8_turn 4 97 0 0 [.ref m, .int (nI s), .int d, .int i, .int c, .int p, .int q] ((m, .inr (8, [.int fi, .ref (D 0), .long as, .int (nI ns), .ref (D 1), .ref (D 2), .ref (D 3), .ref (D 4), .ref (D 5), .ref (D 6), .ref (D 7), .ref (D 8), .int ii, .long de, .int dl, .int dp, .int dc, .ref (D 9), .int (nI nr), .ref (D 10), .ref (D 11), .ref (D 12), .ref (D 13), .ref (D 14), .int al, .int wa])) :: (D 2, .inl (G.2.1.2.1, 12, .inl rr)) :: (D 0, .inl (G.2.1.1, 6, .inl fc)) :: r) (fun v w => v = some (.int (-3 : Int32)) ∧ w = (m, .inr (8, [.int (nI 1), .ref (D 0), .long as, .int (nI ns), .ref (D 1), .ref (D 2), .ref (D 3), .ref (D 4), .ref (D 5), .ref (D 6), .ref (D 7), .ref (D 8), .int ii, .long de, .int dl, .int dp, .int dc, .ref (D 9), .int (nI nr), .ref (D 10), .ref (D 11), .ref (D 12), .ref (D 13), .ref (D 14), .int al, .int wa])) :: (D 2, .inl (G.2.1.2.1, 12, .inl rr)) :: (D 0, .inl (G.2.1.1, 6, .inl (upd fc 1 (fc 1 + 1)))) :: r) := by
  refine Mt.of (by decide +kernel) rfl rfl (fun X B => ?_)
  show J G X mX8_turn ((m, .inr (8, [.int fi, .ref (D 0), .long as, .int (nI ns), .ref (D 1), .ref (D 2), .ref (D 3), .ref (D 4), .ref (D 5), .ref (D 6), .ref (D 7), .ref (D 8), .int ii, .long de, .int dl, .int dp, .int dc, .ref (D 9), .int (nI nr), .ref (D 10), .ref (D 11), .ref (D 12), .ref (D 13), .ref (D 14), .int al, .int wa])) :: (D 2, .inl (G.2.1.2.1, 12, .inl rr)) :: (D 0, .inl (G.2.1.1, 6, .inl fc)) :: r) 0 0 0 [(0, .ref m), (1, .int (nI s)), (2, .int d), (3, .int i), (4, .int c), (5, .int p), (6, .int q)] []
  refine J.iload 4 dX8_turn_0 rfl ?_
  refine J.iload 5 dX8_turn_2 rfl ?_
  refine J.iload 6 dX8_turn_4 rfl ?_
  refine J.callS (st := []) B (c_X8_isClock l G _ (c := c) (p := p) (q := q)) ml_X8_166 mf_yX8_isClock mS_yX8_isClock dX8_turn_6 rfl rfl rfl (fun v_1 w_2 hp_3 => ?_)
  obtain ⟨rfl, rfl⟩ := hp_3
  show J G X mX8_turn _ _ _ 9 _ [.int (b01 (inR c 0 59 && (inR p 1 600 && inR q 1 60)))]
  refine J.if_ne dX8_turn_9 (fun h9 => ?_) (fun z => absurd z (by rw [hc]; decide))
  refine J.aload_n 0 dX8_turn_14 rfl ?_
  refine J.iload_n 1 dX8_turn_15 rfl ?_
  refine J.iload_n 2 dX8_turn_16 rfl ?_
  refine J.callV 0 (st := []) B (c_X8_lowsOf_no l G _ hk hns hr hd) ml_X8_153 mf_yX8_lowsOf mi_yX8_lowsOf rfl dX8_turn_17 rfl rfl rfl rfl (fun v_4 w_5 hp_6 => ?_)
  obtain ⟨rfl, rfl⟩ := hp_6
  show J G X mX8_turn _ _ _ 20 _ [.int (-3 : Int32)]
  refine J.istore [1, 2, 3, 4, 5, 6, 7, 0] (lv' := [(0, .ref m), (1, .int (nI s)), (2, .int d), (3, .int i), (4, .int c), (5, .int p), (6, .int q), (7, .int (-3 : Int32))]) dX8_turn_20 rfl rfl ?_
  refine J.iload 7 dX8_turn_22 rfl ?_
  refine J.if_ge dX8_turn_24 (fun z => absurd z (by decide)) (fun _ => ?_)
  refine J.iload 7 dX8_turn_27 rfl ?_
  refine J.goto dX8_turn_29 ?_
  exact J.iret B dX8_turn_64 rfl (⟨rfl, rfl⟩)
set_option maxHeartbeats 4000000 in
set_option maxRecDepth 100000 in
theorem r_turn_nought (l : Launch) (G : jG) (r : va_W) {m : Nat} {D : Nat → Nat} {fi : Int32} {as : Int64} {ns : Nat} {ii : Int32} {de : Int64} {dl dp dc : Int32} {nr : Nat} {al wa : Int32} {rr : Nat → Int32} {s : Nat} (hk : s < ns) (hns : ns ≤ 12) {fc : Nat → Int32} {ml : Nat → Int32} {i c p q : Int32} (hc : (inR c 0 59 && (inR p 1 600 && inR q 1 60)) = true) (hr : ¬ rr s = 0) (h0 : nN (rowM ml s) = 0) {d : Int32} (hd : inR d 1 10000 = true) : Mt l G yX8_turn mX8_turn 4 97 0 0 [.ref m, .int (nI s), .int d, .int i, .int c, .int p, .int q] ((m, .inr (8, [.int fi, .ref (D 0), .long as, .int (nI ns), .ref (D 1), .ref (D 2), .ref (D 3), .ref (D 4), .ref (D 5), .ref (D 6), .ref (D 7), .ref (D 8), .int ii, .long de, .int dl, .int dp, .int dc, .ref (D 9), .int (nI nr), .ref (D 10), .ref (D 11), .ref (D 12), .ref (D 13), .ref (D 14), .int al, .int wa])) :: (D 2, .inl (G.2.1.2.1, 12, .inl rr)) :: (D 3, .inl (G.2.1.1, 720, .inl ml)) :: (D 0, .inl (G.2.1.1, 6, .inl fc)) :: r) (fun v w => v = some (.int (-3 : Int32)) ∧ w = (m, .inr (8, [.int (nI 4), .ref (D 0), .long as, .int (nI ns), .ref (D 1), .ref (D 2), .ref (D 3), .ref (D 4), .ref (D 5), .ref (D 6), .ref (D 7), .ref (D 8), .int ii, .long de, .int dl, .int dp, .int dc, .ref (D 9), .int (nI nr), .ref (D 10), .ref (D 11), .ref (D 12), .ref (D 13), .ref (D 14), .int al, .int wa])) :: (D 2, .inl (G.2.1.2.1, 12, .inl rr)) :: (D 3, .inl (G.2.1.1, 720, .inl ml)) :: (D 0, .inl (G.2.1.1, 6, .inl (upd fc 4 (fc 4 + 1)))) :: r) := by
  refine Mt.of (by decide +kernel) rfl rfl (fun X B => ?_)
  show J G X mX8_turn ((m, .inr (8, [.int fi, .ref (D 0), .long as, .int (nI ns), .ref (D 1), .ref (D 2), .ref (D 3), .ref (D 4), .ref (D 5), .ref (D 6), .ref (D 7), .ref (D 8), .int ii, .long de, .int dl, .int dp, .int dc, .ref (D 9), .int (nI nr), .ref (D 10), .ref (D 11), .ref (D 12), .ref (D 13), .ref (D 14), .int al, .int wa])) :: (D 2, .inl (G.2.1.2.1, 12, .inl rr)) :: (D 3, .inl (G.2.1.1, 720, .inl ml)) :: (D 0, .inl (G.2.1.1, 6, .inl fc)) :: r) 0 0 0 [(0, .ref m), (1, .int (nI s)), (2, .int d), (3, .int i), (4, .int c), (5, .int p), (6, .int q)] []
  refine J.iload 4 dX8_turn_0 rfl ?_
  refine J.iload 5 dX8_turn_2 rfl ?_
  refine J.iload 6 dX8_turn_4 rfl ?_
  refine J.callS (st := []) B (c_X8_isClock l G _ (c := c) (p := p) (q := q)) ml_X8_166 mf_yX8_isClock mS_yX8_isClock dX8_turn_6 rfl rfl rfl (fun v_1 w_2 hp_3 => ?_)
  obtain ⟨rfl, rfl⟩ := hp_3
  show J G X mX8_turn _ _ _ 9 _ [.int (b01 (inR c 0 59 && (inR p 1 600 && inR q 1 60)))]
  refine J.if_ne dX8_turn_9 (fun h9 => ?_) (fun z => absurd z (by rw [hc]; decide))
  refine J.aload_n 0 dX8_turn_14 rfl ?_
  refine J.iload_n 1 dX8_turn_15 rfl ?_
  refine J.iload_n 2 dX8_turn_16 rfl ?_
  refine J.callV 0 (st := []) B (c_X8_lowsOf_nought l G _ hk hns hr h0 hd) ml_X8_153 mf_yX8_lowsOf mi_yX8_lowsOf rfl dX8_turn_17 rfl rfl rfl rfl (fun v_4 w_5 hp_6 => ?_)
  obtain ⟨rfl, rfl⟩ := hp_6
  show J G X mX8_turn _ _ _ 20 _ [.int (-3 : Int32)]
  refine J.istore [1, 2, 3, 4, 5, 6, 7, 0] (lv' := [(0, .ref m), (1, .int (nI s)), (2, .int d), (3, .int i), (4, .int c), (5, .int p), (6, .int q), (7, .int (-3 : Int32))]) dX8_turn_20 rfl rfl ?_
  refine J.iload 7 dX8_turn_22 rfl ?_
  refine J.if_ge dX8_turn_24 (fun z => absurd z (by decide)) (fun _ => ?_)
  refine J.iload 7 dX8_turn_27 rfl ?_
  refine J.goto dX8_turn_29 ?_
  exact J.iret B dX8_turn_64 rfl (⟨rfl, rfl⟩)
set_option maxHeartbeats 4000000 in
set_option maxRecDepth 100000 in
theorem r_turn_none (l : Launch) (G : jG) (r : va_W) {m : Nat} {D : Nat → Nat} {fi : Int32} {as : Int64} {ns : Nat} {ii : Int32} {de : Int64} {dl dp dc : Int32} {nr : Nat} {al wa : Int32} {rr : Nat → Int32} {s : Nat} (hk : s < ns) (hns : ns ≤ 12) {ml F : Nat → Int32} {so lti : Nat → Int32} {c p q : Int32} (hc : (inR c 0 59 && (inR p 1 600 && inR q 1 60)) = true) (hr : ¬ rr s = 0) (h0 : 0 < nN (rowM ml s)) {d : Int32} (hd : inR d 1 10000 = true) {i : Int32} (hi : inR i 0 (((lowF (ltF (rowM ml s) F) (midV (lits (rowM ml s) F 60) - d) (nts (rowM ml s) 60)).1.length : Int) - 1) = false) : Mt l G yX8_turn mX8_turn 4 97 0 0 [.ref m, .int (nI s), .int d, .int i, .int c, .int p, .int q] ((m, .inr (8, [.int fi, .ref (D 0), .long as, .int (nI ns), .ref (D 1), .ref (D 2), .ref (D 3), .ref (D 4), .ref (D 5), .ref (D 6), .ref (D 7), .ref (D 8), .int ii, .long de, .int dl, .int dp, .int dc, .ref (D 9), .int (nI nr), .ref (D 10), .ref (D 11), .ref (D 12), .ref (D 13), .ref (D 14), .int al, .int wa])) :: (D 2, .inl (G.2.1.2.1, 12, .inl rr)) :: (D 3, .inl (G.2.1.1, 720, .inl ml)) :: (D 4, .inl (G.2.1.1, 60, .inl F)) :: (D 6, .inl (G.2.1.1, 60, .inl so)) :: (D 9, .inl (G.2.1.1, 60, .inl lti)) :: r) (fun v w => ∃ so1 lt1, v = some (.int (-9)) ∧ w = (m, .inr (8, [.int fi, .ref (D 0), .long as, .int (nI ns), .ref (D 1), .ref (D 2), .ref (D 3), .ref (D 4), .ref (D 5), .ref (D 6), .ref (D 7), .ref (D 8), .int ii, .long de, .int dl, .int dp, .int dc, .ref (D 9), .int (nI nr), .ref (D 10), .ref (D 11), .ref (D 12), .ref (D 13), .ref (D 14), .int al, .int wa])) :: (D 2, .inl (G.2.1.2.1, 12, .inl rr)) :: (D 3, .inl (G.2.1.1, 720, .inl ml)) :: (D 4, .inl (G.2.1.1, 60, .inl F)) :: (D 6, .inl (G.2.1.1, 60, .inl so1)) :: (D 9, .inl (G.2.1.1, 60, .inl lt1)) :: r) := by
  refine Mt.of (by decide +kernel) rfl rfl (fun X B => ?_)
  show J G X mX8_turn ((m, .inr (8, [.int fi, .ref (D 0), .long as, .int (nI ns), .ref (D 1), .ref (D 2), .ref (D 3), .ref (D 4), .ref (D 5), .ref (D 6), .ref (D 7), .ref (D 8), .int ii, .long de, .int dl, .int dp, .int dc, .ref (D 9), .int (nI nr), .ref (D 10), .ref (D 11), .ref (D 12), .ref (D 13), .ref (D 14), .int al, .int wa])) :: (D 2, .inl (G.2.1.2.1, 12, .inl rr)) :: (D 3, .inl (G.2.1.1, 720, .inl ml)) :: (D 4, .inl (G.2.1.1, 60, .inl F)) :: (D 6, .inl (G.2.1.1, 60, .inl so)) :: (D 9, .inl (G.2.1.1, 60, .inl lti)) :: r) 0 0 0 [(0, .ref m), (1, .int (nI s)), (2, .int d), (3, .int i), (4, .int c), (5, .int p), (6, .int q)] []
  have hll : (lowF (ltF (rowM ml s) F) (midV (lits (rowM ml s) F 60) - d) (nts (rowM ml s) 60)).1.length ≤ 60 := Nat.le_trans (lowF_le _ _ _) (nN_le (rowM ml s))
  refine J.iload 4 dX8_turn_0 rfl ?_
  refine J.iload 5 dX8_turn_2 rfl ?_
  refine J.iload 6 dX8_turn_4 rfl ?_
  refine J.callS (st := []) B (c_X8_isClock l G _ (c := c) (p := p) (q := q)) ml_X8_166 mf_yX8_isClock mS_yX8_isClock dX8_turn_6 rfl rfl rfl (fun v_1 w_2 hp_3 => ?_)
  obtain ⟨rfl, rfl⟩ := hp_3
  show J G X mX8_turn _ _ _ 9 _ [.int (b01 (inR c 0 59 && (inR p 1 600 && inR q 1 60)))]
  refine J.if_ne dX8_turn_9 (fun h9 => ?_) (fun z => absurd z (by rw [hc]; decide))
  refine J.aload_n 0 dX8_turn_14 rfl ?_
  refine J.iload_n 1 dX8_turn_15 rfl ?_
  refine J.iload_n 2 dX8_turn_16 rfl ?_
  refine J.callV 0 (st := []) B (c_X8_lowsOf l G _ hk hns hr h0 hd) ml_X8_153 mf_yX8_lowsOf mi_yX8_lowsOf rfl dX8_turn_17 rfl rfl rfl rfl (fun v_4 w_5 hp_6 => ?_)
  obtain ⟨so1, lt1, hlt, rfl, rfl⟩ := hp_6
  show J G X mX8_turn _ _ _ 20 _ [.int (nI ((lowF (ltF (rowM ml s) F) (midV (lits (rowM ml s) F 60) - d) (nts (rowM ml s) 60)).1.length))]
  refine J.istore [1, 2, 3, 4, 5, 6, 7, 0] (lv' := [(0, .ref m), (1, .int (nI s)), (2, .int d), (3, .int i), (4, .int c), (5, .int p), (6, .int q), (7, .int (nI ((lowF (ltF (rowM ml s) F) (midV (lits (rowM ml s) F 60) - d) (nts (rowM ml s) 60)).1.length)))]) dX8_turn_20 rfl rfl ?_
  refine J.iload 7 dX8_turn_22 rfl ?_
  refine J.if_ge dX8_turn_24 (fun h9 => ?_) (fun h9 => ?_)
  · skip
    have h9 : 0 ≤ ((lowF (ltF (rowM ml s) F) (midV (lits (rowM ml s) F 60) - d) (nts (rowM ml s) 60)).1.length) := (nI_leI (a := 0) (b := ((lowF (ltF (rowM ml s) F) (midV (lits (rowM ml s) F 60) - d) (nts (rowM ml s) 60)).1.length)) (by omega) (by omega)).mp h9
    refine J.iload_n 3 dX8_turn_32 rfl ?_
    refine J.iconst (0 : Int32) dX8_turn_33 rfl ?_
    refine J.iload 7 dX8_turn_34 rfl ?_
    refine J.iconst (1 : Int32) dX8_turn_36 rfl ?_
    refine J.isub dX8_turn_37 ?_
    refine J.callS (st := []) B (c_X8_in l G _ (v := i) (lo := 0) (hi := (nI ((lowF (ltF (rowM ml s) F) (midV (lits (rowM ml s) F 60) - d) (nts (rowM ml s) 60)).1.length)) - (1 : Int32)) (a := 0) (b := ((lowF (ltF (rowM ml s) F) (midV (lits (rowM ml s) F 60) - d) (nts (rowM ml s) 60)).1.length : Int) - 1) rfl (pk_sub_toInt (a := (lowF (ltF (rowM ml s) F) (midV (lits (rowM ml s) F 60) - d) (nts (rowM ml s) 60)).1.length) (b := 1) (by omega) (by omega))) ml_X8_76 mf_yX8_in mS_yX8_in dX8_turn_38 rfl rfl rfl (fun v_7 w_8 hp_9 => ?_)
    obtain ⟨rfl, rfl⟩ := hp_9
    show J G X mX8_turn _ _ _ 41 _ [.int (b01 (inR i 0 (((lowF (ltF (rowM ml s) F) (midV (lits (rowM ml s) F 60) - d) (nts (rowM ml s) 60)).1.length : Int) - 1)))]
    refine J.if_eq dX8_turn_41 (fun h9 => ?_) (fun z => absurd (by rw [hi]; rfl) z)
    refine J.bipush (-9 : Int32) dX8_turn_62 rfl ?_
    exact J.iret B dX8_turn_64 rfl (⟨so1, lt1, rfl, rfl⟩)
  · skip
    have h9 : ¬ 0 ≤ ((lowF (ltF (rowM ml s) F) (midV (lits (rowM ml s) F 60) - d) (nts (rowM ml s) 60)).1.length) := fun z => h9 ((nI_leI (a := 0) (b := ((lowF (ltF (rowM ml s) F) (midV (lits (rowM ml s) F 60) - d) (nts (rowM ml s) 60)).1.length)) (by omega) (by omega)).mpr z)
    omega
set_option maxHeartbeats 4000000 in
set_option maxRecDepth 100000 in
theorem r_turn (l : Launch) (G : jG) (r : va_W) {m : Nat} {D : Nat → Nat} {fi : Int32} {as : Int64} {ns : Nat} {ii : Int32} {de : Int64} {dl dp dc : Int32} {nr : Nat} {al wa : Int32} {rr : Nat → Int32} {s : Nat} (hk : s < ns) (hns : ns ≤ 12) {ml F : Nat → Int32} {so lti : Nat → Int32} (hr : ¬ rr s = 0) (h0 : 0 < nN (rowM ml s)) {d : Int32} (hd : inR d 1 10000 = true) {i : Nat} (hi : i < (lowF (ltF (rowM ml s) F) (midV (lits (rowM ml s) F 60) - d) (nts (rowM ml s) 60)).1.length) {c : Nat} (hc0 : c < 60) {p q : Nat} (hp1 : 1 ≤ p) (hp2 : p ≤ 600) (hq1 : 1 ≤ q) (hq2 : q ≤ 60) : Mt l G yX8_turn mX8_turn 4 97 0 0 [.ref m, .int (nI s), .int d, .int (nI i), .int (nI c), .int (nI p), .int (nI q)] ((m, .inr (8, [.int fi, .ref (D 0), .long as, .int (nI ns), .ref (D 1), .ref (D 2), .ref (D 3), .ref (D 4), .ref (D 5), .ref (D 6), .ref (D 7), .ref (D 8), .int ii, .long de, .int dl, .int dp, .int dc, .ref (D 9), .int (nI nr), .ref (D 10), .ref (D 11), .ref (D 12), .ref (D 13), .ref (D 14), .int al, .int wa])) :: (D 2, .inl (G.2.1.2.1, 12, .inl rr)) :: (D 3, .inl (G.2.1.1, 720, .inl ml)) :: (D 4, .inl (G.2.1.1, 60, .inl F)) :: (D 6, .inl (G.2.1.1, 60, .inl so)) :: (D 9, .inl (G.2.1.1, 60, .inl lti)) :: r) (fun v w => ∃ so1 lt1, v = some (.int 1) ∧ w = (m, .inr (8, [.int fi, .ref (D 0), .long (Int64.ofInt (tuI (rg (lowF (ltF (rowM ml s) F) (midV (lits (rowM ml s) F 60) - d) (nts (rowM ml s) 60)).1 i) c p q)), .int (nI ns), .ref (D 1), .ref (D 2), .ref (D 3), .ref (D 4), .ref (D 5), .ref (D 6), .ref (D 7), .ref (D 8), .int ii, .long de, .int dl, .int dp, .int dc, .ref (D 9), .int (nI nr), .ref (D 10), .ref (D 11), .ref (D 12), .ref (D 13), .ref (D 14), .int al, .int wa])) :: (D 2, .inl (G.2.1.2.1, 12, .inl rr)) :: (D 3, .inl (G.2.1.1, 720, .inl ml)) :: (D 4, .inl (G.2.1.1, 60, .inl F)) :: (D 6, .inl (G.2.1.1, 60, .inl so1)) :: (D 9, .inl (G.2.1.1, 60, .inl lt1)) :: r) := by
  refine Mt.of (by decide +kernel) rfl rfl (fun X B => ?_)
  show J G X mX8_turn ((m, .inr (8, [.int fi, .ref (D 0), .long as, .int (nI ns), .ref (D 1), .ref (D 2), .ref (D 3), .ref (D 4), .ref (D 5), .ref (D 6), .ref (D 7), .ref (D 8), .int ii, .long de, .int dl, .int dp, .int dc, .ref (D 9), .int (nI nr), .ref (D 10), .ref (D 11), .ref (D 12), .ref (D 13), .ref (D 14), .int al, .int wa])) :: (D 2, .inl (G.2.1.2.1, 12, .inl rr)) :: (D 3, .inl (G.2.1.1, 720, .inl ml)) :: (D 4, .inl (G.2.1.1, 60, .inl F)) :: (D 6, .inl (G.2.1.1, 60, .inl so)) :: (D 9, .inl (G.2.1.1, 60, .inl lti)) :: r) 0 0 0 [(0, .ref m), (1, .int (nI s)), (2, .int d), (3, .int (nI i)), (4, .int (nI c)), (5, .int (nI p)), (6, .int (nI q))] []
  have hll : (lowF (ltF (rowM ml s) F) (midV (lits (rowM ml s) F 60) - d) (nts (rowM ml s) 60)).1.length ≤ 60 := Nat.le_trans (lowF_le _ _ _) (nN_le (rowM ml s))
  have hpi : inR (nI p) 1 600 = true := by rw [nI_inR (by omega)]; exact decide_eq_true ⟨by omega, by omega⟩
  have hqi : inR (nI q) 1 60 = true := by rw [nI_inR (by omega)]; exact decide_eq_true ⟨by omega, by omega⟩
  have hc : (inR (nI c) 0 59 && (inR (nI p) 1 600 && inR (nI q) 1 60)) = true := by
    rw [hpi, hqi, nI_inR (by omega), decide_eq_true (p := (0 : Int) ≤ (c : Int) ∧ (c : Int) ≤ 59) ⟨by omega, by omega⟩]
    rfl
  have hii : inR (nI i) 0 (((lowF (ltF (rowM ml s) F) (midV (lits (rowM ml s) F 60) - d) (nts (rowM ml s) 60)).1.length : Int) - 1) = true := by rw [nI_inR (by omega)]; exact decide_eq_true ⟨by omega, by omega⟩
  have hlw0 : rg (lowF (ltF (rowM ml s) F) (midV (lits (rowM ml s) F 60) - d) (nts (rowM ml s) 60)).1 i < 60 := (mem_nts.mp (lowF_mem (rg_mem (by omega)))).1
  refine J.iload 4 dX8_turn_0 rfl ?_
  refine J.iload 5 dX8_turn_2 rfl ?_
  refine J.iload 6 dX8_turn_4 rfl ?_
  refine J.callS (st := []) B (c_X8_isClock l G _ (c := nI c) (p := nI p) (q := nI q)) ml_X8_166 mf_yX8_isClock mS_yX8_isClock dX8_turn_6 rfl rfl rfl (fun v_1 w_2 hp_3 => ?_)
  obtain ⟨rfl, rfl⟩ := hp_3
  show J G X mX8_turn _ _ _ 9 _ [.int (b01 (inR (nI c) 0 59 && (inR (nI p) 1 600 && inR (nI q) 1 60)))]
  refine J.if_ne dX8_turn_9 (fun h9 => ?_) (fun z => absurd z (by rw [hc]; decide))
  refine J.aload_n 0 dX8_turn_14 rfl ?_
  refine J.iload_n 1 dX8_turn_15 rfl ?_
  refine J.iload_n 2 dX8_turn_16 rfl ?_
  refine J.callV 0 (st := []) B (c_X8_lowsOf l G _ hk hns hr h0 hd) ml_X8_153 mf_yX8_lowsOf mi_yX8_lowsOf rfl dX8_turn_17 rfl rfl rfl rfl (fun v_4 w_5 hp_6 => ?_)
  obtain ⟨so1, lt1, hlt, rfl, rfl⟩ := hp_6
  show J G X mX8_turn _ _ _ 20 _ [.int (nI ((lowF (ltF (rowM ml s) F) (midV (lits (rowM ml s) F 60) - d) (nts (rowM ml s) 60)).1.length))]
  refine J.istore [1, 2, 3, 4, 5, 6, 7, 0] (lv' := [(0, .ref m), (1, .int (nI s)), (2, .int d), (3, .int (nI i)), (4, .int (nI c)), (5, .int (nI p)), (6, .int (nI q)), (7, .int (nI ((lowF (ltF (rowM ml s) F) (midV (lits (rowM ml s) F 60) - d) (nts (rowM ml s) 60)).1.length)))]) dX8_turn_20 rfl rfl ?_
  refine J.iload 7 dX8_turn_22 rfl ?_
  refine J.if_ge dX8_turn_24 (fun h9 => ?_) (fun h9 => ?_)
  · skip
    have h9 : 0 ≤ ((lowF (ltF (rowM ml s) F) (midV (lits (rowM ml s) F 60) - d) (nts (rowM ml s) 60)).1.length) := (nI_leI (a := 0) (b := ((lowF (ltF (rowM ml s) F) (midV (lits (rowM ml s) F 60) - d) (nts (rowM ml s) 60)).1.length)) (by omega) (by omega)).mp h9
    refine J.iload_n 3 dX8_turn_32 rfl ?_
    refine J.iconst (0 : Int32) dX8_turn_33 rfl ?_
    refine J.iload 7 dX8_turn_34 rfl ?_
    refine J.iconst (1 : Int32) dX8_turn_36 rfl ?_
    refine J.isub dX8_turn_37 ?_
    refine J.callS (st := []) B (c_X8_in l G _ (v := nI i) (lo := 0) (hi := (nI ((lowF (ltF (rowM ml s) F) (midV (lits (rowM ml s) F 60) - d) (nts (rowM ml s) 60)).1.length)) - (1 : Int32)) (a := 0) (b := ((lowF (ltF (rowM ml s) F) (midV (lits (rowM ml s) F 60) - d) (nts (rowM ml s) 60)).1.length : Int) - 1) rfl (pk_sub_toInt (a := (lowF (ltF (rowM ml s) F) (midV (lits (rowM ml s) F 60) - d) (nts (rowM ml s) 60)).1.length) (b := 1) (by omega) (by omega))) ml_X8_76 mf_yX8_in mS_yX8_in dX8_turn_38 rfl rfl rfl (fun v_7 w_8 hp_9 => ?_)
    obtain ⟨rfl, rfl⟩ := hp_9
    show J G X mX8_turn _ _ _ 41 _ [.int (b01 (inR (nI i) 0 (((lowF (ltF (rowM ml s) F) (midV (lits (rowM ml s) F 60) - d) (nts (rowM ml s) 60)).1.length : Int) - 1)))]
    refine J.if_eq dX8_turn_41 (fun z => absurd z (by rw [hii]; decide)) (fun h9 => ?_)
    refine J.aload_n 0 dX8_turn_44 rfl ?_
    refine J.aload_n 0 dX8_turn_45 rfl ?_
    refine J.iload_n 3 dX8_turn_46 rfl ?_
    refine J.iload 4 dX8_turn_47 rfl ?_
    refine J.iload 5 dX8_turn_49 rfl ?_
    refine J.iload 6 dX8_turn_51 rfl ?_
    refine J.re [0, 5, 1, 2, 3, 4] 6 (ws2 := (m, .inr (8, [.int fi, .ref (D 0), .long as, .int (nI ns), .ref (D 1), .ref (D 2), .ref (D 3), .ref (D 4), .ref (D 5), .ref (D 6), .ref (D 7), .ref (D 8), .int ii, .long de, .int dl, .int dp, .int dc, .ref (D 9), .int (nI nr), .ref (D 10), .ref (D 11), .ref (D 12), .ref (D 13), .ref (D 14), .int al, .int wa])) :: (D 9, .inl (G.2.1.1, 60, .inl lt1)) :: (D 2, .inl (G.2.1.2.1, 12, .inl rr)) :: (D 3, .inl (G.2.1.1, 720, .inl ml)) :: (D 4, .inl (G.2.1.1, 60, .inl F)) :: (D 6, .inl (G.2.1.1, 60, .inl so1)) :: r) rfl rfl ?_
    refine J.callV 0 (st := [.ref m]) B (c_X8_turnOf l G _ (i := i) (tv := rg (lowF (ltF (rowM ml s) F) (midV (lits (rowM ml s) F 60) - d) (nts (rowM ml s) 60)).1 i) (by omega) (AG_rg hlt (by omega)) hlw0 hc0 hq2 hp1 hp2) ml_X8_162 mf_yX8_turnOf mi_yX8_turnOf rfl dX8_turn_53 rfl rfl rfl rfl (fun v_10 w_11 hp_12 => ?_)
    obtain ⟨rfl, rfl⟩ := hp_12
    refine J.re [0, 2, 3, 4, 5, 1] 6 (ws2 := (m, .inr (8, [.int fi, .ref (D 0), .long as, .int (nI ns), .ref (D 1), .ref (D 2), .ref (D 3), .ref (D 4), .ref (D 5), .ref (D 6), .ref (D 7), .ref (D 8), .int ii, .long de, .int dl, .int dp, .int dc, .ref (D 9), .int (nI nr), .ref (D 10), .ref (D 11), .ref (D 12), .ref (D 13), .ref (D 14), .int al, .int wa])) :: (D 2, .inl (G.2.1.2.1, 12, .inl rr)) :: (D 3, .inl (G.2.1.1, 720, .inl ml)) :: (D 4, .inl (G.2.1.1, 60, .inl F)) :: (D 6, .inl (G.2.1.1, 60, .inl so1)) :: (D 9, .inl (G.2.1.1, 60, .inl lt1)) :: r) rfl rfl ?_
    show J G X mX8_turn _ _ _ 56 _ [.long (Int64.ofInt (tuI (rg (lowF (ltF (rowM ml s) F) (midV (lits (rowM ml s) F 60) - d) (nts (rowM ml s) 60)).1 i) c p q)), .ref m]
    refine J.callV 0 (st := []) B (c_X8_tell l G _ (t0 := Int64.ofInt (tuI (rg (lowF (ltF (rowM ml s) F) (midV (lits (rowM ml s) F 60) - d) (nts (rowM ml s) 60)).1 i) c p q))) ml_X8_114 mf_yX8_tell mi_yX8_tell rfl dX8_turn_56 rfl rfl rfl rfl (fun v_13 w_14 hp_15 => ?_)
    obtain ⟨rfl, rfl⟩ := hp_15
    show J G X mX8_turn _ _ _ 59 _ [.int (1 : Int32)]
    refine J.goto dX8_turn_59 ?_
    exact J.iret B dX8_turn_64 rfl (⟨so1, lt1, rfl, rfl⟩)
  · skip
    have h9 : ¬ 0 ≤ ((lowF (ltF (rowM ml s) F) (midV (lits (rowM ml s) F 60) - d) (nts (rowM ml s) 60)).1.length) := fun z => h9 ((nI_leI (a := 0) (b := ((lowF (ltF (rowM ml s) F) (midV (lits (rowM ml s) F 60) - d) (nts (rowM ml s) 60)).1.length)) (by omega) (by omega)).mpr z)
    omega
set_option maxHeartbeats 4000000 in
set_option maxRecDepth 100000 in
theorem r_late_clk (l : Launch) (G : jG) (r : va_W) {m : Nat} {D : Nat → Nat} {fi : Int32} {as : Int64} {ns : Nat} {ii : Int32} {de : Int64} {dl dp dc : Int32} {nr : Nat} {al wa : Int32} {num d : Int32} {i c p q : Int32} (hc : (inR c 0 59 && (inR p 1 600 && inR q 1 60)) = false) : Mt l G yX8_late mX8_late 4 97 0 0 [.ref m, .int num, .int d, .int i, .int c, .int p, .int q] ((m, .inr (8, [.int fi, .ref (D 0), .long as, .int (nI ns), .ref (D 1), .ref (D 2), .ref (D 3), .ref (D 4), .ref (D 5), .ref (D 6), .ref (D 7), .ref (D 8), .int ii, .long de, .int dl, .int dp, .int dc, .ref (D 9), .int (nI nr), .ref (D 10), .ref (D 11), .ref (D 12), .ref (D 13), .ref (D 14), .int al, .int wa])) :: r) (fun v w => v = some (.int (-1 : Int32)) ∧ w = (m, .inr (8, [.int fi, .ref (D 0), .long as, .int (nI ns), .ref (D 1), .ref (D 2), .ref (D 3), .ref (D 4), .ref (D 5), .ref (D 6), .ref (D 7), .ref (D 8), .int ii, .long de, .int dl, .int dp, .int dc, .ref (D 9), .int (nI nr), .ref (D 10), .ref (D 11), .ref (D 12), .ref (D 13), .ref (D 14), .int al, .int wa])) :: r) := by
  refine Mt.of (by decide +kernel) rfl rfl (fun X B => ?_)
  show J G X mX8_late ((m, .inr (8, [.int fi, .ref (D 0), .long as, .int (nI ns), .ref (D 1), .ref (D 2), .ref (D 3), .ref (D 4), .ref (D 5), .ref (D 6), .ref (D 7), .ref (D 8), .int ii, .long de, .int dl, .int dp, .int dc, .ref (D 9), .int (nI nr), .ref (D 10), .ref (D 11), .ref (D 12), .ref (D 13), .ref (D 14), .int al, .int wa])) :: r) 0 0 0 [(0, .ref m), (1, .int num), (2, .int d), (3, .int i), (4, .int c), (5, .int p), (6, .int q)] []
  refine J.iload 4 dX8_late_0 rfl ?_
  refine J.iload 5 dX8_late_2 rfl ?_
  refine J.iload 6 dX8_late_4 rfl ?_
  refine J.callS (st := []) B (c_X8_isClock l G _ (c := c) (p := p) (q := q)) ml_X8_166 mf_yX8_isClock mS_yX8_isClock dX8_late_6 rfl rfl rfl (fun v_1 w_2 hp_3 => ?_)
  obtain ⟨rfl, rfl⟩ := hp_3
  show J G X mX8_late _ _ _ 9 _ [.int (b01 (inR c 0 59 && (inR p 1 600 && inR q 1 60)))]
  refine J.if_ne dX8_late_9 (fun z => absurd (by rw [hc]; rfl) z) (fun h9 => ?_)
  refine J.iconst (-1 : Int32) dX8_late_12 rfl ?_
  exact J.iret B dX8_late_13 rfl (⟨rfl, rfl⟩)
set_option maxHeartbeats 4000000 in
set_option maxRecDepth 100000 in
theorem r_late_d (l : Launch) (G : jG) (r : va_W) {m : Nat} {D : Nat → Nat} {fi : Int32} {as : Int64} {ns : Nat} {ii : Int32} {de : Int64} {dl dp dc : Int32} {nr : Nat} {al wa : Int32} {num : Int32} {i c p q : Int32} (hc : (inR c 0 59 && (inR p 1 600 && inR q 1 60)) = true) {d : Int32} (hd : inR d 1 10000 = false) : Mt l G yX8_late mX8_late 4 97 0 0 [.ref m, .int num, .int d, .int i, .int c, .int p, .int q] ((m, .inr (8, [.int fi, .ref (D 0), .long as, .int (nI ns), .ref (D 1), .ref (D 2), .ref (D 3), .ref (D 4), .ref (D 5), .ref (D 6), .ref (D 7), .ref (D 8), .int ii, .long de, .int dl, .int dp, .int dc, .ref (D 9), .int (nI nr), .ref (D 10), .ref (D 11), .ref (D 12), .ref (D 13), .ref (D 14), .int al, .int wa])) :: r) (fun v w => v = some (.int (-1 : Int32)) ∧ w = (m, .inr (8, [.int fi, .ref (D 0), .long as, .int (nI ns), .ref (D 1), .ref (D 2), .ref (D 3), .ref (D 4), .ref (D 5), .ref (D 6), .ref (D 7), .ref (D 8), .int ii, .long de, .int dl, .int dp, .int dc, .ref (D 9), .int (nI nr), .ref (D 10), .ref (D 11), .ref (D 12), .ref (D 13), .ref (D 14), .int al, .int wa])) :: r) := by
  refine Mt.of (by decide +kernel) rfl rfl (fun X B => ?_)
  show J G X mX8_late ((m, .inr (8, [.int fi, .ref (D 0), .long as, .int (nI ns), .ref (D 1), .ref (D 2), .ref (D 3), .ref (D 4), .ref (D 5), .ref (D 6), .ref (D 7), .ref (D 8), .int ii, .long de, .int dl, .int dp, .int dc, .ref (D 9), .int (nI nr), .ref (D 10), .ref (D 11), .ref (D 12), .ref (D 13), .ref (D 14), .int al, .int wa])) :: r) 0 0 0 [(0, .ref m), (1, .int num), (2, .int d), (3, .int i), (4, .int c), (5, .int p), (6, .int q)] []
  refine J.iload 4 dX8_late_0 rfl ?_
  refine J.iload 5 dX8_late_2 rfl ?_
  refine J.iload 6 dX8_late_4 rfl ?_
  refine J.callS (st := []) B (c_X8_isClock l G _ (c := c) (p := p) (q := q)) ml_X8_166 mf_yX8_isClock mS_yX8_isClock dX8_late_6 rfl rfl rfl (fun v_1 w_2 hp_3 => ?_)
  obtain ⟨rfl, rfl⟩ := hp_3
  show J G X mX8_late _ _ _ 9 _ [.int (b01 (inR c 0 59 && (inR p 1 600 && inR q 1 60)))]
  refine J.if_ne dX8_late_9 (fun h9 => ?_) (fun z => absurd z (by rw [hc]; decide))
  refine J.aload_n 0 dX8_late_14 rfl ?_
  refine J.iload_n 1 dX8_late_15 rfl ?_
  refine J.iload_n 2 dX8_late_16 rfl ?_
  refine J.callV 0 (st := []) B (c_X8_lowsOf_d l G _ hd) ml_X8_153 mf_yX8_lowsOf mi_yX8_lowsOf rfl dX8_late_17 rfl rfl rfl rfl (fun v_4 w_5 hp_6 => ?_)
  obtain ⟨rfl, rfl⟩ := hp_6
  show J G X mX8_late _ _ _ 20 _ [.int (-1 : Int32)]
  refine J.istore [1, 2, 3, 4, 5, 6, 7, 0] (lv' := [(0, .ref m), (1, .int num), (2, .int d), (3, .int i), (4, .int c), (5, .int p), (6, .int q), (7, .int (-1 : Int32))]) dX8_late_20 rfl rfl ?_
  refine J.iload 7 dX8_late_22 rfl ?_
  refine J.if_ge dX8_late_24 (fun z => absurd z (by decide)) (fun _ => ?_)
  refine J.iload 7 dX8_late_27 rfl ?_
  refine J.goto dX8_late_29 ?_
  exact J.iret B dX8_late_64 rfl (⟨rfl, rfl⟩)
set_option maxHeartbeats 4000000 in
set_option maxRecDepth 100000 in
theorem r_late_bad (l : Launch) (G : jG) (r : va_W) {m : Nat} {D : Nat → Nat} {fi : Int32} {as : Int64} {ns : Nat} {ii : Int32} {de : Int64} {dl dp dc : Int32} {nr : Nat} {al wa : Int32} {rr : Nat → Int32} {num : Int32} (hns : ns ≤ 12) (hnum : inR num 0 ((ns : Int) - 1) = false) {i c p q : Int32} (hc : (inR c 0 59 && (inR p 1 600 && inR q 1 60)) = true) {d : Int32} (hd : inR d 1 10000 = true) : Mt l G yX8_late mX8_late 4 97 0 0 [.ref m, .int num, .int d, .int i, .int c, .int p, .int q] ((m, .inr (8, [.int fi, .ref (D 0), .long as, .int (nI ns), .ref (D 1), .ref (D 2), .ref (D 3), .ref (D 4), .ref (D 5), .ref (D 6), .ref (D 7), .ref (D 8), .int ii, .long de, .int dl, .int dp, .int dc, .ref (D 9), .int (nI nr), .ref (D 10), .ref (D 11), .ref (D 12), .ref (D 13), .ref (D 14), .int al, .int wa])) :: (D 2, .inl (G.2.1.2.1, 12, .inl rr)) :: r) (fun v w => v = some (.int (-1 : Int32)) ∧ w = (m, .inr (8, [.int fi, .ref (D 0), .long as, .int (nI ns), .ref (D 1), .ref (D 2), .ref (D 3), .ref (D 4), .ref (D 5), .ref (D 6), .ref (D 7), .ref (D 8), .int ii, .long de, .int dl, .int dp, .int dc, .ref (D 9), .int (nI nr), .ref (D 10), .ref (D 11), .ref (D 12), .ref (D 13), .ref (D 14), .int al, .int wa])) :: (D 2, .inl (G.2.1.2.1, 12, .inl rr)) :: r) := by
  refine Mt.of (by decide +kernel) rfl rfl (fun X B => ?_)
  show J G X mX8_late ((m, .inr (8, [.int fi, .ref (D 0), .long as, .int (nI ns), .ref (D 1), .ref (D 2), .ref (D 3), .ref (D 4), .ref (D 5), .ref (D 6), .ref (D 7), .ref (D 8), .int ii, .long de, .int dl, .int dp, .int dc, .ref (D 9), .int (nI nr), .ref (D 10), .ref (D 11), .ref (D 12), .ref (D 13), .ref (D 14), .int al, .int wa])) :: (D 2, .inl (G.2.1.2.1, 12, .inl rr)) :: r) 0 0 0 [(0, .ref m), (1, .int num), (2, .int d), (3, .int i), (4, .int c), (5, .int p), (6, .int q)] []
  refine J.iload 4 dX8_late_0 rfl ?_
  refine J.iload 5 dX8_late_2 rfl ?_
  refine J.iload 6 dX8_late_4 rfl ?_
  refine J.callS (st := []) B (c_X8_isClock l G _ (c := c) (p := p) (q := q)) ml_X8_166 mf_yX8_isClock mS_yX8_isClock dX8_late_6 rfl rfl rfl (fun v_1 w_2 hp_3 => ?_)
  obtain ⟨rfl, rfl⟩ := hp_3
  show J G X mX8_late _ _ _ 9 _ [.int (b01 (inR c 0 59 && (inR p 1 600 && inR q 1 60)))]
  refine J.if_ne dX8_late_9 (fun h9 => ?_) (fun z => absurd z (by rw [hc]; decide))
  refine J.aload_n 0 dX8_late_14 rfl ?_
  refine J.iload_n 1 dX8_late_15 rfl ?_
  refine J.iload_n 2 dX8_late_16 rfl ?_
  refine J.callV 0 (st := []) B (c_X8_lowsOf_bad l G _ hns hnum hd) ml_X8_153 mf_yX8_lowsOf mi_yX8_lowsOf rfl dX8_late_17 rfl rfl rfl rfl (fun v_4 w_5 hp_6 => ?_)
  obtain ⟨rfl, rfl⟩ := hp_6
  show J G X mX8_late _ _ _ 20 _ [.int (-1 : Int32)]
  refine J.istore [1, 2, 3, 4, 5, 6, 7, 0] (lv' := [(0, .ref m), (1, .int num), (2, .int d), (3, .int i), (4, .int c), (5, .int p), (6, .int q), (7, .int (-1 : Int32))]) dX8_late_20 rfl rfl ?_
  refine J.iload 7 dX8_late_22 rfl ?_
  refine J.if_ge dX8_late_24 (fun z => absurd z (by decide)) (fun _ => ?_)
  refine J.iload 7 dX8_late_27 rfl ?_
  refine J.goto dX8_late_29 ?_
  exact J.iret B dX8_late_64 rfl (⟨rfl, rfl⟩)
set_option maxHeartbeats 4000000 in
set_option maxRecDepth 100000 in
theorem r_late_no (l : Launch) (G : jG) (r : va_W) {m : Nat} {D : Nat → Nat} {fi : Int32} {as : Int64} {ns : Nat} {ii : Int32} {de : Int64} {dl dp dc : Int32} {nr : Nat} {al wa : Int32} {rr : Nat → Int32} {s : Nat} (hk : s < ns) (hns : ns ≤ 12) {fc : Nat → Int32} {i c p q : Int32} (hc : (inR c 0 59 && (inR p 1 600 && inR q 1 60)) = true) (hr : rr s = 0) {d : Int32} (hd : inR d 1 10000 = true) : Mt l G yX8_late mX8_late 4 97 0 0 [.ref m, .int (nI s), .int d, .int i, .int c, .int p, .int q] ((m, .inr (8, [.int fi, .ref (D 0), .long as, .int (nI ns), .ref (D 1), .ref (D 2), .ref (D 3), .ref (D 4), .ref (D 5), .ref (D 6), .ref (D 7), .ref (D 8), .int ii, .long de, .int dl, .int dp, .int dc, .ref (D 9), .int (nI nr), .ref (D 10), .ref (D 11), .ref (D 12), .ref (D 13), .ref (D 14), .int al, .int wa])) :: (D 2, .inl (G.2.1.2.1, 12, .inl rr)) :: (D 0, .inl (G.2.1.1, 6, .inl fc)) :: r) (fun v w => v = some (.int (-3 : Int32)) ∧ w = (m, .inr (8, [.int (nI 1), .ref (D 0), .long as, .int (nI ns), .ref (D 1), .ref (D 2), .ref (D 3), .ref (D 4), .ref (D 5), .ref (D 6), .ref (D 7), .ref (D 8), .int ii, .long de, .int dl, .int dp, .int dc, .ref (D 9), .int (nI nr), .ref (D 10), .ref (D 11), .ref (D 12), .ref (D 13), .ref (D 14), .int al, .int wa])) :: (D 2, .inl (G.2.1.2.1, 12, .inl rr)) :: (D 0, .inl (G.2.1.1, 6, .inl (upd fc 1 (fc 1 + 1)))) :: r) := by
  refine Mt.of (by decide +kernel) rfl rfl (fun X B => ?_)
  show J G X mX8_late ((m, .inr (8, [.int fi, .ref (D 0), .long as, .int (nI ns), .ref (D 1), .ref (D 2), .ref (D 3), .ref (D 4), .ref (D 5), .ref (D 6), .ref (D 7), .ref (D 8), .int ii, .long de, .int dl, .int dp, .int dc, .ref (D 9), .int (nI nr), .ref (D 10), .ref (D 11), .ref (D 12), .ref (D 13), .ref (D 14), .int al, .int wa])) :: (D 2, .inl (G.2.1.2.1, 12, .inl rr)) :: (D 0, .inl (G.2.1.1, 6, .inl fc)) :: r) 0 0 0 [(0, .ref m), (1, .int (nI s)), (2, .int d), (3, .int i), (4, .int c), (5, .int p), (6, .int q)] []
  refine J.iload 4 dX8_late_0 rfl ?_
  refine J.iload 5 dX8_late_2 rfl ?_
  refine J.iload 6 dX8_late_4 rfl ?_
  refine J.callS (st := []) B (c_X8_isClock l G _ (c := c) (p := p) (q := q)) ml_X8_166 mf_yX8_isClock mS_yX8_isClock dX8_late_6 rfl rfl rfl (fun v_1 w_2 hp_3 => ?_)
  obtain ⟨rfl, rfl⟩ := hp_3
  show J G X mX8_late _ _ _ 9 _ [.int (b01 (inR c 0 59 && (inR p 1 600 && inR q 1 60)))]
  refine J.if_ne dX8_late_9 (fun h9 => ?_) (fun z => absurd z (by rw [hc]; decide))
  refine J.aload_n 0 dX8_late_14 rfl ?_
  refine J.iload_n 1 dX8_late_15 rfl ?_
  refine J.iload_n 2 dX8_late_16 rfl ?_
  refine J.callV 0 (st := []) B (c_X8_lowsOf_no l G _ hk hns hr hd) ml_X8_153 mf_yX8_lowsOf mi_yX8_lowsOf rfl dX8_late_17 rfl rfl rfl rfl (fun v_4 w_5 hp_6 => ?_)
  obtain ⟨rfl, rfl⟩ := hp_6
  show J G X mX8_late _ _ _ 20 _ [.int (-3 : Int32)]
  refine J.istore [1, 2, 3, 4, 5, 6, 7, 0] (lv' := [(0, .ref m), (1, .int (nI s)), (2, .int d), (3, .int i), (4, .int c), (5, .int p), (6, .int q), (7, .int (-3 : Int32))]) dX8_late_20 rfl rfl ?_
  refine J.iload 7 dX8_late_22 rfl ?_
  refine J.if_ge dX8_late_24 (fun z => absurd z (by decide)) (fun _ => ?_)
  refine J.iload 7 dX8_late_27 rfl ?_
  refine J.goto dX8_late_29 ?_
  exact J.iret B dX8_late_64 rfl (⟨rfl, rfl⟩)
set_option maxHeartbeats 4000000 in
set_option maxRecDepth 100000 in
theorem r_late_nought (l : Launch) (G : jG) (r : va_W) {m : Nat} {D : Nat → Nat} {fi : Int32} {as : Int64} {ns : Nat} {ii : Int32} {de : Int64} {dl dp dc : Int32} {nr : Nat} {al wa : Int32} {rr : Nat → Int32} {s : Nat} (hk : s < ns) (hns : ns ≤ 12) {fc : Nat → Int32} {ml : Nat → Int32} {i c p q : Int32} (hc : (inR c 0 59 && (inR p 1 600 && inR q 1 60)) = true) (hr : ¬ rr s = 0) (h0 : nN (rowM ml s) = 0) {d : Int32} (hd : inR d 1 10000 = true) : Mt l G yX8_late mX8_late 4 97 0 0 [.ref m, .int (nI s), .int d, .int i, .int c, .int p, .int q] ((m, .inr (8, [.int fi, .ref (D 0), .long as, .int (nI ns), .ref (D 1), .ref (D 2), .ref (D 3), .ref (D 4), .ref (D 5), .ref (D 6), .ref (D 7), .ref (D 8), .int ii, .long de, .int dl, .int dp, .int dc, .ref (D 9), .int (nI nr), .ref (D 10), .ref (D 11), .ref (D 12), .ref (D 13), .ref (D 14), .int al, .int wa])) :: (D 2, .inl (G.2.1.2.1, 12, .inl rr)) :: (D 3, .inl (G.2.1.1, 720, .inl ml)) :: (D 0, .inl (G.2.1.1, 6, .inl fc)) :: r) (fun v w => v = some (.int (-3 : Int32)) ∧ w = (m, .inr (8, [.int (nI 4), .ref (D 0), .long as, .int (nI ns), .ref (D 1), .ref (D 2), .ref (D 3), .ref (D 4), .ref (D 5), .ref (D 6), .ref (D 7), .ref (D 8), .int ii, .long de, .int dl, .int dp, .int dc, .ref (D 9), .int (nI nr), .ref (D 10), .ref (D 11), .ref (D 12), .ref (D 13), .ref (D 14), .int al, .int wa])) :: (D 2, .inl (G.2.1.2.1, 12, .inl rr)) :: (D 3, .inl (G.2.1.1, 720, .inl ml)) :: (D 0, .inl (G.2.1.1, 6, .inl (upd fc 4 (fc 4 + 1)))) :: r) := by
  refine Mt.of (by decide +kernel) rfl rfl (fun X B => ?_)
  show J G X mX8_late ((m, .inr (8, [.int fi, .ref (D 0), .long as, .int (nI ns), .ref (D 1), .ref (D 2), .ref (D 3), .ref (D 4), .ref (D 5), .ref (D 6), .ref (D 7), .ref (D 8), .int ii, .long de, .int dl, .int dp, .int dc, .ref (D 9), .int (nI nr), .ref (D 10), .ref (D 11), .ref (D 12), .ref (D 13), .ref (D 14), .int al, .int wa])) :: (D 2, .inl (G.2.1.2.1, 12, .inl rr)) :: (D 3, .inl (G.2.1.1, 720, .inl ml)) :: (D 0, .inl (G.2.1.1, 6, .inl fc)) :: r) 0 0 0 [(0, .ref m), (1, .int (nI s)), (2, .int d), (3, .int i), (4, .int c), (5, .int p), (6, .int q)] []
  refine J.iload 4 dX8_late_0 rfl ?_
  refine J.iload 5 dX8_late_2 rfl ?_
  refine J.iload 6 dX8_late_4 rfl ?_
  refine J.callS (st := []) B (c_X8_isClock l G _ (c := c) (p := p) (q := q)) ml_X8_166 mf_yX8_isClock mS_yX8_isClock dX8_late_6 rfl rfl rfl (fun v_1 w_2 hp_3 => ?_)
  obtain ⟨rfl, rfl⟩ := hp_3
  show J G X mX8_late _ _ _ 9 _ [.int (b01 (inR c 0 59 && (inR p 1 600 && inR q 1 60)))]
  refine J.if_ne dX8_late_9 (fun h9 => ?_) (fun z => absurd z (by rw [hc]; decide))
  refine J.aload_n 0 dX8_late_14 rfl ?_
  refine J.iload_n 1 dX8_late_15 rfl ?_
  refine J.iload_n 2 dX8_late_16 rfl ?_
  refine J.callV 0 (st := []) B (c_X8_lowsOf_nought l G _ hk hns hr h0 hd) ml_X8_153 mf_yX8_lowsOf mi_yX8_lowsOf rfl dX8_late_17 rfl rfl rfl rfl (fun v_4 w_5 hp_6 => ?_)
  obtain ⟨rfl, rfl⟩ := hp_6
  show J G X mX8_late _ _ _ 20 _ [.int (-3 : Int32)]
  refine J.istore [1, 2, 3, 4, 5, 6, 7, 0] (lv' := [(0, .ref m), (1, .int (nI s)), (2, .int d), (3, .int i), (4, .int c), (5, .int p), (6, .int q), (7, .int (-3 : Int32))]) dX8_late_20 rfl rfl ?_
  refine J.iload 7 dX8_late_22 rfl ?_
  refine J.if_ge dX8_late_24 (fun z => absurd z (by decide)) (fun _ => ?_)
  refine J.iload 7 dX8_late_27 rfl ?_
  refine J.goto dX8_late_29 ?_
  exact J.iret B dX8_late_64 rfl (⟨rfl, rfl⟩)
set_option maxHeartbeats 4000000 in
set_option maxRecDepth 100000 in
theorem r_late_none (l : Launch) (G : jG) (r : va_W) {m : Nat} {D : Nat → Nat} {fi : Int32} {as : Int64} {ns : Nat} {ii : Int32} {de : Int64} {dl dp dc : Int32} {nr : Nat} {al wa : Int32} {rr : Nat → Int32} {s : Nat} (hk : s < ns) (hns : ns ≤ 12) {ml F : Nat → Int32} {so lti : Nat → Int32} {c p q : Int32} (hc : (inR c 0 59 && (inR p 1 600 && inR q 1 60)) = true) (hr : ¬ rr s = 0) (h0 : 0 < nN (rowM ml s)) {d : Int32} (hd : inR d 1 10000 = true) {i : Int32} (hi : inR i 0 (((lowF (ltF (rowM ml s) F) (midV (lits (rowM ml s) F 60) - d) (nts (rowM ml s) 60)).1.length : Int) - 1) = false) : Mt l G yX8_late mX8_late 4 97 0 0 [.ref m, .int (nI s), .int d, .int i, .int c, .int p, .int q] ((m, .inr (8, [.int fi, .ref (D 0), .long as, .int (nI ns), .ref (D 1), .ref (D 2), .ref (D 3), .ref (D 4), .ref (D 5), .ref (D 6), .ref (D 7), .ref (D 8), .int ii, .long de, .int dl, .int dp, .int dc, .ref (D 9), .int (nI nr), .ref (D 10), .ref (D 11), .ref (D 12), .ref (D 13), .ref (D 14), .int al, .int wa])) :: (D 2, .inl (G.2.1.2.1, 12, .inl rr)) :: (D 3, .inl (G.2.1.1, 720, .inl ml)) :: (D 4, .inl (G.2.1.1, 60, .inl F)) :: (D 6, .inl (G.2.1.1, 60, .inl so)) :: (D 9, .inl (G.2.1.1, 60, .inl lti)) :: r) (fun v w => ∃ so1 lt1, v = some (.int (-9)) ∧ w = (m, .inr (8, [.int fi, .ref (D 0), .long as, .int (nI ns), .ref (D 1), .ref (D 2), .ref (D 3), .ref (D 4), .ref (D 5), .ref (D 6), .ref (D 7), .ref (D 8), .int ii, .long de, .int dl, .int dp, .int dc, .ref (D 9), .int (nI nr), .ref (D 10), .ref (D 11), .ref (D 12), .ref (D 13), .ref (D 14), .int al, .int wa])) :: (D 2, .inl (G.2.1.2.1, 12, .inl rr)) :: (D 3, .inl (G.2.1.1, 720, .inl ml)) :: (D 4, .inl (G.2.1.1, 60, .inl F)) :: (D 6, .inl (G.2.1.1, 60, .inl so1)) :: (D 9, .inl (G.2.1.1, 60, .inl lt1)) :: r) := by
  refine Mt.of (by decide +kernel) rfl rfl (fun X B => ?_)
  show J G X mX8_late ((m, .inr (8, [.int fi, .ref (D 0), .long as, .int (nI ns), .ref (D 1), .ref (D 2), .ref (D 3), .ref (D 4), .ref (D 5), .ref (D 6), .ref (D 7), .ref (D 8), .int ii, .long de, .int dl, .int dp, .int dc, .ref (D 9), .int (nI nr), .ref (D 10), .ref (D 11), .ref (D 12), .ref (D 13), .ref (D 14), .int al, .int wa])) :: (D 2, .inl (G.2.1.2.1, 12, .inl rr)) :: (D 3, .inl (G.2.1.1, 720, .inl ml)) :: (D 4, .inl (G.2.1.1, 60, .inl F)) :: (D 6, .inl (G.2.1.1, 60, .inl so)) :: (D 9, .inl (G.2.1.1, 60, .inl lti)) :: r) 0 0 0 [(0, .ref m), (1, .int (nI s)), (2, .int d), (3, .int i), (4, .int c), (5, .int p), (6, .int q)] []
  have hll : (lowF (ltF (rowM ml s) F) (midV (lits (rowM ml s) F 60) - d) (nts (rowM ml s) 60)).1.length ≤ 60 := Nat.le_trans (lowF_le _ _ _) (nN_le (rowM ml s))
  refine J.iload 4 dX8_late_0 rfl ?_
  refine J.iload 5 dX8_late_2 rfl ?_
  refine J.iload 6 dX8_late_4 rfl ?_
  refine J.callS (st := []) B (c_X8_isClock l G _ (c := c) (p := p) (q := q)) ml_X8_166 mf_yX8_isClock mS_yX8_isClock dX8_late_6 rfl rfl rfl (fun v_1 w_2 hp_3 => ?_)
  obtain ⟨rfl, rfl⟩ := hp_3
  show J G X mX8_late _ _ _ 9 _ [.int (b01 (inR c 0 59 && (inR p 1 600 && inR q 1 60)))]
  refine J.if_ne dX8_late_9 (fun h9 => ?_) (fun z => absurd z (by rw [hc]; decide))
  refine J.aload_n 0 dX8_late_14 rfl ?_
  refine J.iload_n 1 dX8_late_15 rfl ?_
  refine J.iload_n 2 dX8_late_16 rfl ?_
  refine J.callV 0 (st := []) B (c_X8_lowsOf l G _ hk hns hr h0 hd) ml_X8_153 mf_yX8_lowsOf mi_yX8_lowsOf rfl dX8_late_17 rfl rfl rfl rfl (fun v_4 w_5 hp_6 => ?_)
  obtain ⟨so1, lt1, hlt, rfl, rfl⟩ := hp_6
  show J G X mX8_late _ _ _ 20 _ [.int (nI ((lowF (ltF (rowM ml s) F) (midV (lits (rowM ml s) F 60) - d) (nts (rowM ml s) 60)).1.length))]
  refine J.istore [1, 2, 3, 4, 5, 6, 7, 0] (lv' := [(0, .ref m), (1, .int (nI s)), (2, .int d), (3, .int i), (4, .int c), (5, .int p), (6, .int q), (7, .int (nI ((lowF (ltF (rowM ml s) F) (midV (lits (rowM ml s) F 60) - d) (nts (rowM ml s) 60)).1.length)))]) dX8_late_20 rfl rfl ?_
  refine J.iload 7 dX8_late_22 rfl ?_
  refine J.if_ge dX8_late_24 (fun h9 => ?_) (fun h9 => ?_)
  · skip
    have h9 : 0 ≤ ((lowF (ltF (rowM ml s) F) (midV (lits (rowM ml s) F 60) - d) (nts (rowM ml s) 60)).1.length) := (nI_leI (a := 0) (b := ((lowF (ltF (rowM ml s) F) (midV (lits (rowM ml s) F 60) - d) (nts (rowM ml s) 60)).1.length)) (by omega) (by omega)).mp h9
    refine J.iload_n 3 dX8_late_32 rfl ?_
    refine J.iconst (0 : Int32) dX8_late_33 rfl ?_
    refine J.iload 7 dX8_late_34 rfl ?_
    refine J.iconst (1 : Int32) dX8_late_36 rfl ?_
    refine J.isub dX8_late_37 ?_
    refine J.callS (st := []) B (c_X8_in l G _ (v := i) (lo := 0) (hi := (nI ((lowF (ltF (rowM ml s) F) (midV (lits (rowM ml s) F 60) - d) (nts (rowM ml s) 60)).1.length)) - (1 : Int32)) (a := 0) (b := ((lowF (ltF (rowM ml s) F) (midV (lits (rowM ml s) F 60) - d) (nts (rowM ml s) 60)).1.length : Int) - 1) rfl (pk_sub_toInt (a := (lowF (ltF (rowM ml s) F) (midV (lits (rowM ml s) F 60) - d) (nts (rowM ml s) 60)).1.length) (b := 1) (by omega) (by omega))) ml_X8_76 mf_yX8_in mS_yX8_in dX8_late_38 rfl rfl rfl (fun v_7 w_8 hp_9 => ?_)
    obtain ⟨rfl, rfl⟩ := hp_9
    show J G X mX8_late _ _ _ 41 _ [.int (b01 (inR i 0 (((lowF (ltF (rowM ml s) F) (midV (lits (rowM ml s) F 60) - d) (nts (rowM ml s) 60)).1.length : Int) - 1)))]
    refine J.if_eq dX8_late_41 (fun h9 => ?_) (fun z => absurd (by rw [hi]; rfl) z)
    refine J.bipush (-9 : Int32) dX8_late_62 rfl ?_
    exact J.iret B dX8_late_64 rfl (⟨so1, lt1, rfl, rfl⟩)
  · skip
    have h9 : ¬ 0 ≤ ((lowF (ltF (rowM ml s) F) (midV (lits (rowM ml s) F 60) - d) (nts (rowM ml s) 60)).1.length) := fun z => h9 ((nI_leI (a := 0) (b := ((lowF (ltF (rowM ml s) F) (midV (lits (rowM ml s) F 60) - d) (nts (rowM ml s) 60)).1.length)) (by omega) (by omega)).mpr z)
    omega
set_option maxHeartbeats 4000000 in
set_option maxRecDepth 100000 in
theorem r_late (l : Launch) (G : jG) (r : va_W) {m : Nat} {D : Nat → Nat} {fi : Int32} {as : Int64} {ns : Nat} {ii : Int32} {de : Int64} {dl dp dc : Int32} {nr : Nat} {al wa : Int32} {rr : Nat → Int32} {s : Nat} (hk : s < ns) (hns : ns ≤ 12) {ml F : Nat → Int32} {so lti : Nat → Int32} (hr : ¬ rr s = 0) (h0 : 0 < nN (rowM ml s)) {d : Int32} (hd : inR d 1 10000 = true) {i : Nat} (hi : i < (lowF (ltF (rowM ml s) F) (midV (lits (rowM ml s) F 60) - d) (nts (rowM ml s) 60)).1.length) {c : Nat} (hc0 : c < 60) {p q : Nat} (hp1 : 1 ≤ p) (hp2 : p ≤ 600) (hq1 : 1 ≤ q) (hq2 : q ≤ 60) : Mt l G yX8_late mX8_late 4 97 0 0 [.ref m, .int (nI s), .int d, .int (nI i), .int (nI c), .int (nI p), .int (nI q)] ((m, .inr (8, [.int fi, .ref (D 0), .long as, .int (nI ns), .ref (D 1), .ref (D 2), .ref (D 3), .ref (D 4), .ref (D 5), .ref (D 6), .ref (D 7), .ref (D 8), .int ii, .long de, .int dl, .int dp, .int dc, .ref (D 9), .int (nI nr), .ref (D 10), .ref (D 11), .ref (D 12), .ref (D 13), .ref (D 14), .int al, .int wa])) :: (D 2, .inl (G.2.1.2.1, 12, .inl rr)) :: (D 3, .inl (G.2.1.1, 720, .inl ml)) :: (D 4, .inl (G.2.1.1, 60, .inl F)) :: (D 6, .inl (G.2.1.1, 60, .inl so)) :: (D 9, .inl (G.2.1.1, 60, .inl lti)) :: r) (fun v w => ∃ so1 lt1, v = some (.int 1) ∧ w = (m, .inr (8, [.int fi, .ref (D 0), .long (Int64.ofInt (laI (rg (lowF (ltF (rowM ml s) F) (midV (lits (rowM ml s) F 60) - d) (nts (rowM ml s) 60)).1 i) c p q)), .int (nI ns), .ref (D 1), .ref (D 2), .ref (D 3), .ref (D 4), .ref (D 5), .ref (D 6), .ref (D 7), .ref (D 8), .int ii, .long de, .int dl, .int dp, .int dc, .ref (D 9), .int (nI nr), .ref (D 10), .ref (D 11), .ref (D 12), .ref (D 13), .ref (D 14), .int al, .int wa])) :: (D 2, .inl (G.2.1.2.1, 12, .inl rr)) :: (D 3, .inl (G.2.1.1, 720, .inl ml)) :: (D 4, .inl (G.2.1.1, 60, .inl F)) :: (D 6, .inl (G.2.1.1, 60, .inl so1)) :: (D 9, .inl (G.2.1.1, 60, .inl lt1)) :: r) := by
  refine Mt.of (by decide +kernel) rfl rfl (fun X B => ?_)
  show J G X mX8_late ((m, .inr (8, [.int fi, .ref (D 0), .long as, .int (nI ns), .ref (D 1), .ref (D 2), .ref (D 3), .ref (D 4), .ref (D 5), .ref (D 6), .ref (D 7), .ref (D 8), .int ii, .long de, .int dl, .int dp, .int dc, .ref (D 9), .int (nI nr), .ref (D 10), .ref (D 11), .ref (D 12), .ref (D 13), .ref (D 14), .int al, .int wa])) :: (D 2, .inl (G.2.1.2.1, 12, .inl rr)) :: (D 3, .inl (G.2.1.1, 720, .inl ml)) :: (D 4, .inl (G.2.1.1, 60, .inl F)) :: (D 6, .inl (G.2.1.1, 60, .inl so)) :: (D 9, .inl (G.2.1.1, 60, .inl lti)) :: r) 0 0 0 [(0, .ref m), (1, .int (nI s)), (2, .int d), (3, .int (nI i)), (4, .int (nI c)), (5, .int (nI p)), (6, .int (nI q))] []
  have hll : (lowF (ltF (rowM ml s) F) (midV (lits (rowM ml s) F 60) - d) (nts (rowM ml s) 60)).1.length ≤ 60 := Nat.le_trans (lowF_le _ _ _) (nN_le (rowM ml s))
  have hpi : inR (nI p) 1 600 = true := by rw [nI_inR (by omega)]; exact decide_eq_true ⟨by omega, by omega⟩
  have hqi : inR (nI q) 1 60 = true := by rw [nI_inR (by omega)]; exact decide_eq_true ⟨by omega, by omega⟩
  have hc : (inR (nI c) 0 59 && (inR (nI p) 1 600 && inR (nI q) 1 60)) = true := by
    rw [hpi, hqi, nI_inR (by omega), decide_eq_true (p := (0 : Int) ≤ (c : Int) ∧ (c : Int) ≤ 59) ⟨by omega, by omega⟩]
    rfl
  have hii : inR (nI i) 0 (((lowF (ltF (rowM ml s) F) (midV (lits (rowM ml s) F 60) - d) (nts (rowM ml s) 60)).1.length : Int) - 1) = true := by rw [nI_inR (by omega)]; exact decide_eq_true ⟨by omega, by omega⟩
  have hlw0 : rg (lowF (ltF (rowM ml s) F) (midV (lits (rowM ml s) F 60) - d) (nts (rowM ml s) 60)).1 i < 60 := (mem_nts.mp (lowF_mem (rg_mem (by omega)))).1
  refine J.iload 4 dX8_late_0 rfl ?_
  refine J.iload 5 dX8_late_2 rfl ?_
  refine J.iload 6 dX8_late_4 rfl ?_
  refine J.callS (st := []) B (c_X8_isClock l G _ (c := nI c) (p := nI p) (q := nI q)) ml_X8_166 mf_yX8_isClock mS_yX8_isClock dX8_late_6 rfl rfl rfl (fun v_1 w_2 hp_3 => ?_)
  obtain ⟨rfl, rfl⟩ := hp_3
  show J G X mX8_late _ _ _ 9 _ [.int (b01 (inR (nI c) 0 59 && (inR (nI p) 1 600 && inR (nI q) 1 60)))]
  refine J.if_ne dX8_late_9 (fun h9 => ?_) (fun z => absurd z (by rw [hc]; decide))
  refine J.aload_n 0 dX8_late_14 rfl ?_
  refine J.iload_n 1 dX8_late_15 rfl ?_
  refine J.iload_n 2 dX8_late_16 rfl ?_
  refine J.callV 0 (st := []) B (c_X8_lowsOf l G _ hk hns hr h0 hd) ml_X8_153 mf_yX8_lowsOf mi_yX8_lowsOf rfl dX8_late_17 rfl rfl rfl rfl (fun v_4 w_5 hp_6 => ?_)
  obtain ⟨so1, lt1, hlt, rfl, rfl⟩ := hp_6
  show J G X mX8_late _ _ _ 20 _ [.int (nI ((lowF (ltF (rowM ml s) F) (midV (lits (rowM ml s) F 60) - d) (nts (rowM ml s) 60)).1.length))]
  refine J.istore [1, 2, 3, 4, 5, 6, 7, 0] (lv' := [(0, .ref m), (1, .int (nI s)), (2, .int d), (3, .int (nI i)), (4, .int (nI c)), (5, .int (nI p)), (6, .int (nI q)), (7, .int (nI ((lowF (ltF (rowM ml s) F) (midV (lits (rowM ml s) F 60) - d) (nts (rowM ml s) 60)).1.length)))]) dX8_late_20 rfl rfl ?_
  refine J.iload 7 dX8_late_22 rfl ?_
  refine J.if_ge dX8_late_24 (fun h9 => ?_) (fun h9 => ?_)
  · skip
    have h9 : 0 ≤ ((lowF (ltF (rowM ml s) F) (midV (lits (rowM ml s) F 60) - d) (nts (rowM ml s) 60)).1.length) := (nI_leI (a := 0) (b := ((lowF (ltF (rowM ml s) F) (midV (lits (rowM ml s) F 60) - d) (nts (rowM ml s) 60)).1.length)) (by omega) (by omega)).mp h9
    refine J.iload_n 3 dX8_late_32 rfl ?_
    refine J.iconst (0 : Int32) dX8_late_33 rfl ?_
    refine J.iload 7 dX8_late_34 rfl ?_
    refine J.iconst (1 : Int32) dX8_late_36 rfl ?_
    refine J.isub dX8_late_37 ?_
    refine J.callS (st := []) B (c_X8_in l G _ (v := nI i) (lo := 0) (hi := (nI ((lowF (ltF (rowM ml s) F) (midV (lits (rowM ml s) F 60) - d) (nts (rowM ml s) 60)).1.length)) - (1 : Int32)) (a := 0) (b := ((lowF (ltF (rowM ml s) F) (midV (lits (rowM ml s) F 60) - d) (nts (rowM ml s) 60)).1.length : Int) - 1) rfl (pk_sub_toInt (a := (lowF (ltF (rowM ml s) F) (midV (lits (rowM ml s) F 60) - d) (nts (rowM ml s) 60)).1.length) (b := 1) (by omega) (by omega))) ml_X8_76 mf_yX8_in mS_yX8_in dX8_late_38 rfl rfl rfl (fun v_7 w_8 hp_9 => ?_)
    obtain ⟨rfl, rfl⟩ := hp_9
    show J G X mX8_late _ _ _ 41 _ [.int (b01 (inR (nI i) 0 (((lowF (ltF (rowM ml s) F) (midV (lits (rowM ml s) F 60) - d) (nts (rowM ml s) 60)).1.length : Int) - 1)))]
    refine J.if_eq dX8_late_41 (fun z => absurd z (by rw [hii]; decide)) (fun h9 => ?_)
    refine J.aload_n 0 dX8_late_44 rfl ?_
    refine J.aload_n 0 dX8_late_45 rfl ?_
    refine J.iload_n 3 dX8_late_46 rfl ?_
    refine J.iload 4 dX8_late_47 rfl ?_
    refine J.iload 5 dX8_late_49 rfl ?_
    refine J.iload 6 dX8_late_51 rfl ?_
    refine J.re [0, 5, 1, 2, 3, 4] 6 (ws2 := (m, .inr (8, [.int fi, .ref (D 0), .long as, .int (nI ns), .ref (D 1), .ref (D 2), .ref (D 3), .ref (D 4), .ref (D 5), .ref (D 6), .ref (D 7), .ref (D 8), .int ii, .long de, .int dl, .int dp, .int dc, .ref (D 9), .int (nI nr), .ref (D 10), .ref (D 11), .ref (D 12), .ref (D 13), .ref (D 14), .int al, .int wa])) :: (D 9, .inl (G.2.1.1, 60, .inl lt1)) :: (D 2, .inl (G.2.1.2.1, 12, .inl rr)) :: (D 3, .inl (G.2.1.1, 720, .inl ml)) :: (D 4, .inl (G.2.1.1, 60, .inl F)) :: (D 6, .inl (G.2.1.1, 60, .inl so1)) :: r) rfl rfl ?_
    refine J.callV 0 (st := [.ref m]) B (c_X8_lateOf l G _ (i := i) (tv := rg (lowF (ltF (rowM ml s) F) (midV (lits (rowM ml s) F 60) - d) (nts (rowM ml s) 60)).1 i) (by omega) (AG_rg hlt (by omega)) hlw0 hc0 hq2 hp1 hp2) ml_X8_169 mf_yX8_lateOf mi_yX8_lateOf rfl dX8_late_53 rfl rfl rfl rfl (fun v_10 w_11 hp_12 => ?_)
    obtain ⟨rfl, rfl⟩ := hp_12
    refine J.re [0, 2, 3, 4, 5, 1] 6 (ws2 := (m, .inr (8, [.int fi, .ref (D 0), .long as, .int (nI ns), .ref (D 1), .ref (D 2), .ref (D 3), .ref (D 4), .ref (D 5), .ref (D 6), .ref (D 7), .ref (D 8), .int ii, .long de, .int dl, .int dp, .int dc, .ref (D 9), .int (nI nr), .ref (D 10), .ref (D 11), .ref (D 12), .ref (D 13), .ref (D 14), .int al, .int wa])) :: (D 2, .inl (G.2.1.2.1, 12, .inl rr)) :: (D 3, .inl (G.2.1.1, 720, .inl ml)) :: (D 4, .inl (G.2.1.1, 60, .inl F)) :: (D 6, .inl (G.2.1.1, 60, .inl so1)) :: (D 9, .inl (G.2.1.1, 60, .inl lt1)) :: r) rfl rfl ?_
    show J G X mX8_late _ _ _ 56 _ [.long (Int64.ofInt (laI (rg (lowF (ltF (rowM ml s) F) (midV (lits (rowM ml s) F 60) - d) (nts (rowM ml s) 60)).1 i) c p q)), .ref m]
    refine J.callV 0 (st := []) B (c_X8_tell l G _ (t0 := Int64.ofInt (laI (rg (lowF (ltF (rowM ml s) F) (midV (lits (rowM ml s) F 60) - d) (nts (rowM ml s) 60)).1 i) c p q))) ml_X8_114 mf_yX8_tell mi_yX8_tell rfl dX8_late_56 rfl rfl rfl rfl (fun v_13 w_14 hp_15 => ?_)
    obtain ⟨rfl, rfl⟩ := hp_15
    show J G X mX8_late _ _ _ 59 _ [.int (1 : Int32)]
    refine J.goto dX8_late_59 ?_
    exact J.iret B dX8_late_64 rfl (⟨so1, lt1, rfl, rfl⟩)
  · skip
    have h9 : ¬ 0 ≤ ((lowF (ltF (rowM ml s) F) (midV (lits (rowM ml s) F 60) - d) (nts (rowM ml s) 60)).1.length) := fun z => h9 ((nI_leI (a := 0) (b := ((lowF (ltF (rowM ml s) F) (midV (lits (rowM ml s) F 60) - d) (nts (rowM ml s) 60)).1.length)) (by omega) (by omega)).mpr z)
    omega
set_option maxHeartbeats 4000000 in
set_option maxRecDepth 100000 in
theorem r_bent_clk (l : Launch) (G : jG) (r : va_W) {m : Nat} {D : Nat → Nat} {fi : Int32} {as : Int64} {ns : Nat} {ii : Int32} {de : Int64} {dl dp dc : Int32} {nr : Nat} {al wa : Int32} {num d : Int32} {i c p q : Int32} (hc : (inR c 0 59 && (inR p 1 600 && inR q 1 60)) = false) : Mt l G yX8_bent mX8_bent 4 97 0 0 [.ref m, .int num, .int d, .int i, .int c, .int p, .int q] ((m, .inr (8, [.int fi, .ref (D 0), .long as, .int (nI ns), .ref (D 1), .ref (D 2), .ref (D 3), .ref (D 4), .ref (D 5), .ref (D 6), .ref (D 7), .ref (D 8), .int ii, .long de, .int dl, .int dp, .int dc, .ref (D 9), .int (nI nr), .ref (D 10), .ref (D 11), .ref (D 12), .ref (D 13), .ref (D 14), .int al, .int wa])) :: r) (fun v w => v = some (.int (-1 : Int32)) ∧ w = (m, .inr (8, [.int fi, .ref (D 0), .long as, .int (nI ns), .ref (D 1), .ref (D 2), .ref (D 3), .ref (D 4), .ref (D 5), .ref (D 6), .ref (D 7), .ref (D 8), .int ii, .long de, .int dl, .int dp, .int dc, .ref (D 9), .int (nI nr), .ref (D 10), .ref (D 11), .ref (D 12), .ref (D 13), .ref (D 14), .int al, .int wa])) :: r) := by
  refine Mt.of (by decide +kernel) rfl rfl (fun X B => ?_)
  show J G X mX8_bent ((m, .inr (8, [.int fi, .ref (D 0), .long as, .int (nI ns), .ref (D 1), .ref (D 2), .ref (D 3), .ref (D 4), .ref (D 5), .ref (D 6), .ref (D 7), .ref (D 8), .int ii, .long de, .int dl, .int dp, .int dc, .ref (D 9), .int (nI nr), .ref (D 10), .ref (D 11), .ref (D 12), .ref (D 13), .ref (D 14), .int al, .int wa])) :: r) 0 0 0 [(0, .ref m), (1, .int num), (2, .int d), (3, .int i), (4, .int c), (5, .int p), (6, .int q)] []
  refine J.iload 4 dX8_bent_0 rfl ?_
  refine J.iload 5 dX8_bent_2 rfl ?_
  refine J.iload 6 dX8_bent_4 rfl ?_
  refine J.callS (st := []) B (c_X8_isClock l G _ (c := c) (p := p) (q := q)) ml_X8_166 mf_yX8_isClock mS_yX8_isClock dX8_bent_6 rfl rfl rfl (fun v_1 w_2 hp_3 => ?_)
  obtain ⟨rfl, rfl⟩ := hp_3
  show J G X mX8_bent _ _ _ 9 _ [.int (b01 (inR c 0 59 && (inR p 1 600 && inR q 1 60)))]
  refine J.if_ne dX8_bent_9 (fun z => absurd (by rw [hc]; rfl) z) (fun h9 => ?_)
  refine J.iconst (-1 : Int32) dX8_bent_12 rfl ?_
  exact J.iret B dX8_bent_13 rfl (⟨rfl, rfl⟩)
set_option maxHeartbeats 4000000 in
set_option maxRecDepth 100000 in
theorem r_bent_d (l : Launch) (G : jG) (r : va_W) {m : Nat} {D : Nat → Nat} {fi : Int32} {as : Int64} {ns : Nat} {ii : Int32} {de : Int64} {dl dp dc : Int32} {nr : Nat} {al wa : Int32} {num : Int32} {i c p q : Int32} (hc : (inR c 0 59 && (inR p 1 600 && inR q 1 60)) = true) {d : Int32} (hd : inR d 1 10000 = false) : Mt l G yX8_bent mX8_bent 4 97 0 0 [.ref m, .int num, .int d, .int i, .int c, .int p, .int q] ((m, .inr (8, [.int fi, .ref (D 0), .long as, .int (nI ns), .ref (D 1), .ref (D 2), .ref (D 3), .ref (D 4), .ref (D 5), .ref (D 6), .ref (D 7), .ref (D 8), .int ii, .long de, .int dl, .int dp, .int dc, .ref (D 9), .int (nI nr), .ref (D 10), .ref (D 11), .ref (D 12), .ref (D 13), .ref (D 14), .int al, .int wa])) :: r) (fun v w => v = some (.int (-1 : Int32)) ∧ w = (m, .inr (8, [.int fi, .ref (D 0), .long as, .int (nI ns), .ref (D 1), .ref (D 2), .ref (D 3), .ref (D 4), .ref (D 5), .ref (D 6), .ref (D 7), .ref (D 8), .int ii, .long de, .int dl, .int dp, .int dc, .ref (D 9), .int (nI nr), .ref (D 10), .ref (D 11), .ref (D 12), .ref (D 13), .ref (D 14), .int al, .int wa])) :: r) := by
  refine Mt.of (by decide +kernel) rfl rfl (fun X B => ?_)
  show J G X mX8_bent ((m, .inr (8, [.int fi, .ref (D 0), .long as, .int (nI ns), .ref (D 1), .ref (D 2), .ref (D 3), .ref (D 4), .ref (D 5), .ref (D 6), .ref (D 7), .ref (D 8), .int ii, .long de, .int dl, .int dp, .int dc, .ref (D 9), .int (nI nr), .ref (D 10), .ref (D 11), .ref (D 12), .ref (D 13), .ref (D 14), .int al, .int wa])) :: r) 0 0 0 [(0, .ref m), (1, .int num), (2, .int d), (3, .int i), (4, .int c), (5, .int p), (6, .int q)] []
  refine J.iload 4 dX8_bent_0 rfl ?_
  refine J.iload 5 dX8_bent_2 rfl ?_
  refine J.iload 6 dX8_bent_4 rfl ?_
  refine J.callS (st := []) B (c_X8_isClock l G _ (c := c) (p := p) (q := q)) ml_X8_166 mf_yX8_isClock mS_yX8_isClock dX8_bent_6 rfl rfl rfl (fun v_1 w_2 hp_3 => ?_)
  obtain ⟨rfl, rfl⟩ := hp_3
  show J G X mX8_bent _ _ _ 9 _ [.int (b01 (inR c 0 59 && (inR p 1 600 && inR q 1 60)))]
  refine J.if_ne dX8_bent_9 (fun h9 => ?_) (fun z => absurd z (by rw [hc]; decide))
  refine J.aload_n 0 dX8_bent_14 rfl ?_
  refine J.iload_n 1 dX8_bent_15 rfl ?_
  refine J.iload_n 2 dX8_bent_16 rfl ?_
  refine J.callV 0 (st := []) B (c_X8_lowsOf_d l G _ hd) ml_X8_153 mf_yX8_lowsOf mi_yX8_lowsOf rfl dX8_bent_17 rfl rfl rfl rfl (fun v_4 w_5 hp_6 => ?_)
  obtain ⟨rfl, rfl⟩ := hp_6
  show J G X mX8_bent _ _ _ 20 _ [.int (-1 : Int32)]
  refine J.istore [1, 2, 3, 4, 5, 6, 7, 0] (lv' := [(0, .ref m), (1, .int num), (2, .int d), (3, .int i), (4, .int c), (5, .int p), (6, .int q), (7, .int (-1 : Int32))]) dX8_bent_20 rfl rfl ?_
  refine J.iload 7 dX8_bent_22 rfl ?_
  refine J.if_ge dX8_bent_24 (fun z => absurd z (by decide)) (fun _ => ?_)
  refine J.iload 7 dX8_bent_27 rfl ?_
  refine J.goto dX8_bent_29 ?_
  exact J.iret B dX8_bent_96 rfl (⟨rfl, rfl⟩)
set_option maxHeartbeats 4000000 in
set_option maxRecDepth 100000 in
theorem r_bent_bad (l : Launch) (G : jG) (r : va_W) {m : Nat} {D : Nat → Nat} {fi : Int32} {as : Int64} {ns : Nat} {ii : Int32} {de : Int64} {dl dp dc : Int32} {nr : Nat} {al wa : Int32} {rr : Nat → Int32} {num : Int32} (hns : ns ≤ 12) (hnum : inR num 0 ((ns : Int) - 1) = false) {i c p q : Int32} (hc : (inR c 0 59 && (inR p 1 600 && inR q 1 60)) = true) {d : Int32} (hd : inR d 1 10000 = true) : Mt l G yX8_bent mX8_bent 4 97 0 0 [.ref m, .int num, .int d, .int i, .int c, .int p, .int q] ((m, .inr (8, [.int fi, .ref (D 0), .long as, .int (nI ns), .ref (D 1), .ref (D 2), .ref (D 3), .ref (D 4), .ref (D 5), .ref (D 6), .ref (D 7), .ref (D 8), .int ii, .long de, .int dl, .int dp, .int dc, .ref (D 9), .int (nI nr), .ref (D 10), .ref (D 11), .ref (D 12), .ref (D 13), .ref (D 14), .int al, .int wa])) :: (D 2, .inl (G.2.1.2.1, 12, .inl rr)) :: r) (fun v w => v = some (.int (-1 : Int32)) ∧ w = (m, .inr (8, [.int fi, .ref (D 0), .long as, .int (nI ns), .ref (D 1), .ref (D 2), .ref (D 3), .ref (D 4), .ref (D 5), .ref (D 6), .ref (D 7), .ref (D 8), .int ii, .long de, .int dl, .int dp, .int dc, .ref (D 9), .int (nI nr), .ref (D 10), .ref (D 11), .ref (D 12), .ref (D 13), .ref (D 14), .int al, .int wa])) :: (D 2, .inl (G.2.1.2.1, 12, .inl rr)) :: r) := by
  refine Mt.of (by decide +kernel) rfl rfl (fun X B => ?_)
  show J G X mX8_bent ((m, .inr (8, [.int fi, .ref (D 0), .long as, .int (nI ns), .ref (D 1), .ref (D 2), .ref (D 3), .ref (D 4), .ref (D 5), .ref (D 6), .ref (D 7), .ref (D 8), .int ii, .long de, .int dl, .int dp, .int dc, .ref (D 9), .int (nI nr), .ref (D 10), .ref (D 11), .ref (D 12), .ref (D 13), .ref (D 14), .int al, .int wa])) :: (D 2, .inl (G.2.1.2.1, 12, .inl rr)) :: r) 0 0 0 [(0, .ref m), (1, .int num), (2, .int d), (3, .int i), (4, .int c), (5, .int p), (6, .int q)] []
  refine J.iload 4 dX8_bent_0 rfl ?_
  refine J.iload 5 dX8_bent_2 rfl ?_
  refine J.iload 6 dX8_bent_4 rfl ?_
  refine J.callS (st := []) B (c_X8_isClock l G _ (c := c) (p := p) (q := q)) ml_X8_166 mf_yX8_isClock mS_yX8_isClock dX8_bent_6 rfl rfl rfl (fun v_1 w_2 hp_3 => ?_)
  obtain ⟨rfl, rfl⟩ := hp_3
  show J G X mX8_bent _ _ _ 9 _ [.int (b01 (inR c 0 59 && (inR p 1 600 && inR q 1 60)))]
  refine J.if_ne dX8_bent_9 (fun h9 => ?_) (fun z => absurd z (by rw [hc]; decide))
  refine J.aload_n 0 dX8_bent_14 rfl ?_
  refine J.iload_n 1 dX8_bent_15 rfl ?_
  refine J.iload_n 2 dX8_bent_16 rfl ?_
  refine J.callV 0 (st := []) B (c_X8_lowsOf_bad l G _ hns hnum hd) ml_X8_153 mf_yX8_lowsOf mi_yX8_lowsOf rfl dX8_bent_17 rfl rfl rfl rfl (fun v_4 w_5 hp_6 => ?_)
  obtain ⟨rfl, rfl⟩ := hp_6
  show J G X mX8_bent _ _ _ 20 _ [.int (-1 : Int32)]
  refine J.istore [1, 2, 3, 4, 5, 6, 7, 0] (lv' := [(0, .ref m), (1, .int num), (2, .int d), (3, .int i), (4, .int c), (5, .int p), (6, .int q), (7, .int (-1 : Int32))]) dX8_bent_20 rfl rfl ?_
  refine J.iload 7 dX8_bent_22 rfl ?_
  refine J.if_ge dX8_bent_24 (fun z => absurd z (by decide)) (fun _ => ?_)
  refine J.iload 7 dX8_bent_27 rfl ?_
  refine J.goto dX8_bent_29 ?_
  exact J.iret B dX8_bent_96 rfl (⟨rfl, rfl⟩)
set_option maxHeartbeats 4000000 in
set_option maxRecDepth 100000 in
theorem r_bent_no (l : Launch) (G : jG) (r : va_W) {m : Nat} {D : Nat → Nat} {fi : Int32} {as : Int64} {ns : Nat} {ii : Int32} {de : Int64} {dl dp dc : Int32} {nr : Nat} {al wa : Int32} {rr : Nat → Int32} {s : Nat} (hk : s < ns) (hns : ns ≤ 12) {fc : Nat → Int32} {i c p q : Int32} (hc : (inR c 0 59 && (inR p 1 600 && inR q 1 60)) = true) (hr : rr s = 0) {d : Int32} (hd : inR d 1 10000 = true) : Mt l G yX8_bent mX8_bent 4 97 0 0 [.ref m, .int (nI s), .int d, .int i, .int c, .int p, .int q] ((m, .inr (8, [.int fi, .ref (D 0), .long as, .int (nI ns), .ref (D 1), .ref (D 2), .ref (D 3), .ref (D 4), .ref (D 5), .ref (D 6), .ref (D 7), .ref (D 8), .int ii, .long de, .int dl, .int dp, .int dc, .ref (D 9), .int (nI nr), .ref (D 10), .ref (D 11), .ref (D 12), .ref (D 13), .ref (D 14), .int al, .int wa])) :: (D 2, .inl (G.2.1.2.1, 12, .inl rr)) :: (D 0, .inl (G.2.1.1, 6, .inl fc)) :: r) (fun v w => v = some (.int (-3 : Int32)) ∧ w = (m, .inr (8, [.int (nI 1), .ref (D 0), .long as, .int (nI ns), .ref (D 1), .ref (D 2), .ref (D 3), .ref (D 4), .ref (D 5), .ref (D 6), .ref (D 7), .ref (D 8), .int ii, .long de, .int dl, .int dp, .int dc, .ref (D 9), .int (nI nr), .ref (D 10), .ref (D 11), .ref (D 12), .ref (D 13), .ref (D 14), .int al, .int wa])) :: (D 2, .inl (G.2.1.2.1, 12, .inl rr)) :: (D 0, .inl (G.2.1.1, 6, .inl (upd fc 1 (fc 1 + 1)))) :: r) := by
  refine Mt.of (by decide +kernel) rfl rfl (fun X B => ?_)
  show J G X mX8_bent ((m, .inr (8, [.int fi, .ref (D 0), .long as, .int (nI ns), .ref (D 1), .ref (D 2), .ref (D 3), .ref (D 4), .ref (D 5), .ref (D 6), .ref (D 7), .ref (D 8), .int ii, .long de, .int dl, .int dp, .int dc, .ref (D 9), .int (nI nr), .ref (D 10), .ref (D 11), .ref (D 12), .ref (D 13), .ref (D 14), .int al, .int wa])) :: (D 2, .inl (G.2.1.2.1, 12, .inl rr)) :: (D 0, .inl (G.2.1.1, 6, .inl fc)) :: r) 0 0 0 [(0, .ref m), (1, .int (nI s)), (2, .int d), (3, .int i), (4, .int c), (5, .int p), (6, .int q)] []
  refine J.iload 4 dX8_bent_0 rfl ?_
  refine J.iload 5 dX8_bent_2 rfl ?_
  refine J.iload 6 dX8_bent_4 rfl ?_
  refine J.callS (st := []) B (c_X8_isClock l G _ (c := c) (p := p) (q := q)) ml_X8_166 mf_yX8_isClock mS_yX8_isClock dX8_bent_6 rfl rfl rfl (fun v_1 w_2 hp_3 => ?_)
  obtain ⟨rfl, rfl⟩ := hp_3
  show J G X mX8_bent _ _ _ 9 _ [.int (b01 (inR c 0 59 && (inR p 1 600 && inR q 1 60)))]
  refine J.if_ne dX8_bent_9 (fun h9 => ?_) (fun z => absurd z (by rw [hc]; decide))
  refine J.aload_n 0 dX8_bent_14 rfl ?_
  refine J.iload_n 1 dX8_bent_15 rfl ?_
  refine J.iload_n 2 dX8_bent_16 rfl ?_
  refine J.callV 0 (st := []) B (c_X8_lowsOf_no l G _ hk hns hr hd) ml_X8_153 mf_yX8_lowsOf mi_yX8_lowsOf rfl dX8_bent_17 rfl rfl rfl rfl (fun v_4 w_5 hp_6 => ?_)
  obtain ⟨rfl, rfl⟩ := hp_6
  show J G X mX8_bent _ _ _ 20 _ [.int (-3 : Int32)]
  refine J.istore [1, 2, 3, 4, 5, 6, 7, 0] (lv' := [(0, .ref m), (1, .int (nI s)), (2, .int d), (3, .int i), (4, .int c), (5, .int p), (6, .int q), (7, .int (-3 : Int32))]) dX8_bent_20 rfl rfl ?_
  refine J.iload 7 dX8_bent_22 rfl ?_
  refine J.if_ge dX8_bent_24 (fun z => absurd z (by decide)) (fun _ => ?_)
  refine J.iload 7 dX8_bent_27 rfl ?_
  refine J.goto dX8_bent_29 ?_
  exact J.iret B dX8_bent_96 rfl (⟨rfl, rfl⟩)
set_option maxHeartbeats 4000000 in
set_option maxRecDepth 100000 in
theorem r_bent_nought (l : Launch) (G : jG) (r : va_W) {m : Nat} {D : Nat → Nat} {fi : Int32} {as : Int64} {ns : Nat} {ii : Int32} {de : Int64} {dl dp dc : Int32} {nr : Nat} {al wa : Int32} {rr : Nat → Int32} {s : Nat} (hk : s < ns) (hns : ns ≤ 12) {fc : Nat → Int32} {ml : Nat → Int32} {i c p q : Int32} (hc : (inR c 0 59 && (inR p 1 600 && inR q 1 60)) = true) (hr : ¬ rr s = 0) (h0 : nN (rowM ml s) = 0) {d : Int32} (hd : inR d 1 10000 = true) : Mt l G yX8_bent mX8_bent 4 97 0 0 [.ref m, .int (nI s), .int d, .int i, .int c, .int p, .int q] ((m, .inr (8, [.int fi, .ref (D 0), .long as, .int (nI ns), .ref (D 1), .ref (D 2), .ref (D 3), .ref (D 4), .ref (D 5), .ref (D 6), .ref (D 7), .ref (D 8), .int ii, .long de, .int dl, .int dp, .int dc, .ref (D 9), .int (nI nr), .ref (D 10), .ref (D 11), .ref (D 12), .ref (D 13), .ref (D 14), .int al, .int wa])) :: (D 2, .inl (G.2.1.2.1, 12, .inl rr)) :: (D 3, .inl (G.2.1.1, 720, .inl ml)) :: (D 0, .inl (G.2.1.1, 6, .inl fc)) :: r) (fun v w => v = some (.int (-3 : Int32)) ∧ w = (m, .inr (8, [.int (nI 4), .ref (D 0), .long as, .int (nI ns), .ref (D 1), .ref (D 2), .ref (D 3), .ref (D 4), .ref (D 5), .ref (D 6), .ref (D 7), .ref (D 8), .int ii, .long de, .int dl, .int dp, .int dc, .ref (D 9), .int (nI nr), .ref (D 10), .ref (D 11), .ref (D 12), .ref (D 13), .ref (D 14), .int al, .int wa])) :: (D 2, .inl (G.2.1.2.1, 12, .inl rr)) :: (D 3, .inl (G.2.1.1, 720, .inl ml)) :: (D 0, .inl (G.2.1.1, 6, .inl (upd fc 4 (fc 4 + 1)))) :: r) := by
  refine Mt.of (by decide +kernel) rfl rfl (fun X B => ?_)
  show J G X mX8_bent ((m, .inr (8, [.int fi, .ref (D 0), .long as, .int (nI ns), .ref (D 1), .ref (D 2), .ref (D 3), .ref (D 4), .ref (D 5), .ref (D 6), .ref (D 7), .ref (D 8), .int ii, .long de, .int dl, .int dp, .int dc, .ref (D 9), .int (nI nr), .ref (D 10), .ref (D 11), .ref (D 12), .ref (D 13), .ref (D 14), .int al, .int wa])) :: (D 2, .inl (G.2.1.2.1, 12, .inl rr)) :: (D 3, .inl (G.2.1.1, 720, .inl ml)) :: (D 0, .inl (G.2.1.1, 6, .inl fc)) :: r) 0 0 0 [(0, .ref m), (1, .int (nI s)), (2, .int d), (3, .int i), (4, .int c), (5, .int p), (6, .int q)] []
  refine J.iload 4 dX8_bent_0 rfl ?_
  refine J.iload 5 dX8_bent_2 rfl ?_
  refine J.iload 6 dX8_bent_4 rfl ?_
  refine J.callS (st := []) B (c_X8_isClock l G _ (c := c) (p := p) (q := q)) ml_X8_166 mf_yX8_isClock mS_yX8_isClock dX8_bent_6 rfl rfl rfl (fun v_1 w_2 hp_3 => ?_)
  obtain ⟨rfl, rfl⟩ := hp_3
  show J G X mX8_bent _ _ _ 9 _ [.int (b01 (inR c 0 59 && (inR p 1 600 && inR q 1 60)))]
  refine J.if_ne dX8_bent_9 (fun h9 => ?_) (fun z => absurd z (by rw [hc]; decide))
  refine J.aload_n 0 dX8_bent_14 rfl ?_
  refine J.iload_n 1 dX8_bent_15 rfl ?_
  refine J.iload_n 2 dX8_bent_16 rfl ?_
  refine J.callV 0 (st := []) B (c_X8_lowsOf_nought l G _ hk hns hr h0 hd) ml_X8_153 mf_yX8_lowsOf mi_yX8_lowsOf rfl dX8_bent_17 rfl rfl rfl rfl (fun v_4 w_5 hp_6 => ?_)
  obtain ⟨rfl, rfl⟩ := hp_6
  show J G X mX8_bent _ _ _ 20 _ [.int (-3 : Int32)]
  refine J.istore [1, 2, 3, 4, 5, 6, 7, 0] (lv' := [(0, .ref m), (1, .int (nI s)), (2, .int d), (3, .int i), (4, .int c), (5, .int p), (6, .int q), (7, .int (-3 : Int32))]) dX8_bent_20 rfl rfl ?_
  refine J.iload 7 dX8_bent_22 rfl ?_
  refine J.if_ge dX8_bent_24 (fun z => absurd z (by decide)) (fun _ => ?_)
  refine J.iload 7 dX8_bent_27 rfl ?_
  refine J.goto dX8_bent_29 ?_
  exact J.iret B dX8_bent_96 rfl (⟨rfl, rfl⟩)
set_option maxHeartbeats 4000000 in
set_option maxRecDepth 100000 in
theorem r_bent_none (l : Launch) (G : jG) (r : va_W) {m : Nat} {D : Nat → Nat} {fi : Int32} {as : Int64} {ns : Nat} {ii : Int32} {de : Int64} {dl dp dc : Int32} {nr : Nat} {al wa : Int32} {rr : Nat → Int32} {s : Nat} (hk : s < ns) (hns : ns ≤ 12) {ml F : Nat → Int32} {so lti : Nat → Int32} {c p q : Int32} (hc : (inR c 0 59 && (inR p 1 600 && inR q 1 60)) = true) (hr : ¬ rr s = 0) (h0 : 0 < nN (rowM ml s)) {d : Int32} (hd : inR d 1 10000 = true) {i : Int32} (hi : inR i 0 (((lowF (ltF (rowM ml s) F) (midV (lits (rowM ml s) F 60) - d) (nts (rowM ml s) 60)).1.length : Int) - 3) = false) : Mt l G yX8_bent mX8_bent 4 97 0 0 [.ref m, .int (nI s), .int d, .int i, .int c, .int p, .int q] ((m, .inr (8, [.int fi, .ref (D 0), .long as, .int (nI ns), .ref (D 1), .ref (D 2), .ref (D 3), .ref (D 4), .ref (D 5), .ref (D 6), .ref (D 7), .ref (D 8), .int ii, .long de, .int dl, .int dp, .int dc, .ref (D 9), .int (nI nr), .ref (D 10), .ref (D 11), .ref (D 12), .ref (D 13), .ref (D 14), .int al, .int wa])) :: (D 2, .inl (G.2.1.2.1, 12, .inl rr)) :: (D 3, .inl (G.2.1.1, 720, .inl ml)) :: (D 4, .inl (G.2.1.1, 60, .inl F)) :: (D 6, .inl (G.2.1.1, 60, .inl so)) :: (D 9, .inl (G.2.1.1, 60, .inl lti)) :: r) (fun v w => ∃ so1 lt1, v = some (.int (-9)) ∧ w = (m, .inr (8, [.int fi, .ref (D 0), .long as, .int (nI ns), .ref (D 1), .ref (D 2), .ref (D 3), .ref (D 4), .ref (D 5), .ref (D 6), .ref (D 7), .ref (D 8), .int ii, .long de, .int dl, .int dp, .int dc, .ref (D 9), .int (nI nr), .ref (D 10), .ref (D 11), .ref (D 12), .ref (D 13), .ref (D 14), .int al, .int wa])) :: (D 2, .inl (G.2.1.2.1, 12, .inl rr)) :: (D 3, .inl (G.2.1.1, 720, .inl ml)) :: (D 4, .inl (G.2.1.1, 60, .inl F)) :: (D 6, .inl (G.2.1.1, 60, .inl so1)) :: (D 9, .inl (G.2.1.1, 60, .inl lt1)) :: r) := by
  refine Mt.of (by decide +kernel) rfl rfl (fun X B => ?_)
  show J G X mX8_bent ((m, .inr (8, [.int fi, .ref (D 0), .long as, .int (nI ns), .ref (D 1), .ref (D 2), .ref (D 3), .ref (D 4), .ref (D 5), .ref (D 6), .ref (D 7), .ref (D 8), .int ii, .long de, .int dl, .int dp, .int dc, .ref (D 9), .int (nI nr), .ref (D 10), .ref (D 11), .ref (D 12), .ref (D 13), .ref (D 14), .int al, .int wa])) :: (D 2, .inl (G.2.1.2.1, 12, .inl rr)) :: (D 3, .inl (G.2.1.1, 720, .inl ml)) :: (D 4, .inl (G.2.1.1, 60, .inl F)) :: (D 6, .inl (G.2.1.1, 60, .inl so)) :: (D 9, .inl (G.2.1.1, 60, .inl lti)) :: r) 0 0 0 [(0, .ref m), (1, .int (nI s)), (2, .int d), (3, .int i), (4, .int c), (5, .int p), (6, .int q)] []
  have hll : (lowF (ltF (rowM ml s) F) (midV (lits (rowM ml s) F 60) - d) (nts (rowM ml s) 60)).1.length ≤ 60 := Nat.le_trans (lowF_le _ _ _) (nN_le (rowM ml s))
  refine J.iload 4 dX8_bent_0 rfl ?_
  refine J.iload 5 dX8_bent_2 rfl ?_
  refine J.iload 6 dX8_bent_4 rfl ?_
  refine J.callS (st := []) B (c_X8_isClock l G _ (c := c) (p := p) (q := q)) ml_X8_166 mf_yX8_isClock mS_yX8_isClock dX8_bent_6 rfl rfl rfl (fun v_1 w_2 hp_3 => ?_)
  obtain ⟨rfl, rfl⟩ := hp_3
  show J G X mX8_bent _ _ _ 9 _ [.int (b01 (inR c 0 59 && (inR p 1 600 && inR q 1 60)))]
  refine J.if_ne dX8_bent_9 (fun h9 => ?_) (fun z => absurd z (by rw [hc]; decide))
  refine J.aload_n 0 dX8_bent_14 rfl ?_
  refine J.iload_n 1 dX8_bent_15 rfl ?_
  refine J.iload_n 2 dX8_bent_16 rfl ?_
  refine J.callV 0 (st := []) B (c_X8_lowsOf l G _ hk hns hr h0 hd) ml_X8_153 mf_yX8_lowsOf mi_yX8_lowsOf rfl dX8_bent_17 rfl rfl rfl rfl (fun v_4 w_5 hp_6 => ?_)
  obtain ⟨so1, lt1, hlt, rfl, rfl⟩ := hp_6
  show J G X mX8_bent _ _ _ 20 _ [.int (nI ((lowF (ltF (rowM ml s) F) (midV (lits (rowM ml s) F 60) - d) (nts (rowM ml s) 60)).1.length))]
  refine J.istore [1, 2, 3, 4, 5, 6, 7, 0] (lv' := [(0, .ref m), (1, .int (nI s)), (2, .int d), (3, .int i), (4, .int c), (5, .int p), (6, .int q), (7, .int (nI ((lowF (ltF (rowM ml s) F) (midV (lits (rowM ml s) F 60) - d) (nts (rowM ml s) 60)).1.length)))]) dX8_bent_20 rfl rfl ?_
  refine J.iload 7 dX8_bent_22 rfl ?_
  refine J.if_ge dX8_bent_24 (fun h9 => ?_) (fun h9 => ?_)
  · skip
    have h9 : 0 ≤ ((lowF (ltF (rowM ml s) F) (midV (lits (rowM ml s) F 60) - d) (nts (rowM ml s) 60)).1.length) := (nI_leI (a := 0) (b := ((lowF (ltF (rowM ml s) F) (midV (lits (rowM ml s) F 60) - d) (nts (rowM ml s) 60)).1.length)) (by omega) (by omega)).mp h9
    refine J.iload_n 3 dX8_bent_32 rfl ?_
    refine J.iconst (0 : Int32) dX8_bent_33 rfl ?_
    refine J.iload 7 dX8_bent_34 rfl ?_
    refine J.iconst (3 : Int32) dX8_bent_36 rfl ?_
    refine J.isub dX8_bent_37 ?_
    refine J.callS (st := []) B (c_X8_in l G _ (v := i) (lo := 0) (hi := (nI ((lowF (ltF (rowM ml s) F) (midV (lits (rowM ml s) F 60) - d) (nts (rowM ml s) 60)).1.length)) - (3 : Int32)) (a := 0) (b := ((lowF (ltF (rowM ml s) F) (midV (lits (rowM ml s) F 60) - d) (nts (rowM ml s) 60)).1.length : Int) - 3) rfl (pk_sub_toInt (a := (lowF (ltF (rowM ml s) F) (midV (lits (rowM ml s) F 60) - d) (nts (rowM ml s) 60)).1.length) (b := 3) (by omega) (by omega))) ml_X8_76 mf_yX8_in mS_yX8_in dX8_bent_38 rfl rfl rfl (fun v_7 w_8 hp_9 => ?_)
    obtain ⟨rfl, rfl⟩ := hp_9
    show J G X mX8_bent _ _ _ 41 _ [.int (b01 (inR i 0 (((lowF (ltF (rowM ml s) F) (midV (lits (rowM ml s) F 60) - d) (nts (rowM ml s) 60)).1.length : Int) - 3)))]
    refine J.if_eq dX8_bent_41 (fun h9 => ?_) (fun z => absurd (by rw [hi]; rfl) z)
    refine J.bipush (-9 : Int32) dX8_bent_94 rfl ?_
    exact J.iret B dX8_bent_96 rfl (⟨so1, lt1, rfl, rfl⟩)
  · skip
    have h9 : ¬ 0 ≤ ((lowF (ltF (rowM ml s) F) (midV (lits (rowM ml s) F 60) - d) (nts (rowM ml s) 60)).1.length) := fun z => h9 ((nI_leI (a := 0) (b := ((lowF (ltF (rowM ml s) F) (midV (lits (rowM ml s) F 60) - d) (nts (rowM ml s) 60)).1.length)) (by omega) (by omega)).mpr z)
    omega
set_option maxHeartbeats 4000000 in
set_option maxRecDepth 100000 in
theorem r_bent (l : Launch) (G : jG) (r : va_W) {m : Nat} {D : Nat → Nat} {fi : Int32} {as : Int64} {ns : Nat} {ii : Int32} {de : Int64} {dl dp dc : Int32} {nr : Nat} {al wa : Int32} {rr : Nat → Int32} {s : Nat} (hk : s < ns) (hns : ns ≤ 12) {ml F : Nat → Int32} {so lti : Nat → Int32} (hr : ¬ rr s = 0) (h0 : 0 < nN (rowM ml s)) {d : Int32} (hd : inR d 1 10000 = true) {i : Nat} (hi : i + 2 < (lowF (ltF (rowM ml s) F) (midV (lits (rowM ml s) F 60) - d) (nts (rowM ml s) 60)).1.length) {c : Nat} (hc0 : c < 60) {p q : Nat} (hp1 : 1 ≤ p) (hp2 : p ≤ 600) (hq1 : 1 ≤ q) (hq2 : q ≤ 60) : Mt l G yX8_bent mX8_bent 4 97 0 0 [.ref m, .int (nI s), .int d, .int (nI i), .int (nI c), .int (nI p), .int (nI q)] ((m, .inr (8, [.int fi, .ref (D 0), .long as, .int (nI ns), .ref (D 1), .ref (D 2), .ref (D 3), .ref (D 4), .ref (D 5), .ref (D 6), .ref (D 7), .ref (D 8), .int ii, .long de, .int dl, .int dp, .int dc, .ref (D 9), .int (nI nr), .ref (D 10), .ref (D 11), .ref (D 12), .ref (D 13), .ref (D 14), .int al, .int wa])) :: (D 2, .inl (G.2.1.2.1, 12, .inl rr)) :: (D 3, .inl (G.2.1.1, 720, .inl ml)) :: (D 4, .inl (G.2.1.1, 60, .inl F)) :: (D 6, .inl (G.2.1.1, 60, .inl so)) :: (D 9, .inl (G.2.1.1, 60, .inl lti)) :: r) (fun v w => ∃ so1 lt1, v = some (.int 1) ∧ w = (m, .inr (8, [.int fi, .ref (D 0), .long (Int64.ofInt (laI (rg (lowF (ltF (rowM ml s) F) (midV (lits (rowM ml s) F 60) - d) (nts (rowM ml s) 60)).1 i) c p q - 2 * laI (rg (lowF (ltF (rowM ml s) F) (midV (lits (rowM ml s) F 60) - d) (nts (rowM ml s) 60)).1 (i + 1)) c p q + laI (rg (lowF (ltF (rowM ml s) F) (midV (lits (rowM ml s) F 60) - d) (nts (rowM ml s) 60)).1 (i + 2)) c p q)), .int (nI ns), .ref (D 1), .ref (D 2), .ref (D 3), .ref (D 4), .ref (D 5), .ref (D 6), .ref (D 7), .ref (D 8), .int ii, .long de, .int dl, .int dp, .int dc, .ref (D 9), .int (nI nr), .ref (D 10), .ref (D 11), .ref (D 12), .ref (D 13), .ref (D 14), .int al, .int wa])) :: (D 2, .inl (G.2.1.2.1, 12, .inl rr)) :: (D 3, .inl (G.2.1.1, 720, .inl ml)) :: (D 4, .inl (G.2.1.1, 60, .inl F)) :: (D 6, .inl (G.2.1.1, 60, .inl so1)) :: (D 9, .inl (G.2.1.1, 60, .inl lt1)) :: r) := by
  refine Mt.of (by decide +kernel) rfl rfl (fun X B => ?_)
  show J G X mX8_bent ((m, .inr (8, [.int fi, .ref (D 0), .long as, .int (nI ns), .ref (D 1), .ref (D 2), .ref (D 3), .ref (D 4), .ref (D 5), .ref (D 6), .ref (D 7), .ref (D 8), .int ii, .long de, .int dl, .int dp, .int dc, .ref (D 9), .int (nI nr), .ref (D 10), .ref (D 11), .ref (D 12), .ref (D 13), .ref (D 14), .int al, .int wa])) :: (D 2, .inl (G.2.1.2.1, 12, .inl rr)) :: (D 3, .inl (G.2.1.1, 720, .inl ml)) :: (D 4, .inl (G.2.1.1, 60, .inl F)) :: (D 6, .inl (G.2.1.1, 60, .inl so)) :: (D 9, .inl (G.2.1.1, 60, .inl lti)) :: r) 0 0 0 [(0, .ref m), (1, .int (nI s)), (2, .int d), (3, .int (nI i)), (4, .int (nI c)), (5, .int (nI p)), (6, .int (nI q))] []
  have hll : (lowF (ltF (rowM ml s) F) (midV (lits (rowM ml s) F 60) - d) (nts (rowM ml s) 60)).1.length ≤ 60 := Nat.le_trans (lowF_le _ _ _) (nN_le (rowM ml s))
  have hpi : inR (nI p) 1 600 = true := by rw [nI_inR (by omega)]; exact decide_eq_true ⟨by omega, by omega⟩
  have hqi : inR (nI q) 1 60 = true := by rw [nI_inR (by omega)]; exact decide_eq_true ⟨by omega, by omega⟩
  have hc : (inR (nI c) 0 59 && (inR (nI p) 1 600 && inR (nI q) 1 60)) = true := by
    rw [hpi, hqi, nI_inR (by omega), decide_eq_true (p := (0 : Int) ≤ (c : Int) ∧ (c : Int) ≤ 59) ⟨by omega, by omega⟩]
    rfl
  have hii : inR (nI i) 0 (((lowF (ltF (rowM ml s) F) (midV (lits (rowM ml s) F 60) - d) (nts (rowM ml s) 60)).1.length : Int) - 3) = true := by rw [nI_inR (by omega)]; exact decide_eq_true ⟨by omega, by omega⟩
  have hlw0 : rg (lowF (ltF (rowM ml s) F) (midV (lits (rowM ml s) F 60) - d) (nts (rowM ml s) 60)).1 i < 60 := (mem_nts.mp (lowF_mem (rg_mem (by omega)))).1
  have hlw1 : rg (lowF (ltF (rowM ml s) F) (midV (lits (rowM ml s) F 60) - d) (nts (rowM ml s) 60)).1 (i + 1) < 60 := (mem_nts.mp (lowF_mem (rg_mem (by omega)))).1
  have hlw2 : rg (lowF (ltF (rowM ml s) F) (midV (lits (rowM ml s) F 60) - d) (nts (rowM ml s) 60)).1 (i + 2) < 60 := (mem_nts.mp (lowF_mem (rg_mem (by omega)))).1
  refine J.iload 4 dX8_bent_0 rfl ?_
  refine J.iload 5 dX8_bent_2 rfl ?_
  refine J.iload 6 dX8_bent_4 rfl ?_
  refine J.callS (st := []) B (c_X8_isClock l G _ (c := nI c) (p := nI p) (q := nI q)) ml_X8_166 mf_yX8_isClock mS_yX8_isClock dX8_bent_6 rfl rfl rfl (fun v_1 w_2 hp_3 => ?_)
  obtain ⟨rfl, rfl⟩ := hp_3
  show J G X mX8_bent _ _ _ 9 _ [.int (b01 (inR (nI c) 0 59 && (inR (nI p) 1 600 && inR (nI q) 1 60)))]
  refine J.if_ne dX8_bent_9 (fun h9 => ?_) (fun z => absurd z (by rw [hc]; decide))
  refine J.aload_n 0 dX8_bent_14 rfl ?_
  refine J.iload_n 1 dX8_bent_15 rfl ?_
  refine J.iload_n 2 dX8_bent_16 rfl ?_
  refine J.callV 0 (st := []) B (c_X8_lowsOf l G _ hk hns hr h0 hd) ml_X8_153 mf_yX8_lowsOf mi_yX8_lowsOf rfl dX8_bent_17 rfl rfl rfl rfl (fun v_4 w_5 hp_6 => ?_)
  obtain ⟨so1, lt1, hlt, rfl, rfl⟩ := hp_6
  show J G X mX8_bent _ _ _ 20 _ [.int (nI ((lowF (ltF (rowM ml s) F) (midV (lits (rowM ml s) F 60) - d) (nts (rowM ml s) 60)).1.length))]
  refine J.istore [1, 2, 3, 4, 5, 6, 7, 0] (lv' := [(0, .ref m), (1, .int (nI s)), (2, .int d), (3, .int (nI i)), (4, .int (nI c)), (5, .int (nI p)), (6, .int (nI q)), (7, .int (nI ((lowF (ltF (rowM ml s) F) (midV (lits (rowM ml s) F 60) - d) (nts (rowM ml s) 60)).1.length)))]) dX8_bent_20 rfl rfl ?_
  refine J.iload 7 dX8_bent_22 rfl ?_
  refine J.if_ge dX8_bent_24 (fun h9 => ?_) (fun h9 => ?_)
  · skip
    have h9 : 0 ≤ ((lowF (ltF (rowM ml s) F) (midV (lits (rowM ml s) F 60) - d) (nts (rowM ml s) 60)).1.length) := (nI_leI (a := 0) (b := ((lowF (ltF (rowM ml s) F) (midV (lits (rowM ml s) F 60) - d) (nts (rowM ml s) 60)).1.length)) (by omega) (by omega)).mp h9
    refine J.iload_n 3 dX8_bent_32 rfl ?_
    refine J.iconst (0 : Int32) dX8_bent_33 rfl ?_
    refine J.iload 7 dX8_bent_34 rfl ?_
    refine J.iconst (3 : Int32) dX8_bent_36 rfl ?_
    refine J.isub dX8_bent_37 ?_
    refine J.callS (st := []) B (c_X8_in l G _ (v := nI i) (lo := 0) (hi := (nI ((lowF (ltF (rowM ml s) F) (midV (lits (rowM ml s) F 60) - d) (nts (rowM ml s) 60)).1.length)) - (3 : Int32)) (a := 0) (b := ((lowF (ltF (rowM ml s) F) (midV (lits (rowM ml s) F 60) - d) (nts (rowM ml s) 60)).1.length : Int) - 3) rfl (pk_sub_toInt (a := (lowF (ltF (rowM ml s) F) (midV (lits (rowM ml s) F 60) - d) (nts (rowM ml s) 60)).1.length) (b := 3) (by omega) (by omega))) ml_X8_76 mf_yX8_in mS_yX8_in dX8_bent_38 rfl rfl rfl (fun v_7 w_8 hp_9 => ?_)
    obtain ⟨rfl, rfl⟩ := hp_9
    show J G X mX8_bent _ _ _ 41 _ [.int (b01 (inR (nI i) 0 (((lowF (ltF (rowM ml s) F) (midV (lits (rowM ml s) F 60) - d) (nts (rowM ml s) 60)).1.length : Int) - 3)))]
    refine J.if_eq dX8_bent_41 (fun z => absurd z (by rw [hii]; decide)) (fun h9 => ?_)
    refine J.aload_n 0 dX8_bent_44 rfl ?_
    refine J.aload_n 0 dX8_bent_45 rfl ?_
    refine J.iload_n 3 dX8_bent_46 rfl ?_
    refine J.iload 4 dX8_bent_47 rfl ?_
    refine J.iload 5 dX8_bent_49 rfl ?_
    refine J.iload 6 dX8_bent_51 rfl ?_
    refine J.re [0, 5, 1, 2, 3, 4] 6 (ws2 := (m, .inr (8, [.int fi, .ref (D 0), .long as, .int (nI ns), .ref (D 1), .ref (D 2), .ref (D 3), .ref (D 4), .ref (D 5), .ref (D 6), .ref (D 7), .ref (D 8), .int ii, .long de, .int dl, .int dp, .int dc, .ref (D 9), .int (nI nr), .ref (D 10), .ref (D 11), .ref (D 12), .ref (D 13), .ref (D 14), .int al, .int wa])) :: (D 9, .inl (G.2.1.1, 60, .inl lt1)) :: (D 2, .inl (G.2.1.2.1, 12, .inl rr)) :: (D 3, .inl (G.2.1.1, 720, .inl ml)) :: (D 4, .inl (G.2.1.1, 60, .inl F)) :: (D 6, .inl (G.2.1.1, 60, .inl so1)) :: r) rfl rfl ?_
    refine J.callV 0 (st := [.ref m]) B (c_X8_lateOf l G _ (i := i) (tv := rg (lowF (ltF (rowM ml s) F) (midV (lits (rowM ml s) F 60) - d) (nts (rowM ml s) 60)).1 i) (by omega) (AG_rg hlt (by omega)) hlw0 hc0 hq2 hp1 hp2) ml_X8_169 mf_yX8_lateOf mi_yX8_lateOf rfl dX8_bent_53 rfl rfl rfl rfl (fun v_10 w_11 hp_12 => ?_)
    obtain ⟨rfl, rfl⟩ := hp_12
    refine J.re [0, 2, 3, 4, 5, 1] 6 (ws2 := (m, .inr (8, [.int fi, .ref (D 0), .long as, .int (nI ns), .ref (D 1), .ref (D 2), .ref (D 3), .ref (D 4), .ref (D 5), .ref (D 6), .ref (D 7), .ref (D 8), .int ii, .long de, .int dl, .int dp, .int dc, .ref (D 9), .int (nI nr), .ref (D 10), .ref (D 11), .ref (D 12), .ref (D 13), .ref (D 14), .int al, .int wa])) :: (D 2, .inl (G.2.1.2.1, 12, .inl rr)) :: (D 3, .inl (G.2.1.1, 720, .inl ml)) :: (D 4, .inl (G.2.1.1, 60, .inl F)) :: (D 6, .inl (G.2.1.1, 60, .inl so1)) :: (D 9, .inl (G.2.1.1, 60, .inl lt1)) :: r) rfl rfl ?_
    show J G X mX8_bent _ _ _ 56 _ [.long (Int64.ofInt (laI (rg (lowF (ltF (rowM ml s) F) (midV (lits (rowM ml s) F 60) - d) (nts (rowM ml s) 60)).1 i) c p q)), .ref m]
    refine J.ldc2 dX8_bent_56 kl_X8_156 ?_
    refine J.aload_n 0 dX8_bent_59 rfl ?_
    refine J.iload_n 3 dX8_bent_60 rfl ?_
    refine J.iconst (1 : Int32) dX8_bent_61 rfl ?_
    refine J.iadd dX8_bent_62 ?_
    refine J.topi (y := nI (i + 1)) (nI_add i 1) ?_
    refine J.iload 4 dX8_bent_63 rfl ?_
    refine J.iload 5 dX8_bent_65 rfl ?_
    refine J.iload 6 dX8_bent_67 rfl ?_
    refine J.re [0, 5, 1, 2, 3, 4] 6 (ws2 := (m, .inr (8, [.int fi, .ref (D 0), .long as, .int (nI ns), .ref (D 1), .ref (D 2), .ref (D 3), .ref (D 4), .ref (D 5), .ref (D 6), .ref (D 7), .ref (D 8), .int ii, .long de, .int dl, .int dp, .int dc, .ref (D 9), .int (nI nr), .ref (D 10), .ref (D 11), .ref (D 12), .ref (D 13), .ref (D 14), .int al, .int wa])) :: (D 9, .inl (G.2.1.1, 60, .inl lt1)) :: (D 2, .inl (G.2.1.2.1, 12, .inl rr)) :: (D 3, .inl (G.2.1.1, 720, .inl ml)) :: (D 4, .inl (G.2.1.1, 60, .inl F)) :: (D 6, .inl (G.2.1.1, 60, .inl so1)) :: r) rfl rfl ?_
    refine J.callV 0 (st := [.long (2 : Int64), .long (Int64.ofInt (laI (rg (lowF (ltF (rowM ml s) F) (midV (lits (rowM ml s) F 60) - d) (nts (rowM ml s) 60)).1 i) c p q)), .ref m]) B (c_X8_lateOf l G _ (i := (i + 1)) (tv := rg (lowF (ltF (rowM ml s) F) (midV (lits (rowM ml s) F 60) - d) (nts (rowM ml s) 60)).1 (i + 1)) (by omega) (AG_rg hlt (by omega)) hlw1 hc0 hq2 hp1 hp2) ml_X8_169 mf_yX8_lateOf mi_yX8_lateOf rfl dX8_bent_69 rfl rfl rfl rfl (fun v_13 w_14 hp_15 => ?_)
    obtain ⟨rfl, rfl⟩ := hp_15
    refine J.re [0, 2, 3, 4, 5, 1] 6 (ws2 := (m, .inr (8, [.int fi, .ref (D 0), .long as, .int (nI ns), .ref (D 1), .ref (D 2), .ref (D 3), .ref (D 4), .ref (D 5), .ref (D 6), .ref (D 7), .ref (D 8), .int ii, .long de, .int dl, .int dp, .int dc, .ref (D 9), .int (nI nr), .ref (D 10), .ref (D 11), .ref (D 12), .ref (D 13), .ref (D 14), .int al, .int wa])) :: (D 2, .inl (G.2.1.2.1, 12, .inl rr)) :: (D 3, .inl (G.2.1.1, 720, .inl ml)) :: (D 4, .inl (G.2.1.1, 60, .inl F)) :: (D 6, .inl (G.2.1.1, 60, .inl so1)) :: (D 9, .inl (G.2.1.1, 60, .inl lt1)) :: r) rfl rfl ?_
    show J G X mX8_bent _ _ _ 72 _ [.long (Int64.ofInt (laI (rg (lowF (ltF (rowM ml s) F) (midV (lits (rowM ml s) F 60) - d) (nts (rowM ml s) 60)).1 (i + 1)) c p q)), .long (2 : Int64), .long (Int64.ofInt (laI (rg (lowF (ltF (rowM ml s) F) (midV (lits (rowM ml s) F 60) - d) (nts (rowM ml s) 60)).1 i) c p q)), .ref m]
    refine J.lmul dX8_bent_72 ?_
    refine J.lsub dX8_bent_73 ?_
    refine J.aload_n 0 dX8_bent_74 rfl ?_
    refine J.iload_n 3 dX8_bent_75 rfl ?_
    refine J.iconst (2 : Int32) dX8_bent_76 rfl ?_
    refine J.iadd dX8_bent_77 ?_
    refine J.topi (y := nI (i + 2)) (nI_add i 2) ?_
    refine J.iload 4 dX8_bent_78 rfl ?_
    refine J.iload 5 dX8_bent_80 rfl ?_
    refine J.iload 6 dX8_bent_82 rfl ?_
    refine J.re [0, 5, 1, 2, 3, 4] 6 (ws2 := (m, .inr (8, [.int fi, .ref (D 0), .long as, .int (nI ns), .ref (D 1), .ref (D 2), .ref (D 3), .ref (D 4), .ref (D 5), .ref (D 6), .ref (D 7), .ref (D 8), .int ii, .long de, .int dl, .int dp, .int dc, .ref (D 9), .int (nI nr), .ref (D 10), .ref (D 11), .ref (D 12), .ref (D 13), .ref (D 14), .int al, .int wa])) :: (D 9, .inl (G.2.1.1, 60, .inl lt1)) :: (D 2, .inl (G.2.1.2.1, 12, .inl rr)) :: (D 3, .inl (G.2.1.1, 720, .inl ml)) :: (D 4, .inl (G.2.1.1, 60, .inl F)) :: (D 6, .inl (G.2.1.1, 60, .inl so1)) :: r) rfl rfl ?_
    refine J.callV 0 (st := [.long ((Int64.ofInt (laI (rg (lowF (ltF (rowM ml s) F) (midV (lits (rowM ml s) F 60) - d) (nts (rowM ml s) 60)).1 i) c p q)) - ((2 : Int64) * (Int64.ofInt (laI (rg (lowF (ltF (rowM ml s) F) (midV (lits (rowM ml s) F 60) - d) (nts (rowM ml s) 60)).1 (i + 1)) c p q)))), .ref m]) B (c_X8_lateOf l G _ (i := (i + 2)) (tv := rg (lowF (ltF (rowM ml s) F) (midV (lits (rowM ml s) F 60) - d) (nts (rowM ml s) 60)).1 (i + 2)) (by omega) (AG_rg hlt (by omega)) hlw2 hc0 hq2 hp1 hp2) ml_X8_169 mf_yX8_lateOf mi_yX8_lateOf rfl dX8_bent_84 rfl rfl rfl rfl (fun v_16 w_17 hp_18 => ?_)
    obtain ⟨rfl, rfl⟩ := hp_18
    refine J.re [0, 2, 3, 4, 5, 1] 6 (ws2 := (m, .inr (8, [.int fi, .ref (D 0), .long as, .int (nI ns), .ref (D 1), .ref (D 2), .ref (D 3), .ref (D 4), .ref (D 5), .ref (D 6), .ref (D 7), .ref (D 8), .int ii, .long de, .int dl, .int dp, .int dc, .ref (D 9), .int (nI nr), .ref (D 10), .ref (D 11), .ref (D 12), .ref (D 13), .ref (D 14), .int al, .int wa])) :: (D 2, .inl (G.2.1.2.1, 12, .inl rr)) :: (D 3, .inl (G.2.1.1, 720, .inl ml)) :: (D 4, .inl (G.2.1.1, 60, .inl F)) :: (D 6, .inl (G.2.1.1, 60, .inl so1)) :: (D 9, .inl (G.2.1.1, 60, .inl lt1)) :: r) rfl rfl ?_
    show J G X mX8_bent _ _ _ 87 _ [.long (Int64.ofInt (laI (rg (lowF (ltF (rowM ml s) F) (midV (lits (rowM ml s) F 60) - d) (nts (rowM ml s) 60)).1 (i + 2)) c p q)), .long ((Int64.ofInt (laI (rg (lowF (ltF (rowM ml s) F) (midV (lits (rowM ml s) F 60) - d) (nts (rowM ml s) 60)).1 i) c p q)) - ((2 : Int64) * (Int64.ofInt (laI (rg (lowF (ltF (rowM ml s) F) (midV (lits (rowM ml s) F 60) - d) (nts (rowM ml s) 60)).1 (i + 1)) c p q)))), .ref m]
    refine J.ladd dX8_bent_87 ?_
    rw [show Int64.ofInt (laI (rg (lowF (ltF (rowM ml s) F) (midV (lits (rowM ml s) F 60) - d) (nts (rowM ml s) 60)).1 i) c p q) - 2 * Int64.ofInt (laI (rg (lowF (ltF (rowM ml s) F) (midV (lits (rowM ml s) F 60) - d) (nts (rowM ml s) 60)).1 (i + 1)) c p q) + Int64.ofInt (laI (rg (lowF (ltF (rowM ml s) F) (midV (lits (rowM ml s) F 60) - d) (nts (rowM ml s) 60)).1 (i + 2)) c p q) = Int64.ofInt (laI (rg (lowF (ltF (rowM ml s) F) (midV (lits (rowM ml s) F 60) - d) (nts (rowM ml s) 60)).1 i) c p q - 2 * laI (rg (lowF (ltF (rowM ml s) F) (midV (lits (rowM ml s) F 60) - d) (nts (rowM ml s) 60)).1 (i + 1)) c p q + laI (rg (lowF (ltF (rowM ml s) F) (midV (lits (rowM ml s) F 60) - d) (nts (rowM ml s) 60)).1 (i + 2)) c p q) by rw [show (2 : Int64) = Int64.ofInt 2 from rfl, ← Int64.ofInt_mul, ← Int64.ofInt_sub, ← Int64.ofInt_add]]
    refine J.callV 0 (st := []) B (c_X8_tell l G _ (t0 := Int64.ofInt (laI (rg (lowF (ltF (rowM ml s) F) (midV (lits (rowM ml s) F 60) - d) (nts (rowM ml s) 60)).1 i) c p q - 2 * laI (rg (lowF (ltF (rowM ml s) F) (midV (lits (rowM ml s) F 60) - d) (nts (rowM ml s) 60)).1 (i + 1)) c p q + laI (rg (lowF (ltF (rowM ml s) F) (midV (lits (rowM ml s) F 60) - d) (nts (rowM ml s) 60)).1 (i + 2)) c p q))) ml_X8_114 mf_yX8_tell mi_yX8_tell rfl dX8_bent_88 rfl rfl rfl rfl (fun v_19 w_20 hp_21 => ?_)
    obtain ⟨rfl, rfl⟩ := hp_21
    show J G X mX8_bent _ _ _ 91 _ [.int (1 : Int32)]
    refine J.goto dX8_bent_91 ?_
    exact J.iret B dX8_bent_96 rfl (⟨so1, lt1, rfl, rfl⟩)
  · skip
    have h9 : ¬ 0 ≤ ((lowF (ltF (rowM ml s) F) (midV (lits (rowM ml s) F 60) - d) (nts (rowM ml s) 60)).1.length) := fun z => h9 ((nI_leI (a := 0) (b := ((lowF (ltF (rowM ml s) F) (midV (lits (rowM ml s) F 60) - d) (nts (rowM ml s) 60)).1.length)) (by omega) (by omega)).mpr z)
    omega
set_option maxHeartbeats 4000000 in
set_option maxRecDepth 100000 in
theorem r_rule_bad (l : Launch) (G : jG) (r : va_W) {m : Nat} {D : Nat → Nat} {fi : Int32} {as : Int64} {ns : Nat} {ii : Int32} {de : Int64} {dl dp dc : Int32} {nr : Nat} {al wa : Int32} {a lo hi c : Int32} (hf : (inR a 0 3 && inR c 0 9 && decide (lo ≤ hi)) = false) : Mt l G yX8_rule mX8_rule 1 22 0 0 [.ref m, .int a, .int lo, .int hi, .int c] ((m, .inr (8, [.int fi, .ref (D 0), .long as, .int (nI ns), .ref (D 1), .ref (D 2), .ref (D 3), .ref (D 4), .ref (D 5), .ref (D 6), .ref (D 7), .ref (D 8), .int ii, .long de, .int dl, .int dp, .int dc, .ref (D 9), .int (nI nr), .ref (D 10), .ref (D 11), .ref (D 12), .ref (D 13), .ref (D 14), .int al, .int wa])) :: r) (fun v w => v = some (.int (-1 : Int32)) ∧ w = (m, .inr (8, [.int fi, .ref (D 0), .long as, .int (nI ns), .ref (D 1), .ref (D 2), .ref (D 3), .ref (D 4), .ref (D 5), .ref (D 6), .ref (D 7), .ref (D 8), .int ii, .long de, .int dl, .int dp, .int dc, .ref (D 9), .int (nI nr), .ref (D 10), .ref (D 11), .ref (D 12), .ref (D 13), .ref (D 14), .int al, .int wa])) :: r) := by
  refine Mt.of (by decide +kernel) rfl rfl (fun X B => ?_)
  show J G X mX8_rule ((m, .inr (8, [.int fi, .ref (D 0), .long as, .int (nI ns), .ref (D 1), .ref (D 2), .ref (D 3), .ref (D 4), .ref (D 5), .ref (D 6), .ref (D 7), .ref (D 8), .int ii, .long de, .int dl, .int dp, .int dc, .ref (D 9), .int (nI nr), .ref (D 10), .ref (D 11), .ref (D 12), .ref (D 13), .ref (D 14), .int al, .int wa])) :: r) 0 0 0 [(0, .ref m), (1, .int a), (2, .int lo), (3, .int hi), (4, .int c)] []
  refine J.iload_n 1 dX8_rule_0 rfl ?_
  refine J.iconst (0 : Int32) dX8_rule_1 rfl ?_
  refine J.iconst (3 : Int32) dX8_rule_2 rfl ?_
  refine J.callS (st := []) B (c_X8_in l G _ (v := a) (lo := (0 : Int32)) (hi := (3 : Int32)) (a := 0) (b := 3) rfl rfl) ml_X8_76 mf_yX8_in mS_yX8_in dX8_rule_3 rfl rfl rfl (fun v_1 w_2 hp_3 => ?_)
  obtain ⟨rfl, rfl⟩ := hp_3
  show J G X mX8_rule _ _ _ 6 _ [.int (b01 (inR a 0 3))]
  refine J.if_eq dX8_rule_6 (fun h9 => ?_) (fun h9 => ?_)
  · skip
    refine J.iconst (-1 : Int32) dX8_rule_25 rfl ?_
    exact J.iret B dX8_rule_26 rfl (⟨rfl, rfl⟩)
  · skip
    refine J.iload_n 2 dX8_rule_9 rfl ?_
    refine J.iload_n 3 dX8_rule_10 rfl ?_
    refine J.icmp_gt dX8_rule_11 (fun h8 => ?_) (fun h8 => ?_)
    · skip
      refine J.iconst (-1 : Int32) dX8_rule_25 rfl ?_
      exact J.iret B dX8_rule_26 rfl (⟨rfl, rfl⟩)
    · skip
      refine J.iload 4 dX8_rule_14 rfl ?_
      refine J.iconst (0 : Int32) dX8_rule_16 rfl ?_
      refine J.bipush (9 : Int32) dX8_rule_17 rfl ?_
      refine J.callS (st := []) B (c_X8_in l G _ (v := c) (lo := (0 : Int32)) (hi := (9 : Int32)) (a := 0) (b := 9) rfl rfl) ml_X8_76 mf_yX8_in mS_yX8_in dX8_rule_19 rfl rfl rfl (fun v_4 w_5 hp_6 => ?_)
      obtain ⟨rfl, rfl⟩ := hp_6
      show J G X mX8_rule _ _ _ 22 _ [.int (b01 (inR c 0 9))]
      refine J.if_ne dX8_rule_22 (fun h7 => ?_) (fun h7 => ?_)
      · skip
        exact absurd (by rw [b01_1 h9, b01_1 h7, decide_eq_true (Int32.not_lt.mp h8)]; rfl) (Bool.eq_false_iff.mp hf)
      · skip
        refine J.iconst (-1 : Int32) dX8_rule_25 rfl ?_
        exact J.iret B dX8_rule_26 rfl (⟨rfl, rfl⟩)
set_option maxHeartbeats 4000000 in
set_option maxRecDepth 100000 in
theorem r_rule_full (l : Launch) (G : jG) (r : va_W) {m : Nat} {D : Nat → Nat} {fi : Int32} {as : Int64} {ns : Nat} {ii : Int32} {de : Int64} {dl dp dc : Int32} {nr : Nat} {al wa : Int32} {a lo hi c : Int32} (hf : (inR a 0 3 && inR c 0 9 && decide (lo ≤ hi)) = true) (hn : nr = 10) : Mt l G yX8_rule mX8_rule 1 22 0 0 [.ref m, .int a, .int lo, .int hi, .int c] ((m, .inr (8, [.int fi, .ref (D 0), .long as, .int (nI ns), .ref (D 1), .ref (D 2), .ref (D 3), .ref (D 4), .ref (D 5), .ref (D 6), .ref (D 7), .ref (D 8), .int ii, .long de, .int dl, .int dp, .int dc, .ref (D 9), .int (nI nr), .ref (D 10), .ref (D 11), .ref (D 12), .ref (D 13), .ref (D 14), .int al, .int wa])) :: r) (fun v w => v = some (.int (-2 : Int32)) ∧ w = (m, .inr (8, [.int fi, .ref (D 0), .long as, .int (nI ns), .ref (D 1), .ref (D 2), .ref (D 3), .ref (D 4), .ref (D 5), .ref (D 6), .ref (D 7), .ref (D 8), .int ii, .long de, .int dl, .int dp, .int dc, .ref (D 9), .int (nI nr), .ref (D 10), .ref (D 11), .ref (D 12), .ref (D 13), .ref (D 14), .int al, .int wa])) :: r) := by
  refine Mt.of (by decide +kernel) rfl rfl (fun X B => ?_)
  show J G X mX8_rule ((m, .inr (8, [.int fi, .ref (D 0), .long as, .int (nI ns), .ref (D 1), .ref (D 2), .ref (D 3), .ref (D 4), .ref (D 5), .ref (D 6), .ref (D 7), .ref (D 8), .int ii, .long de, .int dl, .int dp, .int dc, .ref (D 9), .int (nI nr), .ref (D 10), .ref (D 11), .ref (D 12), .ref (D 13), .ref (D 14), .int al, .int wa])) :: r) 0 0 0 [(0, .ref m), (1, .int a), (2, .int lo), (3, .int hi), (4, .int c)] []
  simp only [Bool.and_eq_true] at hf
  obtain ⟨⟨g1, g2⟩, g3⟩ := hf
  have g3 := of_decide_eq_true g3
  refine J.iload_n 1 dX8_rule_0 rfl ?_
  refine J.iconst (0 : Int32) dX8_rule_1 rfl ?_
  refine J.iconst (3 : Int32) dX8_rule_2 rfl ?_
  refine J.callS (st := []) B (c_X8_in l G _ (v := a) (lo := (0 : Int32)) (hi := (3 : Int32)) (a := 0) (b := 3) rfl rfl) ml_X8_76 mf_yX8_in mS_yX8_in dX8_rule_3 rfl rfl rfl (fun v_1 w_2 hp_3 => ?_)
  obtain ⟨rfl, rfl⟩ := hp_3
  show J G X mX8_rule _ _ _ 6 _ [.int (b01 (inR a 0 3))]
  refine J.if_eq dX8_rule_6 (fun z => absurd z (by rw [g1]; decide)) (fun h9 => ?_)
  refine J.iload_n 2 dX8_rule_9 rfl ?_
  refine J.iload_n 3 dX8_rule_10 rfl ?_
  refine J.icmp_gt dX8_rule_11 (fun z => absurd z (Int32.not_lt.mpr g3)) (fun h8 => ?_)
  refine J.iload 4 dX8_rule_14 rfl ?_
  refine J.iconst (0 : Int32) dX8_rule_16 rfl ?_
  refine J.bipush (9 : Int32) dX8_rule_17 rfl ?_
  refine J.callS (st := []) B (c_X8_in l G _ (v := c) (lo := (0 : Int32)) (hi := (9 : Int32)) (a := 0) (b := 9) rfl rfl) ml_X8_76 mf_yX8_in mS_yX8_in dX8_rule_19 rfl rfl rfl (fun v_4 w_5 hp_6 => ?_)
  obtain ⟨rfl, rfl⟩ := hp_6
  show J G X mX8_rule _ _ _ 22 _ [.int (b01 (inR c 0 9))]
  refine J.if_ne dX8_rule_22 (fun h9 => ?_) (fun z => absurd z (by rw [g2]; decide))
  refine J.aload_n 0 dX8_rule_27 rfl ?_
  refine J.get 0 fl_X8_172 dX8_rule_28 rfl rfl ?_
  refine J.bipush (10 : Int32) dX8_rule_31 rfl ?_
  refine J.icmp_ne dX8_rule_33 (fun h4 => ?_) (fun h4 => ?_)
  · skip
    have h4 : ¬ nr = 10 := fun z => h4 ((nI_eq (a := nr) (b := 10) (by omega) (by omega)).mpr z)
    omega
  · skip
    have h4 : nr = 10 := (nI_eq (a := nr) (b := 10) (by omega) (by omega)).mp h4
    refine J.bipush (-2 : Int32) dX8_rule_36 rfl ?_
    exact J.iret B dX8_rule_38 rfl (⟨rfl, rfl⟩)
set_option maxHeartbeats 4000000 in
set_option maxRecDepth 100000 in
theorem r_rule (l : Launch) (G : jG) (r : va_W) {m : Nat} {D : Nat → Nat} {fi : Int32} {as : Int64} {ns : Nat} {ii : Int32} {de : Int64} {dl dp dc : Int32} {nr : Nat} {al wa : Int32} {wh rlo rhi rcl : Nat → Int32} {a lo hi c : Int32} (hf : (inR a 0 3 && inR c 0 9 && decide (lo ≤ hi)) = true) (hn : nr < 10) : Mt l G yX8_rule mX8_rule 1 22 0 0 [.ref m, .int a, .int lo, .int hi, .int c] ((m, .inr (8, [.int fi, .ref (D 0), .long as, .int (nI ns), .ref (D 1), .ref (D 2), .ref (D 3), .ref (D 4), .ref (D 5), .ref (D 6), .ref (D 7), .ref (D 8), .int ii, .long de, .int dl, .int dp, .int dc, .ref (D 9), .int (nI nr), .ref (D 10), .ref (D 11), .ref (D 12), .ref (D 13), .ref (D 14), .int al, .int wa])) :: (D 10, .inl (G.2.1.1, 10, .inl wh)) :: (D 11, .inl (G.2.1.1, 10, .inl rlo)) :: (D 12, .inl (G.2.1.1, 10, .inl rhi)) :: (D 13, .inl (G.2.1.1, 10, .inl rcl)) :: r) (fun v w => v = some (.int (nI nr)) ∧ w = (m, .inr (8, [.int fi, .ref (D 0), .long as, .int (nI ns), .ref (D 1), .ref (D 2), .ref (D 3), .ref (D 4), .ref (D 5), .ref (D 6), .ref (D 7), .ref (D 8), .int ii, .long de, .int dl, .int dp, .int dc, .ref (D 9), .int (nI (nr + 1)), .ref (D 10), .ref (D 11), .ref (D 12), .ref (D 13), .ref (D 14), .int al, .int wa])) :: (D 10, .inl (G.2.1.1, 10, .inl (upd wh nr a))) :: (D 11, .inl (G.2.1.1, 10, .inl (upd rlo nr lo))) :: (D 12, .inl (G.2.1.1, 10, .inl (upd rhi nr hi))) :: (D 13, .inl (G.2.1.1, 10, .inl (upd rcl nr c))) :: r) := by
  refine Mt.of (by decide +kernel) rfl rfl (fun X B => ?_)
  show J G X mX8_rule ((m, .inr (8, [.int fi, .ref (D 0), .long as, .int (nI ns), .ref (D 1), .ref (D 2), .ref (D 3), .ref (D 4), .ref (D 5), .ref (D 6), .ref (D 7), .ref (D 8), .int ii, .long de, .int dl, .int dp, .int dc, .ref (D 9), .int (nI nr), .ref (D 10), .ref (D 11), .ref (D 12), .ref (D 13), .ref (D 14), .int al, .int wa])) :: (D 10, .inl (G.2.1.1, 10, .inl wh)) :: (D 11, .inl (G.2.1.1, 10, .inl rlo)) :: (D 12, .inl (G.2.1.1, 10, .inl rhi)) :: (D 13, .inl (G.2.1.1, 10, .inl rcl)) :: r) 0 0 0 [(0, .ref m), (1, .int a), (2, .int lo), (3, .int hi), (4, .int c)] []
  simp only [Bool.and_eq_true] at hf
  obtain ⟨⟨g1, g2⟩, g3⟩ := hf
  have g3 := of_decide_eq_true g3
  refine J.iload_n 1 dX8_rule_0 rfl ?_
  refine J.iconst (0 : Int32) dX8_rule_1 rfl ?_
  refine J.iconst (3 : Int32) dX8_rule_2 rfl ?_
  refine J.callS (st := []) B (c_X8_in l G _ (v := a) (lo := (0 : Int32)) (hi := (3 : Int32)) (a := 0) (b := 3) rfl rfl) ml_X8_76 mf_yX8_in mS_yX8_in dX8_rule_3 rfl rfl rfl (fun v_1 w_2 hp_3 => ?_)
  obtain ⟨rfl, rfl⟩ := hp_3
  show J G X mX8_rule _ _ _ 6 _ [.int (b01 (inR a 0 3))]
  refine J.if_eq dX8_rule_6 (fun z => absurd z (by rw [g1]; decide)) (fun h9 => ?_)
  refine J.iload_n 2 dX8_rule_9 rfl ?_
  refine J.iload_n 3 dX8_rule_10 rfl ?_
  refine J.icmp_gt dX8_rule_11 (fun z => absurd z (Int32.not_lt.mpr g3)) (fun h8 => ?_)
  refine J.iload 4 dX8_rule_14 rfl ?_
  refine J.iconst (0 : Int32) dX8_rule_16 rfl ?_
  refine J.bipush (9 : Int32) dX8_rule_17 rfl ?_
  refine J.callS (st := []) B (c_X8_in l G _ (v := c) (lo := (0 : Int32)) (hi := (9 : Int32)) (a := 0) (b := 9) rfl rfl) ml_X8_76 mf_yX8_in mS_yX8_in dX8_rule_19 rfl rfl rfl (fun v_4 w_5 hp_6 => ?_)
  obtain ⟨rfl, rfl⟩ := hp_6
  show J G X mX8_rule _ _ _ 22 _ [.int (b01 (inR c 0 9))]
  refine J.if_ne dX8_rule_22 (fun h9 => ?_) (fun z => absurd z (by rw [g2]; decide))
  refine J.aload_n 0 dX8_rule_27 rfl ?_
  refine J.get 0 fl_X8_172 dX8_rule_28 rfl rfl ?_
  refine J.bipush (10 : Int32) dX8_rule_31 rfl ?_
  refine J.icmp_ne dX8_rule_33 (fun h4 => ?_) (fun h4 => ?_)
  · skip
    have h4 : ¬ nr = 10 := fun z => h4 ((nI_eq (a := nr) (b := 10) (by omega) (by omega)).mpr z)
    refine J.aload_n 0 dX8_rule_39 rfl ?_
    refine J.get 0 fl_X8_51 dX8_rule_40 rfl rfl ?_
    refine J.aload_n 0 dX8_rule_43 rfl ?_
    refine J.get 0 fl_X8_172 dX8_rule_44 rfl rfl ?_
    refine J.iload_n 1 dX8_rule_47 rfl ?_
    refine J.iast 1 (nr) dX8_rule_48 rfl (rfl) (by omega) (by decide) (ws' := (m, .inr (8, [.int fi, .ref (D 0), .long as, .int (nI ns), .ref (D 1), .ref (D 2), .ref (D 3), .ref (D 4), .ref (D 5), .ref (D 6), .ref (D 7), .ref (D 8), .int ii, .long de, .int dl, .int dp, .int dc, .ref (D 9), .int (nI nr), .ref (D 10), .ref (D 11), .ref (D 12), .ref (D 13), .ref (D 14), .int al, .int wa])) :: (D 10, .inl (G.2.1.1, 10, .inl (upd wh nr a))) :: (D 11, .inl (G.2.1.1, 10, .inl rlo)) :: (D 12, .inl (G.2.1.1, 10, .inl rhi)) :: (D 13, .inl (G.2.1.1, 10, .inl rcl)) :: r) rfl ?_
    refine J.aload_n 0 dX8_rule_49 rfl ?_
    refine J.get 0 fl_X8_54 dX8_rule_50 rfl rfl ?_
    refine J.aload_n 0 dX8_rule_53 rfl ?_
    refine J.get 0 fl_X8_172 dX8_rule_54 rfl rfl ?_
    refine J.iload_n 2 dX8_rule_57 rfl ?_
    refine J.iast 2 (nr) dX8_rule_58 rfl (rfl) (by omega) (by decide) (ws' := (m, .inr (8, [.int fi, .ref (D 0), .long as, .int (nI ns), .ref (D 1), .ref (D 2), .ref (D 3), .ref (D 4), .ref (D 5), .ref (D 6), .ref (D 7), .ref (D 8), .int ii, .long de, .int dl, .int dp, .int dc, .ref (D 9), .int (nI nr), .ref (D 10), .ref (D 11), .ref (D 12), .ref (D 13), .ref (D 14), .int al, .int wa])) :: (D 10, .inl (G.2.1.1, 10, .inl (upd wh nr a))) :: (D 11, .inl (G.2.1.1, 10, .inl (upd rlo nr lo))) :: (D 12, .inl (G.2.1.1, 10, .inl rhi)) :: (D 13, .inl (G.2.1.1, 10, .inl rcl)) :: r) rfl ?_
    refine J.aload_n 0 dX8_rule_59 rfl ?_
    refine J.get 0 fl_X8_57 dX8_rule_60 rfl rfl ?_
    refine J.aload_n 0 dX8_rule_63 rfl ?_
    refine J.get 0 fl_X8_172 dX8_rule_64 rfl rfl ?_
    refine J.iload_n 3 dX8_rule_67 rfl ?_
    refine J.iast 3 (nr) dX8_rule_68 rfl (rfl) (by omega) (by decide) (ws' := (m, .inr (8, [.int fi, .ref (D 0), .long as, .int (nI ns), .ref (D 1), .ref (D 2), .ref (D 3), .ref (D 4), .ref (D 5), .ref (D 6), .ref (D 7), .ref (D 8), .int ii, .long de, .int dl, .int dp, .int dc, .ref (D 9), .int (nI nr), .ref (D 10), .ref (D 11), .ref (D 12), .ref (D 13), .ref (D 14), .int al, .int wa])) :: (D 10, .inl (G.2.1.1, 10, .inl (upd wh nr a))) :: (D 11, .inl (G.2.1.1, 10, .inl (upd rlo nr lo))) :: (D 12, .inl (G.2.1.1, 10, .inl (upd rhi nr hi))) :: (D 13, .inl (G.2.1.1, 10, .inl rcl)) :: r) rfl ?_
    refine J.aload_n 0 dX8_rule_69 rfl ?_
    refine J.get 0 fl_X8_60 dX8_rule_70 rfl rfl ?_
    refine J.aload_n 0 dX8_rule_73 rfl ?_
    refine J.get 0 fl_X8_172 dX8_rule_74 rfl rfl ?_
    refine J.iload 4 dX8_rule_77 rfl ?_
    refine J.iast 4 (nr) dX8_rule_79 rfl (rfl) (by omega) (by decide) (ws' := (m, .inr (8, [.int fi, .ref (D 0), .long as, .int (nI ns), .ref (D 1), .ref (D 2), .ref (D 3), .ref (D 4), .ref (D 5), .ref (D 6), .ref (D 7), .ref (D 8), .int ii, .long de, .int dl, .int dp, .int dc, .ref (D 9), .int (nI nr), .ref (D 10), .ref (D 11), .ref (D 12), .ref (D 13), .ref (D 14), .int al, .int wa])) :: (D 10, .inl (G.2.1.1, 10, .inl (upd wh nr a))) :: (D 11, .inl (G.2.1.1, 10, .inl (upd rlo nr lo))) :: (D 12, .inl (G.2.1.1, 10, .inl (upd rhi nr hi))) :: (D 13, .inl (G.2.1.1, 10, .inl (upd rcl nr c))) :: r) rfl ?_
    refine J.aload_n 0 dX8_rule_80 rfl ?_
    refine J.dup dX8_rule_81 rfl ?_
    refine J.get 0 fl_X8_172 dX8_rule_82 rfl rfl ?_
    refine J.iconst (1 : Int32) dX8_rule_85 rfl ?_
    refine J.iadd dX8_rule_86 ?_
    refine J.topi (y := nI (nr + 1)) (nI_add nr 1) ?_
    refine J.put 0 fp_X8_172 dX8_rule_87 rfl (rfl) (rfl) rfl (ws' := (m, .inr (8, [.int fi, .ref (D 0), .long as, .int (nI ns), .ref (D 1), .ref (D 2), .ref (D 3), .ref (D 4), .ref (D 5), .ref (D 6), .ref (D 7), .ref (D 8), .int ii, .long de, .int dl, .int dp, .int dc, .ref (D 9), .int (nI (nr + 1)), .ref (D 10), .ref (D 11), .ref (D 12), .ref (D 13), .ref (D 14), .int al, .int wa])) :: (D 10, .inl (G.2.1.1, 10, .inl (upd wh nr a))) :: (D 11, .inl (G.2.1.1, 10, .inl (upd rlo nr lo))) :: (D 12, .inl (G.2.1.1, 10, .inl (upd rhi nr hi))) :: (D 13, .inl (G.2.1.1, 10, .inl (upd rcl nr c))) :: r) rfl ?_
    refine J.aload_n 0 dX8_rule_90 rfl ?_
    refine J.get 0 fl_X8_172 dX8_rule_91 rfl rfl ?_
    refine J.iconst (1 : Int32) dX8_rule_94 rfl ?_
    refine J.isub dX8_rule_95 ?_
    refine J.topi (y := nI nr) (pk_sub (a := nr + 1) (b := 1) (by omega)) ?_
    exact J.iret B dX8_rule_96 rfl (⟨rfl, rfl⟩)
  · skip
    have h4 : nr = 10 := (nI_eq (a := nr) (b := 10) (by omega) (by omega)).mp h4
    omega
set_option maxHeartbeats 4000000 in
set_option maxRecDepth 100000 in
theorem r_classOf_bad (l : Launch) (G : jG) (r : va_W) {m : Nat} {D : Nat → Nat} {fi : Int32} {as : Int64} {ns : Nat} {ii : Int32} {de : Int64} {dl dp dc : Int32} {nr : Nat} {al wa : Int32} {rr : Nat → Int32} {num : Int32} (hns : ns ≤ 12) (hnum : inR num 0 ((ns : Int) - 1) = false) : Mt l G yX8_classOf mX8_classOf 5 118 0 0 [.ref m, .int num] ((m, .inr (8, [.int fi, .ref (D 0), .long as, .int (nI ns), .ref (D 1), .ref (D 2), .ref (D 3), .ref (D 4), .ref (D 5), .ref (D 6), .ref (D 7), .ref (D 8), .int ii, .long de, .int dl, .int dp, .int dc, .ref (D 9), .int (nI nr), .ref (D 10), .ref (D 11), .ref (D 12), .ref (D 13), .ref (D 14), .int al, .int wa])) :: (D 2, .inl (G.2.1.2.1, 12, .inl rr)) :: r) (fun v w => v = some (.int (-1 : Int32)) ∧ w = (m, .inr (8, [.int fi, .ref (D 0), .long as, .int (nI ns), .ref (D 1), .ref (D 2), .ref (D 3), .ref (D 4), .ref (D 5), .ref (D 6), .ref (D 7), .ref (D 8), .int ii, .long de, .int dl, .int dp, .int dc, .ref (D 9), .int (nI nr), .ref (D 10), .ref (D 11), .ref (D 12), .ref (D 13), .ref (D 14), .int al, .int wa])) :: (D 2, .inl (G.2.1.2.1, 12, .inl rr)) :: r) := by
  refine Mt.of (by decide +kernel) rfl rfl (fun X B => ?_)
  show J G X mX8_classOf ((m, .inr (8, [.int fi, .ref (D 0), .long as, .int (nI ns), .ref (D 1), .ref (D 2), .ref (D 3), .ref (D 4), .ref (D 5), .ref (D 6), .ref (D 7), .ref (D 8), .int ii, .long de, .int dl, .int dp, .int dc, .ref (D 9), .int (nI nr), .ref (D 10), .ref (D 11), .ref (D 12), .ref (D 13), .ref (D 14), .int al, .int wa])) :: (D 2, .inl (G.2.1.2.1, 12, .inl rr)) :: r) 0 0 0 [(0, .ref m), (1, .int num)] []
  refine J.aload_n 0 dX8_classOf_0 rfl ?_
  refine J.iload_n 1 dX8_classOf_1 rfl ?_
  refine J.callV 0 (st := []) B (c_X8_looked_bad l G _ hns hnum) ml_X8_108 mf_yX8_looked mi_yX8_looked rfl dX8_classOf_2 rfl rfl rfl rfl (fun v_1 w_2 hp_3 => ?_)
  obtain ⟨rfl, rfl⟩ := hp_3
  show J G X mX8_classOf _ _ _ 5 _ [.int (-1 : Int32)]
  refine J.istore_n [1, 2, 0] (lv' := [(0, .ref m), (1, .int num), (2, .int (-1 : Int32))]) dX8_classOf_5 rfl rfl ?_
  refine J.iload_n 2 dX8_classOf_6 rfl ?_
  refine J.if_ge dX8_classOf_7 (fun z => absurd z (by decide)) (fun _ => ?_)
  refine J.iload_n 2 dX8_classOf_10 rfl ?_
  refine J.goto dX8_classOf_11 ?_
  exact J.iret B dX8_classOf_35 rfl (⟨rfl, rfl⟩)
set_option maxHeartbeats 4000000 in
set_option maxRecDepth 100000 in
theorem r_classOf_no (l : Launch) (G : jG) (r : va_W) {m : Nat} {D : Nat → Nat} {fi : Int32} {as : Int64} {ns : Nat} {ii : Int32} {de : Int64} {dl dp dc : Int32} {nr : Nat} {al wa : Int32} {rr : Nat → Int32} {s : Nat} (hk : s < ns) (hns : ns ≤ 12) {fc : Nat → Int32} (hr : rr s = 0) : Mt l G yX8_classOf mX8_classOf 5 118 0 0 [.ref m, .int (nI s)] ((m, .inr (8, [.int fi, .ref (D 0), .long as, .int (nI ns), .ref (D 1), .ref (D 2), .ref (D 3), .ref (D 4), .ref (D 5), .ref (D 6), .ref (D 7), .ref (D 8), .int ii, .long de, .int dl, .int dp, .int dc, .ref (D 9), .int (nI nr), .ref (D 10), .ref (D 11), .ref (D 12), .ref (D 13), .ref (D 14), .int al, .int wa])) :: (D 2, .inl (G.2.1.2.1, 12, .inl rr)) :: (D 0, .inl (G.2.1.1, 6, .inl fc)) :: r) (fun v w => v = some (.int (-3 : Int32)) ∧ w = (m, .inr (8, [.int (nI 1), .ref (D 0), .long as, .int (nI ns), .ref (D 1), .ref (D 2), .ref (D 3), .ref (D 4), .ref (D 5), .ref (D 6), .ref (D 7), .ref (D 8), .int ii, .long de, .int dl, .int dp, .int dc, .ref (D 9), .int (nI nr), .ref (D 10), .ref (D 11), .ref (D 12), .ref (D 13), .ref (D 14), .int al, .int wa])) :: (D 2, .inl (G.2.1.2.1, 12, .inl rr)) :: (D 0, .inl (G.2.1.1, 6, .inl (upd fc 1 (fc 1 + 1)))) :: r) := by
  refine Mt.of (by decide +kernel) rfl rfl (fun X B => ?_)
  show J G X mX8_classOf ((m, .inr (8, [.int fi, .ref (D 0), .long as, .int (nI ns), .ref (D 1), .ref (D 2), .ref (D 3), .ref (D 4), .ref (D 5), .ref (D 6), .ref (D 7), .ref (D 8), .int ii, .long de, .int dl, .int dp, .int dc, .ref (D 9), .int (nI nr), .ref (D 10), .ref (D 11), .ref (D 12), .ref (D 13), .ref (D 14), .int al, .int wa])) :: (D 2, .inl (G.2.1.2.1, 12, .inl rr)) :: (D 0, .inl (G.2.1.1, 6, .inl fc)) :: r) 0 0 0 [(0, .ref m), (1, .int (nI s))] []
  refine J.aload_n 0 dX8_classOf_0 rfl ?_
  refine J.iload_n 1 dX8_classOf_1 rfl ?_
  refine J.callV 0 (st := []) B (c_X8_looked_no l G _ (k := s) hk hns hr) ml_X8_108 mf_yX8_looked mi_yX8_looked rfl dX8_classOf_2 rfl rfl rfl rfl (fun v_1 w_2 hp_3 => ?_)
  obtain ⟨rfl, rfl⟩ := hp_3
  show J G X mX8_classOf _ _ _ 5 _ [.int (-3 : Int32)]
  refine J.istore_n [1, 2, 0] (lv' := [(0, .ref m), (1, .int (nI s)), (2, .int (-3 : Int32))]) dX8_classOf_5 rfl rfl ?_
  refine J.iload_n 2 dX8_classOf_6 rfl ?_
  refine J.if_ge dX8_classOf_7 (fun z => absurd z (by decide)) (fun _ => ?_)
  refine J.iload_n 2 dX8_classOf_10 rfl ?_
  refine J.goto dX8_classOf_11 ?_
  exact J.iret B dX8_classOf_35 rfl (⟨rfl, rfl⟩)
set_option maxHeartbeats 4000000 in
set_option maxRecDepth 100000 in
theorem r_classOf_nought (l : Launch) (G : jG) (r : va_W) {m : Nat} {D : Nat → Nat} {fi : Int32} {as : Int64} {ns : Nat} {ii : Int32} {de : Int64} {dl dp dc : Int32} {nr : Nat} {al wa : Int32} {rr : Nat → Int32} {s : Nat} (hk : s < ns) (hns : ns ≤ 12) {fc : Nat → Int32} {ml : Nat → Int32} (hr : ¬ rr s = 0) (h0 : nN (rowM ml s) = 0) : Mt l G yX8_classOf mX8_classOf 5 118 0 0 [.ref m, .int (nI s)] ((m, .inr (8, [.int fi, .ref (D 0), .long as, .int (nI ns), .ref (D 1), .ref (D 2), .ref (D 3), .ref (D 4), .ref (D 5), .ref (D 6), .ref (D 7), .ref (D 8), .int ii, .long de, .int dl, .int dp, .int dc, .ref (D 9), .int (nI nr), .ref (D 10), .ref (D 11), .ref (D 12), .ref (D 13), .ref (D 14), .int al, .int wa])) :: (D 2, .inl (G.2.1.2.1, 12, .inl rr)) :: (D 3, .inl (G.2.1.1, 720, .inl ml)) :: (D 0, .inl (G.2.1.1, 6, .inl fc)) :: r) (fun v w => v = some (.int (-3 : Int32)) ∧ w = (m, .inr (8, [.int (nI 4), .ref (D 0), .long as, .int (nI ns), .ref (D 1), .ref (D 2), .ref (D 3), .ref (D 4), .ref (D 5), .ref (D 6), .ref (D 7), .ref (D 8), .int ii, .long de, .int dl, .int dp, .int dc, .ref (D 9), .int (nI nr), .ref (D 10), .ref (D 11), .ref (D 12), .ref (D 13), .ref (D 14), .int al, .int wa])) :: (D 2, .inl (G.2.1.2.1, 12, .inl rr)) :: (D 3, .inl (G.2.1.1, 720, .inl ml)) :: (D 0, .inl (G.2.1.1, 6, .inl (upd fc 4 (fc 4 + 1)))) :: r) := by
  refine Mt.of (by decide +kernel) rfl rfl (fun X B => ?_)
  show J G X mX8_classOf ((m, .inr (8, [.int fi, .ref (D 0), .long as, .int (nI ns), .ref (D 1), .ref (D 2), .ref (D 3), .ref (D 4), .ref (D 5), .ref (D 6), .ref (D 7), .ref (D 8), .int ii, .long de, .int dl, .int dp, .int dc, .ref (D 9), .int (nI nr), .ref (D 10), .ref (D 11), .ref (D 12), .ref (D 13), .ref (D 14), .int al, .int wa])) :: (D 2, .inl (G.2.1.2.1, 12, .inl rr)) :: (D 3, .inl (G.2.1.1, 720, .inl ml)) :: (D 0, .inl (G.2.1.1, 6, .inl fc)) :: r) 0 0 0 [(0, .ref m), (1, .int (nI s))] []
  have hs : s < 12 := by omega
  refine J.aload_n 0 dX8_classOf_0 rfl ?_
  refine J.iload_n 1 dX8_classOf_1 rfl ?_
  refine J.callV 0 (st := []) B (c_X8_looked l G _ (k := s) hk hns hr) ml_X8_108 mf_yX8_looked mi_yX8_looked rfl dX8_classOf_2 rfl rfl rfl rfl (fun v_1 w_2 hp_3 => ?_)
  obtain ⟨rfl, rfl⟩ := hp_3
  show J G X mX8_classOf _ _ _ 5 _ [.int (0 : Int32)]
  refine J.istore_n [1, 2, 0] (lv' := [(0, .ref m), (1, .int (nI s)), (2, .int (0 : Int32))]) dX8_classOf_5 rfl rfl ?_
  refine J.iload_n 2 dX8_classOf_6 rfl ?_
  refine J.if_ge dX8_classOf_7 (fun _ => ?_) (fun z => absurd z (by decide))
  refine J.aload_n 0 dX8_classOf_14 rfl ?_
  refine J.iload_n 1 dX8_classOf_15 rfl ?_
  refine J.re [0, 2, 1, 3] 4 (ws2 := (m, .inr (8, [.int fi, .ref (D 0), .long as, .int (nI ns), .ref (D 1), .ref (D 2), .ref (D 3), .ref (D 4), .ref (D 5), .ref (D 6), .ref (D 7), .ref (D 8), .int ii, .long de, .int dl, .int dp, .int dc, .ref (D 9), .int (nI nr), .ref (D 10), .ref (D 11), .ref (D 12), .ref (D 13), .ref (D 14), .int al, .int wa])) :: (D 3, .inl (G.2.1.1, 720, .inl ml)) :: (D 2, .inl (G.2.1.2.1, 12, .inl rr)) :: (D 0, .inl (G.2.1.1, 6, .inl fc)) :: r) rfl rfl ?_
  refine J.callV 0 (st := []) B (c_X8_many l G _ (s := s) hs) ml_X8_99 mf_yX8_many mi_yX8_many rfl dX8_classOf_16 rfl rfl rfl rfl (fun v_4 w_5 hp_6 => ?_)
  obtain ⟨rfl, rfl⟩ := hp_6
  refine J.re [0, 2, 1, 3] 4 (ws2 := (m, .inr (8, [.int fi, .ref (D 0), .long as, .int (nI ns), .ref (D 1), .ref (D 2), .ref (D 3), .ref (D 4), .ref (D 5), .ref (D 6), .ref (D 7), .ref (D 8), .int ii, .long de, .int dl, .int dp, .int dc, .ref (D 9), .int (nI nr), .ref (D 10), .ref (D 11), .ref (D 12), .ref (D 13), .ref (D 14), .int al, .int wa])) :: (D 2, .inl (G.2.1.2.1, 12, .inl rr)) :: (D 3, .inl (G.2.1.1, 720, .inl ml)) :: (D 0, .inl (G.2.1.1, 6, .inl fc)) :: r) rfl rfl ?_
  show J G X mX8_classOf _ _ _ 19 _ [.int (nI (nN (rowM ml s)))]
  refine J.if_ne dX8_classOf_19 (fun z => absurd (by rw [h0]; rfl) z) (fun h9 => ?_)
  refine J.aload_n 0 dX8_classOf_22 rfl ?_
  refine J.iconst (4 : Int32) dX8_classOf_23 rfl ?_
  refine J.re [0, 3, 1, 2] 4 (ws2 := (m, .inr (8, [.int fi, .ref (D 0), .long as, .int (nI ns), .ref (D 1), .ref (D 2), .ref (D 3), .ref (D 4), .ref (D 5), .ref (D 6), .ref (D 7), .ref (D 8), .int ii, .long de, .int dl, .int dp, .int dc, .ref (D 9), .int (nI nr), .ref (D 10), .ref (D 11), .ref (D 12), .ref (D 13), .ref (D 14), .int al, .int wa])) :: (D 0, .inl (G.2.1.1, 6, .inl fc)) :: (D 2, .inl (G.2.1.2.1, 12, .inl rr)) :: (D 3, .inl (G.2.1.1, 720, .inl ml)) :: r) rfl rfl ?_
  refine J.callV 0 (st := []) B (c_X8_meets l G _ (c := 4) (by decide)) ml_X8_95 mf_yX8_meets mi_yX8_meets rfl dX8_classOf_24 rfl rfl rfl rfl (fun v_7 w_8 hp_9 => ?_)
  obtain ⟨rfl, rfl⟩ := hp_9
  refine J.re [0, 2, 3, 1] 4 (ws2 := (m, .inr (8, [.int (nI 4), .ref (D 0), .long as, .int (nI ns), .ref (D 1), .ref (D 2), .ref (D 3), .ref (D 4), .ref (D 5), .ref (D 6), .ref (D 7), .ref (D 8), .int ii, .long de, .int dl, .int dp, .int dc, .ref (D 9), .int (nI nr), .ref (D 10), .ref (D 11), .ref (D 12), .ref (D 13), .ref (D 14), .int al, .int wa])) :: (D 2, .inl (G.2.1.2.1, 12, .inl rr)) :: (D 3, .inl (G.2.1.1, 720, .inl ml)) :: (D 0, .inl (G.2.1.1, 6, .inl (upd fc 4 (fc 4 + 1)))) :: r) rfl rfl ?_
  show J G X mX8_classOf _ _ _ 27 _ [.int (-3 : Int32)]
  refine J.goto dX8_classOf_27 ?_
  exact J.iret B dX8_classOf_35 rfl (⟨rfl, rfl⟩)
set_option maxHeartbeats 4000000 in
set_option maxRecDepth 100000 in
theorem r_classOf (l : Launch) (G : jG) (r : va_W) {m : Nat} {D : Nat → Nat} {fi : Int32} {as : Int64} {ns : Nat} {ii : Int32} {de : Int64} {dl dp dc : Int32} {nr : Nat} {al wa : Int32} {rr : Nat → Int32} {s : Nat} (hk : s < ns) (hns : ns ≤ 12) {ml F : Nat → Int32} {so lti : Nat → Int32} {wh rlo rhi rcl : Nat → Int32} {RL : List rR} (hlen : RL.length = nr) (hnr : nr ≤ 10) (hR : RLok RL wh rlo rhi rcl) (hr : ¬ rr s = 0) (h0 : 0 < nN (rowM ml s)) : Mt l G yX8_classOf mX8_classOf 5 118 0 0 [.ref m, .int (nI s)] ((m, .inr (8, [.int fi, .ref (D 0), .long as, .int (nI ns), .ref (D 1), .ref (D 2), .ref (D 3), .ref (D 4), .ref (D 5), .ref (D 6), .ref (D 7), .ref (D 8), .int ii, .long de, .int dl, .int dp, .int dc, .ref (D 9), .int (nI nr), .ref (D 10), .ref (D 11), .ref (D 12), .ref (D 13), .ref (D 14), .int al, .int wa])) :: (D 2, .inl (G.2.1.2.1, 12, .inl rr)) :: (D 3, .inl (G.2.1.1, 720, .inl ml)) :: (D 4, .inl (G.2.1.1, 60, .inl F)) :: (D 6, .inl (G.2.1.1, 60, .inl so)) :: (D 9, .inl (G.2.1.1, 60, .inl lti)) :: (D 10, .inl (G.2.1.1, 10, .inl wh)) :: (D 11, .inl (G.2.1.1, 10, .inl rlo)) :: (D 12, .inl (G.2.1.1, 10, .inl rhi)) :: (D 13, .inl (G.2.1.1, 10, .inl rcl)) :: r) (fun v w => ∃ so1 lt1, v = some (.int (clsR (msV (rowM ml s) F) RL)) ∧ w = (m, .inr (8, [.int fi, .ref (D 0), .long as, .int (nI ns), .ref (D 1), .ref (D 2), .ref (D 3), .ref (D 4), .ref (D 5), .ref (D 6), .ref (D 7), .ref (D 8), .int ii, .long de, .int dl, .int dp, .int dc, .ref (D 9), .int (nI nr), .ref (D 10), .ref (D 11), .ref (D 12), .ref (D 13), .ref (D 14), .int al, .int wa])) :: (D 2, .inl (G.2.1.2.1, 12, .inl rr)) :: (D 3, .inl (G.2.1.1, 720, .inl ml)) :: (D 4, .inl (G.2.1.1, 60, .inl F)) :: (D 6, .inl (G.2.1.1, 60, .inl so1)) :: (D 9, .inl (G.2.1.1, 60, .inl lt1)) :: (D 10, .inl (G.2.1.1, 10, .inl wh)) :: (D 11, .inl (G.2.1.1, 10, .inl rlo)) :: (D 12, .inl (G.2.1.1, 10, .inl rhi)) :: (D 13, .inl (G.2.1.1, 10, .inl rcl)) :: r) := by
  refine Mt.of (by decide +kernel) rfl rfl (fun X B => ?_)
  show J G X mX8_classOf ((m, .inr (8, [.int fi, .ref (D 0), .long as, .int (nI ns), .ref (D 1), .ref (D 2), .ref (D 3), .ref (D 4), .ref (D 5), .ref (D 6), .ref (D 7), .ref (D 8), .int ii, .long de, .int dl, .int dp, .int dc, .ref (D 9), .int (nI nr), .ref (D 10), .ref (D 11), .ref (D 12), .ref (D 13), .ref (D 14), .int al, .int wa])) :: (D 2, .inl (G.2.1.2.1, 12, .inl rr)) :: (D 3, .inl (G.2.1.1, 720, .inl ml)) :: (D 4, .inl (G.2.1.1, 60, .inl F)) :: (D 6, .inl (G.2.1.1, 60, .inl so)) :: (D 9, .inl (G.2.1.1, 60, .inl lti)) :: (D 10, .inl (G.2.1.1, 10, .inl wh)) :: (D 11, .inl (G.2.1.1, 10, .inl rlo)) :: (D 12, .inl (G.2.1.1, 10, .inl rhi)) :: (D 13, .inl (G.2.1.1, 10, .inl rcl)) :: r) 0 0 0 [(0, .ref m), (1, .int (nI s))] []
  have hs : s < 12 := by omega
  have hn := nN_le (rowM ml s)
  refine J.aload_n 0 dX8_classOf_0 rfl ?_
  refine J.iload_n 1 dX8_classOf_1 rfl ?_
  refine J.callV 0 (st := []) B (c_X8_looked l G _ (k := s) hk hns hr) ml_X8_108 mf_yX8_looked mi_yX8_looked rfl dX8_classOf_2 rfl rfl rfl rfl (fun v_1 w_2 hp_3 => ?_)
  obtain ⟨rfl, rfl⟩ := hp_3
  show J G X mX8_classOf _ _ _ 5 _ [.int (0 : Int32)]
  refine J.istore_n [1, 2, 0] (lv' := [(0, .ref m), (1, .int (nI s)), (2, .int (0 : Int32))]) dX8_classOf_5 rfl rfl ?_
  refine J.iload_n 2 dX8_classOf_6 rfl ?_
  refine J.if_ge dX8_classOf_7 (fun _ => ?_) (fun z => absurd z (by decide))
  refine J.aload_n 0 dX8_classOf_14 rfl ?_
  refine J.iload_n 1 dX8_classOf_15 rfl ?_
  refine J.re [0, 2, 1, 3, 4, 5, 6, 7, 8, 9] 10 (ws2 := (m, .inr (8, [.int fi, .ref (D 0), .long as, .int (nI ns), .ref (D 1), .ref (D 2), .ref (D 3), .ref (D 4), .ref (D 5), .ref (D 6), .ref (D 7), .ref (D 8), .int ii, .long de, .int dl, .int dp, .int dc, .ref (D 9), .int (nI nr), .ref (D 10), .ref (D 11), .ref (D 12), .ref (D 13), .ref (D 14), .int al, .int wa])) :: (D 3, .inl (G.2.1.1, 720, .inl ml)) :: (D 2, .inl (G.2.1.2.1, 12, .inl rr)) :: (D 4, .inl (G.2.1.1, 60, .inl F)) :: (D 6, .inl (G.2.1.1, 60, .inl so)) :: (D 9, .inl (G.2.1.1, 60, .inl lti)) :: (D 10, .inl (G.2.1.1, 10, .inl wh)) :: (D 11, .inl (G.2.1.1, 10, .inl rlo)) :: (D 12, .inl (G.2.1.1, 10, .inl rhi)) :: (D 13, .inl (G.2.1.1, 10, .inl rcl)) :: r) rfl rfl ?_
  refine J.callV 0 (st := []) B (c_X8_many l G _ (s := s) hs) ml_X8_99 mf_yX8_many mi_yX8_many rfl dX8_classOf_16 rfl rfl rfl rfl (fun v_4 w_5 hp_6 => ?_)
  obtain ⟨rfl, rfl⟩ := hp_6
  refine J.re [0, 2, 1, 3, 4, 5, 6, 7, 8, 9] 10 (ws2 := (m, .inr (8, [.int fi, .ref (D 0), .long as, .int (nI ns), .ref (D 1), .ref (D 2), .ref (D 3), .ref (D 4), .ref (D 5), .ref (D 6), .ref (D 7), .ref (D 8), .int ii, .long de, .int dl, .int dp, .int dc, .ref (D 9), .int (nI nr), .ref (D 10), .ref (D 11), .ref (D 12), .ref (D 13), .ref (D 14), .int al, .int wa])) :: (D 2, .inl (G.2.1.2.1, 12, .inl rr)) :: (D 3, .inl (G.2.1.1, 720, .inl ml)) :: (D 4, .inl (G.2.1.1, 60, .inl F)) :: (D 6, .inl (G.2.1.1, 60, .inl so)) :: (D 9, .inl (G.2.1.1, 60, .inl lti)) :: (D 10, .inl (G.2.1.1, 10, .inl wh)) :: (D 11, .inl (G.2.1.1, 10, .inl rlo)) :: (D 12, .inl (G.2.1.1, 10, .inl rhi)) :: (D 13, .inl (G.2.1.1, 10, .inl rcl)) :: r) rfl rfl ?_
  show J G X mX8_classOf _ _ _ 19 _ [.int (nI (nN (rowM ml s)))]
  refine J.if_ne dX8_classOf_19 (fun h9 => ?_) (fun z => absurd z (nI_ne0 h0 (by omega)))
  refine J.aload_n 0 dX8_classOf_30 rfl ?_
  refine J.iload_n 1 dX8_classOf_31 rfl ?_
  refine J.re [0, 2, 3, 4, 5, 6, 7, 8, 9, 1] 10 (ws2 := (m, .inr (8, [.int fi, .ref (D 0), .long as, .int (nI ns), .ref (D 1), .ref (D 2), .ref (D 3), .ref (D 4), .ref (D 5), .ref (D 6), .ref (D 7), .ref (D 8), .int ii, .long de, .int dl, .int dp, .int dc, .ref (D 9), .int (nI nr), .ref (D 10), .ref (D 11), .ref (D 12), .ref (D 13), .ref (D 14), .int al, .int wa])) :: (D 3, .inl (G.2.1.1, 720, .inl ml)) :: (D 4, .inl (G.2.1.1, 60, .inl F)) :: (D 6, .inl (G.2.1.1, 60, .inl so)) :: (D 9, .inl (G.2.1.1, 60, .inl lti)) :: (D 10, .inl (G.2.1.1, 10, .inl wh)) :: (D 11, .inl (G.2.1.1, 10, .inl rlo)) :: (D 12, .inl (G.2.1.1, 10, .inl rhi)) :: (D 13, .inl (G.2.1.1, 10, .inl rcl)) :: (D 2, .inl (G.2.1.2.1, 12, .inl rr)) :: r) rfl rfl ?_
  refine J.callV 0 (st := []) B (c_X8_classIs l G _ hlen hnr hR hs h0) ml_X8_178 mf_yX8_classIs mi_yX8_classIs rfl dX8_classOf_32 rfl rfl rfl rfl (fun v_7 w_8 hp_9 => ?_)
  obtain ⟨so1, lt1, rfl, rfl⟩ := hp_9
  refine J.re [0, 9, 1, 2, 3, 4, 5, 6, 7, 8] 10 (ws2 := (m, .inr (8, [.int fi, .ref (D 0), .long as, .int (nI ns), .ref (D 1), .ref (D 2), .ref (D 3), .ref (D 4), .ref (D 5), .ref (D 6), .ref (D 7), .ref (D 8), .int ii, .long de, .int dl, .int dp, .int dc, .ref (D 9), .int (nI nr), .ref (D 10), .ref (D 11), .ref (D 12), .ref (D 13), .ref (D 14), .int al, .int wa])) :: (D 2, .inl (G.2.1.2.1, 12, .inl rr)) :: (D 3, .inl (G.2.1.1, 720, .inl ml)) :: (D 4, .inl (G.2.1.1, 60, .inl F)) :: (D 6, .inl (G.2.1.1, 60, .inl so1)) :: (D 9, .inl (G.2.1.1, 60, .inl lt1)) :: (D 10, .inl (G.2.1.1, 10, .inl wh)) :: (D 11, .inl (G.2.1.1, 10, .inl rlo)) :: (D 12, .inl (G.2.1.1, 10, .inl rhi)) :: (D 13, .inl (G.2.1.1, 10, .inl rcl)) :: r) rfl rfl ?_
  show J G X mX8_classOf _ _ _ 35 _ [.int (clsR (msV (rowM ml s) F) RL)]
  exact J.iret B dX8_classOf_35 rfl (⟨so1, lt1, rfl, rfl⟩)
set_option maxHeartbeats 4000000 in
set_option maxRecDepth 100000 in
theorem r_alarms (l : Launch) (G : jG) (r : va_W) {m : Nat} {D : Nat → Nat} {fi : Int32} {as : Int64} {ns : Nat} {ii : Int32} {de : Int64} {dl dp dc : Int32} {nr : Nat} {al wa : Int32} : Mt l G yX8_alarms mX8_alarms 0 0 0 0 [.ref m] ((m, .inr (8, [.int fi, .ref (D 0), .long as, .int (nI ns), .ref (D 1), .ref (D 2), .ref (D 3), .ref (D 4), .ref (D 5), .ref (D 6), .ref (D 7), .ref (D 8), .int ii, .long de, .int dl, .int dp, .int dc, .ref (D 9), .int (nI nr), .ref (D 10), .ref (D 11), .ref (D 12), .ref (D 13), .ref (D 14), .int al, .int wa])) :: r) (fun v w => v = some (.int al) ∧ w = (m, .inr (8, [.int fi, .ref (D 0), .long as, .int (nI ns), .ref (D 1), .ref (D 2), .ref (D 3), .ref (D 4), .ref (D 5), .ref (D 6), .ref (D 7), .ref (D 8), .int ii, .long de, .int dl, .int dp, .int dc, .ref (D 9), .int (nI nr), .ref (D 10), .ref (D 11), .ref (D 12), .ref (D 13), .ref (D 14), .int al, .int wa])) :: r) := by
  refine Mt.of (by decide +kernel) rfl rfl (fun X B => ?_)
  show J G X mX8_alarms ((m, .inr (8, [.int fi, .ref (D 0), .long as, .int (nI ns), .ref (D 1), .ref (D 2), .ref (D 3), .ref (D 4), .ref (D 5), .ref (D 6), .ref (D 7), .ref (D 8), .int ii, .long de, .int dl, .int dp, .int dc, .ref (D 9), .int (nI nr), .ref (D 10), .ref (D 11), .ref (D 12), .ref (D 13), .ref (D 14), .int al, .int wa])) :: r) 0 0 0 [(0, .ref m)] []
  refine J.aload_n 0 dX8_alarms_0 rfl ?_
  refine J.get 0 fl_X8_181 dX8_alarms_1 rfl rfl ?_
  exact J.iret B dX8_alarms_4 rfl (⟨rfl, rfl⟩)
set_option maxHeartbeats 4000000 in
set_option maxRecDepth 100000 in
theorem r_asked (l : Launch) (G : jG) (r : va_W) {m : Nat} {D : Nat → Nat} {fi : Int32} {as : Int64} {ns : Nat} {ii : Int32} {de : Int64} {dl dp dc : Int32} {nr : Nat} {al wa : Int32} : Mt l G yX8_asked mX8_asked 0 0 0 0 [.ref m] ((m, .inr (8, [.int fi, .ref (D 0), .long as, .int (nI ns), .ref (D 1), .ref (D 2), .ref (D 3), .ref (D 4), .ref (D 5), .ref (D 6), .ref (D 7), .ref (D 8), .int ii, .long de, .int dl, .int dp, .int dc, .ref (D 9), .int (nI nr), .ref (D 10), .ref (D 11), .ref (D 12), .ref (D 13), .ref (D 14), .int al, .int wa])) :: r) (fun v w => v = some (.long as) ∧ w = (m, .inr (8, [.int fi, .ref (D 0), .long as, .int (nI ns), .ref (D 1), .ref (D 2), .ref (D 3), .ref (D 4), .ref (D 5), .ref (D 6), .ref (D 7), .ref (D 8), .int ii, .long de, .int dl, .int dp, .int dc, .ref (D 9), .int (nI nr), .ref (D 10), .ref (D 11), .ref (D 12), .ref (D 13), .ref (D 14), .int al, .int wa])) :: r) := by
  refine Mt.of (by decide +kernel) rfl rfl (fun X B => ?_)
  show J G X mX8_asked ((m, .inr (8, [.int fi, .ref (D 0), .long as, .int (nI ns), .ref (D 1), .ref (D 2), .ref (D 3), .ref (D 4), .ref (D 5), .ref (D 6), .ref (D 7), .ref (D 8), .int ii, .long de, .int dl, .int dp, .int dc, .ref (D 9), .int (nI nr), .ref (D 10), .ref (D 11), .ref (D 12), .ref (D 13), .ref (D 14), .int al, .int wa])) :: r) 0 0 0 [(0, .ref m)] []
  refine J.aload_n 0 dX8_asked_0 rfl ?_
  refine J.get 0 fl_X8_69 dX8_asked_1 rfl rfl ?_
  exact J.lret B dX8_asked_4 rfl (⟨rfl, rfl⟩)
set_option maxHeartbeats 4000000 in
set_option maxRecDepth 100000 in
theorem r_finding (l : Launch) (G : jG) (r : va_W) {m : Nat} {D : Nat → Nat} {fi : Int32} {as : Int64} {ns : Nat} {ii : Int32} {de : Int64} {dl dp dc : Int32} {nr : Nat} {al wa : Int32} : Mt l G yX8_finding mX8_finding 0 0 0 0 [.ref m] ((m, .inr (8, [.int fi, .ref (D 0), .long as, .int (nI ns), .ref (D 1), .ref (D 2), .ref (D 3), .ref (D 4), .ref (D 5), .ref (D 6), .ref (D 7), .ref (D 8), .int ii, .long de, .int dl, .int dp, .int dc, .ref (D 9), .int (nI nr), .ref (D 10), .ref (D 11), .ref (D 12), .ref (D 13), .ref (D 14), .int al, .int wa])) :: r) (fun v w => v = some (.int fi) ∧ w = (m, .inr (8, [.int fi, .ref (D 0), .long as, .int (nI ns), .ref (D 1), .ref (D 2), .ref (D 3), .ref (D 4), .ref (D 5), .ref (D 6), .ref (D 7), .ref (D 8), .int ii, .long de, .int dl, .int dp, .int dc, .ref (D 9), .int (nI nr), .ref (D 10), .ref (D 11), .ref (D 12), .ref (D 13), .ref (D 14), .int al, .int wa])) :: r) := by
  refine Mt.of (by decide +kernel) rfl rfl (fun X B => ?_)
  show J G X mX8_finding ((m, .inr (8, [.int fi, .ref (D 0), .long as, .int (nI ns), .ref (D 1), .ref (D 2), .ref (D 3), .ref (D 4), .ref (D 5), .ref (D 6), .ref (D 7), .ref (D 8), .int ii, .long de, .int dl, .int dp, .int dc, .ref (D 9), .int (nI nr), .ref (D 10), .ref (D 11), .ref (D 12), .ref (D 13), .ref (D 14), .int al, .int wa])) :: r) 0 0 0 [(0, .ref m)] []
  refine J.aload_n 0 dX8_finding_0 rfl ?_
  refine J.get 0 fl_X8_66 dX8_finding_1 rfl rfl ?_
  exact J.iret B dX8_finding_4 rfl (⟨rfl, rfl⟩)
set_option maxHeartbeats 4000000 in
set_option maxRecDepth 100000 in
theorem r_findings_bad (l : Launch) (G : jG) (r : va_W) {m : Nat} {D : Nat → Nat} {fi : Int32} {as : Int64} {ns : Nat} {ii : Int32} {de : Int64} {dl dp dc : Int32} {nr : Nat} {al wa : Int32} {f : Int32} (hf : inR f 1 5 = false) : Mt l G yX8_findings mX8_findings 1 22 0 0 [.ref m, .int f] ((m, .inr (8, [.int fi, .ref (D 0), .long as, .int (nI ns), .ref (D 1), .ref (D 2), .ref (D 3), .ref (D 4), .ref (D 5), .ref (D 6), .ref (D 7), .ref (D 8), .int ii, .long de, .int dl, .int dp, .int dc, .ref (D 9), .int (nI nr), .ref (D 10), .ref (D 11), .ref (D 12), .ref (D 13), .ref (D 14), .int al, .int wa])) :: r) (fun v w => v = some (.int (-1 : Int32)) ∧ w = (m, .inr (8, [.int fi, .ref (D 0), .long as, .int (nI ns), .ref (D 1), .ref (D 2), .ref (D 3), .ref (D 4), .ref (D 5), .ref (D 6), .ref (D 7), .ref (D 8), .int ii, .long de, .int dl, .int dp, .int dc, .ref (D 9), .int (nI nr), .ref (D 10), .ref (D 11), .ref (D 12), .ref (D 13), .ref (D 14), .int al, .int wa])) :: r) := by
  refine Mt.of (by decide +kernel) rfl rfl (fun X B => ?_)
  show J G X mX8_findings ((m, .inr (8, [.int fi, .ref (D 0), .long as, .int (nI ns), .ref (D 1), .ref (D 2), .ref (D 3), .ref (D 4), .ref (D 5), .ref (D 6), .ref (D 7), .ref (D 8), .int ii, .long de, .int dl, .int dp, .int dc, .ref (D 9), .int (nI nr), .ref (D 10), .ref (D 11), .ref (D 12), .ref (D 13), .ref (D 14), .int al, .int wa])) :: r) 0 0 0 [(0, .ref m), (1, .int f)] []
  refine J.iload_n 1 dX8_findings_0 rfl ?_
  refine J.iconst (1 : Int32) dX8_findings_1 rfl ?_
  refine J.iconst (5 : Int32) dX8_findings_2 rfl ?_
  refine J.callS (st := []) B (c_X8_in l G _ (v := f) (lo := (1 : Int32)) (hi := (5 : Int32)) (a := 1) (b := 5) rfl rfl) ml_X8_76 mf_yX8_in mS_yX8_in dX8_findings_3 rfl rfl rfl (fun v_1 w_2 hp_3 => ?_)
  obtain ⟨rfl, rfl⟩ := hp_3
  show J G X mX8_findings _ _ _ 6 _ [.int (b01 (inR f 1 5))]
  refine J.if_eq dX8_findings_6 (fun h9 => ?_) (fun z => absurd (by rw [hf]; rfl) z)
  refine J.iconst (-1 : Int32) dX8_findings_18 rfl ?_
  exact J.iret B dX8_findings_19 rfl (⟨rfl, rfl⟩)
set_option maxHeartbeats 4000000 in
set_option maxRecDepth 100000 in
theorem r_findings (l : Launch) (G : jG) (r : va_W) {m : Nat} {D : Nat → Nat} {fi : Int32} {as : Int64} {ns : Nat} {ii : Int32} {de : Int64} {dl dp dc : Int32} {nr : Nat} {al wa : Int32} {fc : Nat → Int32} {f : Nat} (h1 : 1 ≤ f) (h2 : f ≤ 5) : Mt l G yX8_findings mX8_findings 1 22 0 0 [.ref m, .int (nI f)] ((m, .inr (8, [.int fi, .ref (D 0), .long as, .int (nI ns), .ref (D 1), .ref (D 2), .ref (D 3), .ref (D 4), .ref (D 5), .ref (D 6), .ref (D 7), .ref (D 8), .int ii, .long de, .int dl, .int dp, .int dc, .ref (D 9), .int (nI nr), .ref (D 10), .ref (D 11), .ref (D 12), .ref (D 13), .ref (D 14), .int al, .int wa])) :: (D 0, .inl (G.2.1.1, 6, .inl fc)) :: r) (fun v w => v = some (.int (fc f)) ∧ w = (m, .inr (8, [.int fi, .ref (D 0), .long as, .int (nI ns), .ref (D 1), .ref (D 2), .ref (D 3), .ref (D 4), .ref (D 5), .ref (D 6), .ref (D 7), .ref (D 8), .int ii, .long de, .int dl, .int dp, .int dc, .ref (D 9), .int (nI nr), .ref (D 10), .ref (D 11), .ref (D 12), .ref (D 13), .ref (D 14), .int al, .int wa])) :: (D 0, .inl (G.2.1.1, 6, .inl fc)) :: r) := by
  refine Mt.of (by decide +kernel) rfl rfl (fun X B => ?_)
  show J G X mX8_findings ((m, .inr (8, [.int fi, .ref (D 0), .long as, .int (nI ns), .ref (D 1), .ref (D 2), .ref (D 3), .ref (D 4), .ref (D 5), .ref (D 6), .ref (D 7), .ref (D 8), .int ii, .long de, .int dl, .int dp, .int dc, .ref (D 9), .int (nI nr), .ref (D 10), .ref (D 11), .ref (D 12), .ref (D 13), .ref (D 14), .int al, .int wa])) :: (D 0, .inl (G.2.1.1, 6, .inl fc)) :: r) 0 0 0 [(0, .ref m), (1, .int (nI f))] []
  have hfi : inR (nI f) 1 5 = true := by rw [nI_inR (by omega)]; exact decide_eq_true ⟨by omega, by omega⟩
  refine J.iload_n 1 dX8_findings_0 rfl ?_
  refine J.iconst (1 : Int32) dX8_findings_1 rfl ?_
  refine J.iconst (5 : Int32) dX8_findings_2 rfl ?_
  refine J.callS (st := []) B (c_X8_in l G _ (v := nI f) (lo := (1 : Int32)) (hi := (5 : Int32)) (a := 1) (b := 5) rfl rfl) ml_X8_76 mf_yX8_in mS_yX8_in dX8_findings_3 rfl rfl rfl (fun v_1 w_2 hp_3 => ?_)
  obtain ⟨rfl, rfl⟩ := hp_3
  show J G X mX8_findings _ _ _ 6 _ [.int (b01 (inR (nI f) 1 5))]
  refine J.if_eq dX8_findings_6 (fun z => absurd z (by rw [hfi]; decide)) (fun h9 => ?_)
  refine J.aload_n 0 dX8_findings_9 rfl ?_
  refine J.get 0 fl_X8_7 dX8_findings_10 rfl rfl ?_
  refine J.iload_n 1 dX8_findings_13 rfl ?_
  refine J.iald 1 (f) dX8_findings_14 rfl (rfl) (by omega) (by decide) ?_
  refine J.goto dX8_findings_15 ?_
  exact J.iret B dX8_findings_19 rfl (⟨rfl, rfl⟩)
