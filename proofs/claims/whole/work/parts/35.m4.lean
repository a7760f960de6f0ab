theorem tp_ne {p : Nat} (h1 : 1 ≤ p) (h : p ≤ 600) : ¬ (2 : Int64) * (nI p).toInt64 = 0 := by
  intro z
  have e2 : (2 : Int64) * (nI p).toInt64 = Int64.ofInt (2 * (p : Int)) := by
    rw [w64, nI_toInt (by omega), show (2 : Int64) = Int64.ofInt 2 from rfl, ← Int64.ofInt_mul]
  rw [e2] at z
  have h8 := congrArg Int64.toInt z
  rw [i64_ofI (by omega) (by omega)] at h8
  have h9 : (0 : Int64).toInt = 0 := rfl
  rw [h9] at h8
  omega
set_option maxHeartbeats 4000000 in
set_option maxRecDepth 100000 in
theorem c_X8_lowsOf_d (l : Launch) (G : jG) (r : va_W) {m : Nat} {D : Nat → Nat} {fi : Int32} {as : Int64} {ns : Nat} {ii : Int32} {de : Int64} {dl dp dc : Int32} {nr : Nat} {al wa : Int32} {num : Int32} {d : Int32} (hd : inR d 1 10000 = false) : Mt l G yX8_lowsOf mX8_lowsOf 3 74 0 0 [.ref m, .int num, .int d] ((m, .inr (8, [.int fi, .ref (D 0), .long as, .int (nI ns), .ref (D 1), .ref (D 2), .ref (D 3), .ref (D 4), .ref (D 5), .ref (D 6), .ref (D 7), .ref (D 8), .int ii, .long de, .int dl, .int dp, .int dc, .ref (D 9), .int (nI nr), .ref (D 10), .ref (D 11), .ref (D 12), .ref (D 13), .ref (D 14), .int al, .int wa])) :: r) (fun v w => v = some (.int (-1 : Int32)) ∧ w = (m, .inr (8, [.int fi, .ref (D 0), .long as, .int (nI ns), .ref (D 1), .ref (D 2), .ref (D 3), .ref (D 4), .ref (D 5), .ref (D 6), .ref (D 7), .ref (D 8), .int ii, .long de, .int dl, .int dp, .int dc, .ref (D 9), .int (nI nr), .ref (D 10), .ref (D 11), .ref (D 12), .ref (D 13), .ref (D 14), .int al, .int wa])) :: r) := by
  refine Mt.of (by decide +kernel) rfl rfl (fun X B => ?_)
  show J G X mX8_lowsOf ((m, .inr (8, [.int fi, .ref (D 0), .long as, .int (nI ns), .ref (D 1), .ref (D 2), .ref (D 3), .ref (D 4), .ref (D 5), .ref (D 6), .ref (D 7), .ref (D 8), .int ii, .long de, .int dl, .int dp, .int dc, .ref (D 9), .int (nI nr), .ref (D 10), .ref (D 11), .ref (D 12), .ref (D 13), .ref (D 14), .int al, .int wa])) :: r) 0 0 0 [(0, .ref m), (1, .int num), (2, .int d)] []
  refine J.iload_n 2 dX8_lowsOf_0 rfl ?_
  refine J.iconst (1 : Int32) dX8_lowsOf_1 rfl ?_
  refine J.sipush (10000 : Int32) dX8_lowsOf_2 rfl ?_
  refine J.callS (st := []) B (c_X8_in l G _ (v := d) (lo := (1 : Int32)) (hi := (10000 : Int32)) (a := 1) (b := 10000) rfl rfl) ml_X8_76 mf_yX8_in mS_yX8_in dX8_lowsOf_5 rfl rfl rfl (fun v_1 w_2 hp_3 => ?_)
  obtain ⟨rfl, rfl⟩ := hp_3
  show J G X mX8_lowsOf _ _ _ 8 _ [.int (b01 (inR d 1 10000))]
  refine J.if_ne dX8_lowsOf_8 (fun z => absurd (by rw [hd]; rfl) z) (fun h9 => ?_)
  refine J.iconst (-1 : Int32) dX8_lowsOf_11 rfl ?_
  exact J.iret B dX8_lowsOf_12 rfl (⟨rfl, rfl⟩)
set_option maxHeartbeats 4000000 in
set_option maxRecDepth 100000 in
theorem c_X8_lowsOf_bad (l : Launch) (G : jG) (r : va_W) {m : Nat} {D : Nat → Nat} {fi : Int32} {as : Int64} {ns : Nat} {ii : Int32} {de : Int64} {dl dp dc : Int32} {nr : Nat} {al wa : Int32} {rr : Nat → Int32} {num : Int32} (hns : ns ≤ 12) (hnum : inR num 0 ((ns : Int) - 1) = false) {d : Int32} (hd : inR d 1 10000 = true) : Mt l G yX8_lowsOf mX8_lowsOf 3 74 0 0 [.ref m, .int num, .int d] ((m, .inr (8, [.int fi, .ref (D 0), .long as, .int (nI ns), .ref (D 1), .ref (D 2), .ref (D 3), .ref (D 4), .ref (D 5), .ref (D 6), .ref (D 7), .ref (D 8), .int ii, .long de, .int dl, .int dp, .int dc, .ref (D 9), .int (nI nr), .ref (D 10), .ref (D 11), .ref (D 12), .ref (D 13), .ref (D 14), .int al, .int wa])) :: (D 2, .inl (G.2.1.2.1, 12, .inl rr)) :: r) (fun v w => v = some (.int (-1 : Int32)) ∧ w = (m, .inr (8, [.int fi, .ref (D 0), .long as, .int (nI ns), .ref (D 1), .ref (D 2), .ref (D 3), .ref (D 4), .ref (D 5), .ref (D 6), .ref (D 7), .ref (D 8), .int ii, .long de, .int dl, .int dp, .int dc, .ref (D 9), .int (nI nr), .ref (D 10), .ref (D 11), .ref (D 12), .ref (D 13), .ref (D 14), .int al, .int wa])) :: (D 2, .inl (G.2.1.2.1, 12, .inl rr)) :: r) := by
  refine Mt.of (by decide +kernel) rfl rfl (fun X B => ?_)
  show J G X mX8_lowsOf ((m, .inr (8, [.int fi, .ref (D 0), .long as, .int (nI ns), .ref (D 1), .ref (D 2), .ref (D 3), .ref (D 4), .ref (D 5), .ref (D 6), .ref (D 7), .ref (D 8), .int ii, .long de, .int dl, .int dp, .int dc, .ref (D 9), .int (nI nr), .ref (D 10), .ref (D 11), .ref (D 12), .ref (D 13), .ref (D 14), .int al, .int wa])) :: (D 2, .inl (G.2.1.2.1, 12, .inl rr)) :: r) 0 0 0 [(0, .ref m), (1, .int num), (2, .int d)] []
  refine J.iload_n 2 dX8_lowsOf_0 rfl ?_
  refine J.iconst (1 : Int32) dX8_lowsOf_1 rfl ?_
  refine J.sipush (10000 : Int32) dX8_lowsOf_2 rfl ?_
  refine J.callS (st := []) B (c_X8_in l G _ (v := d) (lo := (1 : Int32)) (hi := (10000 : Int32)) (a := 1) (b := 10000) rfl rfl) ml_X8_76 mf_yX8_in mS_yX8_in dX8_lowsOf_5 rfl rfl rfl (fun v_1 w_2 hp_3 => ?_)
  obtain ⟨rfl, rfl⟩ := hp_3
  show J G X mX8_lowsOf _ _ _ 8 _ [.int (b01 (inR d 1 10000))]
  refine J.if_ne dX8_lowsOf_8 (fun h9 => ?_) (fun z => absurd z (by rw [hd]; decide))
  refine J.aload_n 0 dX8_lowsOf_13 rfl ?_
  refine J.iload_n 1 dX8_lowsOf_14 rfl ?_
  refine J.callV 0 (st := []) B (c_X8_looked_bad l G _ hns hnum) ml_X8_108 mf_yX8_looked mi_yX8_looked rfl dX8_lowsOf_15 rfl rfl rfl rfl (fun v_4 w_5 hp_6 => ?_)
  obtain ⟨rfl, rfl⟩ := hp_6
  show J G X mX8_lowsOf _ _ _ 18 _ [.int (-1 : Int32)]
  refine J.istore_n [1, 2, 3, 0] (lv' := [(0, .ref m), (1, .int num), (2, .int d), (3, .int (-1 : Int32))]) dX8_lowsOf_18 rfl rfl ?_
  refine J.iload_n 3 dX8_lowsOf_19 rfl ?_
  refine J.if_ge dX8_lowsOf_20 (fun z => absurd z (by decide)) (fun _ => ?_)
  refine J.iload_n 3 dX8_lowsOf_23 rfl ?_
  refine J.goto dX8_lowsOf_24 ?_
  exact J.iret B dX8_lowsOf_49 rfl (⟨rfl, rfl⟩)
set_option maxHeartbeats 4000000 in
set_option maxRecDepth 100000 in
theorem c_X8_lowsOf_no (l : Launch) (G : jG) (r : va_W) {m : Nat} {D : Nat → Nat} {fi : Int32} {as : Int64} {ns : Nat} {ii : Int32} {de : Int64} {dl dp dc : Int32} {nr : Nat} {al wa : Int32} {rr : Nat → Int32} {s : Nat} (hk : s < ns) (hns : ns ≤ 12) {fc : Nat → Int32} (hr : rr s = 0) {d : Int32} (hd : inR d 1 10000 = true) : Mt l G yX8_lowsOf mX8_lowsOf 3 74 0 0 [.ref m, .int (nI s), .int d] ((m, .inr (8, [.int fi, .ref (D 0), .long as, .int (nI ns), .ref (D 1), .ref (D 2), .ref (D 3), .ref (D 4), .ref (D 5), .ref (D 6), .ref (D 7), .ref (D 8), .int ii, .long de, .int dl, .int dp, .int dc, .ref (D 9), .int (nI nr), .ref (D 10), .ref (D 11), .ref (D 12), .ref (D 13), .ref (D 14), .int al, .int wa])) :: (D 2, .inl (G.2.1.2.1, 12, .inl rr)) :: (D 0, .inl (G.2.1.1, 6, .inl fc)) :: r) (fun v w => v = some (.int (-3 : Int32)) ∧ w = (m, .inr (8, [.int (nI 1), .ref (D 0), .long as, .int (nI ns), .ref (D 1), .ref (D 2), .ref (D 3), .ref (D 4), .ref (D 5), .ref (D 6), .ref (D 7), .ref (D 8), .int ii, .long de, .int dl, .int dp, .int dc, .ref (D 9), .int (nI nr), .ref (D 10), .ref (D 11), .ref (D 12), .ref (D 13), .ref (D 14), .int al, .int wa])) :: (D 2, .inl (G.2.1.2.1, 12, .inl rr)) :: (D 0, .inl (G.2.1.1, 6, .inl (upd fc 1 (fc 1 + 1)))) :: r) := by
  refine Mt.of (by decide +kernel) rfl rfl (fun X B => ?_)
  show J G X mX8_lowsOf ((m, .inr (8, [.int fi, .ref (D 0), .long as, .int (nI ns), .ref (D 1), .ref (D 2), .ref (D 3), .ref (D 4), .ref (D 5), .ref (D 6), .ref (D 7), .ref (D 8), .int ii, .long de, .int dl, .int dp, .int dc, .ref (D 9), .int (nI nr), .ref (D 10), .ref (D 11), .ref (D 12), .ref (D 13), .ref (D 14), .int al, .int wa])) :: (D 2, .inl (G.2.1.2.1, 12, .inl rr)) :: (D 0, .inl (G.2.1.1, 6, .inl fc)) :: r) 0 0 0 [(0, .ref m), (1, .int (nI s)), (2, .int d)] []
  refine J.iload_n 2 dX8_lowsOf_0 rfl ?_
  refine J.iconst (1 : Int32) dX8_lowsOf_1 rfl ?_
  refine J.sipush (10000 : Int32) dX8_lowsOf_2 rfl ?_
  refine J.callS (st := []) B (c_X8_in l G _ (v := d) (lo := (1 : Int32)) (hi := (10000 : Int32)) (a := 1) (b := 10000) rfl rfl) ml_X8_76 mf_yX8_in mS_yX8_in dX8_lowsOf_5 rfl rfl rfl (fun v_1 w_2 hp_3 => ?_)
  obtain ⟨rfl, rfl⟩ := hp_3
  show J G X mX8_lowsOf _ _ _ 8 _ [.int (b01 (inR d 1 10000))]
  refine J.if_ne dX8_lowsOf_8 (fun h9 => ?_) (fun z => absurd z (by rw [hd]; decide))
  refine J.aload_n 0 dX8_lowsOf_13 rfl ?_
  refine J.iload_n 1 dX8_lowsOf_14 rfl ?_
  refine J.callV 0 (st := []) B (c_X8_looked_no l G _ (k := s) hk hns hr) ml_X8_108 mf_yX8_looked mi_yX8_looked rfl dX8_lowsOf_15 rfl rfl rfl rfl (fun v_4 w_5 hp_6 => ?_)
  obtain ⟨rfl, rfl⟩ := hp_6
  show J G X mX8_lowsOf _ _ _ 18 _ [.int (-3 : Int32)]
  refine J.istore_n [1, 2, 3, 0] (lv' := [(0, .ref m), (1, .int (nI s)), (2, .int d), (3, .int (-3 : Int32))]) dX8_lowsOf_18 rfl rfl ?_
  refine J.iload_n 3 dX8_lowsOf_19 rfl ?_
  refine J.if_ge dX8_lowsOf_20 (fun z => absurd z (by decide)) (fun _ => ?_)
  refine J.iload_n 3 dX8_lowsOf_23 rfl ?_
  refine J.goto dX8_lowsOf_24 ?_
  exact J.iret B dX8_lowsOf_49 rfl (⟨rfl, rfl⟩)
set_option maxHeartbeats 4000000 in
set_option maxRecDepth 100000 in
theorem c_X8_lowsOf_nought (l : Launch) (G : jG) (r : va_W) {m : Nat} {D : Nat → Nat} {fi : Int32} {as : Int64} {ns : Nat} {ii : Int32} {de : Int64} {dl dp dc : Int32} {nr : Nat} {al wa : Int32} {rr : Nat → Int32} {s : Nat} (hk : s < ns) (hns : ns ≤ 12) {fc : Nat → Int32} {ml : Nat → Int32} (hr : ¬ rr s = 0) (h0 : nN (rowM ml s) = 0) {d : Int32} (hd : inR d 1 10000 = true) : Mt l G yX8_lowsOf mX8_lowsOf 3 74 0 0 [.ref m, .int (nI s), .int d] ((m, .inr (8, [.int fi, .ref (D 0), .long as, .int (nI ns), .ref (D 1), .ref (D 2), .ref (D 3), .ref (D 4), .ref (D 5), .ref (D 6), .ref (D 7), .ref (D 8), .int ii, .long de, .int dl, .int dp, .int dc, .ref (D 9), .int (nI nr), .ref (D 10), .ref (D 11), .ref (D 12), .ref (D 13), .ref (D 14), .int al, .int wa])) :: (D 2, .inl (G.2.1.2.1, 12, .inl rr)) :: (D 3, .inl (G.2.1.1, 720, .inl ml)) :: (D 0, .inl (G.2.1.1, 6, .inl fc)) :: r) (fun v w => v = some (.int (-3 : Int32)) ∧ w = (m, .inr (8, [.int (nI 4), .ref (D 0), .long as, .int (nI ns), .ref (D 1), .ref (D 2), .ref (D 3), .ref (D 4), .ref (D 5), .ref (D 6), .ref (D 7), .ref (D 8), .int ii, .long de, .int dl, .int dp, .int dc, .ref (D 9), .int (nI nr), .ref (D 10), .ref (D 11), .ref (D 12), .ref (D 13), .ref (D 14), .int al, .int wa])) :: (D 2, .inl (G.2.1.2.1, 12, .inl rr)) :: (D 3, .inl (G.2.1.1, 720, .inl ml)) :: (D 0, .inl (G.2.1.1, 6, .inl (upd fc 4 (fc 4 + 1)))) :: r) := by
  refine Mt.of (by decide +kernel) rfl rfl (fun X B => ?_)
  show J G X mX8_lowsOf ((m, .inr (8, [.int fi, .ref (D 0), .long as, .int (nI ns), .ref (D 1), .ref (D 2), .ref (D 3), .ref (D 4), .ref (D 5), .ref (D 6), .ref (D 7), .ref (D 8), .int ii, .long de, .int dl, .int dp, .int dc, .ref (D 9), .int (nI nr), .ref (D 10), .ref (D 11), .ref (D 12), .ref (D 13), .ref (D 14), .int al, .int wa])) :: (D 2, .inl (G.2.1.2.1, 12, .inl rr)) :: (D 3, .inl (G.2.1.1, 720, .inl ml)) :: (D 0, .inl (G.2.1.1, 6, .inl fc)) :: r) 0 0 0 [(0, .ref m), (1, .int (nI s)), (2, .int d)] []
  have hs : s < 12 := by omega
  refine J.iload_n 2 dX8_lowsOf_0 rfl ?_
  refine J.iconst (1 : Int32) dX8_lowsOf_1 rfl ?_
  refine J.sipush (10000 : Int32) dX8_lowsOf_2 rfl ?_
  refine J.callS (st := []) B (c_X8_in l G _ (v := d) (lo := (1 : Int32)) (hi := (10000 : Int32)) (a := 1) (b := 10000) rfl rfl) ml_X8_76 mf_yX8_in mS_yX8_in dX8_lowsOf_5 rfl rfl rfl (fun v_1 w_2 hp_3 => ?_)
  obtain ⟨rfl, rfl⟩ := hp_3
  show J G X mX8_lowsOf _ _ _ 8 _ [.int (b01 (inR d 1 10000))]
  refine J.if_ne dX8_lowsOf_8 (fun h9 => ?_) (fun z => absurd z (by rw [hd]; decide))
  refine J.aload_n 0 dX8_lowsOf_13 rfl ?_
  refine J.iload_n 1 dX8_lowsOf_14 rfl ?_
  refine J.callV 0 (st := []) B (c_X8_looked l G _ (k := s) hk hns hr) ml_X8_108 mf_yX8_looked mi_yX8_looked rfl dX8_lowsOf_15 rfl rfl rfl rfl (fun v_4 w_5 hp_6 => ?_)
  obtain ⟨rfl, rfl⟩ := hp_6
  show J G X mX8_lowsOf _ _ _ 18 _ [.int (0 : Int32)]
  refine J.istore_n [1, 2, 3, 0] (lv' := [(0, .ref m), (1, .int (nI s)), (2, .int d), (3, .int (0 : Int32))]) dX8_lowsOf_18 rfl rfl ?_
  refine J.iload_n 3 dX8_lowsOf_19 rfl ?_
  refine J.if_ge dX8_lowsOf_20 (fun _ => ?_) (fun z => absurd z (by decide))
  refine J.aload_n 0 dX8_lowsOf_27 rfl ?_
  refine J.iload_n 1 dX8_lowsOf_28 rfl ?_
  refine J.re [0, 2, 1, 3] 4 (ws2 := (m, .inr (8, [.int fi, .ref (D 0), .long as, .int (nI ns), .ref (D 1), .ref (D 2), .ref (D 3), .ref (D 4), .ref (D 5), .ref (D 6), .ref (D 7), .ref (D 8), .int ii, .long de, .int dl, .int dp, .int dc, .ref (D 9), .int (nI nr), .ref (D 10), .ref (D 11), .ref (D 12), .ref (D 13), .ref (D 14), .int al, .int wa])) :: (D 3, .inl (G.2.1.1, 720, .inl ml)) :: (D 2, .inl (G.2.1.2.1, 12, .inl rr)) :: (D 0, .inl (G.2.1.1, 6, .inl fc)) :: r) rfl rfl ?_
  refine J.callV 0 (st := []) B (c_X8_many l G _ (s := s) hs) ml_X8_99 mf_yX8_many mi_yX8_many rfl dX8_lowsOf_29 rfl rfl rfl rfl (fun v_7 w_8 hp_9 => ?_)
  obtain ⟨rfl, rfl⟩ := hp_9
  refine J.re [0, 2, 1, 3] 4 (ws2 := (m, .inr (8, [.int fi, .ref (D 0), .long as, .int (nI ns), .ref (D 1), .ref (D 2), .ref (D 3), .ref (D 4), .ref (D 5), .ref (D 6), .ref (D 7), .ref (D 8), .int ii, .long de, .int dl, .int dp, .int dc, .ref (D 9), .int (nI nr), .ref (D 10), .ref (D 11), .ref (D 12), .ref (D 13), .ref (D 14), .int al, .int wa])) :: (D 2, .inl (G.2.1.2.1, 12, .inl rr)) :: (D 3, .inl (G.2.1.1, 720, .inl ml)) :: (D 0, .inl (G.2.1.1, 6, .inl fc)) :: r) rfl rfl ?_
  show J G X mX8_lowsOf _ _ _ 32 _ [.int (nI (nN (rowM ml s)))]
  refine J.if_ne dX8_lowsOf_32 (fun z => absurd (by rw [h0]; rfl) z) (fun h9 => ?_)
  refine J.aload_n 0 dX8_lowsOf_35 rfl ?_
  refine J.iconst (4 : Int32) dX8_lowsOf_36 rfl ?_
  refine J.re [0, 3, 1, 2] 4 (ws2 := (m, .inr (8, [.int fi, .ref (D 0), .long as, .int (nI ns), .ref (D 1), .ref (D 2), .ref (D 3), .ref (D 4), .ref (D 5), .ref (D 6), .ref (D 7), .ref (D 8), .int ii, .long de, .int dl, .int dp, .int dc, .ref (D 9), .int (nI nr), .ref (D 10), .ref (D 11), .ref (D 12), .ref (D 13), .ref (D 14), .int al, .int wa])) :: (D 0, .inl (G.2.1.1, 6, .inl fc)) :: (D 2, .inl (G.2.1.2.1, 12, .inl rr)) :: (D 3, .inl (G.2.1.1, 720, .inl ml)) :: r) rfl rfl ?_
  refine J.callV 0 (st := []) B (c_X8_meets l G _ (c := 4) (by decide)) ml_X8_95 mf_yX8_meets mi_yX8_meets rfl dX8_lowsOf_37 rfl rfl rfl rfl (fun v_10 w_11 hp_12 => ?_)
  obtain ⟨rfl, rfl⟩ := hp_12
  refine J.re [0, 2, 3, 1] 4 (ws2 := (m, .inr (8, [.int (nI 4), .ref (D 0), .long as, .int (nI ns), .ref (D 1), .ref (D 2), .ref (D 3), .ref (D 4), .ref (D 5), .ref (D 6), .ref (D 7), .ref (D 8), .int ii, .long de, .int dl, .int dp, .int dc, .ref (D 9), .int (nI nr), .ref (D 10), .ref (D 11), .ref (D 12), .ref (D 13), .ref (D 14), .int al, .int wa])) :: (D 2, .inl (G.2.1.2.1, 12, .inl rr)) :: (D 3, .inl (G.2.1.1, 720, .inl ml)) :: (D 0, .inl (G.2.1.1, 6, .inl (upd fc 4 (fc 4 + 1)))) :: r) rfl rfl ?_
  show J G X mX8_lowsOf _ _ _ 40 _ [.int (-3 : Int32)]
  refine J.goto dX8_lowsOf_40 ?_
  exact J.iret B dX8_lowsOf_49 rfl (⟨rfl, rfl⟩)
set_option maxHeartbeats 4000000 in
set_option maxRecDepth 100000 in
theorem c_X8_lowsOf (l : Launch) (G : jG) (r : va_W) {m : Nat} {D : Nat → Nat} {fi : Int32} {as : Int64} {ns : Nat} {ii : Int32} {de : Int64} {dl dp dc : Int32} {nr : Nat} {al wa : Int32} {rr : Nat → Int32} {s : Nat} (hk : s < ns) (hns : ns ≤ 12) {ml F : Nat → Int32} {so lti : Nat → Int32} (hr : ¬ rr s = 0) (h0 : 0 < nN (rowM ml s)) {d : Int32} (hd : inR d 1 10000 = true) : Mt l G yX8_lowsOf mX8_lowsOf 3 74 0 0 [.ref m, .int (nI s), .int d] ((m, .inr (8, [.int fi, .ref (D 0), .long as, .int (nI ns), .ref (D 1), .ref (D 2), .ref (D 3), .ref (D 4), .ref (D 5), .ref (D 6), .ref (D 7), .ref (D 8), .int ii, .long de, .int dl, .int dp, .int dc, .ref (D 9), .int (nI nr), .ref (D 10), .ref (D 11), .ref (D 12), .ref (D 13), .ref (D 14), .int al, .int wa])) :: (D 2, .inl (G.2.1.2.1, 12, .inl rr)) :: (D 3, .inl (G.2.1.1, 720, .inl ml)) :: (D 4, .inl (G.2.1.1, 60, .inl F)) :: (D 6, .inl (G.2.1.1, 60, .inl so)) :: (D 9, .inl (G.2.1.1, 60, .inl lti)) :: r) (fun v w => ∃ so1 lt1, AG lt1 ((lowF (ltF (rowM ml s) F) (midV (lits (rowM ml s) F 60) - d) (nts (rowM ml s) 60)).1.map nI) ∧ v = some (.int (nI (lowF (ltF (rowM ml s) F) (midV (lits (rowM ml s) F 60) - d) (nts (rowM ml s) 60)).1.length)) ∧ w = (m, .inr (8, [.int fi, .ref (D 0), .long as, .int (nI ns), .ref (D 1), .ref (D 2), .ref (D 3), .ref (D 4), .ref (D 5), .ref (D 6), .ref (D 7), .ref (D 8), .int ii, .long de, .int dl, .int dp, .int dc, .ref (D 9), .int (nI nr), .ref (D 10), .ref (D 11), .ref (D 12), .ref (D 13), .ref (D 14), .int al, .int wa])) :: (D 2, .inl (G.2.1.2.1, 12, .inl rr)) :: (D 3, .inl (G.2.1.1, 720, .inl ml)) :: (D 4, .inl (G.2.1.1, 60, .inl F)) :: (D 6, .inl (G.2.1.1, 60, .inl so1)) :: (D 9, .inl (G.2.1.1, 60, .inl lt1)) :: r) := by
  refine Mt.of (by decide +kernel) rfl rfl (fun X B => ?_)
  show J G X mX8_lowsOf ((m, .inr (8, [.int fi, .ref (D 0), .long as, .int (nI ns), .ref (D 1), .ref (D 2), .ref (D 3), .ref (D 4), .ref (D 5), .ref (D 6), .ref (D 7), .ref (D 8), .int ii, .long de, .int dl, .int dp, .int dc, .ref (D 9), .int (nI nr), .ref (D 10), .ref (D 11), .ref (D 12), .ref (D 13), .ref (D 14), .int al, .int wa])) :: (D 2, .inl (G.2.1.2.1, 12, .inl rr)) :: (D 3, .inl (G.2.1.1, 720, .inl ml)) :: (D 4, .inl (G.2.1.1, 60, .inl F)) :: (D 6, .inl (G.2.1.1, 60, .inl so)) :: (D 9, .inl (G.2.1.1, 60, .inl lti)) :: r) 0 0 0 [(0, .ref m), (1, .int (nI s)), (2, .int d)] []
  have hs : s < 12 := by omega
  have hn := nN_le (rowM ml s)
  refine J.iload_n 2 dX8_lowsOf_0 rfl ?_
  refine J.iconst (1 : Int32) dX8_lowsOf_1 rfl ?_
  refine J.sipush (10000 : Int32) dX8_lowsOf_2 rfl ?_
  refine J.callS (st := []) B (c_X8_in l G _ (v := d) (lo := (1 : Int32)) (hi := (10000 : Int32)) (a := 1) (b := 10000) rfl rfl) ml_X8_76 mf_yX8_in mS_yX8_in dX8_lowsOf_5 rfl rfl rfl (fun v_1 w_2 hp_3 => ?_)
  obtain ⟨rfl, rfl⟩ := hp_3
  show J G X mX8_lowsOf _ _ _ 8 _ [.int (b01 (inR d 1 10000))]
  refine J.if_ne dX8_lowsOf_8 (fun h9 => ?_) (fun z => absurd z (by rw [hd]; decide))
  refine J.aload_n 0 dX8_lowsOf_13 rfl ?_
  refine J.iload_n 1 dX8_lowsOf_14 rfl ?_
  refine J.callV 0 (st := []) B (c_X8_looked l G _ (k := s) hk hns hr) ml_X8_108 mf_yX8_looked mi_yX8_looked rfl dX8_lowsOf_15 rfl rfl rfl rfl (fun v_4 w_5 hp_6 => ?_)
  obtain ⟨rfl, rfl⟩ := hp_6
  show J G X mX8_lowsOf _ _ _ 18 _ [.int (0 : Int32)]
  refine J.istore_n [1, 2, 3, 0] (lv' := [(0, .ref m), (1, .int (nI s)), (2, .int d), (3, .int (0 : Int32))]) dX8_lowsOf_18 rfl rfl ?_
  refine J.iload_n 3 dX8_lowsOf_19 rfl ?_
  refine J.if_ge dX8_lowsOf_20 (fun _ => ?_) (fun z => absurd z (by decide))
  refine J.aload_n 0 dX8_lowsOf_27 rfl ?_
  refine J.iload_n 1 dX8_lowsOf_28 rfl ?_
  refine J.re [0, 2, 1, 3, 4, 5] 6 (ws2 := (m, .inr (8, [.int fi, .ref (D 0), .long as, .int (nI ns), .ref (D 1), .ref (D 2), .ref (D 3), .ref (D 4), .ref (D 5), .ref (D 6), .ref (D 7), .ref (D 8), .int ii, .long de, .int dl, .int dp, .int dc, .ref (D 9), .int (nI nr), .ref (D 10), .ref (D 11), .ref (D 12), .ref (D 13), .ref (D 14), .int al, .int wa])) :: (D 3, .inl (G.2.1.1, 720, .inl ml)) :: (D 2, .inl (G.2.1.2.1, 12, .inl rr)) :: (D 4, .inl (G.2.1.1, 60, .inl F)) :: (D 6, .inl (G.2.1.1, 60, .inl so)) :: (D 9, .inl (G.2.1.1, 60, .inl lti)) :: r) rfl rfl ?_
  refine J.callV 0 (st := []) B (c_X8_many l G _ (s := s) hs) ml_X8_99 mf_yX8_many mi_yX8_many rfl dX8_lowsOf_29 rfl rfl rfl rfl (fun v_7 w_8 hp_9 => ?_)
  obtain ⟨rfl, rfl⟩ := hp_9
  refine J.re [0, 2, 1, 3, 4, 5] 6 (ws2 := (m, .inr (8, [.int fi, .ref (D 0), .long as, .int (nI ns), .ref (D 1), .ref (D 2), .ref (D 3), .ref (D 4), .ref (D 5), .ref (D 6), .ref (D 7), .ref (D 8), .int ii, .long de, .int dl, .int dp, .int dc, .ref (D 9), .int (nI nr), .ref (D 10), .ref (D 11), .ref (D 12), .ref (D 13), .ref (D 14), .int al, .int wa])) :: (D 2, .inl (G.2.1.2.1, 12, .inl rr)) :: (D 3, .inl (G.2.1.1, 720, .inl ml)) :: (D 4, .inl (G.2.1.1, 60, .inl F)) :: (D 6, .inl (G.2.1.1, 60, .inl so)) :: (D 9, .inl (G.2.1.1, 60, .inl lti)) :: r) rfl rfl ?_
  show J G X mX8_lowsOf _ _ _ 32 _ [.int (nI (nN (rowM ml s)))]
  refine J.if_ne dX8_lowsOf_32 (fun h9 => ?_) (fun z => absurd z (nI_ne0 h0 (by omega)))
  refine J.aload_n 0 dX8_lowsOf_43 rfl ?_
  refine J.iload_n 1 dX8_lowsOf_44 rfl ?_
  refine J.iload_n 2 dX8_lowsOf_45 rfl ?_
  refine J.re [0, 2, 3, 4, 5, 1] 6 (ws2 := (m, .inr (8, [.int fi, .ref (D 0), .long as, .int (nI ns), .ref (D 1), .ref (D 2), .ref (D 3), .ref (D 4), .ref (D 5), .ref (D 6), .ref (D 7), .ref (D 8), .int ii, .long de, .int dl, .int dp, .int dc, .ref (D 9), .int (nI nr), .ref (D 10), .ref (D 11), .ref (D 12), .ref (D 13), .ref (D 14), .int al, .int wa])) :: (D 3, .inl (G.2.1.1, 720, .inl ml)) :: (D 4, .inl (G.2.1.1, 60, .inl F)) :: (D 6, .inl (G.2.1.1, 60, .inl so)) :: (D 9, .inl (G.2.1.1, 60, .inl lti)) :: (D 2, .inl (G.2.1.2.1, 12, .inl rr)) :: r) rfl rfl ?_
  refine J.callV 0 (st := []) B (c_X8_setLows l G _ (d := d) hs h0) ml_X8_105 mf_yX8_setLows mi_yX8_setLows rfl dX8_lowsOf_46 rfl rfl rfl rfl (fun v_10 w_11 hp_12 => ?_)
  obtain ⟨so1, lt1, hlt, rfl, rfl⟩ := hp_12
  refine J.re [0, 5, 1, 2, 3, 4] 6 (ws2 := (m, .inr (8, [.int fi, .ref (D 0), .long as, .int (nI ns), .ref (D 1), .ref (D 2), .ref (D 3), .ref (D 4), .ref (D 5), .ref (D 6), .ref (D 7), .ref (D 8), .int ii, .long de, .int dl, .int dp, .int dc, .ref (D 9), .int (nI nr), .ref (D 10), .ref (D 11), .ref (D 12), .ref (D 13), .ref (D 14), .int al, .int wa])) :: (D 2, .inl (G.2.1.2.1, 12, .inl rr)) :: (D 3, .inl (G.2.1.1, 720, .inl ml)) :: (D 4, .inl (G.2.1.1, 60, .inl F)) :: (D 6, .inl (G.2.1.1, 60, .inl so1)) :: (D 9, .inl (G.2.1.1, 60, .inl lt1)) :: r) rfl rfl ?_
  show J G X mX8_lowsOf _ _ _ 49 _ [.int (nI ((lowF (ltF (rowM ml s) F) (midV (lits (rowM ml s) F 60) - d) (nts (rowM ml s) 60)).1.length))]
  exact J.iret B dX8_lowsOf_49 rfl (⟨so1, lt1, hlt, rfl, rfl⟩)
set_option maxHeartbeats 4000000 in
set_option maxRecDepth 100000 in
theorem c_X8_isClock (l : Launch) (G : jG) (r : va_W) {c p q : Int32} : Mt l G yX8_isClock mX8_isClock 2 42 0 0 [.int c, .int p, .int q] (r) (fun v w => v = some (.int (b01 (inR c 0 59 && (inR p 1 600 && inR q 1 60)))) ∧ w = r) := by
  refine Mt.of (by decide +kernel) rfl rfl (fun X B => ?_)
  show J G X mX8_isClock (r) 0 0 0 [(0, .int c), (1, .int p), (2, .int q)] []
  refine J.iload_n 0 dX8_isClock_0 rfl ?_
  refine J.callS (st := []) B (c_X8_isNight l G _ (n := c)) ml_X8_111 mf_yX8_isNight mS_yX8_isNight dX8_isClock_1 rfl rfl rfl (fun v_1 w_2 hp_3 => ?_)
  obtain ⟨rfl, rfl⟩ := hp_3
  show J G X mX8_isClock _ _ _ 4 _ [.int (b01 (inR c 0 59))]
  refine J.if_eq dX8_isClock_4 (fun h9 => ?_) (fun h9 => ?_)
  · skip
    refine J.iconst (0 : Int32) dX8_isClock_25 rfl ?_
    exact J.zret B dX8_isClock_26 rfl (by decide) (⟨by first | (rw [b01_0 h9]; rfl) | (rw [b01_0 h8, Bool.false_and, Bool.and_false]; rfl) | (rw [b01_0 h7, Bool.and_false, Bool.and_false]; rfl), rfl⟩)
  · skip
    refine J.iload_n 1 dX8_isClock_7 rfl ?_
    refine J.callS (st := []) B (c_X8_isPeriod l G _ (n := p)) ml_X8_127 mf_yX8_isPeriod mS_yX8_isPeriod dX8_isClock_8 rfl rfl rfl (fun v_4 w_5 hp_6 => ?_)
    obtain ⟨rfl, rfl⟩ := hp_6
    show J G X mX8_isClock _ _ _ 11 _ [.int (b01 (inR p 1 600))]
    refine J.if_eq dX8_isClock_11 (fun h8 => ?_) (fun h8 => ?_)
    · skip
      refine J.iconst (0 : Int32) dX8_isClock_25 rfl ?_
      exact J.zret B dX8_isClock_26 rfl (by decide) (⟨by first | (rw [b01_0 h9]; rfl) | (rw [b01_0 h8, Bool.false_and, Bool.and_false]; rfl) | (rw [b01_0 h7, Bool.and_false, Bool.and_false]; rfl), rfl⟩)
    · skip
      refine J.iload_n 2 dX8_isClock_14 rfl ?_
      refine J.callS (st := []) B (c_X8_isPart l G _ (n := q)) ml_X8_130 mf_yX8_isPart mS_yX8_isPart dX8_isClock_15 rfl rfl rfl (fun v_7 w_8 hp_9 => ?_)
      obtain ⟨rfl, rfl⟩ := hp_9
      show J G X mX8_isClock _ _ _ 18 _ [.int (b01 (inR q 1 60))]
      refine J.if_eq dX8_isClock_18 (fun h7 => ?_) (fun h7 => ?_)
      · skip
        refine J.iconst (0 : Int32) dX8_isClock_25 rfl ?_
        exact J.zret B dX8_isClock_26 rfl (by decide) (⟨by first | (rw [b01_0 h9]; rfl) | (rw [b01_0 h8, Bool.false_and, Bool.and_false]; rfl) | (rw [b01_0 h7, Bool.and_false, Bool.and_false]; rfl), rfl⟩)
      · skip
        refine J.iconst (1 : Int32) dX8_isClock_21 rfl ?_
        refine J.goto dX8_isClock_22 ?_
        exact J.zret B dX8_isClock_26 rfl (by decide) (⟨by rw [b01_1 h9, b01_1 h8, b01_1 h7]; rfl, rfl⟩)
set_option maxHeartbeats 4000000 in
set_option maxRecDepth 100000 in
theorem c_X8_turnOf (l : Launch) (G : jG) (r : va_W) {m : Nat} {D : Nat → Nat} {fi : Int32} {as : Int64} {ns : Nat} {ii : Int32} {de : Int64} {dl dp dc : Int32} {nr : Nat} {al wa : Int32} {T : Nat → Int32} {i tv c p q : Nat} (hi : i < 60) (hT : T i = nI tv) (hv : tv < 60) (hc : c < 60) (hq : q ≤ 60) (hp1 : 1 ≤ p) (hp : p ≤ 600) : Mt l G yX8_turnOf mX8_turnOf 0 0 0 0 [.ref m, .int (nI i), .int (nI c), .int (nI p), .int (nI q)] ((m, .inr (8, [.int fi, .ref (D 0), .long as, .int (nI ns), .ref (D 1), .ref (D 2), .ref (D 3), .ref (D 4), .ref (D 5), .ref (D 6), .ref (D 7), .ref (D 8), .int ii, .long de, .int dl, .int dp, .int dc, .ref (D 9), .int (nI nr), .ref (D 10), .ref (D 11), .ref (D 12), .ref (D 13), .ref (D 14), .int al, .int wa])) :: (D 9, .inl (G.2.1.1, 60, .inl T)) :: r) (fun v w => v = some (.long (Int64.ofInt (tuI tv c p q))) ∧ w = (m, .inr (8, [.int fi, .ref (D 0), .long as, .int (nI ns), .ref (D 1), .ref (D 2), .ref (D 3), .ref (D 4), .ref (D 5), .ref (D 6), .ref (D 7), .ref (D 8), .int ii, .long de, .int dl, .int dp, .int dc, .ref (D 9), .int (nI nr), .ref (D 10), .ref (D 11), .ref (D 12), .ref (D 13), .ref (D 14), .int al, .int wa])) :: (D 9, .inl (G.2.1.1, 60, .inl T)) :: r) := by
  refine Mt.of (by decide +kernel) rfl rfl (fun X B => ?_)
  show J G X mX8_turnOf ((m, .inr (8, [.int fi, .ref (D 0), .long as, .int (nI ns), .ref (D 1), .ref (D 2), .ref (D 3), .ref (D 4), .ref (D 5), .ref (D 6), .ref (D 7), .ref (D 8), .int ii, .long de, .int dl, .int dp, .int dc, .ref (D 9), .int (nI nr), .ref (D 10), .ref (D 11), .ref (D 12), .ref (D 13), .ref (D 14), .int al, .int wa])) :: (D 9, .inl (G.2.1.1, 60, .inl T)) :: r) 0 0 0 [(0, .ref m), (1, .int (nI i)), (2, .int (nI c)), (3, .int (nI p)), (4, .int (nI q))] []
  refine J.ldc2 dX8_turnOf_0 kl_X8_156 ?_
  refine J.aload_n 0 dX8_turnOf_3 rfl ?_
  refine J.get 0 fl_X8_48 dX8_turnOf_4 rfl rfl ?_
  refine J.iload_n 1 dX8_turnOf_7 rfl ?_
  refine J.iald 1 (i) dX8_turnOf_8 rfl (rfl) (by omega) (by decide) ?_
  refine J.topi (y := nI tv) (hT) ?_
  refine J.iload_n 2 dX8_turnOf_9 rfl ?_
  refine J.isub dX8_turnOf_10 ?_
  refine J.i2l dX8_turnOf_11 ?_
  refine J.lmul dX8_turnOf_12 ?_
  refine J.iload 4 dX8_turnOf_13 rfl ?_
  refine J.i2l dX8_turnOf_15 ?_
  refine J.lmul dX8_turnOf_16 ?_
  refine J.iload_n 3 dX8_turnOf_17 rfl ?_
  refine J.i2l dX8_turnOf_18 ?_
  refine J.ladd dX8_turnOf_19 ?_
  refine J.ldc2 dX8_turnOf_20 kl_X8_158 ?_
  refine J.iload_n 3 dX8_turnOf_23 rfl ?_
  refine J.i2l dX8_turnOf_24 ?_
  refine J.lmul dX8_turnOf_25 ?_
  refine J.ladd dX8_turnOf_26 ?_
  refine J.lstore [1, 2, 3, 4, 5, 0] (lv' := [(0, .ref m), (1, .int (nI i)), (2, .int (nI c)), (3, .int (nI p)), (4, .int (nI q)), (5, .long (((((2 : Int64) * (((nI tv) - (nI c)).toInt64)) * ((nI q).toInt64)) + ((nI p).toInt64)) + ((20000 : Int64) * ((nI p).toInt64))))]) dX8_turnOf_27 rfl rfl ?_
  refine J.lload 5 dX8_turnOf_29 rfl ?_
  refine J.ldc2 dX8_turnOf_31 kl_X8_156 ?_
  refine J.iload_n 3 dX8_turnOf_34 rfl ?_
  refine J.i2l dX8_turnOf_35 ?_
  refine J.lmul dX8_turnOf_36 ?_
  refine J.ldiv dX8_turnOf_37 (tp_ne hp1 hp) ?_
  refine J.ldc2 dX8_turnOf_38 kl_X8_160 ?_
  refine J.lsub dX8_turnOf_41 ?_
  exact J.lret B dX8_turnOf_42 rfl (⟨by rw [tu_ref hv hc hq hp1 hp], rfl⟩)
set_option maxHeartbeats 4000000 in
set_option maxRecDepth 100000 in
theorem c_X8_lateOf (l : Launch) (G : jG) (r : va_W) {m : Nat} {D : Nat → Nat} {fi : Int32} {as : Int64} {ns : Nat} {ii : Int32} {de : Int64} {dl dp dc : Int32} {nr : Nat} {al wa : Int32} {T : Nat → Int32} {i tv c p q : Nat} (hi : i < 60) (hT : T i = nI tv) (hv : tv < 60) (hc : c < 60) (hq : q ≤ 60) (hp1 : 1 ≤ p) (hp : p ≤ 600) : Mt l G yX8_lateOf mX8_lateOf 1 26 0 0 [.ref m, .int (nI i), .int (nI c), .int (nI p), .int (nI q)] ((m, .inr (8, [.int fi, .ref (D 0), .long as, .int (nI ns), .ref (D 1), .ref (D 2), .ref (D 3), .ref (D 4), .ref (D 5), .ref (D 6), .ref (D 7), .ref (D 8), .int ii, .long de, .int dl, .int dp, .int dc, .ref (D 9), .int (nI nr), .ref (D 10), .ref (D 11), .ref (D 12), .ref (D 13), .ref (D 14), .int al, .int wa])) :: (D 9, .inl (G.2.1.1, 60, .inl T)) :: r) (fun v w => v = some (.long (Int64.ofInt (laI tv c p q))) ∧ w = (m, .inr (8, [.int fi, .ref (D 0), .long as, .int (nI ns), .ref (D 1), .ref (D 2), .ref (D 3), .ref (D 4), .ref (D 5), .ref (D 6), .ref (D 7), .ref (D 8), .int ii, .long de, .int dl, .int dp, .int dc, .ref (D 9), .int (nI nr), .ref (D 10), .ref (D 11), .ref (D 12), .ref (D 13), .ref (D 14), .int al, .int wa])) :: (D 9, .inl (G.2.1.1, 60, .inl T)) :: r) := by
  refine Mt.of (by decide +kernel) rfl rfl (fun X B => ?_)
  show J G X mX8_lateOf ((m, .inr (8, [.int fi, .ref (D 0), .long as, .int (nI ns), .ref (D 1), .ref (D 2), .ref (D 3), .ref (D 4), .ref (D 5), .ref (D 6), .ref (D 7), .ref (D 8), .int ii, .long de, .int dl, .int dp, .int dc, .ref (D 9), .int (nI nr), .ref (D 10), .ref (D 11), .ref (D 12), .ref (D 13), .ref (D 14), .int al, .int wa])) :: (D 9, .inl (G.2.1.1, 60, .inl T)) :: r) 0 0 0 [(0, .ref m), (1, .int (nI i)), (2, .int (nI c)), (3, .int (nI p)), (4, .int (nI q))] []
  refine J.iload 4 dX8_lateOf_0 rfl ?_
  refine J.i2l dX8_lateOf_2 ?_
  refine J.aload_n 0 dX8_lateOf_3 rfl ?_
  refine J.get 0 fl_X8_48 dX8_lateOf_4 rfl rfl ?_
  refine J.iload_n 1 dX8_lateOf_7 rfl ?_
  refine J.iald 1 (i) dX8_lateOf_8 rfl (rfl) (by omega) (by decide) ?_
  refine J.topi (y := nI tv) (hT) ?_
  refine J.iload_n 2 dX8_lateOf_9 rfl ?_
  refine J.isub dX8_lateOf_10 ?_
  refine J.i2l dX8_lateOf_11 ?_
  refine J.lmul dX8_lateOf_12 ?_
  refine J.aload_n 0 dX8_lateOf_13 rfl ?_
  refine J.iload_n 1 dX8_lateOf_14 rfl ?_
  refine J.iload_n 2 dX8_lateOf_15 rfl ?_
  refine J.iload_n 3 dX8_lateOf_16 rfl ?_
  refine J.iload 4 dX8_lateOf_17 rfl ?_
  refine J.callV 0 (st := [.long (((nI q).toInt64) * (((nI tv) - (nI c)).toInt64))]) B (c_X8_turnOf l G _ hi hT hv hc hq hp1 hp) ml_X8_162 mf_yX8_turnOf mi_yX8_turnOf rfl dX8_lateOf_19 rfl rfl rfl rfl (fun v_1 w_2 hp_3 => ?_)
  obtain ⟨rfl, rfl⟩ := hp_3
  show J G X mX8_lateOf _ _ _ 22 _ [.long (Int64.ofInt (tuI tv c p q)), .long (((nI q).toInt64) * (((nI tv) - (nI c)).toInt64))]
  refine J.iload_n 3 dX8_lateOf_22 rfl ?_
  refine J.i2l dX8_lateOf_23 ?_
  refine J.lmul dX8_lateOf_24 ?_
  refine J.lsub dX8_lateOf_25 ?_
  exact J.lret B dX8_lateOf_26 rfl (⟨by rw [la_ref hv hc hq hp], rfl⟩)
set_option maxHeartbeats 4000000 in
set_option maxRecDepth 100000 in
theorem X8_worth0 (l : Launch) (G : jG) (r : va_W) {m : Nat} {D : Nat → Nat} {fi : Int32} {as : Int64} {ns : Nat} {ii : Int32} {de : Int64} {dl dp dc : Int32} {nr : Nat} {al wa : Int32} {ml F : Nat → Int32} {so lti : Nat → Int32} {s : Nat} (hs : s < 12) (h0 : 0 < nN (rowM ml s)) : Mt l G yX8_worth mX8_worth 3 74 0 0 [.ref m, .int (nI s), .int (0 : Int32)] ((m, .inr (8, [.int fi, .ref (D 0), .long as, .int (nI ns), .ref (D 1), .ref (D 2), .ref (D 3), .ref (D 4), .ref (D 5), .ref (D 6), .ref (D 7), .ref (D 8), .int ii, .long de, .int dl, .int dp, .int dc, .ref (D 9), .int (nI nr), .ref (D 10), .ref (D 11), .ref (D 12), .ref (D 13), .ref (D 14), .int al, .int wa])) :: (D 3, .inl (G.2.1.1, 720, .inl ml)) :: (D 4, .inl (G.2.1.1, 60, .inl F)) :: (D 6, .inl (G.2.1.1, 60, .inl so)) :: (D 9, .inl (G.2.1.1, 60, .inl lti)) :: r) (fun v w => ∃ so1 lt1, v = some (.int (msV (rowM ml s) F 0)) ∧ w = (m, .inr (8, [.int fi, .ref (D 0), .long as, .int (nI ns), .ref (D 1), .ref (D 2), .ref (D 3), .ref (D 4), .ref (D 5), .ref (D 6), .ref (D 7), .ref (D 8), .int ii, .long de, .int dl, .int dp, .int dc, .ref (D 9), .int (nI nr), .ref (D 10), .ref (D 11), .ref (D 12), .ref (D 13), .ref (D 14), .int al, .int wa])) :: (D 3, .inl (G.2.1.1, 720, .inl ml)) :: (D 4, .inl (G.2.1.1, 60, .inl F)) :: (D 6, .inl (G.2.1.1, 60, .inl so1)) :: (D 9, .inl (G.2.1.1, 60, .inl lt1)) :: r) := by
  refine Mt.of (by decide +kernel) rfl rfl (fun X B => ?_)
  show J G X mX8_worth ((m, .inr (8, [.int fi, .ref (D 0), .long as, .int (nI ns), .ref (D 1), .ref (D 2), .ref (D 3), .ref (D 4), .ref (D 5), .ref (D 6), .ref (D 7), .ref (D 8), .int ii, .long de, .int dl, .int dp, .int dc, .ref (D 9), .int (nI nr), .ref (D 10), .ref (D 11), .ref (D 12), .ref (D 13), .ref (D 14), .int al, .int wa])) :: (D 3, .inl (G.2.1.1, 720, .inl ml)) :: (D 4, .inl (G.2.1.1, 60, .inl F)) :: (D 6, .inl (G.2.1.1, 60, .inl so)) :: (D 9, .inl (G.2.1.1, 60, .inl lti)) :: r) 0 0 0 [(0, .ref m), (1, .int (nI s)), (2, .int (0 : Int32))] []
  refine J.iload_n 2 dX8_worth_0 rfl ?_
  refine J.if_ne dX8_worth_1 (fun z => absurd z (by decide)) (fun _ => ?_)
  refine J.aload_n 0 dX8_worth_4 rfl ?_
  refine J.iload_n 1 dX8_worth_5 rfl ?_
  refine J.iconst (0 : Int32) dX8_worth_6 rfl ?_
  refine J.re [0, 1, 3, 2, 4] 5 (ws2 := (m, .inr (8, [.int fi, .ref (D 0), .long as, .int (nI ns), .ref (D 1), .ref (D 2), .ref (D 3), .ref (D 4), .ref (D 5), .ref (D 6), .ref (D 7), .ref (D 8), .int ii, .long de, .int dl, .int dp, .int dc, .ref (D 9), .int (nI nr), .ref (D 10), .ref (D 11), .ref (D 12), .ref (D 13), .ref (D 14), .int al, .int wa])) :: (D 3, .inl (G.2.1.1, 720, .inl ml)) :: (D 6, .inl (G.2.1.1, 60, .inl so)) :: (D 4, .inl (G.2.1.1, 60, .inl F)) :: (D 9, .inl (G.2.1.1, 60, .inl lti)) :: r) rfl rfl ?_
  refine J.callV 0 (st := []) B (c_X8_middle0 l G _ hs h0) ml_X8_123 mf_yX8_middle mi_yX8_middle rfl dX8_worth_7 rfl rfl rfl rfl (fun v_1 w_2 hp_3 => ?_)
  obtain ⟨so1, rfl, rfl⟩ := hp_3
  refine J.re [0, 1, 3, 2, 4] 5 (ws2 := (m, .inr (8, [.int fi, .ref (D 0), .long as, .int (nI ns), .ref (D 1), .ref (D 2), .ref (D 3), .ref (D 4), .ref (D 5), .ref (D 6), .ref (D 7), .ref (D 8), .int ii, .long de, .int dl, .int dp, .int dc, .ref (D 9), .int (nI nr), .ref (D 10), .ref (D 11), .ref (D 12), .ref (D 13), .ref (D 14), .int al, .int wa])) :: (D 3, .inl (G.2.1.1, 720, .inl ml)) :: (D 4, .inl (G.2.1.1, 60, .inl F)) :: (D 6, .inl (G.2.1.1, 60, .inl so1)) :: (D 9, .inl (G.2.1.1, 60, .inl lti)) :: r) rfl rfl ?_
  show J G X mX8_worth _ _ _ 10 _ [.int (midV (lits (rowM ml s) F 60))]
  refine J.goto dX8_worth_10 ?_
  exact J.iret B dX8_worth_46 rfl (⟨so1, lti, rfl, rfl⟩)
set_option maxHeartbeats 4000000 in
set_option maxRecDepth 100000 in
theorem X8_worth1 (l : Launch) (G : jG) (r : va_W) {m : Nat} {D : Nat → Nat} {fi : Int32} {as : Int64} {ns : Nat} {ii : Int32} {de : Int64} {dl dp dc : Int32} {nr : Nat} {al wa : Int32} {ml F : Nat → Int32} {so lti : Nat → Int32} {s : Nat} (hs : s < 12) (h0 : 0 < nN (rowM ml s)) : Mt l G yX8_worth mX8_worth 3 74 0 0 [.ref m, .int (nI s), .int (1 : Int32)] ((m, .inr (8, [.int fi, .ref (D 0), .long as, .int (nI ns), .ref (D 1), .ref (D 2), .ref (D 3), .ref (D 4), .ref (D 5), .ref (D 6), .ref (D 7), .ref (D 8), .int ii, .long de, .int dl, .int dp, .int dc, .ref (D 9), .int (nI nr), .ref (D 10), .ref (D 11), .ref (D 12), .ref (D 13), .ref (D 14), .int al, .int wa])) :: (D 3, .inl (G.2.1.1, 720, .inl ml)) :: (D 4, .inl (G.2.1.1, 60, .inl F)) :: (D 6, .inl (G.2.1.1, 60, .inl so)) :: (D 9, .inl (G.2.1.1, 60, .inl lti)) :: r) (fun v w => ∃ so1 lt1, v = some (.int (msV (rowM ml s) F 1)) ∧ w = (m, .inr (8, [.int fi, .ref (D 0), .long as, .int (nI ns), .ref (D 1), .ref (D 2), .ref (D 3), .ref (D 4), .ref (D 5), .ref (D 6), .ref (D 7), .ref (D 8), .int ii, .long de, .int dl, .int dp, .int dc, .ref (D 9), .int (nI nr), .ref (D 10), .ref (D 11), .ref (D 12), .ref (D 13), .ref (D 14), .int al, .int wa])) :: (D 3, .inl (G.2.1.1, 720, .inl ml)) :: (D 4, .inl (G.2.1.1, 60, .inl F)) :: (D 6, .inl (G.2.1.1, 60, .inl so1)) :: (D 9, .inl (G.2.1.1, 60, .inl lt1)) :: r) := by
  refine Mt.of (by decide +kernel) rfl rfl (fun X B => ?_)
  show J G X mX8_worth ((m, .inr (8, [.int fi, .ref (D 0), .long as, .int (nI ns), .ref (D 1), .ref (D 2), .ref (D 3), .ref (D 4), .ref (D 5), .ref (D 6), .ref (D 7), .ref (D 8), .int ii, .long de, .int dl, .int dp, .int dc, .ref (D 9), .int (nI nr), .ref (D 10), .ref (D 11), .ref (D 12), .ref (D 13), .ref (D 14), .int al, .int wa])) :: (D 3, .inl (G.2.1.1, 720, .inl ml)) :: (D 4, .inl (G.2.1.1, 60, .inl F)) :: (D 6, .inl (G.2.1.1, 60, .inl so)) :: (D 9, .inl (G.2.1.1, 60, .inl lti)) :: r) 0 0 0 [(0, .ref m), (1, .int (nI s)), (2, .int (1 : Int32))] []
  refine J.iload_n 2 dX8_worth_0 rfl ?_
  refine J.if_ne dX8_worth_1 (fun _ => ?_) (fun z => absurd z (by decide))
  refine J.iload_n 2 dX8_worth_13 rfl ?_
  refine J.iconst (1 : Int32) dX8_worth_14 rfl ?_
  refine J.icmp_ne dX8_worth_15 (fun z => absurd z (by decide)) (fun _ => ?_)
  refine J.aload_n 0 dX8_worth_18 rfl ?_
  refine J.iload_n 1 dX8_worth_19 rfl ?_
  refine J.callV 0 (st := []) B (c_X8_swing l G _ (s := s) hs) ml_X8_102 mf_yX8_swing mi_yX8_swing rfl dX8_worth_20 rfl rfl rfl rfl (fun v_1 w_2 hp_3 => ?_)
  obtain ⟨rfl, rfl⟩ := hp_3
  show J G X mX8_worth _ _ _ 23 _ [.int (swg (lits (rowM ml s) F 60))]
  refine J.goto dX8_worth_23 ?_
  exact J.iret B dX8_worth_46 rfl (⟨so, lti, rfl, rfl⟩)
set_option maxHeartbeats 4000000 in
set_option maxRecDepth 100000 in
theorem X8_worth2 (l : Launch) (G : jG) (r : va_W) {m : Nat} {D : Nat → Nat} {fi : Int32} {as : Int64} {ns : Nat} {ii : Int32} {de : Int64} {dl dp dc : Int32} {nr : Nat} {al wa : Int32} {ml F : Nat → Int32} {so lti : Nat → Int32} {s : Nat} (hs : s < 12) (h0 : 0 < nN (rowM ml s)) : Mt l G yX8_worth mX8_worth 3 74 0 0 [.ref m, .int (nI s), .int (2 : Int32)] ((m, .inr (8, [.int fi, .ref (D 0), .long as, .int (nI ns), .ref (D 1), .ref (D 2), .ref (D 3), .ref (D 4), .ref (D 5), .ref (D 6), .ref (D 7), .ref (D 8), .int ii, .long de, .int dl, .int dp, .int dc, .ref (D 9), .int (nI nr), .ref (D 10), .ref (D 11), .ref (D 12), .ref (D 13), .ref (D 14), .int al, .int wa])) :: (D 3, .inl (G.2.1.1, 720, .inl ml)) :: (D 4, .inl (G.2.1.1, 60, .inl F)) :: (D 6, .inl (G.2.1.1, 60, .inl so)) :: (D 9, .inl (G.2.1.1, 60, .inl lti)) :: r) (fun v w => ∃ so1 lt1, v = some (.int (msV (rowM ml s) F 2)) ∧ w = (m, .inr (8, [.int fi, .ref (D 0), .long as, .int (nI ns), .ref (D 1), .ref (D 2), .ref (D 3), .ref (D 4), .ref (D 5), .ref (D 6), .ref (D 7), .ref (D 8), .int ii, .long de, .int dl, .int dp, .int dc, .ref (D 9), .int (nI nr), .ref (D 10), .ref (D 11), .ref (D 12), .ref (D 13), .ref (D 14), .int al, .int wa])) :: (D 3, .inl (G.2.1.1, 720, .inl ml)) :: (D 4, .inl (G.2.1.1, 60, .inl F)) :: (D 6, .inl (G.2.1.1, 60, .inl so1)) :: (D 9, .inl (G.2.1.1, 60, .inl lt1)) :: r) := by
  refine Mt.of (by decide +kernel) rfl rfl (fun X B => ?_)
  show J G X mX8_worth ((m, .inr (8, [.int fi, .ref (D 0), .long as, .int (nI ns), .ref (D 1), .ref (D 2), .ref (D 3), .ref (D 4), .ref (D 5), .ref (D 6), .ref (D 7), .ref (D 8), .int ii, .long de, .int dl, .int dp, .int dc, .ref (D 9), .int (nI nr), .ref (D 10), .ref (D 11), .ref (D 12), .ref (D 13), .ref (D 14), .int al, .int wa])) :: (D 3, .inl (G.2.1.1, 720, .inl ml)) :: (D 4, .inl (G.2.1.1, 60, .inl F)) :: (D 6, .inl (G.2.1.1, 60, .inl so)) :: (D 9, .inl (G.2.1.1, 60, .inl lti)) :: r) 0 0 0 [(0, .ref m), (1, .int (nI s)), (2, .int (2 : Int32))] []
  refine J.iload_n 2 dX8_worth_0 rfl ?_
  refine J.if_ne dX8_worth_1 (fun _ => ?_) (fun z => absurd z (by decide))
  refine J.iload_n 2 dX8_worth_13 rfl ?_
  refine J.iconst (1 : Int32) dX8_worth_14 rfl ?_
  refine J.icmp_ne dX8_worth_15 (fun _ => ?_) (fun z => absurd z (by decide))
  refine J.iload_n 2 dX8_worth_26 rfl ?_
  refine J.iconst (2 : Int32) dX8_worth_27 rfl ?_
  refine J.icmp_ne dX8_worth_28 (fun z => absurd z (by decide)) (fun _ => ?_)
  refine J.aload_n 0 dX8_worth_31 rfl ?_
  refine J.iload_n 1 dX8_worth_32 rfl ?_
  refine J.callV 0 (st := []) B (c_X8_many l G _ (s := s) hs) ml_X8_99 mf_yX8_many mi_yX8_many rfl dX8_worth_33 rfl rfl rfl rfl (fun v_1 w_2 hp_3 => ?_)
  obtain ⟨rfl, rfl⟩ := hp_3
  show J G X mX8_worth _ _ _ 36 _ [.int (nI (nN (rowM ml s)))]
  refine J.goto dX8_worth_36 ?_
  exact J.iret B dX8_worth_46 rfl (⟨so, lti, rfl, rfl⟩)
set_option maxHeartbeats 4000000 in
set_option maxRecDepth 100000 in
theorem X8_worth3 (l : Launch) (G : jG) (r : va_W) {m : Nat} {D : Nat → Nat} {fi : Int32} {as : Int64} {ns : Nat} {ii : Int32} {de : Int64} {dl dp dc : Int32} {nr : Nat} {al wa : Int32} {ml F : Nat → Int32} {so lti : Nat → Int32} {s : Nat} (hs : s < 12) (h0 : 0 < nN (rowM ml s)) : Mt l G yX8_worth mX8_worth 3 74 0 0 [.ref m, .int (nI s), .int (3 : Int32)] ((m, .inr (8, [.int fi, .ref (D 0), .long as, .int (nI ns), .ref (D 1), .ref (D 2), .ref (D 3), .ref (D 4), .ref (D 5), .ref (D 6), .ref (D 7), .ref (D 8), .int ii, .long de, .int dl, .int dp, .int dc, .ref (D 9), .int (nI nr), .ref (D 10), .ref (D 11), .ref (D 12), .ref (D 13), .ref (D 14), .int al, .int wa])) :: (D 3, .inl (G.2.1.1, 720, .inl ml)) :: (D 4, .inl (G.2.1.1, 60, .inl F)) :: (D 6, .inl (G.2.1.1, 60, .inl so)) :: (D 9, .inl (G.2.1.1, 60, .inl lti)) :: r) (fun v w => ∃ so1 lt1, v = some (.int (msV (rowM ml s) F 3)) ∧ w = (m, .inr (8, [.int fi, .ref (D 0), .long as, .int (nI ns), .ref (D 1), .ref (D 2), .ref (D 3), .ref (D 4), .ref (D 5), .ref (D 6), .ref (D 7), .ref (D 8), .int ii, .long de, .int dl, .int dp, .int dc, .ref (D 9), .int (nI nr), .ref (D 10), .ref (D 11), .ref (D 12), .ref (D 13), .ref (D 14), .int al, .int wa])) :: (D 3, .inl (G.2.1.1, 720, .inl ml)) :: (D 4, .inl (G.2.1.1, 60, .inl F)) :: (D 6, .inl (G.2.1.1, 60, .inl so1)) :: (D 9, .inl (G.2.1.1, 60, .inl lt1)) :: r) := by
  refine Mt.of (by decide +kernel) rfl rfl (fun X B => ?_)
  show J G X mX8_worth ((m, .inr (8, [.int fi, .ref (D 0), .long as, .int (nI ns), .ref (D 1), .ref (D 2), .ref (D 3), .ref (D 4), .ref (D 5), .ref (D 6), .ref (D 7), .ref (D 8), .int ii, .long de, .int dl, .int dp, .int dc, .ref (D 9), .int (nI nr), .ref (D 10), .ref (D 11), .ref (D 12), .ref (D 13), .ref (D 14), .int al, .int wa])) :: (D 3, .inl (G.2.1.1, 720, .inl ml)) :: (D 4, .inl (G.2.1.1, 60, .inl F)) :: (D 6, .inl (G.2.1.1, 60, .inl so)) :: (D 9, .inl (G.2.1.1, 60, .inl lti)) :: r) 0 0 0 [(0, .ref m), (1, .int (nI s)), (2, .int (3 : Int32))] []
  refine J.iload_n 2 dX8_worth_0 rfl ?_
  refine J.if_ne dX8_worth_1 (fun _ => ?_) (fun z => absurd z (by decide))
  refine J.iload_n 2 dX8_worth_13 rfl ?_
  refine J.iconst (1 : Int32) dX8_worth_14 rfl ?_
  refine J.icmp_ne dX8_worth_15 (fun _ => ?_) (fun z => absurd z (by decide))
  refine J.iload_n 2 dX8_worth_26 rfl ?_
  refine J.iconst (2 : Int32) dX8_worth_27 rfl ?_
  refine J.icmp_ne dX8_worth_28 (fun _ => ?_) (fun z => absurd z (by decide))
  refine J.aload_n 0 dX8_worth_39 rfl ?_
  refine J.iload_n 1 dX8_worth_40 rfl ?_
  refine J.bipush (100 : Int32) dX8_worth_41 rfl ?_
  refine J.callV 0 (st := []) B (c_X8_setLows l G _ (d := 100) hs h0) ml_X8_105 mf_yX8_setLows mi_yX8_setLows rfl dX8_worth_43 rfl rfl rfl rfl (fun v_1 w_2 hp_3 => ?_)
  obtain ⟨so1, lt1, hlt, rfl, rfl⟩ := hp_3
  show J G X mX8_worth _ _ _ 46 _ [.int (nI ((lowF (ltF (rowM ml s) F) (midV (lits (rowM ml s) F 60) - 100) (nts (rowM ml s) 60)).1.length))]
  exact J.iret B dX8_worth_46 rfl (⟨so1, lt1, rfl, rfl⟩)
set_option maxHeartbeats 4000000 in
set_option maxRecDepth 100000 in
theorem c_X8_worth (l : Launch) (G : jG) (r : va_W) {m : Nat} {D : Nat → Nat} {fi : Int32} {as : Int64} {ns : Nat} {ii : Int32} {de : Int64} {dl dp dc : Int32} {nr : Nat} {al wa : Int32} {ml F : Nat → Int32} {so lti : Nat → Int32} {s : Nat} (hs : s < 12) (h0 : 0 < nN (rowM ml s)) {w1 : Nat} (hw : w1 < 4) : Mt l G yX8_worth mX8_worth 3 74 0 0 [.ref m, .int (nI s), .int (nI w1)] ((m, .inr (8, [.int fi, .ref (D 0), .long as, .int (nI ns), .ref (D 1), .ref (D 2), .ref (D 3), .ref (D 4), .ref (D 5), .ref (D 6), .ref (D 7), .ref (D 8), .int ii, .long de, .int dl, .int dp, .int dc, .ref (D 9), .int (nI nr), .ref (D 10), .ref (D 11), .ref (D 12), .ref (D 13), .ref (D 14), .int al, .int wa])) :: (D 3, .inl (G.2.1.1, 720, .inl ml)) :: (D 4, .inl (G.2.1.1, 60, .inl F)) :: (D 6, .inl (G.2.1.1, 60, .inl so)) :: (D 9, .inl (G.2.1.1, 60, .inl lti)) :: r) (fun v w => ∃ so1 lt1, v = some (.int (msV (rowM ml s) F w1)) ∧ w = (m, .inr (8, [.int fi, .ref (D 0), .long as, .int (nI ns), .ref (D 1), .ref (D 2), .ref (D 3), .ref (D 4), .ref (D 5), .ref (D 6), .ref (D 7), .ref (D 8), .int ii, .long de, .int dl, .int dp, .int dc, .ref (D 9), .int (nI nr), .ref (D 10), .ref (D 11), .ref (D 12), .ref (D 13), .ref (D 14), .int al, .int wa])) :: (D 3, .inl (G.2.1.1, 720, .inl ml)) :: (D 4, .inl (G.2.1.1, 60, .inl F)) :: (D 6, .inl (G.2.1.1, 60, .inl so1)) :: (D 9, .inl (G.2.1.1, 60, .inl lt1)) :: r) := by
  match w1, hw with
  | 0, _ => exact X8_worth0 l G r hs h0
  | 1, _ => exact X8_worth1 l G r hs h0
  | 2, _ => exact X8_worth2 l G r hs h0
  | 3, _ => exact X8_worth3 l G r hs h0
set_option maxHeartbeats 4000000 in
set_option maxRecDepth 100000 in
theorem X8_cls_lp {l : Launch} {G : jG} {X : jX} {r : va_W} {m : Nat} {D : Nat → Nat} {fi : Int32} {as : Int64} {ns : Nat} {ii : Int32} {de : Int64} {dl dp dc : Int32} {nr : Nat} {al wa : Int32} {ml F : Nat → Int32} {s : Nat} {wh rlo rhi rcl : Nat → Int32} {RL : List rR} (B : jB l G X 4 96 0 0 (fun v w => ∃ so1 lt1, v = some (.int (clsR (msV (rowM ml s) F) RL)) ∧ w = (m, .inr (8, [.int fi, .ref (D 0), .long as, .int (nI ns), .ref (D 1), .ref (D 2), .ref (D 3), .ref (D 4), .ref (D 5), .ref (D 6), .ref (D 7), .ref (D 8), .int ii, .long de, .int dl, .int dp, .int dc, .ref (D 9), .int (nI nr), .ref (D 10), .ref (D 11), .ref (D 12), .ref (D 13), .ref (D 14), .int al, .int wa])) :: (D 3, .inl (G.2.1.1, 720, .inl ml)) :: (D 4, .inl (G.2.1.1, 60, .inl F)) :: (D 6, .inl (G.2.1.1, 60, .inl so1)) :: (D 9, .inl (G.2.1.1, 60, .inl lt1)) :: (D 10, .inl (G.2.1.1, 10, .inl wh)) :: (D 11, .inl (G.2.1.1, 10, .inl rlo)) :: (D 12, .inl (G.2.1.1, 10, .inl rhi)) :: (D 13, .inl (G.2.1.1, 10, .inl rcl)) :: r) "classIs") (i : Nat) (so lti : Nat → Int32) (hlen : RL.length = nr) (hnr : nr ≤ 10) (hR : RLok RL wh rlo rhi rcl) (hs : s < 12) (h0 : 0 < nN (rowM ml s)) (hi : i ≤ nr) (hcl : clsR (msV (rowM ml s) F) (RL.drop i) = clsR (msV (rowM ml s) F) RL) : J G X mX8_classIs ((m, .inr (8, [.int fi, .ref (D 0), .long as, .int (nI ns), .ref (D 1), .ref (D 2), .ref (D 3), .ref (D 4), .ref (D 5), .ref (D 6), .ref (D 7), .ref (D 8), .int ii, .long de, .int dl, .int dp, .int dc, .ref (D 9), .int (nI nr), .ref (D 10), .ref (D 11), .ref (D 12), .ref (D 13), .ref (D 14), .int al, .int wa])) :: (D 3, .inl (G.2.1.1, 720, .inl ml)) :: (D 4, .inl (G.2.1.1, 60, .inl F)) :: (D 6, .inl (G.2.1.1, 60, .inl so)) :: (D 9, .inl (G.2.1.1, 60, .inl lti)) :: (D 10, .inl (G.2.1.1, 10, .inl wh)) :: (D 11, .inl (G.2.1.1, 10, .inl rlo)) :: (D 12, .inl (G.2.1.1, 10, .inl rhi)) :: (D 13, .inl (G.2.1.1, 10, .inl rcl)) :: r) 0 0 2 [(0, .ref m), (1, .int (nI s)), (2, .int (nI i))] [] := by
  refine J.iload_n 2 dX8_classIs_2 rfl ?_
  refine J.aload_n 0 dX8_classIs_3 rfl ?_
  refine J.get 0 fl_X8_172 dX8_classIs_4 rfl rfl ?_
  refine J.icmp_ge dX8_classIs_7 (fun h9 => ?_) (fun h9 => ?_)
  · skip
    have h9 : nr ≤ i := (nI_leI (a := nr) (b := i) (by omega) (by omega)).mp h9
    rw [List.drop_eq_nil_of_le (by omega)] at hcl
    refine J.bipush (-9 : Int32) dX8_classIs_52 rfl ?_
    exact J.iret B dX8_classIs_54 rfl (⟨so, lti, by rw [← hcl]; rfl, rfl⟩)
  · skip
    have h9 : ¬ nr ≤ i := fun z => h9 ((nI_leI (a := nr) (b := i) (by omega) (by omega)).mpr z)
    have h9 : i < RL.length := by omega
    obtain ⟨g1, g2, g3, g4, g5⟩ := hR i h9
    refine J.aload_n 0 dX8_classIs_10 rfl ?_
    refine J.iload_n 1 dX8_classIs_11 rfl ?_
    refine J.aload_n 0 dX8_classIs_12 rfl ?_
    refine J.get 0 fl_X8_51 dX8_classIs_13 rfl rfl ?_
    refine J.iload_n 2 dX8_classIs_16 rfl ?_
    refine J.iald 5 (i) dX8_classIs_17 rfl (rfl) (by omega) (by decide) ?_
    refine J.topi (y := nI ((rD RL i).1)) (g1) ?_
    refine J.callV 0 (st := []) B (c_X8_worth l G _ hs h0 g5) ml_X8_175 mf_yX8_worth mi_yX8_worth rfl dX8_classIs_18 rfl rfl rfl rfl (fun v_1 w_2 hp_3 => ?_)
    obtain ⟨so1, lt1, rfl, rfl⟩ := hp_3
    show J G X mX8_classIs _ _ _ 21 _ [.int (msV (rowM ml s) F (rD RL i).1)]
    refine J.aload_n 0 dX8_classIs_21 rfl ?_
    refine J.get 0 fl_X8_54 dX8_classIs_22 rfl rfl ?_
    refine J.iload_n 2 dX8_classIs_25 rfl ?_
    refine J.iald 6 (i) dX8_classIs_26 rfl (rfl) (by omega) (by decide) ?_
    refine J.topi (y := (rD RL i).2.1) (g2) ?_
    refine J.aload_n 0 dX8_classIs_27 rfl ?_
    refine J.get 0 fl_X8_57 dX8_classIs_28 rfl rfl ?_
    refine J.iload_n 2 dX8_classIs_31 rfl ?_
    refine J.iald 7 (i) dX8_classIs_32 rfl (rfl) (by omega) (by decide) ?_
    refine J.topi (y := (rD RL i).2.2.1) (g3) ?_
    refine J.callS (st := []) B (c_X8_in l G _ (v := msV (rowM ml s) F (rD RL i).1) (lo := (rD RL i).2.1) (hi := (rD RL i).2.2.1) rfl rfl) ml_X8_76 mf_yX8_in mS_yX8_in dX8_classIs_33 rfl rfl rfl (fun v_4 w_5 hp_6 => ?_)
    obtain ⟨rfl, rfl⟩ := hp_6
    rw [fitR_in]
    show J G X mX8_classIs _ _ _ 36 _ [.int (b01 (fitR (msV (rowM ml s) F) (rD RL i)))]
    refine J.if_eq dX8_classIs_36 (fun h8 => ?_) (fun h8 => ?_)
    · skip
      have hft := b01_0 h8
      refine J.iinc 2 [1, 2, 0] (lv' := [(0, .ref m), (1, .int (nI s)), (2, .int (nI (i + 1)))]) dX8_classIs_46 rfl (jinc1 _) rfl rfl ?_
      refine J.goto dX8_classIs_49 ?_
      rw [drop_rD h9, clsR_no hft] at hcl
      exact X8_cls_lp B (i + 1) so1 lt1 hlen hnr hR hs h0 (by omega) hcl
    · skip
      have hft := b01_1 h8
      refine J.aload_n 0 dX8_classIs_39 rfl ?_
      refine J.get 0 fl_X8_60 dX8_classIs_40 rfl rfl ?_
      refine J.iload_n 2 dX8_classIs_43 rfl ?_
      refine J.iald 8 (i) dX8_classIs_44 rfl (rfl) (by omega) (by decide) ?_
      refine J.topi (y := (rD RL i).2.2.2) (g4) ?_
      exact J.iret B dX8_classIs_45 rfl (⟨so1, lt1, by rw [drop_rD h9, clsR_yes hft] at hcl; rw [hcl], rfl⟩)
termination_by nr - i
decreasing_by all_goals omega
set_option maxHeartbeats 4000000 in
set_option maxRecDepth 100000 in
theorem c_X8_classIs (l : Launch) (G : jG) (r : va_W) {m : Nat} {D : Nat → Nat} {fi : Int32} {as : Int64} {ns : Nat} {ii : Int32} {de : Int64} {dl dp dc : Int32} {nr : Nat} {al wa : Int32} {ml F : Nat → Int32} {s : Nat} {wh rlo rhi rcl : Nat → Int32} {RL : List rR} {so lti : Nat → Int32} (hlen : RL.length = nr) (hnr : nr ≤ 10) (hR : RLok RL wh rlo rhi rcl) (hs : s < 12) (h0 : 0 < nN (rowM ml s)) : Mt l G yX8_classIs mX8_classIs 4 96 0 0 [.ref m, .int (nI s)] ((m, .inr (8, [.int fi, .ref (D 0), .long as, .int (nI ns), .ref (D 1), .ref (D 2), .ref (D 3), .ref (D 4), .ref (D 5), .ref (D 6), .ref (D 7), .ref (D 8), .int ii, .long de, .int dl, .int dp, .int dc, .ref (D 9), .int (nI nr), .ref (D 10), .ref (D 11), .ref (D 12), .ref (D 13), .ref (D 14), .int al, .int wa])) :: (D 3, .inl (G.2.1.1, 720, .inl ml)) :: (D 4, .inl (G.2.1.1, 60, .inl F)) :: (D 6, .inl (G.2.1.1, 60, .inl so)) :: (D 9, .inl (G.2.1.1, 60, .inl lti)) :: (D 10, .inl (G.2.1.1, 10, .inl wh)) :: (D 11, .inl (G.2.1.1, 10, .inl rlo)) :: (D 12, .inl (G.2.1.1, 10, .inl rhi)) :: (D 13, .inl (G.2.1.1, 10, .inl rcl)) :: r) (fun v w => ∃ so1 lt1, v = some (.int (clsR (msV (rowM ml s) F) RL)) ∧ w = (m, .inr (8, [.int fi, .ref (D 0), .long as, .int (nI ns), .ref (D 1), .ref (D 2), .ref (D 3), .ref (D 4), .ref (D 5), .ref (D 6), .ref (D 7), .ref (D 8), .int ii, .long de, .int dl, .int dp, .int dc, .ref (D 9), .int (nI nr), .ref (D 10), .ref (D 11), .ref (D 12), .ref (D 13), .ref (D 14), .int al, .int wa])) :: (D 3, .inl (G.2.1.1, 720, .inl ml)) :: (D 4, .inl (G.2.1.1, 60, .inl F)) :: (D 6, .inl (G.2.1.1, 60, .inl so1)) :: (D 9, .inl (G.2.1.1, 60, .inl lt1)) :: (D 10, .inl (G.2.1.1, 10, .inl wh)) :: (D 11, .inl (G.2.1.1, 10, .inl rlo)) :: (D 12, .inl (G.2.1.1, 10, .inl rhi)) :: (D 13, .inl (G.2.1.1, 10, .inl rcl)) :: r) := by
  refine Mt.of (by decide +kernel) rfl rfl (fun X B => ?_)
  show J G X mX8_classIs ((m, .inr (8, [.int fi, .ref (D 0), .long as, .int (nI ns), .ref (D 1), .ref (D 2), .ref (D 3), .ref (D 4), .ref (D 5), .ref (D 6), .ref (D 7), .ref (D 8), .int ii, .long de, .int dl, .int dp, .int dc, .ref (D 9), .int (nI nr), .ref (D 10), .ref (D 11), .ref (D 12), .ref (D 13), .ref (D 14), .int al, .int wa])) :: (D 3, .inl (G.2.1.1, 720, .inl ml)) :: (D 4, .inl (G.2.1.1, 60, .inl F)) :: (D 6, .inl (G.2.1.1, 60, .inl so)) :: (D 9, .inl (G.2.1.1, 60, .inl lti)) :: (D 10, .inl (G.2.1.1, 10, .inl wh)) :: (D 11, .inl (G.2.1.1, 10, .inl rlo)) :: (D 12, .inl (G.2.1.1, 10, .inl rhi)) :: (D 13, .inl (G.2.1.1, 10, .inl rcl)) :: r) 0 0 0 [(0, .ref m), (1, .int (nI s))] []
  refine J.iconst (0 : Int32) dX8_classIs_0 rfl ?_
  refine J.istore_n [1, 2, 0] (lv' := [(0, .ref m), (1, .int (nI s)), (2, .int (0 : Int32))]) dX8_classIs_1 rfl rfl ?_
  exact X8_cls_lp B 0 so lti hlen hnr hR hs h0 (by omega) rfl
