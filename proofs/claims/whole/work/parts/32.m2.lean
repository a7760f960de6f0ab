set_option maxHeartbeats 4000000 in
set_option maxRecDepth 100000 in
theorem c_X8_looked_bad (l : Launch) (G : jG) (r : va_W) {m : Nat} {D : Nat → Nat} {fi : Int32} {as : Int64} {ns : Nat} {ii : Int32} {de : Int64} {dl dp dc : Int32} {nr : Nat} {al wa : Int32} {rr : Nat → Int32} {num : Int32} (hns : ns ≤ 12) (hnum : inR num 0 ((ns : Int) - 1) = false) : Mt l G yX8_looked mX8_looked 2 43 0 0 [.ref m, .int num] ((m, .inr (8, [.int fi, .ref (D 0), .long as, .int (nI ns), .ref (D 1), .ref (D 2), .ref (D 3), .ref (D 4), .ref (D 5), .ref (D 6), .ref (D 7), .ref (D 8), .int ii, .long de, .int dl, .int dp, .int dc, .ref (D 9), .int (nI nr), .ref (D 10), .ref (D 11), .ref (D 12), .ref (D 13), .ref (D 14), .int al, .int wa])) :: (D 2, .inl (G.2.1.2.1, 12, .inl rr)) :: r) (fun v w => v = some (.int (-1 : Int32)) ∧ w = (m, .inr (8, [.int fi, .ref (D 0), .long as, .int (nI ns), .ref (D 1), .ref (D 2), .ref (D 3), .ref (D 4), .ref (D 5), .ref (D 6), .ref (D 7), .ref (D 8), .int ii, .long de, .int dl, .int dp, .int dc, .ref (D 9), .int (nI nr), .ref (D 10), .ref (D 11), .ref (D 12), .ref (D 13), .ref (D 14), .int al, .int wa])) :: (D 2, .inl (G.2.1.2.1, 12, .inl rr)) :: r) := by
  refine Mt.of (by decide +kernel) rfl rfl (fun X B => ?_)
  show J G X mX8_looked ((m, .inr (8, [.int fi, .ref (D 0), .long as, .int (nI ns), .ref (D 1), .ref (D 2), .ref (D 3), .ref (D 4), .ref (D 5), .ref (D 6), .ref (D 7), .ref (D 8), .int ii, .long de, .int dl, .int dp, .int dc, .ref (D 9), .int (nI nr), .ref (D 10), .ref (D 11), .ref (D 12), .ref (D 13), .ref (D 14), .int al, .int wa])) :: (D 2, .inl (G.2.1.2.1, 12, .inl rr)) :: r) 0 0 0 [(0, .ref m), (1, .int num)] []
  refine J.aload_n 0 dX8_looked_0 rfl ?_
  refine J.iload_n 1 dX8_looked_1 rfl ?_
  refine J.callV 0 (st := []) B (c_X8_isStar l G _ (num := num) hns) ml_X8_80 mf_yX8_isStar mi_yX8_isStar rfl dX8_looked_2 rfl rfl rfl rfl (fun v_1 w_2 hp_3 => ?_)
  obtain ⟨rfl, rfl⟩ := hp_3
  show J G X mX8_looked _ _ _ 5 _ [.int (b01 (inR num 0 ((ns : Int) - 1)))]
  refine J.if_ne dX8_looked_5 (fun z => absurd (by rw [hnum]; rfl) z) (fun h9 => ?_)
  refine J.iconst (-1 : Int32) dX8_looked_8 rfl ?_
  refine J.goto dX8_looked_9 ?_
  exact J.iret B dX8_looked_30 rfl (⟨rfl, rfl⟩)
set_option maxHeartbeats 4000000 in
set_option maxRecDepth 100000 in
theorem c_X8_looked_no (l : Launch) (G : jG) (r : va_W) {m : Nat} {D : Nat → Nat} {fi : Int32} {as : Int64} {ns : Nat} {ii : Int32} {de : Int64} {dl dp dc : Int32} {nr : Nat} {al wa : Int32} {rr : Nat → Int32} {k : Nat} (hk : k < ns) (hns : ns ≤ 12) {fc : Nat → Int32} (hr : rr k = 0) : Mt l G yX8_looked mX8_looked 2 43 0 0 [.ref m, .int (nI k)] ((m, .inr (8, [.int fi, .ref (D 0), .long as, .int (nI ns), .ref (D 1), .ref (D 2), .ref (D 3), .ref (D 4), .ref (D 5), .ref (D 6), .ref (D 7), .ref (D 8), .int ii, .long de, .int dl, .int dp, .int dc, .ref (D 9), .int (nI nr), .ref (D 10), .ref (D 11), .ref (D 12), .ref (D 13), .ref (D 14), .int al, .int wa])) :: (D 2, .inl (G.2.1.2.1, 12, .inl rr)) :: (D 0, .inl (G.2.1.1, 6, .inl fc)) :: r) (fun v w => v = some (.int (-3 : Int32)) ∧ w = (m, .inr (8, [.int (nI 1), .ref (D 0), .long as, .int (nI ns), .ref (D 1), .ref (D 2), .ref (D 3), .ref (D 4), .ref (D 5), .ref (D 6), .ref (D 7), .ref (D 8), .int ii, .long de, .int dl, .int dp, .int dc, .ref (D 9), .int (nI nr), .ref (D 10), .ref (D 11), .ref (D 12), .ref (D 13), .ref (D 14), .int al, .int wa])) :: (D 2, .inl (G.2.1.2.1, 12, .inl rr)) :: (D 0, .inl (G.2.1.1, 6, .inl (upd fc 1 (fc 1 + 1)))) :: r) := by
  refine Mt.of (by decide +kernel) rfl rfl (fun X B => ?_)
  show J G X mX8_looked ((m, .inr (8, [.int fi, .ref (D 0), .long as, .int (nI ns), .ref (D 1), .ref (D 2), .ref (D 3), .ref (D 4), .ref (D 5), .ref (D 6), .ref (D 7), .ref (D 8), .int ii, .long de, .int dl, .int dp, .int dc, .ref (D 9), .int (nI nr), .ref (D 10), .ref (D 11), .ref (D 12), .ref (D 13), .ref (D 14), .int al, .int wa])) :: (D 2, .inl (G.2.1.2.1, 12, .inl rr)) :: (D 0, .inl (G.2.1.1, 6, .inl fc)) :: r) 0 0 0 [(0, .ref m), (1, .int (nI k))] []
  have hin : inR (nI k) 0 ((ns : Int) - 1) = true := by rw [nI_inR (by omega)]; exact decide_eq_true ⟨by omega, by omega⟩
  refine J.aload_n 0 dX8_looked_0 rfl ?_
  refine J.iload_n 1 dX8_looked_1 rfl ?_
  refine J.callV 0 (st := []) B (c_X8_isStar l G _ (num := nI k) hns) ml_X8_80 mf_yX8_isStar mi_yX8_isStar rfl dX8_looked_2 rfl rfl rfl rfl (fun v_1 w_2 hp_3 => ?_)
  obtain ⟨rfl, rfl⟩ := hp_3
  show J G X mX8_looked _ _ _ 5 _ [.int (b01 (inR (nI k) 0 ((ns : Int) - 1)))]
  refine J.if_ne dX8_looked_5 (fun h9 => ?_) (fun z => absurd z (by rw [hin]; decide))
  refine J.aload_n 0 dX8_looked_12 rfl ?_
  refine J.get 0 fl_X8_16 dX8_looked_13 rfl rfl ?_
  refine J.iload_n 1 dX8_looked_16 rfl ?_
  refine J.zald 1 (k) dX8_looked_17 rfl (rfl) (by omega) (by decide) ?_
  refine J.if_eq dX8_looked_18 (fun h9 => ?_) (fun z => absurd (hr) z)
  refine J.aload_n 0 dX8_looked_25 rfl ?_
  refine J.iconst (1 : Int32) dX8_looked_26 rfl ?_
  refine J.re [0, 2, 1] 3 (ws2 := (m, .inr (8, [.int fi, .ref (D 0), .long as, .int (nI ns), .ref (D 1), .ref (D 2), .ref (D 3), .ref (D 4), .ref (D 5), .ref (D 6), .ref (D 7), .ref (D 8), .int ii, .long de, .int dl, .int dp, .int dc, .ref (D 9), .int (nI nr), .ref (D 10), .ref (D 11), .ref (D 12), .ref (D 13), .ref (D 14), .int al, .int wa])) :: (D 0, .inl (G.2.1.1, 6, .inl fc)) :: (D 2, .inl (G.2.1.2.1, 12, .inl rr)) :: r) rfl rfl ?_
  refine J.callV 0 (st := []) B (c_X8_meets l G _ (c := 1) (by decide)) ml_X8_95 mf_yX8_meets mi_yX8_meets rfl dX8_looked_27 rfl rfl rfl rfl (fun v_4 w_5 hp_6 => ?_)
  obtain ⟨rfl, rfl⟩ := hp_6
  refine J.re [0, 2, 1] 3 (ws2 := (m, .inr (8, [.int (nI 1), .ref (D 0), .long as, .int (nI ns), .ref (D 1), .ref (D 2), .ref (D 3), .ref (D 4), .ref (D 5), .ref (D 6), .ref (D 7), .ref (D 8), .int ii, .long de, .int dl, .int dp, .int dc, .ref (D 9), .int (nI nr), .ref (D 10), .ref (D 11), .ref (D 12), .ref (D 13), .ref (D 14), .int al, .int wa])) :: (D 2, .inl (G.2.1.2.1, 12, .inl rr)) :: (D 0, .inl (G.2.1.1, 6, .inl (upd fc 1 (fc 1 + 1)))) :: r) rfl rfl ?_
  show J G X mX8_looked _ _ _ 30 _ [.int (-3 : Int32)]
  exact J.iret B dX8_looked_30 rfl (⟨rfl, rfl⟩)
set_option maxHeartbeats 4000000 in
set_option maxRecDepth 100000 in
theorem c_X8_looked (l : Launch) (G : jG) (r : va_W) {m : Nat} {D : Nat → Nat} {fi : Int32} {as : Int64} {ns : Nat} {ii : Int32} {de : Int64} {dl dp dc : Int32} {nr : Nat} {al wa : Int32} {rr : Nat → Int32} {k : Nat} (hk : k < ns) (hns : ns ≤ 12) (hr : ¬ rr k = 0) : Mt l G yX8_looked mX8_looked 2 43 0 0 [.ref m, .int (nI k)] ((m, .inr (8, [.int fi, .ref (D 0), .long as, .int (nI ns), .ref (D 1), .ref (D 2), .ref (D 3), .ref (D 4), .ref (D 5), .ref (D 6), .ref (D 7), .ref (D 8), .int ii, .long de, .int dl, .int dp, .int dc, .ref (D 9), .int (nI nr), .ref (D 10), .ref (D 11), .ref (D 12), .ref (D 13), .ref (D 14), .int al, .int wa])) :: (D 2, .inl (G.2.1.2.1, 12, .inl rr)) :: r) (fun v w => v = some (.int (0 : Int32)) ∧ w = (m, .inr (8, [.int fi, .ref (D 0), .long as, .int (nI ns), .ref (D 1), .ref (D 2), .ref (D 3), .ref (D 4), .ref (D 5), .ref (D 6), .ref (D 7), .ref (D 8), .int ii, .long de, .int dl, .int dp, .int dc, .ref (D 9), .int (nI nr), .ref (D 10), .ref (D 11), .ref (D 12), .ref (D 13), .ref (D 14), .int al, .int wa])) :: (D 2, .inl (G.2.1.2.1, 12, .inl rr)) :: r) := by
  refine Mt.of (by decide +kernel) rfl rfl (fun X B => ?_)
  show J G X mX8_looked ((m, .inr (8, [.int fi, .ref (D 0), .long as, .int (nI ns), .ref (D 1), .ref (D 2), .ref (D 3), .ref (D 4), .ref (D 5), .ref (D 6), .ref (D 7), .ref (D 8), .int ii, .long de, .int dl, .int dp, .int dc, .ref (D 9), .int (nI nr), .ref (D 10), .ref (D 11), .ref (D 12), .ref (D 13), .ref (D 14), .int al, .int wa])) :: (D 2, .inl (G.2.1.2.1, 12, .inl rr)) :: r) 0 0 0 [(0, .ref m), (1, .int (nI k))] []
  have hin : inR (nI k) 0 ((ns : Int) - 1) = true := by rw [nI_inR (by omega)]; exact decide_eq_true ⟨by omega, by omega⟩
  refine J.aload_n 0 dX8_looked_0 rfl ?_
  refine J.iload_n 1 dX8_looked_1 rfl ?_
  refine J.callV 0 (st := []) B (c_X8_isStar l G _ (num := nI k) hns) ml_X8_80 mf_yX8_isStar mi_yX8_isStar rfl dX8_looked_2 rfl rfl rfl rfl (fun v_1 w_2 hp_3 => ?_)
  obtain ⟨rfl, rfl⟩ := hp_3
  show J G X mX8_looked _ _ _ 5 _ [.int (b01 (inR (nI k) 0 ((ns : Int) - 1)))]
  refine J.if_ne dX8_looked_5 (fun h9 => ?_) (fun z => absurd z (by rw [hin]; decide))
  refine J.aload_n 0 dX8_looked_12 rfl ?_
  refine J.get 0 fl_X8_16 dX8_looked_13 rfl rfl ?_
  refine J.iload_n 1 dX8_looked_16 rfl ?_
  refine J.zald 1 (k) dX8_looked_17 rfl (rfl) (by omega) (by decide) ?_
  refine J.if_eq dX8_looked_18 (fun z => absurd z (hr)) (fun h9 => ?_)
  refine J.iconst (0 : Int32) dX8_looked_21 rfl ?_
  refine J.goto dX8_looked_22 ?_
  exact J.iret B dX8_looked_30 rfl (⟨rfl, rfl⟩)
set_option maxHeartbeats 4000000 in
set_option maxRecDepth 100000 in
theorem X8_sort_lp {l : Launch} {G : jG} {X : jX} {r : va_W} {m : Nat} {D : Nat → Nat} {fi : Int32} {as : Int64} {ns : Nat} {ii : Int32} {de : Int64} {dl dp dc : Int32} {nr : Nat} {al wa : Int32} {n : Nat} {v0 : Int32} {f0 : Nat → Int32} (B : jB l G X 0 0 0 0 (fun v w => v = some (.int (nI (n + 1))) ∧ w = (m, .inr (8, [.int fi, .ref (D 0), .long as, .int (nI ns), .ref (D 1), .ref (D 2), .ref (D 3), .ref (D 4), .ref (D 5), .ref (D 6), .ref (D 7), .ref (D 8), .int ii, .long de, .int dl, .int dp, .int dc, .ref (D 9), .int (nI nr), .ref (D 10), .ref (D 11), .ref (D 12), .ref (D 13), .ref (D 14), .int al, .int wa])) :: (D 6, .inl (G.2.1.1, 60, .inl (insA f0 v0 n))) :: r) "sort") (hs : n < 60) : ∀ (pl : Nat) (f : Nat → Int32), pl ≤ n → insA f v0 pl = insA f0 v0 n → J G X mX8_sort ((m, .inr (8, [.int fi, .ref (D 0), .long as, .int (nI ns), .ref (D 1), .ref (D 2), .ref (D 3), .ref (D 4), .ref (D 5), .ref (D 6), .ref (D 7), .ref (D 8), .int ii, .long de, .int dl, .int dp, .int dc, .ref (D 9), .int (nI nr), .ref (D 10), .ref (D 11), .ref (D 12), .ref (D 13), .ref (D 14), .int al, .int wa])) :: (D 6, .inl (G.2.1.1, 60, .inl f)) :: r) 0 0 2 [(0, .ref m), (1, .int (nI n)), (2, .int v0), (3, .int (nI pl))] [] := by
  intro pl
  induction pl with
  | zero =>
    intro f hp hf
    refine J.iload_n 3 dX8_sort_2 rfl ?_
    refine J.if_le dX8_sort_3 (fun h_1 => ?_) (fun z => absurd (by decide) z)
    refine J.aload_n 0 dX8_sort_38 rfl ?_
    refine J.get 0 fl_X8_29 dX8_sort_39 rfl rfl ?_
    refine J.iload_n 3 dX8_sort_42 rfl ?_
    refine J.iload_n 2 dX8_sort_43 rfl ?_
    refine J.iast 1 (0) dX8_sort_44 rfl (rfl) (by omega) (by decide) (ws' := (m, .inr (8, [.int fi, .ref (D 0), .long as, .int (nI ns), .ref (D 1), .ref (D 2), .ref (D 3), .ref (D 4), .ref (D 5), .ref (D 6), .ref (D 7), .ref (D 8), .int ii, .long de, .int dl, .int dp, .int dc, .ref (D 9), .int (nI nr), .ref (D 10), .ref (D 11), .ref (D 12), .ref (D 13), .ref (D 14), .int al, .int wa])) :: (D 6, .inl (G.2.1.1, 60, .inl (upd f 0 v0))) :: r) rfl ?_
    refine J.iload_n 1 dX8_sort_45 rfl ?_
    refine J.iconst (1 : Int32) dX8_sort_46 rfl ?_
    refine J.iadd dX8_sort_47 ?_
    refine J.topi (y := nI (n + 1)) (nI_add n 1) ?_
    exact J.iret B dX8_sort_48 rfl (⟨rfl, by rw [← hf]; rfl⟩)
  | succ pl ih =>
    intro f hp hf
    refine J.iload_n 3 dX8_sort_2 rfl ?_
    refine J.if_le dX8_sort_3 (fun z => absurd z (nI_nle (by omega) (by omega))) (fun h_1 => ?_)
    refine J.aload_n 0 dX8_sort_6 rfl ?_
    refine J.get 0 fl_X8_29 dX8_sort_7 rfl rfl ?_
    refine J.iload_n 3 dX8_sort_10 rfl ?_
    refine J.iconst (1 : Int32) dX8_sort_11 rfl ?_
    refine J.isub dX8_sort_12 ?_
    refine J.topi (y := nI pl) (pk_sub (a := pl + 1) (b := 1) (by omega)) ?_
    refine J.iald 1 (pl) dX8_sort_13 rfl (rfl) (by omega) (by decide) ?_
    refine J.iload_n 2 dX8_sort_14 rfl ?_
    refine J.icmp_le dX8_sort_15 (fun h9 => ?_) (fun h9 => ?_)
    · skip
      refine J.aload_n 0 dX8_sort_38 rfl ?_
      refine J.get 0 fl_X8_29 dX8_sort_39 rfl rfl ?_
      refine J.iload_n 3 dX8_sort_42 rfl ?_
      refine J.iload_n 2 dX8_sort_43 rfl ?_
      refine J.iast 1 (pl + 1) dX8_sort_44 rfl (rfl) (by omega) (by decide) (ws' := (m, .inr (8, [.int fi, .ref (D 0), .long as, .int (nI ns), .ref (D 1), .ref (D 2), .ref (D 3), .ref (D 4), .ref (D 5), .ref (D 6), .ref (D 7), .ref (D 8), .int ii, .long de, .int dl, .int dp, .int dc, .ref (D 9), .int (nI nr), .ref (D 10), .ref (D 11), .ref (D 12), .ref (D 13), .ref (D 14), .int al, .int wa])) :: (D 6, .inl (G.2.1.1, 60, .inl (upd f (pl + 1) v0))) :: r) rfl ?_
      refine J.iload_n 1 dX8_sort_45 rfl ?_
      refine J.iconst (1 : Int32) dX8_sort_46 rfl ?_
      refine J.iadd dX8_sort_47 ?_
      refine J.topi (y := nI (n + 1)) (nI_add n 1) ?_
      exact J.iret B dX8_sort_48 rfl (⟨rfl, by rw [← hf, insA, if_pos h9]⟩)
    · skip
      refine J.aload_n 0 dX8_sort_18 rfl ?_
      refine J.get 0 fl_X8_29 dX8_sort_19 rfl rfl ?_
      refine J.iload_n 3 dX8_sort_22 rfl ?_
      refine J.aload_n 0 dX8_sort_23 rfl ?_
      refine J.get 0 fl_X8_29 dX8_sort_24 rfl rfl ?_
      refine J.iload_n 3 dX8_sort_27 rfl ?_
      refine J.iconst (1 : Int32) dX8_sort_28 rfl ?_
      refine J.isub dX8_sort_29 ?_
      refine J.topi (y := nI pl) (pk_sub (a := pl + 1) (b := 1) (by omega)) ?_
      refine J.iald 1 (pl) dX8_sort_30 rfl (rfl) (by omega) (by decide) ?_
      refine J.iast 1 (pl + 1) dX8_sort_31 rfl (rfl) (by omega) (by decide) (ws' := (m, .inr (8, [.int fi, .ref (D 0), .long as, .int (nI ns), .ref (D 1), .ref (D 2), .ref (D 3), .ref (D 4), .ref (D 5), .ref (D 6), .ref (D 7), .ref (D 8), .int ii, .long de, .int dl, .int dp, .int dc, .ref (D 9), .int (nI nr), .ref (D 10), .ref (D 11), .ref (D 12), .ref (D 13), .ref (D 14), .int al, .int wa])) :: (D 6, .inl (G.2.1.1, 60, .inl (upd f (pl + 1) (f pl)))) :: r) rfl ?_
      refine J.iinc 3 [1, 2, 3, 0] (lv' := [(0, .ref m), (1, .int (nI n)), (2, .int v0), (3, .int (nI pl))]) dX8_sort_32 rfl (jdec1 _) rfl rfl ?_
      refine J.goto dX8_sort_35 ?_
      exact ih _ (by omega) (by rw [← hf, insA, if_neg h9])
set_option maxHeartbeats 4000000 in
set_option maxRecDepth 100000 in
theorem c_X8_sort (l : Launch) (G : jG) (r : va_W) {m : Nat} {D : Nat → Nat} {fi : Int32} {as : Int64} {ns : Nat} {ii : Int32} {de : Int64} {dl dp dc : Int32} {nr : Nat} {al wa : Int32} {n : Nat} {f0 : Nat → Int32} {v0 : Int32} (hs : n < 60) : Mt l G yX8_sort mX8_sort 0 0 0 0 [.ref m, .int (nI n), .int v0] ((m, .inr (8, [.int fi, .ref (D 0), .long as, .int (nI ns), .ref (D 1), .ref (D 2), .ref (D 3), .ref (D 4), .ref (D 5), .ref (D 6), .ref (D 7), .ref (D 8), .int ii, .long de, .int dl, .int dp, .int dc, .ref (D 9), .int (nI nr), .ref (D 10), .ref (D 11), .ref (D 12), .ref (D 13), .ref (D 14), .int al, .int wa])) :: (D 6, .inl (G.2.1.1, 60, .inl f0)) :: r) (fun v w => v = some (.int (nI (n + 1))) ∧ w = (m, .inr (8, [.int fi, .ref (D 0), .long as, .int (nI ns), .ref (D 1), .ref (D 2), .ref (D 3), .ref (D 4), .ref (D 5), .ref (D 6), .ref (D 7), .ref (D 8), .int ii, .long de, .int dl, .int dp, .int dc, .ref (D 9), .int (nI nr), .ref (D 10), .ref (D 11), .ref (D 12), .ref (D 13), .ref (D 14), .int al, .int wa])) :: (D 6, .inl (G.2.1.1, 60, .inl (insA f0 v0 n))) :: r) := by
  refine Mt.of (by decide +kernel) rfl rfl (fun X B => ?_)
  show J G X mX8_sort ((m, .inr (8, [.int fi, .ref (D 0), .long as, .int (nI ns), .ref (D 1), .ref (D 2), .ref (D 3), .ref (D 4), .ref (D 5), .ref (D 6), .ref (D 7), .ref (D 8), .int ii, .long de, .int dl, .int dp, .int dc, .ref (D 9), .int (nI nr), .ref (D 10), .ref (D 11), .ref (D 12), .ref (D 13), .ref (D 14), .int al, .int wa])) :: (D 6, .inl (G.2.1.1, 60, .inl f0)) :: r) 0 0 0 [(0, .ref m), (1, .int (nI n)), (2, .int v0)] []
  refine J.iload_n 1 dX8_sort_0 rfl ?_
  refine J.istore_n [1, 2, 3, 0] (lv' := [(0, .ref m), (1, .int (nI n)), (2, .int v0), (3, .int (nI n))]) dX8_sort_1 rfl rfl ?_
  exact X8_sort_lp B hs n f0 (Nat.le_refl _) rfl
set_option maxHeartbeats 4000000 in
set_option maxRecDepth 100000 in
theorem X8_middle0_lp {l : Launch} {G : jG} {X : jX} {r : va_W} {m : Nat} {D : Nat → Nat} {fi : Int32} {as : Int64} {ns : Nat} {ii : Int32} {de : Int64} {dl dp dc : Int32} {nr : Nat} {al wa : Int32} {ml F : Nat → Int32} {s : Nat} (B : jB l G X 1 23 0 0 (fun v w => ∃ so1, v = some (.int (midV (lits (rowM ml s) F 60))) ∧ w = (m, .inr (8, [.int fi, .ref (D 0), .long as, .int (nI ns), .ref (D 1), .ref (D 2), .ref (D 3), .ref (D 4), .ref (D 5), .ref (D 6), .ref (D 7), .ref (D 8), .int ii, .long de, .int dl, .int dp, .int dc, .ref (D 9), .int (nI nr), .ref (D 10), .ref (D 11), .ref (D 12), .ref (D 13), .ref (D 14), .int al, .int wa])) :: (D 3, .inl (G.2.1.1, 720, .inl ml)) :: (D 6, .inl (G.2.1.1, 60, .inl so1)) :: (D 4, .inl (G.2.1.1, 60, .inl F)) :: r) "middle") (k : Nat) (so : Nat → Int32) (hs : s < 12) (hk : k ≤ 60) (h0 : 0 < nN (rowM ml s)) (hA : AG so (bsz (lits (rowM ml s) F k))) : J G X mX8_middle ((m, .inr (8, [.int fi, .ref (D 0), .long as, .int (nI ns), .ref (D 1), .ref (D 2), .ref (D 3), .ref (D 4), .ref (D 5), .ref (D 6), .ref (D 7), .ref (D 8), .int ii, .long de, .int dl, .int dp, .int dc, .ref (D 9), .int (nI nr), .ref (D 10), .ref (D 11), .ref (D 12), .ref (D 13), .ref (D 14), .int al, .int wa])) :: (D 3, .inl (G.2.1.1, 720, .inl ml)) :: (D 6, .inl (G.2.1.1, 60, .inl so)) :: (D 4, .inl (G.2.1.1, 60, .inl F)) :: r) 0 0 5 [(0, .ref m), (1, .int (nI s)), (2, .int (0 : Int32)), (3, .int (nI ((nts (rowM ml s) k).length))), (4, .int (nI k))] [] := by
  have hn2 := nts_le (rowM ml s) k
  refine J.iload 4 dX8_middle_5 rfl ?_
  refine J.bipush (60 : Int32) dX8_middle_7 rfl ?_
  refine J.icmp_ge dX8_middle_9 (fun h9 => ?_) (fun h9 => ?_)
  · skip
    have h9 : 60 ≤ k := (nI_leI (a := 60) (b := k) (by omega) (by omega)).mp h9
    have e : k = 60 := by omega
    subst e
    refine J.aload_n 0 dX8_middle_64 rfl ?_
    refine J.get 0 fl_X8_29 dX8_middle_65 rfl rfl ?_
    refine J.iload_n 3 dX8_middle_68 rfl ?_
    refine J.iconst (2 : Int32) dX8_middle_69 rfl ?_
    refine J.idiv dX8_middle_70 (by decide) ?_
    refine J.topi (y := nI (((nts (rowM ml s) 60).length) / 2)) (pk_div (a := (nts (rowM ml s) 60).length) (d := 2) (by omega) (by omega) (by omega)) ?_
    refine J.iald 2 (((nts (rowM ml s) 60).length) / 2) dX8_middle_71 rfl (rfl) (by omega) (by decide) ?_
    refine J.topi (y := midV (lits (rowM ml s) F 60)) (by
        have hm := midV_of hA
        rw [lits_len, if_neg (Nat.ne_of_gt h0)] at hm
        exact hm) ?_
    exact J.iret B dX8_middle_72 rfl (⟨so, rfl, rfl⟩)
  · skip
    have h9 : ¬ 60 ≤ k := fun z => h9 ((nI_leI (a := 60) (b := k) (by omega) (by omega)).mpr z)
    refine J.aload_n 0 dX8_middle_12 rfl ?_
    refine J.iload_n 1 dX8_middle_13 rfl ?_
    refine J.iload 4 dX8_middle_14 rfl ?_
    refine J.callV 0 (st := []) B (c_X8_has l G _ (s := s) (n := k) hs (by omega)) ml_X8_88 mf_yX8_has mi_yX8_has rfl dX8_middle_16 rfl rfl rfl rfl (fun v_1 w_2 hp_3 => ?_)
    obtain ⟨rfl, rfl⟩ := hp_3
    show J G X mX8_middle _ _ _ 19 _ [.int (b01 (decide (¬ rowM ml s k = -9)))]
    refine J.if_eq dX8_middle_19 (fun h8 => ?_) (fun h8 => ?_)
    · skip
      have h8 : rowM ml s k = -9 := Decidable.of_not_not (of_decide_eq_false (b01_0 h8))
      refine J.iload_n 3 dX8_middle_56 rfl ?_
      refine J.istore_n [1, 2, 3, 0, 4] (lv' := [(0, .ref m), (1, .int (nI s)), (2, .int (0 : Int32)), (3, .int (nI ((nts (rowM ml s) k).length))), (4, .int (nI k))]) dX8_middle_57 rfl rfl ?_
      refine J.iinc 4 [1, 2, 3, 4, 0] (lv' := [(0, .ref m), (1, .int (nI s)), (2, .int (0 : Int32)), (3, .int (nI ((nts (rowM ml s) k).length))), (4, .int (nI (k + 1)))]) dX8_middle_58 rfl (jinc1 _) rfl rfl ?_
      refine J.goto dX8_middle_61 ?_
      rw [← lits_no h8] at hA
      rw [← nts_no h8]
      exact X8_middle0_lp B (k + 1) so hs (by omega) h0 hA
    · skip
      have h8 : ¬ rowM ml s k = -9 := of_decide_eq_true (b01_1 h8)
      refine J.aload_n 0 dX8_middle_22 rfl ?_
      refine J.iload_n 3 dX8_middle_23 rfl ?_
      refine J.iload_n 2 dX8_middle_24 rfl ?_
      refine J.if_eq dX8_middle_25 (fun _ => ?_) (fun z => absurd z (by decide))
      refine J.aload_n 0 dX8_middle_43 rfl ?_
      refine J.iload_n 1 dX8_middle_44 rfl ?_
      refine J.iload 4 dX8_middle_45 rfl ?_
      refine J.re [0, 1, 3, 2] 4 (ws2 := (m, .inr (8, [.int fi, .ref (D 0), .long as, .int (nI ns), .ref (D 1), .ref (D 2), .ref (D 3), .ref (D 4), .ref (D 5), .ref (D 6), .ref (D 7), .ref (D 8), .int ii, .long de, .int dl, .int dp, .int dc, .ref (D 9), .int (nI nr), .ref (D 10), .ref (D 11), .ref (D 12), .ref (D 13), .ref (D 14), .int al, .int wa])) :: (D 3, .inl (G.2.1.1, 720, .inl ml)) :: (D 4, .inl (G.2.1.1, 60, .inl F)) :: (D 6, .inl (G.2.1.1, 60, .inl so)) :: r) rfl rfl ?_
      refine J.callV 0 (st := [.int (nI ((nts (rowM ml s) k).length)), .ref m]) B (c_X8_lightOf l G _ (s := s) (n := k) hs (by omega)) ml_X8_91 mf_yX8_lightOf mi_yX8_lightOf rfl dX8_middle_47 rfl rfl rfl rfl (fun v_4 w_5 hp_6 => ?_)
      obtain ⟨rfl, rfl⟩ := hp_6
      refine J.re [0, 1, 3, 2] 4 (ws2 := (m, .inr (8, [.int fi, .ref (D 0), .long as, .int (nI ns), .ref (D 1), .ref (D 2), .ref (D 3), .ref (D 4), .ref (D 5), .ref (D 6), .ref (D 7), .ref (D 8), .int ii, .long de, .int dl, .int dp, .int dc, .ref (D 9), .int (nI nr), .ref (D 10), .ref (D 11), .ref (D 12), .ref (D 13), .ref (D 14), .int al, .int wa])) :: (D 3, .inl (G.2.1.1, 720, .inl ml)) :: (D 6, .inl (G.2.1.1, 60, .inl so)) :: (D 4, .inl (G.2.1.1, 60, .inl F)) :: r) rfl rfl ?_
      show J G X mX8_middle _ _ _ 50 _ [.int (ltF (rowM ml s) F k), .int (nI ((nts (rowM ml s) k).length)), .ref m]
      refine J.re [0, 2, 1, 3] 4 (ws2 := (m, .inr (8, [.int fi, .ref (D 0), .long as, .int (nI ns), .ref (D 1), .ref (D 2), .ref (D 3), .ref (D 4), .ref (D 5), .ref (D 6), .ref (D 7), .ref (D 8), .int ii, .long de, .int dl, .int dp, .int dc, .ref (D 9), .int (nI nr), .ref (D 10), .ref (D 11), .ref (D 12), .ref (D 13), .ref (D 14), .int al, .int wa])) :: (D 6, .inl (G.2.1.1, 60, .inl so)) :: (D 3, .inl (G.2.1.1, 720, .inl ml)) :: (D 4, .inl (G.2.1.1, 60, .inl F)) :: r) rfl rfl ?_
      refine J.callV 0 (st := []) B (c_X8_sort l G _ (n := (nts (rowM ml s) k).length) (by omega)) ml_X8_120 mf_yX8_sort mi_yX8_sort rfl dX8_middle_50 rfl rfl rfl rfl (fun v_7 w_8 hp_9 => ?_)
      obtain ⟨rfl, rfl⟩ := hp_9
      refine J.re [0, 2, 1, 3] 4 (ws2 := (m, .inr (8, [.int fi, .ref (D 0), .long as, .int (nI ns), .ref (D 1), .ref (D 2), .ref (D 3), .ref (D 4), .ref (D 5), .ref (D 6), .ref (D 7), .ref (D 8), .int ii, .long de, .int dl, .int dp, .int dc, .ref (D 9), .int (nI nr), .ref (D 10), .ref (D 11), .ref (D 12), .ref (D 13), .ref (D 14), .int al, .int wa])) :: (D 3, .inl (G.2.1.1, 720, .inl ml)) :: (D 6, .inl (G.2.1.1, 60, .inl (insA so (ltF (rowM ml s) F k) ((nts (rowM ml s) k).length)))) :: (D 4, .inl (G.2.1.1, 60, .inl F)) :: r) rfl rfl ?_
      show J G X mX8_middle _ _ _ 53 _ [.int (nI ((nts (rowM ml s) k).length + 1))]
      refine J.goto dX8_middle_53 ?_
      refine J.istore_n [1, 2, 3, 0, 4] (lv' := [(0, .ref m), (1, .int (nI s)), (2, .int (0 : Int32)), (3, .int (nI ((nts (rowM ml s) k).length + 1))), (4, .int (nI k))]) dX8_middle_57 rfl rfl ?_
      refine J.iinc 4 [1, 2, 3, 4, 0] (lv' := [(0, .ref m), (1, .int (nI s)), (2, .int (0 : Int32)), (3, .int (nI ((nts (rowM ml s) k).length + 1))), (4, .int (nI (k + 1)))]) dX8_middle_58 rfl (jinc1 _) rfl rfl ?_
      refine J.goto dX8_middle_61 ?_
      have ha := AG_put (ltF (rowM ml s) F k) hA (blt_len (rowM ml s) F k)
      rw [← blt_yes h8] at ha
      rw [← nts_yes_len h8]
      exact X8_middle0_lp B (k + 1) _ hs (by omega) h0 ha
termination_by 60 - k
decreasing_by all_goals omega
set_option maxHeartbeats 4000000 in
set_option maxRecDepth 100000 in
theorem c_X8_middle0 (l : Launch) (G : jG) (r : va_W) {m : Nat} {D : Nat → Nat} {fi : Int32} {as : Int64} {ns : Nat} {ii : Int32} {de : Int64} {dl dp dc : Int32} {nr : Nat} {al wa : Int32} {ml F : Nat → Int32} {s : Nat} {so : Nat → Int32} (hs : s < 12) (h0 : 0 < nN (rowM ml s)) : Mt l G yX8_middle mX8_middle 1 23 0 0 [.ref m, .int (nI s), .int (0 : Int32)] ((m, .inr (8, [.int fi, .ref (D 0), .long as, .int (nI ns), .ref (D 1), .ref (D 2), .ref (D 3), .ref (D 4), .ref (D 5), .ref (D 6), .ref (D 7), .ref (D 8), .int ii, .long de, .int dl, .int dp, .int dc, .ref (D 9), .int (nI nr), .ref (D 10), .ref (D 11), .ref (D 12), .ref (D 13), .ref (D 14), .int al, .int wa])) :: (D 3, .inl (G.2.1.1, 720, .inl ml)) :: (D 6, .inl (G.2.1.1, 60, .inl so)) :: (D 4, .inl (G.2.1.1, 60, .inl F)) :: r) (fun v w => ∃ so1, v = some (.int (midV (lits (rowM ml s) F 60))) ∧ w = (m, .inr (8, [.int fi, .ref (D 0), .long as, .int (nI ns), .ref (D 1), .ref (D 2), .ref (D 3), .ref (D 4), .ref (D 5), .ref (D 6), .ref (D 7), .ref (D 8), .int ii, .long de, .int dl, .int dp, .int dc, .ref (D 9), .int (nI nr), .ref (D 10), .ref (D 11), .ref (D 12), .ref (D 13), .ref (D 14), .int al, .int wa])) :: (D 3, .inl (G.2.1.1, 720, .inl ml)) :: (D 6, .inl (G.2.1.1, 60, .inl so1)) :: (D 4, .inl (G.2.1.1, 60, .inl F)) :: r) := by
  refine Mt.of (by decide +kernel) rfl rfl (fun X B => ?_)
  show J G X mX8_middle ((m, .inr (8, [.int fi, .ref (D 0), .long as, .int (nI ns), .ref (D 1), .ref (D 2), .ref (D 3), .ref (D 4), .ref (D 5), .ref (D 6), .ref (D 7), .ref (D 8), .int ii, .long de, .int dl, .int dp, .int dc, .ref (D 9), .int (nI nr), .ref (D 10), .ref (D 11), .ref (D 12), .ref (D 13), .ref (D 14), .int al, .int wa])) :: (D 3, .inl (G.2.1.1, 720, .inl ml)) :: (D 6, .inl (G.2.1.1, 60, .inl so)) :: (D 4, .inl (G.2.1.1, 60, .inl F)) :: r) 0 0 0 [(0, .ref m), (1, .int (nI s)), (2, .int (0 : Int32))] []
  refine J.iconst (0 : Int32) dX8_middle_0 rfl ?_
  refine J.istore_n [1, 2, 3, 0] (lv' := [(0, .ref m), (1, .int (nI s)), (2, .int (0 : Int32)), (3, .int (0 : Int32))]) dX8_middle_1 rfl rfl ?_
  refine J.iconst (0 : Int32) dX8_middle_2 rfl ?_
  refine J.istore [1, 2, 3, 4, 0] (lv' := [(0, .ref m), (1, .int (nI s)), (2, .int (0 : Int32)), (3, .int (0 : Int32)), (4, .int (0 : Int32))]) dX8_middle_3 rfl rfl ?_
  exact X8_middle0_lp B 0 _ hs (by omega) h0 trivial
set_option maxHeartbeats 4000000 in
set_option maxRecDepth 100000 in
theorem X8_middle1_lp {l : Launch} {G : jG} {X : jX} {r : va_W} {m : Nat} {D : Nat → Nat} {fi : Int32} {as : Int64} {ns : Nat} {ii : Int32} {de : Int64} {dl dp dc : Int32} {nr : Nat} {al wa : Int32} {ml : Nat → Int32} {s : Nat} (B : jB l G X 1 23 0 0 (fun v w => ∃ so1, v = some (.int (midV (rws (rowM ml s) 60))) ∧ w = (m, .inr (8, [.int fi, .ref (D 0), .long as, .int (nI ns), .ref (D 1), .ref (D 2), .ref (D 3), .ref (D 4), .ref (D 5), .ref (D 6), .ref (D 7), .ref (D 8), .int ii, .long de, .int dl, .int dp, .int dc, .ref (D 9), .int (nI nr), .ref (D 10), .ref (D 11), .ref (D 12), .ref (D 13), .ref (D 14), .int al, .int wa])) :: (D 3, .inl (G.2.1.1, 720, .inl ml)) :: (D 6, .inl (G.2.1.1, 60, .inl so1)) :: r) "middle") (k : Nat) (so : Nat → Int32) (hs : s < 12) (hk : k ≤ 60) (h0 : 0 < nN (rowM ml s)) (hA : AG so (bsz (rws (rowM ml s) k))) : J G X mX8_middle ((m, .inr (8, [.int fi, .ref (D 0), .long as, .int (nI ns), .ref (D 1), .ref (D 2), .ref (D 3), .ref (D 4), .ref (D 5), .ref (D 6), .ref (D 7), .ref (D 8), .int ii, .long de, .int dl, .int dp, .int dc, .ref (D 9), .int (nI nr), .ref (D 10), .ref (D 11), .ref (D 12), .ref (D 13), .ref (D 14), .int al, .int wa])) :: (D 3, .inl (G.2.1.1, 720, .inl ml)) :: (D 6, .inl (G.2.1.1, 60, .inl so)) :: r) 0 0 5 [(0, .ref m), (1, .int (nI s)), (2, .int (1 : Int32)), (3, .int (nI ((nts (rowM ml s) k).length))), (4, .int (nI k))] [] := by
  have hn2 := nts_le (rowM ml s) k
  refine J.iload 4 dX8_middle_5 rfl ?_
  refine J.bipush (60 : Int32) dX8_middle_7 rfl ?_
  refine J.icmp_ge dX8_middle_9 (fun h9 => ?_) (fun h9 => ?_)
  · skip
    have h9 : 60 ≤ k := (nI_leI (a := 60) (b := k) (by omega) (by omega)).mp h9
    have e : k = 60 := by omega
    subst e
    refine J.aload_n 0 dX8_middle_64 rfl ?_
    refine J.get 0 fl_X8_29 dX8_middle_65 rfl rfl ?_
    refine J.iload_n 3 dX8_middle_68 rfl ?_
    refine J.iconst (2 : Int32) dX8_middle_69 rfl ?_
    refine J.idiv dX8_middle_70 (by decide) ?_
    refine J.topi (y := nI (((nts (rowM ml s) 60).length) / 2)) (pk_div (a := (nts (rowM ml s) 60).length) (d := 2) (by omega) (by omega) (by omega)) ?_
    refine J.iald 2 (((nts (rowM ml s) 60).length) / 2) dX8_middle_71 rfl (rfl) (by omega) (by decide) ?_
    refine J.topi (y := midV (rws (rowM ml s) 60)) (by
        have hm := midV_of hA
        rw [rws_len, if_neg (Nat.ne_of_gt h0)] at hm
        exact hm) ?_
    exact J.iret B dX8_middle_72 rfl (⟨so, rfl, rfl⟩)
  · skip
    have h9 : ¬ 60 ≤ k := fun z => h9 ((nI_leI (a := 60) (b := k) (by omega) (by omega)).mpr z)
    refine J.aload_n 0 dX8_middle_12 rfl ?_
    refine J.iload_n 1 dX8_middle_13 rfl ?_
    refine J.iload 4 dX8_middle_14 rfl ?_
    refine J.callV 0 (st := []) B (c_X8_has l G _ (s := s) (n := k) hs (by omega)) ml_X8_88 mf_yX8_has mi_yX8_has rfl dX8_middle_16 rfl rfl rfl rfl (fun v_1 w_2 hp_3 => ?_)
    obtain ⟨rfl, rfl⟩ := hp_3
    show J G X mX8_middle _ _ _ 19 _ [.int (b01 (decide (¬ rowM ml s k = -9)))]
    refine J.if_eq dX8_middle_19 (fun h8 => ?_) (fun h8 => ?_)
    · skip
      have h8 : rowM ml s k = -9 := Decidable.of_not_not (of_decide_eq_false (b01_0 h8))
      refine J.iload_n 3 dX8_middle_56 rfl ?_
      refine J.istore_n [1, 2, 3, 0, 4] (lv' := [(0, .ref m), (1, .int (nI s)), (2, .int (1 : Int32)), (3, .int (nI ((nts (rowM ml s) k).length))), (4, .int (nI k))]) dX8_middle_57 rfl rfl ?_
      refine J.iinc 4 [1, 2, 3, 4, 0] (lv' := [(0, .ref m), (1, .int (nI s)), (2, .int (1 : Int32)), (3, .int (nI ((nts (rowM ml s) k).length))), (4, .int (nI (k + 1)))]) dX8_middle_58 rfl (jinc1 _) rfl rfl ?_
      refine J.goto dX8_middle_61 ?_
      rw [← rws_no h8] at hA
      rw [← nts_no h8]
      exact X8_middle1_lp B (k + 1) so hs (by omega) h0 hA
    · skip
      have h8 : ¬ rowM ml s k = -9 := of_decide_eq_true (b01_1 h8)
      refine J.aload_n 0 dX8_middle_22 rfl ?_
      refine J.iload_n 3 dX8_middle_23 rfl ?_
      refine J.iload_n 2 dX8_middle_24 rfl ?_
      refine J.if_eq dX8_middle_25 (fun z => absurd z (by decide)) (fun _ => ?_)
      refine J.aload_n 0 dX8_middle_28 rfl ?_
      refine J.get 0 fl_X8_20 dX8_middle_29 rfl rfl ?_
      refine J.bipush (60 : Int32) dX8_middle_32 rfl ?_
      refine J.iload_n 1 dX8_middle_34 rfl ?_
      refine J.imul dX8_middle_35 ?_
      refine J.topi (y := nI (60 * s)) (pk_mul 60 s) ?_
      refine J.iload 4 dX8_middle_36 rfl ?_
      refine J.iadd dX8_middle_38 ?_
      refine J.topi (y := nI ((60 * s) + k)) (nI_add (60 * s) k) ?_
      refine J.iald 1 ((60 * s) + k) dX8_middle_39 rfl (rfl) (by omega) (by decide) ?_
      refine J.topi (y := rowM ml s k) (rfl) ?_
      refine J.goto dX8_middle_40 ?_
      refine J.re [0, 2, 1] 3 (ws2 := (m, .inr (8, [.int fi, .ref (D 0), .long as, .int (nI ns), .ref (D 1), .ref (D 2), .ref (D 3), .ref (D 4), .ref (D 5), .ref (D 6), .ref (D 7), .ref (D 8), .int ii, .long de, .int dl, .int dp, .int dc, .ref (D 9), .int (nI nr), .ref (D 10), .ref (D 11), .ref (D 12), .ref (D 13), .ref (D 14), .int al, .int wa])) :: (D 6, .inl (G.2.1.1, 60, .inl so)) :: (D 3, .inl (G.2.1.1, 720, .inl ml)) :: r) rfl rfl ?_
      refine J.callV 0 (st := []) B (c_X8_sort l G _ (n := (nts (rowM ml s) k).length) (by omega)) ml_X8_120 mf_yX8_sort mi_yX8_sort rfl dX8_middle_50 rfl rfl rfl rfl (fun v_4 w_5 hp_6 => ?_)
      obtain ⟨rfl, rfl⟩ := hp_6
      refine J.re [0, 2, 1] 3 (ws2 := (m, .inr (8, [.int fi, .ref (D 0), .long as, .int (nI ns), .ref (D 1), .ref (D 2), .ref (D 3), .ref (D 4), .ref (D 5), .ref (D 6), .ref (D 7), .ref (D 8), .int ii, .long de, .int dl, .int dp, .int dc, .ref (D 9), .int (nI nr), .ref (D 10), .ref (D 11), .ref (D 12), .ref (D 13), .ref (D 14), .int al, .int wa])) :: (D 3, .inl (G.2.1.1, 720, .inl ml)) :: (D 6, .inl (G.2.1.1, 60, .inl (insA so (rowM ml s k) ((nts (rowM ml s) k).length)))) :: r) rfl rfl ?_
      show J G X mX8_middle _ _ _ 53 _ [.int (nI ((nts (rowM ml s) k).length + 1))]
      refine J.goto dX8_middle_53 ?_
      refine J.istore_n [1, 2, 3, 0, 4] (lv' := [(0, .ref m), (1, .int (nI s)), (2, .int (1 : Int32)), (3, .int (nI ((nts (rowM ml s) k).length + 1))), (4, .int (nI k))]) dX8_middle_57 rfl rfl ?_
      refine J.iinc 4 [1, 2, 3, 4, 0] (lv' := [(0, .ref m), (1, .int (nI s)), (2, .int (1 : Int32)), (3, .int (nI ((nts (rowM ml s) k).length + 1))), (4, .int (nI (k + 1)))]) dX8_middle_58 rfl (jinc1 _) rfl rfl ?_
      refine J.goto dX8_middle_61 ?_
      have ha := AG_put (rowM ml s k) hA (brw_len (rowM ml s) k)
      rw [← brw_yes h8] at ha
      rw [← nts_yes_len h8]
      exact X8_middle1_lp B (k + 1) _ hs (by omega) h0 ha
termination_by 60 - k
decreasing_by all_goals omega
set_option maxHeartbeats 4000000 in
set_option maxRecDepth 100000 in
theorem c_X8_middle1 (l : Launch) (G : jG) (r : va_W) {m : Nat} {D : Nat → Nat} {fi : Int32} {as : Int64} {ns : Nat} {ii : Int32} {de : Int64} {dl dp dc : Int32} {nr : Nat} {al wa : Int32} {ml : Nat → Int32} {s : Nat} {so : Nat → Int32} (hs : s < 12) (h0 : 0 < nN (rowM ml s)) : Mt l G yX8_middle mX8_middle 1 23 0 0 [.ref m, .int (nI s), .int (1 : Int32)] ((m, .inr (8, [.int fi, .ref (D 0), .long as, .int (nI ns), .ref (D 1), .ref (D 2), .ref (D 3), .ref (D 4), .ref (D 5), .ref (D 6), .ref (D 7), .ref (D 8), .int ii, .long de, .int dl, .int dp, .int dc, .ref (D 9), .int (nI nr), .ref (D 10), .ref (D 11), .ref (D 12), .ref (D 13), .ref (D 14), .int al, .int wa])) :: (D 3, .inl (G.2.1.1, 720, .inl ml)) :: (D 6, .inl (G.2.1.1, 60, .inl so)) :: r) (fun v w => ∃ so1, v = some (.int (midV (rws (rowM ml s) 60))) ∧ w = (m, .inr (8, [.int fi, .ref (D 0), .long as, .int (nI ns), .ref (D 1), .ref (D 2), .ref (D 3), .ref (D 4), .ref (D 5), .ref (D 6), .ref (D 7), .ref (D 8), .int ii, .long de, .int dl, .int dp, .int dc, .ref (D 9), .int (nI nr), .ref (D 10), .ref (D 11), .ref (D 12), .ref (D 13), .ref (D 14), .int al, .int wa])) :: (D 3, .inl (G.2.1.1, 720, .inl ml)) :: (D 6, .inl (G.2.1.1, 60, .inl so1)) :: r) := by
  refine Mt.of (by decide +kernel) rfl rfl (fun X B => ?_)
  show J G X mX8_middle ((m, .inr (8, [.int fi, .ref (D 0), .long as, .int (nI ns), .ref (D 1), .ref (D 2), .ref (D 3), .ref (D 4), .ref (D 5), .ref (D 6), .ref (D 7), .ref (D 8), .int ii, .long de, .int dl, .int dp, .int dc, .ref (D 9), .int (nI nr), .ref (D 10), .ref (D 11), .ref (D 12), .ref (D 13), .ref (D 14), .int al, .int wa])) :: (D 3, .inl (G.2.1.1, 720, .inl ml)) :: (D 6, .inl (G.2.1.1, 60, .inl so)) :: r) 0 0 0 [(0, .ref m), (1, .int (nI s)), (2, .int (1 : Int32))] []
  refine J.iconst (0 : Int32) dX8_middle_0 rfl ?_
  refine J.istore_n [1, 2, 3, 0] (lv' := [(0, .ref m), (1, .int (nI s)), (2, .int (1 : Int32)), (3, .int (0 : Int32))]) dX8_middle_1 rfl rfl ?_
  refine J.iconst (0 : Int32) dX8_middle_2 rfl ?_
  refine J.istore [1, 2, 3, 4, 0] (lv' := [(0, .ref m), (1, .int (nI s)), (2, .int (1 : Int32)), (3, .int (0 : Int32)), (4, .int (0 : Int32))]) dX8_middle_3 rfl rfl ?_
  exact X8_middle1_lp B 0 _ hs (by omega) h0 trivial
set_option maxHeartbeats 4000000 in
set_option maxRecDepth 100000 in
theorem X8_lows_lp {l : Launch} {G : jG} {X : jX} {r : va_W} {m : Nat} {D : Nat → Nat} {fi : Int32} {as : Int64} {ns : Nat} {ii : Int32} {de : Int64} {dl dp dc : Int32} {nr : Nat} {al wa : Int32} {ml F so : Nat → Int32} {s : Nat} {d : Int32} (B : jB l G X 2 47 0 0 (fun v w => ∃ so1 lt1, AG lt1 ((lowF (ltF (rowM ml s) F) (midV (lits (rowM ml s) F 60) - d) (nts (rowM ml s) 60)).1.map nI) ∧ v = some (.int (nI (lowF (ltF (rowM ml s) F) (midV (lits (rowM ml s) F 60) - d) (nts (rowM ml s) 60)).1.length)) ∧ w = (m, .inr (8, [.int fi, .ref (D 0), .long as, .int (nI ns), .ref (D 1), .ref (D 2), .ref (D 3), .ref (D 4), .ref (D 5), .ref (D 6), .ref (D 7), .ref (D 8), .int ii, .long de, .int dl, .int dp, .int dc, .ref (D 9), .int (nI nr), .ref (D 10), .ref (D 11), .ref (D 12), .ref (D 13), .ref (D 14), .int al, .int wa])) :: (D 3, .inl (G.2.1.1, 720, .inl ml)) :: (D 4, .inl (G.2.1.1, 60, .inl F)) :: (D 6, .inl (G.2.1.1, 60, .inl so1)) :: (D 9, .inl (G.2.1.1, 60, .inl lt1)) :: r) "setLows") (k : Nat) (rl : List Nat) (run : Bool) (T : Nat → Int32) (hs : s < 12) (hk : k ≤ 60) (hw : lowF (ltF (rowM ml s) F) (midV (lits (rowM ml s) F 60) - d) (nts (rowM ml s) k) = (rl, run)) (hle : run = true → ∃ x xs, rl = x :: xs) (hT : AG T (rl.map nI)) : J G X mX8_setLows ((m, .inr (8, [.int fi, .ref (D 0), .long as, .int (nI ns), .ref (D 1), .ref (D 2), .ref (D 3), .ref (D 4), .ref (D 5), .ref (D 6), .ref (D 7), .ref (D 8), .int ii, .long de, .int dl, .int dp, .int dc, .ref (D 9), .int (nI nr), .ref (D 10), .ref (D 11), .ref (D 12), .ref (D 13), .ref (D 14), .int al, .int wa])) :: (D 3, .inl (G.2.1.1, 720, .inl ml)) :: (D 4, .inl (G.2.1.1, 60, .inl F)) :: (D 6, .inl (G.2.1.1, 60, .inl so)) :: (D 9, .inl (G.2.1.1, 60, .inl T)) :: r) 0 0 18 [(0, .ref m), (1, .int (nI s)), (2, .int d), (3, .int (midV (lits (rowM ml s) F 60) - d)), (4, .int (nI rl.length)), (5, .int (b01 run)), (6, .int (nI k))] [] := by
  have hlen := low_len hw
  cases run with
  | false =>
    show J G X mX8_setLows ((m, .inr (8, [.int fi, .ref (D 0), .long as, .int (nI ns), .ref (D 1), .ref (D 2), .ref (D 3), .ref (D 4), .ref (D 5), .ref (D 6), .ref (D 7), .ref (D 8), .int ii, .long de, .int dl, .int dp, .int dc, .ref (D 9), .int (nI nr), .ref (D 10), .ref (D 11), .ref (D 12), .ref (D 13), .ref (D 14), .int al, .int wa])) :: (D 3, .inl (G.2.1.1, 720, .inl ml)) :: (D 4, .inl (G.2.1.1, 60, .inl F)) :: (D 6, .inl (G.2.1.1, 60, .inl so)) :: (D 9, .inl (G.2.1.1, 60, .inl T)) :: r) 0 0 18 [(0, .ref m), (1, .int (nI s)), (2, .int d), (3, .int (midV (lits (rowM ml s) F 60) - d)), (4, .int (nI rl.length)), (5, .int (0 : Int32)), (6, .int (nI k))] []
    refine J.iload 6 dX8_setLows_18 rfl ?_
    refine J.bipush (60 : Int32) dX8_setLows_20 rfl ?_
    refine J.icmp_ge dX8_setLows_22 (fun h9 => ?_) (fun h9 => ?_)
    · skip
      have h9 : 60 ≤ k := (nI_leI (a := 60) (b := k) (by omega) (by omega)).mp h9
      have e : k = 60 := by omega
      subst e
      refine J.iload 4 dX8_setLows_125 rfl ?_
      exact J.iret B dX8_setLows_127 rfl (⟨so, T, by rw [hw]; exact hT, by first | (rw [hw]; done) | (rw [hw]; rfl), rfl⟩)
    · skip
      have h9 : ¬ 60 ≤ k := fun z => h9 ((nI_leI (a := 60) (b := k) (by omega) (by omega)).mpr z)
      refine J.aload_n 0 dX8_setLows_25 rfl ?_
      refine J.iload_n 1 dX8_setLows_26 rfl ?_
      refine J.iload 6 dX8_setLows_27 rfl ?_
      refine J.callV 0 (st := []) B (c_X8_has l G _ (s := s) (n := k) hs (by omega)) ml_X8_88 mf_yX8_has mi_yX8_has rfl dX8_setLows_29 rfl rfl rfl rfl (fun v_1 w_2 hp_3 => ?_)
      obtain ⟨rfl, rfl⟩ := hp_3
      show J G X mX8_setLows _ _ _ 32 _ [.int (b01 (decide (¬ rowM ml s k = -9)))]
      refine J.if_eq dX8_setLows_32 (fun h8 => ?_) (fun h8 => ?_)
      · skip
        have h8 : rowM ml s k = -9 := Decidable.of_not_not (of_decide_eq_false (b01_0 h8))
        refine J.iinc 6 [1, 2, 3, 4, 5, 6, 0] (lv' := [(0, .ref m), (1, .int (nI s)), (2, .int d), (3, .int (midV (lits (rowM ml s) F 60) - d)), (4, .int (nI rl.length)), (5, .int (0 : Int32)), (6, .int (nI (k + 1)))]) dX8_setLows_119 rfl (jinc1 _) rfl rfl ?_
        refine J.goto dX8_setLows_122 ?_
        exact X8_lows_lp B (k + 1) rl false T hs (by omega) (by rw [low_no h8]; exact hw) (fun z => by cases z) hT
      · skip
        have h8 : ¬ rowM ml s k = -9 := of_decide_eq_true (b01_1 h8)
        refine J.aload_n 0 dX8_setLows_35 rfl ?_
        refine J.iload_n 1 dX8_setLows_36 rfl ?_
        refine J.iload 6 dX8_setLows_37 rfl ?_
        refine J.callV 0 (st := []) B (c_X8_lightOf l G _ (s := s) (n := k) hs (by omega)) ml_X8_91 mf_yX8_lightOf mi_yX8_lightOf rfl dX8_setLows_39 rfl rfl rfl rfl (fun v_4 w_5 hp_6 => ?_)
        obtain ⟨rfl, rfl⟩ := hp_6
        show J G X mX8_setLows _ _ _ 42 _ [.int (ltF (rowM ml s) F k)]
        refine J.iload_n 3 dX8_setLows_42 rfl ?_
        refine J.icmp_gt dX8_setLows_43 (fun h7 => ?_) (fun h7 => ?_)
        · skip
          refine J.iconst (0 : Int32) dX8_setLows_50 rfl ?_
          refine J.istore [1, 2, 3, 4, 5, 6, 7, 0] (lv' := [(0, .ref m), (1, .int (nI s)), (2, .int d), (3, .int (midV (lits (rowM ml s) F 60) - d)), (4, .int (nI rl.length)), (5, .int (0 : Int32)), (6, .int (nI k)), (7, .int (0 : Int32))]) dX8_setLows_51 rfl rfl ?_
          refine J.iload 7 dX8_setLows_53 rfl ?_
          refine J.if_eq dX8_setLows_55 (fun _ => ?_) (fun z => absurd z (by decide))
          refine J.iload 7 dX8_setLows_75 rfl ?_
          refine J.if_eq dX8_setLows_77 (fun _ => ?_) (fun z => absurd z (by decide))
          refine J.iload 7 dX8_setLows_115 rfl ?_
          refine J.istore [1, 2, 3, 4, 5, 0, 6, 7] (lv' := [(0, .ref m), (1, .int (nI s)), (2, .int d), (3, .int (midV (lits (rowM ml s) F 60) - d)), (4, .int (nI rl.length)), (5, .int (0 : Int32)), (6, .int (nI k)), (7, .int (0 : Int32))]) dX8_setLows_117 rfl rfl ?_
          refine J.iinc 6 [1, 2, 3, 4, 5, 6, 0, 7] (lv' := [(0, .ref m), (1, .int (nI s)), (2, .int d), (3, .int (midV (lits (rowM ml s) F 60) - d)), (4, .int (nI rl.length)), (5, .int (0 : Int32)), (6, .int (nI (k + 1))), (7, .int (0 : Int32))]) dX8_setLows_119 rfl (jinc1 _) rfl rfl ?_
          refine J.goto dX8_setLows_122 ?_
          refine J.loc [0, 1, 2, 3, 4, 5, 6] (lv' := [(0, .ref m), (1, .int (nI s)), (2, .int d), (3, .int (midV (lits (rowM ml s) F 60) - d)), (4, .int (nI rl.length)), (5, .int (0 : Int32)), (6, .int (nI (k + 1)))]) rfl ?_
          exact X8_lows_lp B (k + 1) rl false T hs (by omega) (by rw [low_yes h8, hw]; exact lowG_no h7) (fun z => by cases z) hT
        · skip
          refine J.iconst (1 : Int32) dX8_setLows_46 rfl ?_
          refine J.goto dX8_setLows_47 ?_
          refine J.istore [1, 2, 3, 4, 5, 6, 7, 0] (lv' := [(0, .ref m), (1, .int (nI s)), (2, .int d), (3, .int (midV (lits (rowM ml s) F 60) - d)), (4, .int (nI rl.length)), (5, .int (0 : Int32)), (6, .int (nI k)), (7, .int (1 : Int32))]) dX8_setLows_51 rfl rfl ?_
          refine J.iload 7 dX8_setLows_53 rfl ?_
          refine J.if_eq dX8_setLows_55 (fun z => absurd z (by decide)) (fun _ => ?_)
          refine J.iload 5 dX8_setLows_58 rfl ?_
          refine J.if_ne dX8_setLows_60 (fun z => absurd z (by decide)) (fun _ => ?_)
          refine J.aload_n 0 dX8_setLows_63 rfl ?_
          refine J.get 0 fl_X8_48 dX8_setLows_64 rfl rfl ?_
          refine J.iload 4 dX8_setLows_67 rfl ?_
          refine J.iload 6 dX8_setLows_69 rfl ?_
          refine J.iast 4 (rl.length) dX8_setLows_71 rfl (rfl) (by omega) (by decide) (ws' := (m, .inr (8, [.int fi, .ref (D 0), .long as, .int (nI ns), .ref (D 1), .ref (D 2), .ref (D 3), .ref (D 4), .ref (D 5), .ref (D 6), .ref (D 7), .ref (D 8), .int ii, .long de, .int dl, .int dp, .int dc, .ref (D 9), .int (nI nr), .ref (D 10), .ref (D 11), .ref (D 12), .ref (D 13), .ref (D 14), .int al, .int wa])) :: (D 3, .inl (G.2.1.1, 720, .inl ml)) :: (D 4, .inl (G.2.1.1, 60, .inl F)) :: (D 6, .inl (G.2.1.1, 60, .inl so)) :: (D 9, .inl (G.2.1.1, 60, .inl (upd T rl.length (nI k)))) :: r) rfl ?_
          refine J.iinc 4 [1, 2, 3, 4, 0, 5, 6, 7] (lv' := [(0, .ref m), (1, .int (nI s)), (2, .int d), (3, .int (midV (lits (rowM ml s) F 60) - d)), (4, .int (nI (rl.length + 1))), (5, .int (0 : Int32)), (6, .int (nI k)), (7, .int (1 : Int32))]) dX8_setLows_72 rfl (jinc1 _) rfl rfl ?_
          refine J.iload 7 dX8_setLows_75 rfl ?_
          refine J.if_eq dX8_setLows_77 (fun z => absurd z (by decide)) (fun _ => ?_)
          refine J.aload_n 0 dX8_setLows_80 rfl ?_
          refine J.iload_n 1 dX8_setLows_81 rfl ?_
          refine J.iload 6 dX8_setLows_82 rfl ?_
          refine J.callV 0 (st := []) B (c_X8_lightOf l G _ (s := s) (n := k) hs (by omega)) ml_X8_91 mf_yX8_lightOf mi_yX8_lightOf rfl dX8_setLows_84 rfl rfl rfl rfl (fun v_7 w_8 hp_9 => ?_)
          obtain ⟨rfl, rfl⟩ := hp_9
          show J G X mX8_setLows _ _ _ 87 _ [.int (ltF (rowM ml s) F k)]
          refine J.aload_n 0 dX8_setLows_87 rfl ?_
          refine J.iload_n 1 dX8_setLows_88 rfl ?_
          refine J.aload_n 0 dX8_setLows_89 rfl ?_
          refine J.get 0 fl_X8_48 dX8_setLows_90 rfl rfl ?_
          refine J.iload 4 dX8_setLows_93 rfl ?_
          refine J.iconst (1 : Int32) dX8_setLows_95 rfl ?_
          refine J.isub dX8_setLows_96 ?_
          refine J.topi (y := nI rl.length) (pk_sub (a := rl.length + 1) (b := 1) (by omega)) ?_
          refine J.iald 4 (rl.length) dX8_setLows_97 rfl (rfl) (by omega) (by decide) ?_
          refine J.topi (y := nI k) (pk_us) ?_
          refine J.callV 0 (st := [.int (ltF (rowM ml s) F k)]) B (c_X8_lightOf l G _ (s := s) (n := k) hs (by omega)) ml_X8_91 mf_yX8_lightOf mi_yX8_lightOf rfl dX8_setLows_98 rfl rfl rfl rfl (fun v_10 w_11 hp_12 => ?_)
          obtain ⟨rfl, rfl⟩ := hp_12
          show J G X mX8_setLows _ _ _ 101 _ [.int (ltF (rowM ml s) F k), .int (ltF (rowM ml s) F k)]
          refine J.icmp_ge dX8_setLows_101 (fun h6 => ?_) (fun z => absurd (by rw [fa_le]; omega) z)
          refine J.iload 7 dX8_setLows_115 rfl ?_
          refine J.istore [1, 2, 3, 4, 5, 0, 6, 7] (lv' := [(0, .ref m), (1, .int (nI s)), (2, .int d), (3, .int (midV (lits (rowM ml s) F 60) - d)), (4, .int (nI (rl.length + 1))), (5, .int (1 : Int32)), (6, .int (nI k)), (7, .int (1 : Int32))]) dX8_setLows_117 rfl rfl ?_
          refine J.iinc 6 [1, 2, 3, 4, 5, 6, 0, 7] (lv' := [(0, .ref m), (1, .int (nI s)), (2, .int d), (3, .int (midV (lits (rowM ml s) F 60) - d)), (4, .int (nI (rl.length + 1))), (5, .int (1 : Int32)), (6, .int (nI (k + 1))), (7, .int (1 : Int32))]) dX8_setLows_119 rfl (jinc1 _) rfl rfl ?_
          refine J.goto dX8_setLows_122 ?_
          refine J.loc [0, 1, 2, 3, 4, 5, 6] (lv' := [(0, .ref m), (1, .int (nI s)), (2, .int d), (3, .int (midV (lits (rowM ml s) F 60) - d)), (4, .int (nI (rl.length + 1))), (5, .int (1 : Int32)), (6, .int (nI (k + 1)))]) rfl ?_
          exact X8_lows_lp B (k + 1) (k :: rl) true _ hs (by omega) (by rw [low_yes h8, hw]; exact lowG_new h7) (fun _ => ⟨_, _, rfl⟩) (AGm_push hT)
  | true =>
    obtain ⟨x, xs, rfl⟩ := hle rfl
    rw [List.length_cons] at hlen
    have hxl : x < 60 := Nat.lt_of_lt_of_le (low_lt hw List.mem_cons_self) hk
    show J G X mX8_setLows ((m, .inr (8, [.int fi, .ref (D 0), .long as, .int (nI ns), .ref (D 1), .ref (D 2), .ref (D 3), .ref (D 4), .ref (D 5), .ref (D 6), .ref (D 7), .ref (D 8), .int ii, .long de, .int dl, .int dp, .int dc, .ref (D 9), .int (nI nr), .ref (D 10), .ref (D 11), .ref (D 12), .ref (D 13), .ref (D 14), .int al, .int wa])) :: (D 3, .inl (G.2.1.1, 720, .inl ml)) :: (D 4, .inl (G.2.1.1, 60, .inl F)) :: (D 6, .inl (G.2.1.1, 60, .inl so)) :: (D 9, .inl (G.2.1.1, 60, .inl T)) :: r) 0 0 18 [(0, .ref m), (1, .int (nI s)), (2, .int d), (3, .int (midV (lits (rowM ml s) F 60) - d)), (4, .int (nI (xs.length + 1))), (5, .int (1 : Int32)), (6, .int (nI k))] []
    refine J.iload 6 dX8_setLows_18 rfl ?_
    refine J.bipush (60 : Int32) dX8_setLows_20 rfl ?_
    refine J.icmp_ge dX8_setLows_22 (fun h9 => ?_) (fun h9 => ?_)
    · skip
      have h9 : 60 ≤ k := (nI_leI (a := 60) (b := k) (by omega) (by omega)).mp h9
      have e : k = 60 := by omega
      subst e
      refine J.iload 4 dX8_setLows_125 rfl ?_
      exact J.iret B dX8_setLows_127 rfl (⟨so, T, by rw [hw]; exact hT, by first | (rw [hw]; done) | (rw [hw]; rfl), rfl⟩)
    · skip
      have h9 : ¬ 60 ≤ k := fun z => h9 ((nI_leI (a := 60) (b := k) (by omega) (by omega)).mpr z)
      refine J.aload_n 0 dX8_setLows_25 rfl ?_
      refine J.iload_n 1 dX8_setLows_26 rfl ?_
      refine J.iload 6 dX8_setLows_27 rfl ?_
      refine J.callV 0 (st := []) B (c_X8_has l G _ (s := s) (n := k) hs (by omega)) ml_X8_88 mf_yX8_has mi_yX8_has rfl dX8_setLows_29 rfl rfl rfl rfl (fun v_1 w_2 hp_3 => ?_)
      obtain ⟨rfl, rfl⟩ := hp_3
      show J G X mX8_setLows _ _ _ 32 _ [.int (b01 (decide (¬ rowM ml s k = -9)))]
      refine J.if_eq dX8_setLows_32 (fun h8 => ?_) (fun h8 => ?_)
      · skip
        have h8 : rowM ml s k = -9 := Decidable.of_not_not (of_decide_eq_false (b01_0 h8))
        refine J.iinc 6 [1, 2, 3, 4, 5, 6, 0] (lv' := [(0, .ref m), (1, .int (nI s)), (2, .int d), (3, .int (midV (lits (rowM ml s) F 60) - d)), (4, .int (nI (xs.length + 1))), (5, .int (1 : Int32)), (6, .int (nI (k + 1)))]) dX8_setLows_119 rfl (jinc1 _) rfl rfl ?_
        refine J.goto dX8_setLows_122 ?_
        exact X8_lows_lp B (k + 1) (x :: xs) true T hs (by omega) (by rw [low_no h8]; exact hw) (fun _ => ⟨_, _, rfl⟩) hT
      · skip
        have h8 : ¬ rowM ml s k = -9 := of_decide_eq_true (b01_1 h8)
        refine J.aload_n 0 dX8_setLows_35 rfl ?_
        refine J.iload_n 1 dX8_setLows_36 rfl ?_
        refine J.iload 6 dX8_setLows_37 rfl ?_
        refine J.callV 0 (st := []) B (c_X8_lightOf l G _ (s := s) (n := k) hs (by omega)) ml_X8_91 mf_yX8_lightOf mi_yX8_lightOf rfl dX8_setLows_39 rfl rfl rfl rfl (fun v_4 w_5 hp_6 => ?_)
        obtain ⟨rfl, rfl⟩ := hp_6
        show J G X mX8_setLows _ _ _ 42 _ [.int (ltF (rowM ml s) F k)]
        refine J.iload_n 3 dX8_setLows_42 rfl ?_
        refine J.icmp_gt dX8_setLows_43 (fun h7 => ?_) (fun h7 => ?_)
        · skip
          refine J.iconst (0 : Int32) dX8_setLows_50 rfl ?_
          refine J.istore [1, 2, 3, 4, 5, 6, 7, 0] (lv' := [(0, .ref m), (1, .int (nI s)), (2, .int d), (3, .int (midV (lits (rowM ml s) F 60) - d)), (4, .int (nI (xs.length + 1))), (5, .int (1 : Int32)), (6, .int (nI k)), (7, .int (0 : Int32))]) dX8_setLows_51 rfl rfl ?_
          refine J.iload 7 dX8_setLows_53 rfl ?_
          refine J.if_eq dX8_setLows_55 (fun _ => ?_) (fun z => absurd z (by decide))
          refine J.iload 7 dX8_setLows_75 rfl ?_
          refine J.if_eq dX8_setLows_77 (fun _ => ?_) (fun z => absurd z (by decide))
          refine J.iload 7 dX8_setLows_115 rfl ?_
          refine J.istore [1, 2, 3, 4, 5, 0, 6, 7] (lv' := [(0, .ref m), (1, .int (nI s)), (2, .int d), (3, .int (midV (lits (rowM ml s) F 60) - d)), (4, .int (nI (xs.length + 1))), (5, .int (0 : Int32)), (6, .int (nI k)), (7, .int (0 : Int32))]) dX8_setLows_117 rfl rfl ?_
          refine J.iinc 6 [1, 2, 3, 4, 5, 6, 0, 7] (lv' := [(0, .ref m), (1, .int (nI s)), (2, .int d), (3, .int (midV (lits (rowM ml s) F 60) - d)), (4, .int (nI (xs.length + 1))), (5, .int (0 : Int32)), (6, .int (nI (k + 1))), (7, .int (0 : Int32))]) dX8_setLows_119 rfl (jinc1 _) rfl rfl ?_
          refine J.goto dX8_setLows_122 ?_
          refine J.loc [0, 1, 2, 3, 4, 5, 6] (lv' := [(0, .ref m), (1, .int (nI s)), (2, .int d), (3, .int (midV (lits (rowM ml s) F 60) - d)), (4, .int (nI (xs.length + 1))), (5, .int (0 : Int32)), (6, .int (nI (k + 1)))]) rfl ?_
          exact X8_lows_lp B (k + 1) (x :: xs) false T hs (by omega) (by rw [low_yes h8, hw]; exact lowG_no h7) (fun z => by cases z) hT
        · skip
          refine J.iconst (1 : Int32) dX8_setLows_46 rfl ?_
          refine J.goto dX8_setLows_47 ?_
          refine J.istore [1, 2, 3, 4, 5, 6, 7, 0] (lv' := [(0, .ref m), (1, .int (nI s)), (2, .int d), (3, .int (midV (lits (rowM ml s) F 60) - d)), (4, .int (nI (xs.length + 1))), (5, .int (1 : Int32)), (6, .int (nI k)), (7, .int (1 : Int32))]) dX8_setLows_51 rfl rfl ?_
          refine J.iload 7 dX8_setLows_53 rfl ?_
          refine J.if_eq dX8_setLows_55 (fun z => absurd z (by decide)) (fun _ => ?_)
          refine J.iload 5 dX8_setLows_58 rfl ?_
          refine J.if_ne dX8_setLows_60 (fun _ => ?_) (fun z => absurd z (by decide))
          refine J.iload 7 dX8_setLows_75 rfl ?_
          refine J.if_eq dX8_setLows_77 (fun z => absurd z (by decide)) (fun _ => ?_)
          refine J.aload_n 0 dX8_setLows_80 rfl ?_
          refine J.iload_n 1 dX8_setLows_81 rfl ?_
          refine J.iload 6 dX8_setLows_82 rfl ?_
          refine J.callV 0 (st := []) B (c_X8_lightOf l G _ (s := s) (n := k) hs (by omega)) ml_X8_91 mf_yX8_lightOf mi_yX8_lightOf rfl dX8_setLows_84 rfl rfl rfl rfl (fun v_7 w_8 hp_9 => ?_)
          obtain ⟨rfl, rfl⟩ := hp_9
          show J G X mX8_setLows _ _ _ 87 _ [.int (ltF (rowM ml s) F k)]
          refine J.aload_n 0 dX8_setLows_87 rfl ?_
          refine J.iload_n 1 dX8_setLows_88 rfl ?_
          refine J.aload_n 0 dX8_setLows_89 rfl ?_
          refine J.get 0 fl_X8_48 dX8_setLows_90 rfl rfl ?_
          refine J.iload 4 dX8_setLows_93 rfl ?_
          refine J.iconst (1 : Int32) dX8_setLows_95 rfl ?_
          refine J.isub dX8_setLows_96 ?_
          refine J.topi (y := nI xs.length) (pk_sub (a := xs.length + 1) (b := 1) (by omega)) ?_
          refine J.iald 4 (xs.length) dX8_setLows_97 rfl (rfl) (by omega) (by decide) ?_
          refine J.topi (y := nI x) (AG_hd hT) ?_
          refine J.callV 0 (st := [.int (ltF (rowM ml s) F k)]) B (c_X8_lightOf l G _ (s := s) (n := x) hs hxl) ml_X8_91 mf_yX8_lightOf mi_yX8_lightOf rfl dX8_setLows_98 rfl rfl rfl rfl (fun v_10 w_11 hp_12 => ?_)
          obtain ⟨rfl, rfl⟩ := hp_12
          show J G X mX8_setLows _ _ _ 101 _ [.int (ltF (rowM ml s) F x), .int (ltF (rowM ml s) F k)]
          refine J.icmp_ge dX8_setLows_101 (fun h6 => ?_) (fun h6 => ?_)
          · skip
            refine J.iload 7 dX8_setLows_115 rfl ?_
            refine J.istore [1, 2, 3, 4, 5, 0, 6, 7] (lv' := [(0, .ref m), (1, .int (nI s)), (2, .int d), (3, .int (midV (lits (rowM ml s) F 60) - d)), (4, .int (nI (xs.length + 1))), (5, .int (1 : Int32)), (6, .int (nI k)), (7, .int (1 : Int32))]) dX8_setLows_117 rfl rfl ?_
            refine J.iinc 6 [1, 2, 3, 4, 5, 6, 0, 7] (lv' := [(0, .ref m), (1, .int (nI s)), (2, .int d), (3, .int (midV (lits (rowM ml s) F 60) - d)), (4, .int (nI (xs.length + 1))), (5, .int (1 : Int32)), (6, .int (nI (k + 1))), (7, .int (1 : Int32))]) dX8_setLows_119 rfl (jinc1 _) rfl rfl ?_
            refine J.goto dX8_setLows_122 ?_
            refine J.loc [0, 1, 2, 3, 4, 5, 6] (lv' := [(0, .ref m), (1, .int (nI s)), (2, .int d), (3, .int (midV (lits (rowM ml s) F 60) - d)), (4, .int (nI (xs.length + 1))), (5, .int (1 : Int32)), (6, .int (nI (k + 1)))]) rfl ?_
            exact X8_lows_lp B (k + 1) (x :: xs) true T hs (by omega) (by rw [low_yes h8, hw]; exact lowG_keep h7 h6) (fun _ => ⟨_, _, rfl⟩) hT
          · skip
            refine J.aload_n 0 dX8_setLows_104 rfl ?_
            refine J.get 0 fl_X8_48 dX8_setLows_105 rfl rfl ?_
            refine J.iload 4 dX8_setLows_108 rfl ?_
            refine J.iconst (1 : Int32) dX8_setLows_110 rfl ?_
            refine J.isub dX8_setLows_111 ?_
            refine J.topi (y := nI xs.length) (pk_sub (a := xs.length + 1) (b := 1) (by omega)) ?_
            refine J.iload 6 dX8_setLows_112 rfl ?_
            refine J.iast 4 (xs.length) dX8_setLows_114 rfl (rfl) (by omega) (by decide) (ws' := (m, .inr (8, [.int fi, .ref (D 0), .long as, .int (nI ns), .ref (D 1), .ref (D 2), .ref (D 3), .ref (D 4), .ref (D 5), .ref (D 6), .ref (D 7), .ref (D 8), .int ii, .long de, .int dl, .int dp, .int dc, .ref (D 9), .int (nI nr), .ref (D 10), .ref (D 11), .ref (D 12), .ref (D 13), .ref (D 14), .int al, .int wa])) :: (D 3, .inl (G.2.1.1, 720, .inl ml)) :: (D 4, .inl (G.2.1.1, 60, .inl F)) :: (D 6, .inl (G.2.1.1, 60, .inl so)) :: (D 9, .inl (G.2.1.1, 60, .inl (upd T xs.length (nI k)))) :: r) rfl ?_
            refine J.iload 7 dX8_setLows_115 rfl ?_
            refine J.istore [1, 2, 3, 4, 5, 0, 6, 7] (lv' := [(0, .ref m), (1, .int (nI s)), (2, .int d), (3, .int (midV (lits (rowM ml s) F 60) - d)), (4, .int (nI (xs.length + 1))), (5, .int (1 : Int32)), (6, .int (nI k)), (7, .int (1 : Int32))]) dX8_setLows_117 rfl rfl ?_
            refine J.iinc 6 [1, 2, 3, 4, 5, 6, 0, 7] (lv' := [(0, .ref m), (1, .int (nI s)), (2, .int d), (3, .int (midV (lits (rowM ml s) F 60) - d)), (4, .int (nI (xs.length + 1))), (5, .int (1 : Int32)), (6, .int (nI (k + 1))), (7, .int (1 : Int32))]) dX8_setLows_119 rfl (jinc1 _) rfl rfl ?_
            refine J.goto dX8_setLows_122 ?_
            refine J.loc [0, 1, 2, 3, 4, 5, 6] (lv' := [(0, .ref m), (1, .int (nI s)), (2, .int d), (3, .int (midV (lits (rowM ml s) F 60) - d)), (4, .int (nI (xs.length + 1))), (5, .int (1 : Int32)), (6, .int (nI (k + 1)))]) rfl ?_
            exact X8_lows_lp B (k + 1) (k :: xs) true _ hs (by omega) (by rw [low_yes h8, hw]; exact lowG_less h7 h6) (fun _ => ⟨_, _, rfl⟩) (AGm_push hT.2)
termination_by 60 - k
decreasing_by all_goals omega
set_option maxHeartbeats 4000000 in
set_option maxRecDepth 100000 in
theorem c_X8_setLows (l : Launch) (G : jG) (r : va_W) {m : Nat} {D : Nat → Nat} {fi : Int32} {as : Int64} {ns : Nat} {ii : Int32} {de : Int64} {dl dp dc : Int32} {nr : Nat} {al wa : Int32} {ml F so lti : Nat → Int32} {s : Nat} {d : Int32} (hs : s < 12) (h0 : 0 < nN (rowM ml s)) : Mt l G yX8_setLows mX8_setLows 2 47 0 0 [.ref m, .int (nI s), .int d] ((m, .inr (8, [.int fi, .ref (D 0), .long as, .int (nI ns), .ref (D 1), .ref (D 2), .ref (D 3), .ref (D 4), .ref (D 5), .ref (D 6), .ref (D 7), .ref (D 8), .int ii, .long de, .int dl, .int dp, .int dc, .ref (D 9), .int (nI nr), .ref (D 10), .ref (D 11), .ref (D 12), .ref (D 13), .ref (D 14), .int al, .int wa])) :: (D 3, .inl (G.2.1.1, 720, .inl ml)) :: (D 4, .inl (G.2.1.1, 60, .inl F)) :: (D 6, .inl (G.2.1.1, 60, .inl so)) :: (D 9, .inl (G.2.1.1, 60, .inl lti)) :: r) (fun v w => ∃ so1 lt1, AG lt1 ((lowF (ltF (rowM ml s) F) (midV (lits (rowM ml s) F 60) - d) (nts (rowM ml s) 60)).1.map nI) ∧ v = some (.int (nI (lowF (ltF (rowM ml s) F) (midV (lits (rowM ml s) F 60) - d) (nts (rowM ml s) 60)).1.length)) ∧ w = (m, .inr (8, [.int fi, .ref (D 0), .long as, .int (nI ns), .ref (D 1), .ref (D 2), .ref (D 3), .ref (D 4), .ref (D 5), .ref (D 6), .ref (D 7), .ref (D 8), .int ii, .long de, .int dl, .int dp, .int dc, .ref (D 9), .int (nI nr), .ref (D 10), .ref (D 11), .ref (D 12), .ref (D 13), .ref (D 14), .int al, .int wa])) :: (D 3, .inl (G.2.1.1, 720, .inl ml)) :: (D 4, .inl (G.2.1.1, 60, .inl F)) :: (D 6, .inl (G.2.1.1, 60, .inl so1)) :: (D 9, .inl (G.2.1.1, 60, .inl lt1)) :: r) := by
  refine Mt.of (by decide +kernel) rfl rfl (fun X B => ?_)
  show J G X mX8_setLows ((m, .inr (8, [.int fi, .ref (D 0), .long as, .int (nI ns), .ref (D 1), .ref (D 2), .ref (D 3), .ref (D 4), .ref (D 5), .ref (D 6), .ref (D 7), .ref (D 8), .int ii, .long de, .int dl, .int dp, .int dc, .ref (D 9), .int (nI nr), .ref (D 10), .ref (D 11), .ref (D 12), .ref (D 13), .ref (D 14), .int al, .int wa])) :: (D 3, .inl (G.2.1.1, 720, .inl ml)) :: (D 4, .inl (G.2.1.1, 60, .inl F)) :: (D 6, .inl (G.2.1.1, 60, .inl so)) :: (D 9, .inl (G.2.1.1, 60, .inl lti)) :: r) 0 0 0 [(0, .ref m), (1, .int (nI s)), (2, .int d)] []
  refine J.aload_n 0 dX8_setLows_0 rfl ?_
  refine J.iload_n 1 dX8_setLows_1 rfl ?_
  refine J.iconst (0 : Int32) dX8_setLows_2 rfl ?_
  refine J.re [0, 1, 3, 2, 4] 5 (ws2 := (m, .inr (8, [.int fi, .ref (D 0), .long as, .int (nI ns), .ref (D 1), .ref (D 2), .ref (D 3), .ref (D 4), .ref (D 5), .ref (D 6), .ref (D 7), .ref (D 8), .int ii, .long de, .int dl, .int dp, .int dc, .ref (D 9), .int (nI nr), .ref (D 10), .ref (D 11), .ref (D 12), .ref (D 13), .ref (D 14), .int al, .int wa])) :: (D 3, .inl (G.2.1.1, 720, .inl ml)) :: (D 6, .inl (G.2.1.1, 60, .inl so)) :: (D 4, .inl (G.2.1.1, 60, .inl F)) :: (D 9, .inl (G.2.1.1, 60, .inl lti)) :: r) rfl rfl ?_
  refine J.callV 0 (st := []) B (c_X8_middle0 l G _ hs h0) ml_X8_123 mf_yX8_middle mi_yX8_middle rfl dX8_setLows_3 rfl rfl rfl rfl (fun v_1 w_2 hp_3 => ?_)
  obtain ⟨so1, rfl, rfl⟩ := hp_3
  refine J.re [0, 1, 3, 2, 4] 5 (ws2 := (m, .inr (8, [.int fi, .ref (D 0), .long as, .int (nI ns), .ref (D 1), .ref (D 2), .ref (D 3), .ref (D 4), .ref (D 5), .ref (D 6), .ref (D 7), .ref (D 8), .int ii, .long de, .int dl, .int dp, .int dc, .ref (D 9), .int (nI nr), .ref (D 10), .ref (D 11), .ref (D 12), .ref (D 13), .ref (D 14), .int al, .int wa])) :: (D 3, .inl (G.2.1.1, 720, .inl ml)) :: (D 4, .inl (G.2.1.1, 60, .inl F)) :: (D 6, .inl (G.2.1.1, 60, .inl so1)) :: (D 9, .inl (G.2.1.1, 60, .inl lti)) :: r) rfl rfl ?_
  show J G X mX8_setLows _ _ _ 6 _ [.int (midV (lits (rowM ml s) F 60))]
  refine J.iload_n 2 dX8_setLows_6 rfl ?_
  refine J.isub dX8_setLows_7 ?_
  refine J.istore_n [1, 2, 3, 0] (lv' := [(0, .ref m), (1, .int (nI s)), (2, .int d), (3, .int ((midV (lits (rowM ml s) F 60)) - d))]) dX8_setLows_8 rfl rfl ?_
  refine J.iconst (0 : Int32) dX8_setLows_9 rfl ?_
  refine J.istore [1, 2, 3, 4, 0] (lv' := [(0, .ref m), (1, .int (nI s)), (2, .int d), (3, .int ((midV (lits (rowM ml s) F 60)) - d)), (4, .int (0 : Int32))]) dX8_setLows_10 rfl rfl ?_
  refine J.iconst (0 : Int32) dX8_setLows_12 rfl ?_
  refine J.istore [1, 2, 3, 4, 5, 0] (lv' := [(0, .ref m), (1, .int (nI s)), (2, .int d), (3, .int ((midV (lits (rowM ml s) F 60)) - d)), (4, .int (0 : Int32)), (5, .int (0 : Int32))]) dX8_setLows_13 rfl rfl ?_
  refine J.iconst (0 : Int32) dX8_setLows_15 rfl ?_
  refine J.istore [1, 2, 3, 4, 5, 6, 0] (lv' := [(0, .ref m), (1, .int (nI s)), (2, .int d), (3, .int ((midV (lits (rowM ml s) F 60)) - d)), (4, .int (0 : Int32)), (5, .int (0 : Int32)), (6, .int (0 : Int32))]) dX8_setLows_16 rfl rfl ?_
  exact X8_lows_lp B 0 [] false _ hs (by omega) rfl (fun z => by cases z) trivial
