set_option maxHeartbeats 4000000 in
set_option maxRecDepth 100000 in
theorem c_X8_in (l : Launch) (G : jG) (r : va_W) {v lo hi : Int32} {a b : Int} (ha : lo.toInt = a) (hb : hi.toInt = b) : Mt l G yX8_in mX8_in 0 0 0 0 [.int v, .int lo, .int hi] (r) (fun o w => o = some (.int (b01 (inR v a b))) ∧ w = r) := by
  refine Mt.of (by decide +kernel) rfl rfl (fun X B => ?_)
  show J G X mX8_in (r) 0 0 0 [(0, .int v), (1, .int lo), (2, .int hi)] []
  refine J.iload_n 0 dX8_in_0 rfl ?_
  refine J.iload_n 1 dX8_in_1 rfl ?_
  refine J.icmp_lt dX8_in_2 (fun h9 => ?_) (fun h9 => ?_)
  · skip
    rw [fa_lt] at h9
    refine J.iconst (0 : Int32) dX8_in_14 rfl ?_
    exact J.zret B dX8_in_15 rfl (by decide) (⟨by rw [show inR v a b = false from inR_f (by omega)]; rfl, rfl⟩)
  · skip
    rw [fa_lt] at h9
    refine J.iload_n 0 dX8_in_5 rfl ?_
    refine J.iload_n 2 dX8_in_6 rfl ?_
    refine J.icmp_gt dX8_in_7 (fun h8 => ?_) (fun h8 => ?_)
    · skip
      rw [fa_lt] at h8
      refine J.iconst (0 : Int32) dX8_in_14 rfl ?_
      exact J.zret B dX8_in_15 rfl (by decide) (⟨by rw [show inR v a b = false from inR_f (by omega)]; rfl, rfl⟩)
    · skip
      rw [fa_lt] at h8
      refine J.iconst (1 : Int32) dX8_in_10 rfl ?_
      refine J.goto dX8_in_11 ?_
      exact J.zret B dX8_in_15 rfl (by decide) (⟨by rw [show inR v a b = true from inR_t ⟨by omega, by omega⟩]; rfl, rfl⟩)
set_option maxHeartbeats 4000000 in
set_option maxRecDepth 100000 in
theorem c_X8_meets (l : Launch) (G : jG) (r : va_W) {m : Nat} {D : Nat → Nat} {fi : Int32} {as : Int64} {ns : Nat} {ii : Int32} {de : Int64} {dl dp dc : Int32} {nr : Nat} {al wa : Int32} {fc : Nat → Int32} {c : Nat} (h2 : c ≤ 5) : Mt l G yX8_meets mX8_meets 0 0 0 0 [.ref m, .int (nI c)] ((m, .inr (8, [.int fi, .ref (D 0), .long as, .int (nI ns), .ref (D 1), .ref (D 2), .ref (D 3), .ref (D 4), .ref (D 5), .ref (D 6), .ref (D 7), .ref (D 8), .int ii, .long de, .int dl, .int dp, .int dc, .ref (D 9), .int (nI nr), .ref (D 10), .ref (D 11), .ref (D 12), .ref (D 13), .ref (D 14), .int al, .int wa])) :: (D 0, .inl (G.2.1.1, 6, .inl fc)) :: r) (fun v w => v = some (.int (-3 : Int32)) ∧ w = (m, .inr (8, [.int (nI c), .ref (D 0), .long as, .int (nI ns), .ref (D 1), .ref (D 2), .ref (D 3), .ref (D 4), .ref (D 5), .ref (D 6), .ref (D 7), .ref (D 8), .int ii, .long de, .int dl, .int dp, .int dc, .ref (D 9), .int (nI nr), .ref (D 10), .ref (D 11), .ref (D 12), .ref (D 13), .ref (D 14), .int al, .int wa])) :: (D 0, .inl (G.2.1.1, 6, .inl (upd fc c (fc c + 1)))) :: r) := by
  refine Mt.of (by decide +kernel) rfl rfl (fun X B => ?_)
  show J G X mX8_meets ((m, .inr (8, [.int fi, .ref (D 0), .long as, .int (nI ns), .ref (D 1), .ref (D 2), .ref (D 3), .ref (D 4), .ref (D 5), .ref (D 6), .ref (D 7), .ref (D 8), .int ii, .long de, .int dl, .int dp, .int dc, .ref (D 9), .int (nI nr), .ref (D 10), .ref (D 11), .ref (D 12), .ref (D 13), .ref (D 14), .int al, .int wa])) :: (D 0, .inl (G.2.1.1, 6, .inl fc)) :: r) 0 0 0 [(0, .ref m), (1, .int (nI c))] []
  refine J.aload_n 0 dX8_meets_0 rfl ?_
  refine J.iload_n 1 dX8_meets_1 rfl ?_
  refine J.put 0 fp_X8_66 dX8_meets_2 rfl (rfl) (rfl) rfl (ws' := (m, .inr (8, [.int (nI c), .ref (D 0), .long as, .int (nI ns), .ref (D 1), .ref (D 2), .ref (D 3), .ref (D 4), .ref (D 5), .ref (D 6), .ref (D 7), .ref (D 8), .int ii, .long de, .int dl, .int dp, .int dc, .ref (D 9), .int (nI nr), .ref (D 10), .ref (D 11), .ref (D 12), .ref (D 13), .ref (D 14), .int al, .int wa])) :: (D 0, .inl (G.2.1.1, 6, .inl fc)) :: r) rfl ?_
  refine J.aload_n 0 dX8_meets_5 rfl ?_
  refine J.get 0 fl_X8_7 dX8_meets_6 rfl rfl ?_
  refine J.iload_n 1 dX8_meets_9 rfl ?_
  refine J.dup2 dX8_meets_10 rfl rfl ?_
  refine J.iald 1 (c) dX8_meets_11 rfl (rfl) (by omega) (by decide) ?_
  refine J.iconst (1 : Int32) dX8_meets_12 rfl ?_
  refine J.iadd dX8_meets_13 ?_
  refine J.iast 1 (c) dX8_meets_14 rfl (rfl) (by omega) (by decide) (ws' := (m, .inr (8, [.int (nI c), .ref (D 0), .long as, .int (nI ns), .ref (D 1), .ref (D 2), .ref (D 3), .ref (D 4), .ref (D 5), .ref (D 6), .ref (D 7), .ref (D 8), .int ii, .long de, .int dl, .int dp, .int dc, .ref (D 9), .int (nI nr), .ref (D 10), .ref (D 11), .ref (D 12), .ref (D 13), .ref (D 14), .int al, .int wa])) :: (D 0, .inl (G.2.1.1, 6, .inl (upd fc c ((fc c) + (1 : Int32))))) :: r) rfl ?_
  refine J.bipush (-3 : Int32) dX8_meets_15 rfl ?_
  exact J.iret B dX8_meets_17 rfl (⟨rfl, rfl⟩)
set_option maxHeartbeats 4000000 in
set_option maxRecDepth 100000 in
theorem c_X8_tell (l : Launch) (G : jG) (r : va_W) {m : Nat} {D : Nat → Nat} {fi : Int32} {as : Int64} {ns : Nat} {ii : Int32} {de : Int64} {dl dp dc : Int32} {nr : Nat} {al wa : Int32} {t0 : Int64} : Mt l G yX8_tell mX8_tell 0 0 0 0 [.ref m, .long t0] ((m, .inr (8, [.int fi, .ref (D 0), .long as, .int (nI ns), .ref (D 1), .ref (D 2), .ref (D 3), .ref (D 4), .ref (D 5), .ref (D 6), .ref (D 7), .ref (D 8), .int ii, .long de, .int dl, .int dp, .int dc, .ref (D 9), .int (nI nr), .ref (D 10), .ref (D 11), .ref (D 12), .ref (D 13), .ref (D 14), .int al, .int wa])) :: r) (fun v w => v = some (.int (1 : Int32)) ∧ w = (m, .inr (8, [.int fi, .ref (D 0), .long t0, .int (nI ns), .ref (D 1), .ref (D 2), .ref (D 3), .ref (D 4), .ref (D 5), .ref (D 6), .ref (D 7), .ref (D 8), .int ii, .long de, .int dl, .int dp, .int dc, .ref (D 9), .int (nI nr), .ref (D 10), .ref (D 11), .ref (D 12), .ref (D 13), .ref (D 14), .int al, .int wa])) :: r) := by
  refine Mt.of (by decide +kernel) rfl rfl (fun X B => ?_)
  show J G X mX8_tell ((m, .inr (8, [.int fi, .ref (D 0), .long as, .int (nI ns), .ref (D 1), .ref (D 2), .ref (D 3), .ref (D 4), .ref (D 5), .ref (D 6), .ref (D 7), .ref (D 8), .int ii, .long de, .int dl, .int dp, .int dc, .ref (D 9), .int (nI nr), .ref (D 10), .ref (D 11), .ref (D 12), .ref (D 13), .ref (D 14), .int al, .int wa])) :: r) 0 0 0 [(0, .ref m), (1, .long t0)] []
  refine J.aload_n 0 dX8_tell_0 rfl ?_
  refine J.lload_n 1 dX8_tell_1 rfl ?_
  refine J.put 0 fp_X8_69 dX8_tell_2 rfl (rfl) (rfl) rfl (ws' := (m, .inr (8, [.int fi, .ref (D 0), .long t0, .int (nI ns), .ref (D 1), .ref (D 2), .ref (D 3), .ref (D 4), .ref (D 5), .ref (D 6), .ref (D 7), .ref (D 8), .int ii, .long de, .int dl, .int dp, .int dc, .ref (D 9), .int (nI nr), .ref (D 10), .ref (D 11), .ref (D 12), .ref (D 13), .ref (D 14), .int al, .int wa])) :: r) rfl ?_
  refine J.iconst (1 : Int32) dX8_tell_5 rfl ?_
  exact J.iret B dX8_tell_6 rfl (⟨rfl, rfl⟩)
set_option maxHeartbeats 4000000 in
set_option maxRecDepth 100000 in
theorem c_X8_isStar (l : Launch) (G : jG) (r : va_W) {m : Nat} {D : Nat → Nat} {fi : Int32} {as : Int64} {ns : Nat} {ii : Int32} {de : Int64} {dl dp dc : Int32} {nr : Nat} {al wa : Int32} {num : Int32} (hns : ns ≤ 12) : Mt l G yX8_isStar mX8_isStar 1 22 0 0 [.ref m, .int num] ((m, .inr (8, [.int fi, .ref (D 0), .long as, .int (nI ns), .ref (D 1), .ref (D 2), .ref (D 3), .ref (D 4), .ref (D 5), .ref (D 6), .ref (D 7), .ref (D 8), .int ii, .long de, .int dl, .int dp, .int dc, .ref (D 9), .int (nI nr), .ref (D 10), .ref (D 11), .ref (D 12), .ref (D 13), .ref (D 14), .int al, .int wa])) :: r) (fun v w => v = some (.int (b01 (inR num 0 ((ns : Int) - 1)))) ∧ w = (m, .inr (8, [.int fi, .ref (D 0), .long as, .int (nI ns), .ref (D 1), .ref (D 2), .ref (D 3), .ref (D 4), .ref (D 5), .ref (D 6), .ref (D 7), .ref (D 8), .int ii, .long de, .int dl, .int dp, .int dc, .ref (D 9), .int (nI nr), .ref (D 10), .ref (D 11), .ref (D 12), .ref (D 13), .ref (D 14), .int al, .int wa])) :: r) := by
  refine Mt.of (by decide +kernel) rfl rfl (fun X B => ?_)
  show J G X mX8_isStar ((m, .inr (8, [.int fi, .ref (D 0), .long as, .int (nI ns), .ref (D 1), .ref (D 2), .ref (D 3), .ref (D 4), .ref (D 5), .ref (D 6), .ref (D 7), .ref (D 8), .int ii, .long de, .int dl, .int dp, .int dc, .ref (D 9), .int (nI nr), .ref (D 10), .ref (D 11), .ref (D 12), .ref (D 13), .ref (D 14), .int al, .int wa])) :: r) 0 0 0 [(0, .ref m), (1, .int num)] []
  refine J.iload_n 1 dX8_isStar_0 rfl ?_
  refine J.iconst (0 : Int32) dX8_isStar_1 rfl ?_
  refine J.aload_n 0 dX8_isStar_2 rfl ?_
  refine J.get 0 fl_X8_73 dX8_isStar_3 rfl rfl ?_
  refine J.iconst (1 : Int32) dX8_isStar_6 rfl ?_
  refine J.isub dX8_isStar_7 ?_
  refine J.callS (st := []) B (c_X8_in l G _ (v := num) (lo := (0 : Int32)) (hi := (nI ns) - (1 : Int32)) (a := 0) (b := ((ns : Int) - 1)) rfl (ns1 hns)) ml_X8_76 mf_yX8_in mS_yX8_in dX8_isStar_8 rfl rfl rfl (fun v_1 w_2 hp_3 => ?_)
  obtain ⟨rfl, rfl⟩ := hp_3
  show J G X mX8_isStar _ _ _ 11 _ [.int (b01 (inR num 0 ((ns : Int) - 1)))]
  exact J.zret B dX8_isStar_11 rfl (b01_z _) (⟨rfl, rfl⟩)
set_option maxHeartbeats 4000000 in
set_option maxRecDepth 100000 in
theorem c_X8_fits (l : Launch) (G : jG) (r : va_W) {m : Nat} {D : Nat → Nat} {fi : Int32} {as : Int64} {ns : Nat} {ii : Int32} {de : Int64} {dl dp dc : Int32} {nr : Nat} {al wa : Int32} {kk : Nat → Int32} {s : Nat} {a : Int32} (hs : s < 12) : Mt l G yX8_fits mX8_fits 0 0 0 0 [.ref m, .int (nI s), .int a] ((m, .inr (8, [.int fi, .ref (D 0), .long as, .int (nI ns), .ref (D 1), .ref (D 2), .ref (D 3), .ref (D 4), .ref (D 5), .ref (D 6), .ref (D 7), .ref (D 8), .int ii, .long de, .int dl, .int dp, .int dc, .ref (D 9), .int (nI nr), .ref (D 10), .ref (D 11), .ref (D 12), .ref (D 13), .ref (D 14), .int al, .int wa])) :: (D 1, .inl (G.2.1.1, 12, .inl kk)) :: r) (fun v w => v = some (.int (b01 (ofK (kk s) a))) ∧ w = (m, .inr (8, [.int fi, .ref (D 0), .long as, .int (nI ns), .ref (D 1), .ref (D 2), .ref (D 3), .ref (D 4), .ref (D 5), .ref (D 6), .ref (D 7), .ref (D 8), .int ii, .long de, .int dl, .int dp, .int dc, .ref (D 9), .int (nI nr), .ref (D 10), .ref (D 11), .ref (D 12), .ref (D 13), .ref (D 14), .int al, .int wa])) :: (D 1, .inl (G.2.1.1, 12, .inl kk)) :: r) := by
  refine Mt.of (by decide +kernel) rfl rfl (fun X B => ?_)
  show J G X mX8_fits ((m, .inr (8, [.int fi, .ref (D 0), .long as, .int (nI ns), .ref (D 1), .ref (D 2), .ref (D 3), .ref (D 4), .ref (D 5), .ref (D 6), .ref (D 7), .ref (D 8), .int ii, .long de, .int dl, .int dp, .int dc, .ref (D 9), .int (nI nr), .ref (D 10), .ref (D 11), .ref (D 12), .ref (D 13), .ref (D 14), .int al, .int wa])) :: (D 1, .inl (G.2.1.1, 12, .inl kk)) :: r) 0 0 0 [(0, .ref m), (1, .int (nI s)), (2, .int a)] []
  refine J.iload_n 2 dX8_fits_0 rfl ?_
  refine J.if_eq dX8_fits_1 (fun h_1 => ?_) (fun h_1 => ?_)
  · skip
    refine J.iconst (1 : Int32) dX8_fits_29 rfl ?_
    refine J.goto dX8_fits_30 ?_
    exact J.zret B dX8_fits_34 rfl (by decide) (⟨by simp_all [ofK, b01], rfl⟩)
  · skip
    refine J.iload_n 2 dX8_fits_4 rfl ?_
    refine J.aload_n 0 dX8_fits_5 rfl ?_
    refine J.get 0 fl_X8_13 dX8_fits_6 rfl rfl ?_
    refine J.iload_n 1 dX8_fits_9 rfl ?_
    refine J.iald 1 (s) dX8_fits_10 rfl (rfl) (by omega) (by decide) ?_
    refine J.icmp_eq dX8_fits_11 (fun h_2 => ?_) (fun h_2 => ?_)
    · skip
      refine J.iconst (1 : Int32) dX8_fits_29 rfl ?_
      refine J.goto dX8_fits_30 ?_
      exact J.zret B dX8_fits_34 rfl (by decide) (⟨by simp_all [ofK, b01], rfl⟩)
    · skip
      refine J.iload_n 2 dX8_fits_14 rfl ?_
      refine J.iconst (2 : Int32) dX8_fits_15 rfl ?_
      refine J.icmp_ne dX8_fits_16 (fun h_3 => ?_) (fun h_3 => ?_)
      · skip
        refine J.iconst (0 : Int32) dX8_fits_33 rfl ?_
        exact J.zret B dX8_fits_34 rfl (by decide) (⟨by simp_all [ofK, b01], rfl⟩)
      · skip
        refine J.aload_n 0 dX8_fits_19 rfl ?_
        refine J.get 0 fl_X8_13 dX8_fits_20 rfl rfl ?_
        refine J.iload_n 1 dX8_fits_23 rfl ?_
        refine J.iald 1 (s) dX8_fits_24 rfl (rfl) (by omega) (by decide) ?_
        refine J.iconst (3 : Int32) dX8_fits_25 rfl ?_
        refine J.icmp_ne dX8_fits_26 (fun h_4 => ?_) (fun h_4 => ?_)
        · skip
          refine J.iconst (0 : Int32) dX8_fits_33 rfl ?_
          exact J.zret B dX8_fits_34 rfl (by decide) (⟨by simp_all [ofK, b01], rfl⟩)
        · skip
          refine J.iconst (1 : Int32) dX8_fits_29 rfl ?_
          refine J.goto dX8_fits_30 ?_
          exact J.zret B dX8_fits_34 rfl (by decide) (⟨by simp_all [ofK, b01], rfl⟩)
set_option maxHeartbeats 4000000 in
set_option maxRecDepth 100000 in
theorem c_X8_isNight (l : Launch) (G : jG) (r : va_W) {n : Int32} : Mt l G yX8_isNight mX8_isNight 1 22 0 0 [.int n] (r) (fun v w => v = some (.int (b01 (inR n 0 59))) ∧ w = r) := by
  refine Mt.of (by decide +kernel) rfl rfl (fun X B => ?_)
  show J G X mX8_isNight (r) 0 0 0 [(0, .int n)] []
  refine J.iload_n 0 dX8_isNight_0 rfl ?_
  refine J.iconst (0 : Int32) dX8_isNight_1 rfl ?_
  refine J.bipush (59 : Int32) dX8_isNight_2 rfl ?_
  refine J.callS (st := []) B (c_X8_in l G _ (v := n) (lo := (0 : Int32)) (hi := (59 : Int32)) (a := 0) (b := 59) rfl rfl) ml_X8_76 mf_yX8_in mS_yX8_in dX8_isNight_4 rfl rfl rfl (fun v_1 w_2 hp_3 => ?_)
  obtain ⟨rfl, rfl⟩ := hp_3
  show J G X mX8_isNight _ _ _ 7 _ [.int (b01 (inR n 0 59))]
  exact J.zret B dX8_isNight_7 rfl (b01_z _) (⟨rfl, rfl⟩)
set_option maxHeartbeats 4000000 in
set_option maxRecDepth 100000 in
theorem c_X8_isPeriod (l : Launch) (G : jG) (r : va_W) {n : Int32} : Mt l G yX8_isPeriod mX8_isPeriod 1 22 0 0 [.int n] (r) (fun v w => v = some (.int (b01 (inR n 1 600))) ∧ w = r) := by
  refine Mt.of (by decide +kernel) rfl rfl (fun X B => ?_)
  show J G X mX8_isPeriod (r) 0 0 0 [(0, .int n)] []
  refine J.iload_n 0 dX8_isPeriod_0 rfl ?_
  refine J.iconst (1 : Int32) dX8_isPeriod_1 rfl ?_
  refine J.sipush (600 : Int32) dX8_isPeriod_2 rfl ?_
  refine J.callS (st := []) B (c_X8_in l G _ (v := n) (lo := (1 : Int32)) (hi := (600 : Int32)) (a := 1) (b := 600) rfl rfl) ml_X8_76 mf_yX8_in mS_yX8_in dX8_isPeriod_5 rfl rfl rfl (fun v_1 w_2 hp_3 => ?_)
  obtain ⟨rfl, rfl⟩ := hp_3
  show J G X mX8_isPeriod _ _ _ 8 _ [.int (b01 (inR n 1 600))]
  exact J.zret B dX8_isPeriod_8 rfl (b01_z _) (⟨rfl, rfl⟩)
set_option maxHeartbeats 4000000 in
set_option maxRecDepth 100000 in
theorem c_X8_isPart (l : Launch) (G : jG) (r : va_W) {n : Int32} : Mt l G yX8_isPart mX8_isPart 1 22 0 0 [.int n] (r) (fun v w => v = some (.int (b01 (inR n 1 60))) ∧ w = r) := by
  refine Mt.of (by decide +kernel) rfl rfl (fun X B => ?_)
  show J G X mX8_isPart (r) 0 0 0 [(0, .int n)] []
  refine J.iload_n 0 dX8_isPart_0 rfl ?_
  refine J.iconst (1 : Int32) dX8_isPart_1 rfl ?_
  refine J.bipush (60 : Int32) dX8_isPart_2 rfl ?_
  refine J.callS (st := []) B (c_X8_in l G _ (v := n) (lo := (1 : Int32)) (hi := (60 : Int32)) (a := 1) (b := 60) rfl rfl) ml_X8_76 mf_yX8_in mS_yX8_in dX8_isPart_4 rfl rfl rfl (fun v_1 w_2 hp_3 => ?_)
  obtain ⟨rfl, rfl⟩ := hp_3
  show J G X mX8_isPart _ _ _ 7 _ [.int (b01 (inR n 1 60))]
  exact J.zret B dX8_isPart_7 rfl (b01_z _) (⟨rfl, rfl⟩)
set_option maxHeartbeats 4000000 in
set_option maxRecDepth 100000 in
theorem c_X8_has (l : Launch) (G : jG) (r : va_W) {m : Nat} {D : Nat → Nat} {fi : Int32} {as : Int64} {ns : Nat} {ii : Int32} {de : Int64} {dl dp dc : Int32} {nr : Nat} {al wa : Int32} {ml : Nat → Int32} {s n : Nat} (hs : s < 12) (hn : n < 60) : Mt l G yX8_has mX8_has 0 0 0 0 [.ref m, .int (nI s), .int (nI n)] ((m, .inr (8, [.int fi, .ref (D 0), .long as, .int (nI ns), .ref (D 1), .ref (D 2), .ref (D 3), .ref (D 4), .ref (D 5), .ref (D 6), .ref (D 7), .ref (D 8), .int ii, .long de, .int dl, .int dp, .int dc, .ref (D 9), .int (nI nr), .ref (D 10), .ref (D 11), .ref (D 12), .ref (D 13), .ref (D 14), .int al, .int wa])) :: (D 3, .inl (G.2.1.1, 720, .inl ml)) :: r) (fun v w => v = some (.int (b01 (decide (¬ rowM ml s n = -9)))) ∧ w = (m, .inr (8, [.int fi, .ref (D 0), .long as, .int (nI ns), .ref (D 1), .ref (D 2), .ref (D 3), .ref (D 4), .ref (D 5), .ref (D 6), .ref (D 7), .ref (D 8), .int ii, .long de, .int dl, .int dp, .int dc, .ref (D 9), .int (nI nr), .ref (D 10), .ref (D 11), .ref (D 12), .ref (D 13), .ref (D 14), .int al, .int wa])) :: (D 3, .inl (G.2.1.1, 720, .inl ml)) :: r) := by
  refine Mt.of (by decide +kernel) rfl rfl (fun X B => ?_)
  show J G X mX8_has ((m, .inr (8, [.int fi, .ref (D 0), .long as, .int (nI ns), .ref (D 1), .ref (D 2), .ref (D 3), .ref (D 4), .ref (D 5), .ref (D 6), .ref (D 7), .ref (D 8), .int ii, .long de, .int dl, .int dp, .int dc, .ref (D 9), .int (nI nr), .ref (D 10), .ref (D 11), .ref (D 12), .ref (D 13), .ref (D 14), .int al, .int wa])) :: (D 3, .inl (G.2.1.1, 720, .inl ml)) :: r) 0 0 0 [(0, .ref m), (1, .int (nI s)), (2, .int (nI n))] []
  refine J.aload_n 0 dX8_has_0 rfl ?_
  refine J.get 0 fl_X8_20 dX8_has_1 rfl rfl ?_
  refine J.bipush (60 : Int32) dX8_has_4 rfl ?_
  refine J.iload_n 1 dX8_has_6 rfl ?_
  refine J.imul dX8_has_7 ?_
  refine J.topi (y := nI (60 * s)) (pk_mul 60 s) ?_
  refine J.iload_n 2 dX8_has_8 rfl ?_
  refine J.iadd dX8_has_9 ?_
  refine J.topi (y := nI ((60 * s) + n)) (nI_add (60 * s) n) ?_
  refine J.iald 1 ((60 * s) + n) dX8_has_10 rfl (rfl) (by omega) (by decide) ?_
  refine J.bipush (-9 : Int32) dX8_has_11 rfl ?_
  refine J.icmp_eq dX8_has_13 (fun h9 => ?_) (fun h9 => ?_)
  · skip
    refine J.iconst (0 : Int32) dX8_has_20 rfl ?_
    exact J.zret B dX8_has_21 rfl (by decide) (⟨by rw [show decide (¬ rowM ml s n = -9) = false from decide_eq_false (fun z => z h9)]; rfl, rfl⟩)
  · skip
    refine J.iconst (1 : Int32) dX8_has_16 rfl ?_
    refine J.goto dX8_has_17 ?_
    exact J.zret B dX8_has_21 rfl (by decide) (⟨by rw [show decide (¬ rowM ml s n = -9) = true from decide_eq_true h9]; rfl, rfl⟩)
set_option maxHeartbeats 4000000 in
set_option maxRecDepth 100000 in
theorem c_X8_lightOf (l : Launch) (G : jG) (r : va_W) {m : Nat} {D : Nat → Nat} {fi : Int32} {as : Int64} {ns : Nat} {ii : Int32} {de : Int64} {dl dp dc : Int32} {nr : Nat} {al wa : Int32} {F : Nat → Int32} {ml : Nat → Int32} {s n : Nat} (hs : s < 12) (hn : n < 60) : Mt l G yX8_lightOf mX8_lightOf 0 0 0 0 [.ref m, .int (nI s), .int (nI n)] ((m, .inr (8, [.int fi, .ref (D 0), .long as, .int (nI ns), .ref (D 1), .ref (D 2), .ref (D 3), .ref (D 4), .ref (D 5), .ref (D 6), .ref (D 7), .ref (D 8), .int ii, .long de, .int dl, .int dp, .int dc, .ref (D 9), .int (nI nr), .ref (D 10), .ref (D 11), .ref (D 12), .ref (D 13), .ref (D 14), .int al, .int wa])) :: (D 3, .inl (G.2.1.1, 720, .inl ml)) :: (D 4, .inl (G.2.1.1, 60, .inl F)) :: r) (fun v w => v = some (.int (ltF (rowM ml s) F n)) ∧ w = (m, .inr (8, [.int fi, .ref (D 0), .long as, .int (nI ns), .ref (D 1), .ref (D 2), .ref (D 3), .ref (D 4), .ref (D 5), .ref (D 6), .ref (D 7), .ref (D 8), .int ii, .long de, .int dl, .int dp, .int dc, .ref (D 9), .int (nI nr), .ref (D 10), .ref (D 11), .ref (D 12), .ref (D 13), .ref (D 14), .int al, .int wa])) :: (D 3, .inl (G.2.1.1, 720, .inl ml)) :: (D 4, .inl (G.2.1.1, 60, .inl F)) :: r) := by
  refine Mt.of (by decide +kernel) rfl rfl (fun X B => ?_)
  show J G X mX8_lightOf ((m, .inr (8, [.int fi, .ref (D 0), .long as, .int (nI ns), .ref (D 1), .ref (D 2), .ref (D 3), .ref (D 4), .ref (D 5), .ref (D 6), .ref (D 7), .ref (D 8), .int ii, .long de, .int dl, .int dp, .int dc, .ref (D 9), .int (nI nr), .ref (D 10), .ref (D 11), .ref (D 12), .ref (D 13), .ref (D 14), .int al, .int wa])) :: (D 3, .inl (G.2.1.1, 720, .inl ml)) :: (D 4, .inl (G.2.1.1, 60, .inl F)) :: r) 0 0 0 [(0, .ref m), (1, .int (nI s)), (2, .int (nI n))] []
  refine J.aload_n 0 dX8_lightOf_0 rfl ?_
  refine J.get 0 fl_X8_20 dX8_lightOf_1 rfl rfl ?_
  refine J.bipush (60 : Int32) dX8_lightOf_4 rfl ?_
  refine J.iload_n 1 dX8_lightOf_6 rfl ?_
  refine J.imul dX8_lightOf_7 ?_
  refine J.topi (y := nI (60 * s)) (pk_mul 60 s) ?_
  refine J.iload_n 2 dX8_lightOf_8 rfl ?_
  refine J.iadd dX8_lightOf_9 ?_
  refine J.topi (y := nI ((60 * s) + n)) (nI_add (60 * s) n) ?_
  refine J.iald 1 ((60 * s) + n) dX8_lightOf_10 rfl (rfl) (by omega) (by decide) ?_
  refine J.aload_n 0 dX8_lightOf_11 rfl ?_
  refine J.get 0 fl_X8_23 dX8_lightOf_12 rfl rfl ?_
  refine J.iload_n 2 dX8_lightOf_15 rfl ?_
  refine J.iald 2 (n) dX8_lightOf_16 rfl (rfl) (by omega) (by decide) ?_
  refine J.isub dX8_lightOf_17 ?_
  exact J.iret B dX8_lightOf_18 rfl (⟨rfl, rfl⟩)
set_option maxHeartbeats 4000000 in
set_option maxRecDepth 100000 in
theorem X8_many_lp {l : Launch} {G : jG} {X : jX} {r : va_W} {m : Nat} {D : Nat → Nat} {fi : Int32} {as : Int64} {ns : Nat} {ii : Int32} {de : Int64} {dl dp dc : Int32} {nr : Nat} {al wa : Int32} {ml : Nat → Int32} {s : Nat} (B : jB l G X 1 22 0 0 (fun v w => v = some (.int (nI (nN (rowM ml s)))) ∧ w = (m, .inr (8, [.int fi, .ref (D 0), .long as, .int (nI ns), .ref (D 1), .ref (D 2), .ref (D 3), .ref (D 4), .ref (D 5), .ref (D 6), .ref (D 7), .ref (D 8), .int ii, .long de, .int dl, .int dp, .int dc, .ref (D 9), .int (nI nr), .ref (D 10), .ref (D 11), .ref (D 12), .ref (D 13), .ref (D 14), .int al, .int wa])) :: (D 3, .inl (G.2.1.1, 720, .inl ml)) :: r) "many") (k : Nat) (hs : s < 12) (hk : k ≤ 60) : J G X mX8_many ((m, .inr (8, [.int fi, .ref (D 0), .long as, .int (nI ns), .ref (D 1), .ref (D 2), .ref (D 3), .ref (D 4), .ref (D 5), .ref (D 6), .ref (D 7), .ref (D 8), .int ii, .long de, .int dl, .int dp, .int dc, .ref (D 9), .int (nI nr), .ref (D 10), .ref (D 11), .ref (D 12), .ref (D 13), .ref (D 14), .int al, .int wa])) :: (D 3, .inl (G.2.1.1, 720, .inl ml)) :: r) 0 0 4 [(0, .ref m), (1, .int (nI s)), (2, .int (nI ((nts (rowM ml s) k).length))), (3, .int (nI k))] [] := by
  refine J.iload_n 3 dX8_many_4 rfl ?_
  refine J.bipush (60 : Int32) dX8_many_5 rfl ?_
  refine J.icmp_ge dX8_many_7 (fun h9 => ?_) (fun h9 => ?_)
  · skip
    have h9 : 60 ≤ k := (nI_leI (a := 60) (b := k) (by omega) (by omega)).mp h9
    have e : k = 60 := by omega
    subst e
    refine J.iload_n 2 dX8_many_33 rfl ?_
    exact J.iret B dX8_many_34 rfl (⟨rfl, rfl⟩)
  · skip
    have h9 : ¬ 60 ≤ k := fun z => h9 ((nI_leI (a := 60) (b := k) (by omega) (by omega)).mpr z)
    refine J.iload_n 2 dX8_many_10 rfl ?_
    refine J.aload_n 0 dX8_many_11 rfl ?_
    refine J.iload_n 1 dX8_many_12 rfl ?_
    refine J.iload_n 3 dX8_many_13 rfl ?_
    refine J.callV 0 (st := [.int (nI ((nts (rowM ml s) k).length))]) B (c_X8_has l G _ (s := s) (n := k) hs (by omega)) ml_X8_88 mf_yX8_has mi_yX8_has rfl dX8_many_14 rfl rfl rfl rfl (fun v_1 w_2 hp_3 => ?_)
    obtain ⟨rfl, rfl⟩ := hp_3
    show J G X mX8_many _ _ _ 17 _ [.int (b01 (decide (¬ rowM ml s k = -9))), .int (nI ((nts (rowM ml s) k).length))]
    refine J.if_eq dX8_many_17 (fun h8 => ?_) (fun h8 => ?_)
    · skip
      have h8 : rowM ml s k = -9 := Decidable.of_not_not (of_decide_eq_false (b01_0 h8))
      refine J.iconst (0 : Int32) dX8_many_24 rfl ?_
      refine J.iadd dX8_many_25 ?_
      refine J.topi (y := nI (((nts (rowM ml s) k).length) + 0)) (nI_add ((nts (rowM ml s) k).length) 0) ?_
      refine J.istore_n [1, 2, 0, 3] (lv' := [(0, .ref m), (1, .int (nI s)), (2, .int (nI (((nts (rowM ml s) k).length) + 0))), (3, .int (nI k))]) dX8_many_26 rfl rfl ?_
      refine J.iinc 3 [1, 2, 3, 0] (lv' := [(0, .ref m), (1, .int (nI s)), (2, .int (nI (((nts (rowM ml s) k).length) + 0))), (3, .int (nI (k + 1)))]) dX8_many_27 rfl (jinc1 _) rfl rfl ?_
      refine J.goto dX8_many_30 ?_
      rw [Nat.add_zero, ← nts_no h8]
      exact X8_many_lp B (k + 1) hs (by omega)
    · skip
      have h8 : ¬ rowM ml s k = -9 := of_decide_eq_true (b01_1 h8)
      refine J.iconst (1 : Int32) dX8_many_20 rfl ?_
      refine J.goto dX8_many_21 ?_
      refine J.iadd dX8_many_25 ?_
      refine J.topi (y := nI (((nts (rowM ml s) k).length) + 1)) (nI_add ((nts (rowM ml s) k).length) 1) ?_
      refine J.istore_n [1, 2, 0, 3] (lv' := [(0, .ref m), (1, .int (nI s)), (2, .int (nI (((nts (rowM ml s) k).length) + 1))), (3, .int (nI k))]) dX8_many_26 rfl rfl ?_
      refine J.iinc 3 [1, 2, 3, 0] (lv' := [(0, .ref m), (1, .int (nI s)), (2, .int (nI (((nts (rowM ml s) k).length) + 1))), (3, .int (nI (k + 1)))]) dX8_many_27 rfl (jinc1 _) rfl rfl ?_
      refine J.goto dX8_many_30 ?_
      rw [← nts_yes_len h8]
      exact X8_many_lp B (k + 1) hs (by omega)
termination_by 60 - k
decreasing_by all_goals omega
set_option maxHeartbeats 4000000 in
set_option maxRecDepth 100000 in
theorem c_X8_many (l : Launch) (G : jG) (r : va_W) {m : Nat} {D : Nat → Nat} {fi : Int32} {as : Int64} {ns : Nat} {ii : Int32} {de : Int64} {dl dp dc : Int32} {nr : Nat} {al wa : Int32} {ml : Nat → Int32} {s : Nat} (hs : s < 12) : Mt l G yX8_many mX8_many 1 22 0 0 [.ref m, .int (nI s)] ((m, .inr (8, [.int fi, .ref (D 0), .long as, .int (nI ns), .ref (D 1), .ref (D 2), .ref (D 3), .ref (D 4), .ref (D 5), .ref (D 6), .ref (D 7), .ref (D 8), .int ii, .long de, .int dl, .int dp, .int dc, .ref (D 9), .int (nI nr), .ref (D 10), .ref (D 11), .ref (D 12), .ref (D 13), .ref (D 14), .int al, .int wa])) :: (D 3, .inl (G.2.1.1, 720, .inl ml)) :: r) (fun v w => v = some (.int (nI (nN (rowM ml s)))) ∧ w = (m, .inr (8, [.int fi, .ref (D 0), .long as, .int (nI ns), .ref (D 1), .ref (D 2), .ref (D 3), .ref (D 4), .ref (D 5), .ref (D 6), .ref (D 7), .ref (D 8), .int ii, .long de, .int dl, .int dp, .int dc, .ref (D 9), .int (nI nr), .ref (D 10), .ref (D 11), .ref (D 12), .ref (D 13), .ref (D 14), .int al, .int wa])) :: (D 3, .inl (G.2.1.1, 720, .inl ml)) :: r) := by
  refine Mt.of (by decide +kernel) rfl rfl (fun X B => ?_)
  show J G X mX8_many ((m, .inr (8, [.int fi, .ref (D 0), .long as, .int (nI ns), .ref (D 1), .ref (D 2), .ref (D 3), .ref (D 4), .ref (D 5), .ref (D 6), .ref (D 7), .ref (D 8), .int ii, .long de, .int dl, .int dp, .int dc, .ref (D 9), .int (nI nr), .ref (D 10), .ref (D 11), .ref (D 12), .ref (D 13), .ref (D 14), .int al, .int wa])) :: (D 3, .inl (G.2.1.1, 720, .inl ml)) :: r) 0 0 0 [(0, .ref m), (1, .int (nI s))] []
  refine J.iconst (0 : Int32) dX8_many_0 rfl ?_
  refine J.istore_n [1, 2, 0] (lv' := [(0, .ref m), (1, .int (nI s)), (2, .int (0 : Int32))]) dX8_many_1 rfl rfl ?_
  refine J.iconst (0 : Int32) dX8_many_2 rfl ?_
  refine J.istore_n [1, 2, 3, 0] (lv' := [(0, .ref m), (1, .int (nI s)), (2, .int (0 : Int32)), (3, .int (0 : Int32))]) dX8_many_3 rfl rfl ?_
  exact X8_many_lp B 0 hs (by omega)
set_option maxHeartbeats 4000000 in
set_option maxRecDepth 100000 in
theorem X8_swing_lp {l : Launch} {G : jG} {X : jX} {r : va_W} {m : Nat} {D : Nat → Nat} {fi : Int32} {as : Int64} {ns : Nat} {ii : Int32} {de : Int64} {dl dp dc : Int32} {nr : Nat} {al wa : Int32} {ml F : Nat → Int32} {s : Nat} (B : jB l G X 1 22 0 0 (fun v w => v = some (.int (swg (lits (rowM ml s) F 60))) ∧ w = (m, .inr (8, [.int fi, .ref (D 0), .long as, .int (nI ns), .ref (D 1), .ref (D 2), .ref (D 3), .ref (D 4), .ref (D 5), .ref (D 6), .ref (D 7), .ref (D 8), .int ii, .long de, .int dl, .int dp, .int dc, .ref (D 9), .int (nI nr), .ref (D 10), .ref (D 11), .ref (D 12), .ref (D 13), .ref (D 14), .int al, .int wa])) :: (D 3, .inl (G.2.1.1, 720, .inl ml)) :: (D 4, .inl (G.2.1.1, 60, .inl F)) :: r) "swing") (k : Nat) (a b : Int32) (n : Nat) (hs : s < 12) (hk : k ≤ 60) (hw : swF (lits (rowM ml s) F k) = (a, b, n)) : J G X mX8_swing ((m, .inr (8, [.int fi, .ref (D 0), .long as, .int (nI ns), .ref (D 1), .ref (D 2), .ref (D 3), .ref (D 4), .ref (D 5), .ref (D 6), .ref (D 7), .ref (D 8), .int ii, .long de, .int dl, .int dp, .int dc, .ref (D 9), .int (nI nr), .ref (D 10), .ref (D 11), .ref (D 12), .ref (D 13), .ref (D 14), .int al, .int wa])) :: (D 3, .inl (G.2.1.1, 720, .inl ml)) :: (D 4, .inl (G.2.1.1, 60, .inl F)) :: r) 0 0 10 [(0, .ref m), (1, .int (nI s)), (2, .int a), (3, .int b), (4, .int (nI n)), (5, .int (nI k))] [] := by
  have hn := swl_nn hw
  have hn2 := nts_le (rowM ml s) k
  by_cases h7 : n = 0
  · skip
    refine J.iload 5 dX8_swing_10 rfl ?_
    refine J.bipush (60 : Int32) dX8_swing_12 rfl ?_
    refine J.icmp_ge dX8_swing_14 (fun h9 => ?_) (fun h9 => ?_)
    · skip
      have h9 : 60 ≤ k := (nI_leI (a := 60) (b := k) (by omega) (by omega)).mp h9
      have e : k = 60 := by omega
      subst e
      refine J.iload_n 3 dX8_swing_92 rfl ?_
      refine J.iload_n 2 dX8_swing_93 rfl ?_
      refine J.isub dX8_swing_94 ?_
      exact J.iret B dX8_swing_95 rfl (⟨by unfold swg; rw [hw], rfl⟩)
    · skip
      have h9 : ¬ 60 ≤ k := fun z => h9 ((nI_leI (a := 60) (b := k) (by omega) (by omega)).mpr z)
      refine J.aload_n 0 dX8_swing_17 rfl ?_
      refine J.iload_n 1 dX8_swing_18 rfl ?_
      refine J.iload 5 dX8_swing_19 rfl ?_
      refine J.callV 0 (st := []) B (c_X8_has l G _ (s := s) (n := k) hs (by omega)) ml_X8_88 mf_yX8_has mi_yX8_has rfl dX8_swing_21 rfl rfl rfl rfl (fun v_1 w_2 hp_3 => ?_)
      obtain ⟨rfl, rfl⟩ := hp_3
      show J G X mX8_swing _ _ _ 24 _ [.int (b01 (decide (¬ rowM ml s k = -9)))]
      refine J.if_eq dX8_swing_24 (fun h8 => ?_) (fun h8 => ?_)
      · skip
        have h8 : rowM ml s k = -9 := Decidable.of_not_not (of_decide_eq_false (b01_0 h8))
        refine J.iinc 5 [1, 2, 3, 4, 5, 0] (lv' := [(0, .ref m), (1, .int (nI s)), (2, .int a), (3, .int b), (4, .int (nI n)), (5, .int (nI (k + 1)))]) dX8_swing_86 rfl (jinc1 _) rfl rfl ?_
        refine J.goto dX8_swing_89 ?_
        exact X8_swing_lp B (k + 1) a b n hs (by omega) (by rw [swl_no h8]; exact hw)
      · skip
        have h8 : ¬ rowM ml s k = -9 := of_decide_eq_true (b01_1 h8)
        refine J.iload 4 dX8_swing_27 rfl ?_
        refine J.if_eq dX8_swing_29 (fun h3 => ?_) (fun z => absurd (by rw [h7]; rfl) z)
        refine J.aload_n 0 dX8_swing_43 rfl ?_
        refine J.iload_n 1 dX8_swing_44 rfl ?_
        refine J.iload 5 dX8_swing_45 rfl ?_
        refine J.callV 0 (st := []) B (c_X8_lightOf l G _ (s := s) (n := k) hs (by omega)) ml_X8_91 mf_yX8_lightOf mi_yX8_lightOf rfl dX8_swing_47 rfl rfl rfl rfl (fun v_4 w_5 hp_6 => ?_)
        obtain ⟨rfl, rfl⟩ := hp_6
        show J G X mX8_swing _ _ _ 50 _ [.int (ltF (rowM ml s) F k)]
        refine J.goto dX8_swing_50 ?_
        refine J.istore_n [1, 2, 0, 3, 4, 5] (lv' := [(0, .ref m), (1, .int (nI s)), (2, .int (ltF (rowM ml s) F k)), (3, .int b), (4, .int (nI n)), (5, .int (nI k))]) dX8_swing_54 rfl rfl ?_
        refine J.iload 4 dX8_swing_55 rfl ?_
        refine J.if_eq dX8_swing_57 (fun h3 => ?_) (fun z => absurd (by rw [h7]; rfl) z)
        refine J.aload_n 0 dX8_swing_71 rfl ?_
        refine J.iload_n 1 dX8_swing_72 rfl ?_
        refine J.iload 5 dX8_swing_73 rfl ?_
        refine J.callV 0 (st := []) B (c_X8_lightOf l G _ (s := s) (n := k) hs (by omega)) ml_X8_91 mf_yX8_lightOf mi_yX8_lightOf rfl dX8_swing_75 rfl rfl rfl rfl (fun v_7 w_8 hp_9 => ?_)
        obtain ⟨rfl, rfl⟩ := hp_9
        show J G X mX8_swing _ _ _ 78 _ [.int (ltF (rowM ml s) F k)]
        refine J.goto dX8_swing_78 ?_
        refine J.istore_n [1, 2, 3, 0, 4, 5] (lv' := [(0, .ref m), (1, .int (nI s)), (2, .int (ltF (rowM ml s) F k)), (3, .int (ltF (rowM ml s) F k)), (4, .int (nI n)), (5, .int (nI k))]) dX8_swing_82 rfl rfl ?_
        refine J.iinc 4 [1, 2, 3, 4, 0, 5] (lv' := [(0, .ref m), (1, .int (nI s)), (2, .int (ltF (rowM ml s) F k)), (3, .int (ltF (rowM ml s) F k)), (4, .int (nI (n + 1))), (5, .int (nI k))]) dX8_swing_83 rfl (jinc1 _) rfl rfl ?_
        refine J.iinc 5 [1, 2, 3, 4, 5, 0] (lv' := [(0, .ref m), (1, .int (nI s)), (2, .int (ltF (rowM ml s) F k)), (3, .int (ltF (rowM ml s) F k)), (4, .int (nI (n + 1))), (5, .int (nI (k + 1)))]) dX8_swing_86 rfl (jinc1 _) rfl rfl ?_
        refine J.goto dX8_swing_89 ?_
        exact X8_swing_lp B (k + 1) (ltF (rowM ml s) F k) (ltF (rowM ml s) F k) (n + 1) hs (by omega) (by rw [swl_yes h8, hw]; exact sw_step (by first | exact Or.inl ⟨Or.inl h7, rfl⟩ | exact Or.inl ⟨Or.inr (Int32.not_le.mp h6), rfl⟩ | exact Or.inr ⟨fun z => z.elim h7 (Int32.not_lt.mpr h6), rfl⟩) (by first | exact Or.inl ⟨Or.inl h7, rfl⟩ | exact Or.inl ⟨Or.inr (Int32.not_le.mp h5), rfl⟩ | exact Or.inr ⟨fun z => z.elim h7 (Int32.not_lt.mpr h5), rfl⟩))
  · skip
    refine J.iload 5 dX8_swing_10 rfl ?_
    refine J.bipush (60 : Int32) dX8_swing_12 rfl ?_
    refine J.icmp_ge dX8_swing_14 (fun h9 => ?_) (fun h9 => ?_)
    · skip
      have h9 : 60 ≤ k := (nI_leI (a := 60) (b := k) (by omega) (by omega)).mp h9
      have e : k = 60 := by omega
      subst e
      refine J.iload_n 3 dX8_swing_92 rfl ?_
      refine J.iload_n 2 dX8_swing_93 rfl ?_
      refine J.isub dX8_swing_94 ?_
      exact J.iret B dX8_swing_95 rfl (⟨by unfold swg; rw [hw], rfl⟩)
    · skip
      have h9 : ¬ 60 ≤ k := fun z => h9 ((nI_leI (a := 60) (b := k) (by omega) (by omega)).mpr z)
      refine J.aload_n 0 dX8_swing_17 rfl ?_
      refine J.iload_n 1 dX8_swing_18 rfl ?_
      refine J.iload 5 dX8_swing_19 rfl ?_
      refine J.callV 0 (st := []) B (c_X8_has l G _ (s := s) (n := k) hs (by omega)) ml_X8_88 mf_yX8_has mi_yX8_has rfl dX8_swing_21 rfl rfl rfl rfl (fun v_1 w_2 hp_3 => ?_)
      obtain ⟨rfl, rfl⟩ := hp_3
      show J G X mX8_swing _ _ _ 24 _ [.int (b01 (decide (¬ rowM ml s k = -9)))]
      refine J.if_eq dX8_swing_24 (fun h8 => ?_) (fun h8 => ?_)
      · skip
        have h8 : rowM ml s k = -9 := Decidable.of_not_not (of_decide_eq_false (b01_0 h8))
        refine J.iinc 5 [1, 2, 3, 4, 5, 0] (lv' := [(0, .ref m), (1, .int (nI s)), (2, .int a), (3, .int b), (4, .int (nI n)), (5, .int (nI (k + 1)))]) dX8_swing_86 rfl (jinc1 _) rfl rfl ?_
        refine J.goto dX8_swing_89 ?_
        exact X8_swing_lp B (k + 1) a b n hs (by omega) (by rw [swl_no h8]; exact hw)
      · skip
        have h8 : ¬ rowM ml s k = -9 := of_decide_eq_true (b01_1 h8)
        refine J.iload 4 dX8_swing_27 rfl ?_
        refine J.if_eq dX8_swing_29 (fun z => absurd z (nI_ne0 (by omega) (by omega))) (fun h3 => ?_)
        refine J.aload_n 0 dX8_swing_32 rfl ?_
        refine J.iload_n 1 dX8_swing_33 rfl ?_
        refine J.iload 5 dX8_swing_34 rfl ?_
        refine J.callV 0 (st := []) B (c_X8_lightOf l G _ (s := s) (n := k) hs (by omega)) ml_X8_91 mf_yX8_lightOf mi_yX8_lightOf rfl dX8_swing_36 rfl rfl rfl rfl (fun v_4 w_5 hp_6 => ?_)
        obtain ⟨rfl, rfl⟩ := hp_6
        show J G X mX8_swing _ _ _ 39 _ [.int (ltF (rowM ml s) F k)]
        refine J.iload_n 2 dX8_swing_39 rfl ?_
        refine J.icmp_ge dX8_swing_40 (fun h6 => ?_) (fun h6 => ?_)
        · skip
          refine J.iload_n 2 dX8_swing_53 rfl ?_
          refine J.istore_n [1, 2, 0, 3, 4, 5] (lv' := [(0, .ref m), (1, .int (nI s)), (2, .int a), (3, .int b), (4, .int (nI n)), (5, .int (nI k))]) dX8_swing_54 rfl rfl ?_
          refine J.iload 4 dX8_swing_55 rfl ?_
          refine J.if_eq dX8_swing_57 (fun z => absurd z (nI_ne0 (by omega) (by omega))) (fun h3 => ?_)
          refine J.aload_n 0 dX8_swing_60 rfl ?_
          refine J.iload_n 1 dX8_swing_61 rfl ?_
          refine J.iload 5 dX8_swing_62 rfl ?_
          refine J.callV 0 (st := []) B (c_X8_lightOf l G _ (s := s) (n := k) hs (by omega)) ml_X8_91 mf_yX8_lightOf mi_yX8_lightOf rfl dX8_swing_64 rfl rfl rfl rfl (fun v_7 w_8 hp_9 => ?_)
          obtain ⟨rfl, rfl⟩ := hp_9
          show J G X mX8_swing _ _ _ 67 _ [.int (ltF (rowM ml s) F k)]
          refine J.iload_n 3 dX8_swing_67 rfl ?_
          refine J.icmp_le dX8_swing_68 (fun h5 => ?_) (fun h5 => ?_)
          · skip
            refine J.iload_n 3 dX8_swing_81 rfl ?_
            refine J.istore_n [1, 2, 3, 0, 4, 5] (lv' := [(0, .ref m), (1, .int (nI s)), (2, .int a), (3, .int b), (4, .int (nI n)), (5, .int (nI k))]) dX8_swing_82 rfl rfl ?_
            refine J.iinc 4 [1, 2, 3, 4, 0, 5] (lv' := [(0, .ref m), (1, .int (nI s)), (2, .int a), (3, .int b), (4, .int (nI (n + 1))), (5, .int (nI k))]) dX8_swing_83 rfl (jinc1 _) rfl rfl ?_
            refine J.iinc 5 [1, 2, 3, 4, 5, 0] (lv' := [(0, .ref m), (1, .int (nI s)), (2, .int a), (3, .int b), (4, .int (nI (n + 1))), (5, .int (nI (k + 1)))]) dX8_swing_86 rfl (jinc1 _) rfl rfl ?_
            refine J.goto dX8_swing_89 ?_
            exact X8_swing_lp B (k + 1) a b (n + 1) hs (by omega) (by rw [swl_yes h8, hw]; exact sw_step (by first | exact Or.inl ⟨Or.inl h7, rfl⟩ | exact Or.inl ⟨Or.inr (Int32.not_le.mp h6), rfl⟩ | exact Or.inr ⟨fun z => z.elim h7 (Int32.not_lt.mpr h6), rfl⟩) (by first | exact Or.inl ⟨Or.inl h7, rfl⟩ | exact Or.inl ⟨Or.inr (Int32.not_le.mp h5), rfl⟩ | exact Or.inr ⟨fun z => z.elim h7 (Int32.not_lt.mpr h5), rfl⟩))
          · skip
            refine J.aload_n 0 dX8_swing_71 rfl ?_
            refine J.iload_n 1 dX8_swing_72 rfl ?_
            refine J.iload 5 dX8_swing_73 rfl ?_
            refine J.callV 0 (st := []) B (c_X8_lightOf l G _ (s := s) (n := k) hs (by omega)) ml_X8_91 mf_yX8_lightOf mi_yX8_lightOf rfl dX8_swing_75 rfl rfl rfl rfl (fun v_10 w_11 hp_12 => ?_)
            obtain ⟨rfl, rfl⟩ := hp_12
            show J G X mX8_swing _ _ _ 78 _ [.int (ltF (rowM ml s) F k)]
            refine J.goto dX8_swing_78 ?_
            refine J.istore_n [1, 2, 3, 0, 4, 5] (lv' := [(0, .ref m), (1, .int (nI s)), (2, .int a), (3, .int (ltF (rowM ml s) F k)), (4, .int (nI n)), (5, .int (nI k))]) dX8_swing_82 rfl rfl ?_
            refine J.iinc 4 [1, 2, 3, 4, 0, 5] (lv' := [(0, .ref m), (1, .int (nI s)), (2, .int a), (3, .int (ltF (rowM ml s) F k)), (4, .int (nI (n + 1))), (5, .int (nI k))]) dX8_swing_83 rfl (jinc1 _) rfl rfl ?_
            refine J.iinc 5 [1, 2, 3, 4, 5, 0] (lv' := [(0, .ref m), (1, .int (nI s)), (2, .int a), (3, .int (ltF (rowM ml s) F k)), (4, .int (nI (n + 1))), (5, .int (nI (k + 1)))]) dX8_swing_86 rfl (jinc1 _) rfl rfl ?_
            refine J.goto dX8_swing_89 ?_
            exact X8_swing_lp B (k + 1) a (ltF (rowM ml s) F k) (n + 1) hs (by omega) (by rw [swl_yes h8, hw]; exact sw_step (by first | exact Or.inl ⟨Or.inl h7, rfl⟩ | exact Or.inl ⟨Or.inr (Int32.not_le.mp h6), rfl⟩ | exact Or.inr ⟨fun z => z.elim h7 (Int32.not_lt.mpr h6), rfl⟩) (by first | exact Or.inl ⟨Or.inl h7, rfl⟩ | exact Or.inl ⟨Or.inr (Int32.not_le.mp h5), rfl⟩ | exact Or.inr ⟨fun z => z.elim h7 (Int32.not_lt.mpr h5), rfl⟩))
        · skip
          refine J.aload_n 0 dX8_swing_43 rfl ?_
          refine J.iload_n 1 dX8_swing_44 rfl ?_
          refine J.iload 5 dX8_swing_45 rfl ?_
          refine J.callV 0 (st := []) B (c_X8_lightOf l G _ (s := s) (n := k) hs (by omega)) ml_X8_91 mf_yX8_lightOf mi_yX8_lightOf rfl dX8_swing_47 rfl rfl rfl rfl (fun v_13 w_14 hp_15 => ?_)
          obtain ⟨rfl, rfl⟩ := hp_15
          show J G X mX8_swing _ _ _ 50 _ [.int (ltF (rowM ml s) F k)]
          refine J.goto dX8_swing_50 ?_
          refine J.istore_n [1, 2, 0, 3, 4, 5] (lv' := [(0, .ref m), (1, .int (nI s)), (2, .int (ltF (rowM ml s) F k)), (3, .int b), (4, .int (nI n)), (5, .int (nI k))]) dX8_swing_54 rfl rfl ?_
          refine J.iload 4 dX8_swing_55 rfl ?_
          refine J.if_eq dX8_swing_57 (fun z => absurd z (nI_ne0 (by omega) (by omega))) (fun h3 => ?_)
          refine J.aload_n 0 dX8_swing_60 rfl ?_
          refine J.iload_n 1 dX8_swing_61 rfl ?_
          refine J.iload 5 dX8_swing_62 rfl ?_
          refine J.callV 0 (st := []) B (c_X8_lightOf l G _ (s := s) (n := k) hs (by omega)) ml_X8_91 mf_yX8_lightOf mi_yX8_lightOf rfl dX8_swing_64 rfl rfl rfl rfl (fun v_16 w_17 hp_18 => ?_)
          obtain ⟨rfl, rfl⟩ := hp_18
          show J G X mX8_swing _ _ _ 67 _ [.int (ltF (rowM ml s) F k)]
          refine J.iload_n 3 dX8_swing_67 rfl ?_
          refine J.icmp_le dX8_swing_68 (fun h5 => ?_) (fun h5 => ?_)
          · skip
            refine J.iload_n 3 dX8_swing_81 rfl ?_
            refine J.istore_n [1, 2, 3, 0, 4, 5] (lv' := [(0, .ref m), (1, .int (nI s)), (2, .int (ltF (rowM ml s) F k)), (3, .int b), (4, .int (nI n)), (5, .int (nI k))]) dX8_swing_82 rfl rfl ?_
            refine J.iinc 4 [1, 2, 3, 4, 0, 5] (lv' := [(0, .ref m), (1, .int (nI s)), (2, .int (ltF (rowM ml s) F k)), (3, .int b), (4, .int (nI (n + 1))), (5, .int (nI k))]) dX8_swing_83 rfl (jinc1 _) rfl rfl ?_
            refine J.iinc 5 [1, 2, 3, 4, 5, 0] (lv' := [(0, .ref m), (1, .int (nI s)), (2, .int (ltF (rowM ml s) F k)), (3, .int b), (4, .int (nI (n + 1))), (5, .int (nI (k + 1)))]) dX8_swing_86 rfl (jinc1 _) rfl rfl ?_
            refine J.goto dX8_swing_89 ?_
            exact X8_swing_lp B (k + 1) (ltF (rowM ml s) F k) b (n + 1) hs (by omega) (by rw [swl_yes h8, hw]; exact sw_step (by first | exact Or.inl ⟨Or.inl h7, rfl⟩ | exact Or.inl ⟨Or.inr (Int32.not_le.mp h6), rfl⟩ | exact Or.inr ⟨fun z => z.elim h7 (Int32.not_lt.mpr h6), rfl⟩) (by first | exact Or.inl ⟨Or.inl h7, rfl⟩ | exact Or.inl ⟨Or.inr (Int32.not_le.mp h5), rfl⟩ | exact Or.inr ⟨fun z => z.elim h7 (Int32.not_lt.mpr h5), rfl⟩))
          · skip
            refine J.aload_n 0 dX8_swing_71 rfl ?_
            refine J.iload_n 1 dX8_swing_72 rfl ?_
            refine J.iload 5 dX8_swing_73 rfl ?_
            refine J.callV 0 (st := []) B (c_X8_lightOf l G _ (s := s) (n := k) hs (by omega)) ml_X8_91 mf_yX8_lightOf mi_yX8_lightOf rfl dX8_swing_75 rfl rfl rfl rfl (fun v_19 w_20 hp_21 => ?_)
            obtain ⟨rfl, rfl⟩ := hp_21
            show J G X mX8_swing _ _ _ 78 _ [.int (ltF (rowM ml s) F k)]
            refine J.goto dX8_swing_78 ?_
            refine J.istore_n [1, 2, 3, 0, 4, 5] (lv' := [(0, .ref m), (1, .int (nI s)), (2, .int (ltF (rowM ml s) F k)), (3, .int (ltF (rowM ml s) F k)), (4, .int (nI n)), (5, .int (nI k))]) dX8_swing_82 rfl rfl ?_
            refine J.iinc 4 [1, 2, 3, 4, 0, 5] (lv' := [(0, .ref m), (1, .int (nI s)), (2, .int (ltF (rowM ml s) F k)), (3, .int (ltF (rowM ml s) F k)), (4, .int (nI (n + 1))), (5, .int (nI k))]) dX8_swing_83 rfl (jinc1 _) rfl rfl ?_
            refine J.iinc 5 [1, 2, 3, 4, 5, 0] (lv' := [(0, .ref m), (1, .int (nI s)), (2, .int (ltF (rowM ml s) F k)), (3, .int (ltF (rowM ml s) F k)), (4, .int (nI (n + 1))), (5, .int (nI (k + 1)))]) dX8_swing_86 rfl (jinc1 _) rfl rfl ?_
            refine J.goto dX8_swing_89 ?_
            exact X8_swing_lp B (k + 1) (ltF (rowM ml s) F k) (ltF (rowM ml s) F k) (n + 1) hs (by omega) (by rw [swl_yes h8, hw]; exact sw_step (by first | exact Or.inl ⟨Or.inl h7, rfl⟩ | exact Or.inl ⟨Or.inr (Int32.not_le.mp h6), rfl⟩ | exact Or.inr ⟨fun z => z.elim h7 (Int32.not_lt.mpr h6), rfl⟩) (by first | exact Or.inl ⟨Or.inl h7, rfl⟩ | exact Or.inl ⟨Or.inr (Int32.not_le.mp h5), rfl⟩ | exact Or.inr ⟨fun z => z.elim h7 (Int32.not_lt.mpr h5), rfl⟩))
termination_by 60 - k
decreasing_by all_goals omega
set_option maxHeartbeats 4000000 in
set_option maxRecDepth 100000 in
theorem c_X8_swing (l : Launch) (G : jG) (r : va_W) {m : Nat} {D : Nat → Nat} {fi : Int32} {as : Int64} {ns : Nat} {ii : Int32} {de : Int64} {dl dp dc : Int32} {nr : Nat} {al wa : Int32} {ml F : Nat → Int32} {s : Nat} (hs : s < 12) : Mt l G yX8_swing mX8_swing 1 22 0 0 [.ref m, .int (nI s)] ((m, .inr (8, [.int fi, .ref (D 0), .long as, .int (nI ns), .ref (D 1), .ref (D 2), .ref (D 3), .ref (D 4), .ref (D 5), .ref (D 6), .ref (D 7), .ref (D 8), .int ii, .long de, .int dl, .int dp, .int dc, .ref (D 9), .int (nI nr), .ref (D 10), .ref (D 11), .ref (D 12), .ref (D 13), .ref (D 14), .int al, .int wa])) :: (D 3, .inl (G.2.1.1, 720, .inl ml)) :: (D 4, .inl (G.2.1.1, 60, .inl F)) :: r) (fun v w => v = some (.int (swg (lits (rowM ml s) F 60))) ∧ w = (m, .inr (8, [.int fi, .ref (D 0), .long as, .int (nI ns), .ref (D 1), .ref (D 2), .ref (D 3), .ref (D 4), .ref (D 5), .ref (D 6), .ref (D 7), .ref (D 8), .int ii, .long de, .int dl, .int dp, .int dc, .ref (D 9), .int (nI nr), .ref (D 10), .ref (D 11), .ref (D 12), .ref (D 13), .ref (D 14), .int al, .int wa])) :: (D 3, .inl (G.2.1.1, 720, .inl ml)) :: (D 4, .inl (G.2.1.1, 60, .inl F)) :: r) := by
  refine Mt.of (by decide +kernel) rfl rfl (fun X B => ?_)
  show J G X mX8_swing ((m, .inr (8, [.int fi, .ref (D 0), .long as, .int (nI ns), .ref (D 1), .ref (D 2), .ref (D 3), .ref (D 4), .ref (D 5), .ref (D 6), .ref (D 7), .ref (D 8), .int ii, .long de, .int dl, .int dp, .int dc, .ref (D 9), .int (nI nr), .ref (D 10), .ref (D 11), .ref (D 12), .ref (D 13), .ref (D 14), .int al, .int wa])) :: (D 3, .inl (G.2.1.1, 720, .inl ml)) :: (D 4, .inl (G.2.1.1, 60, .inl F)) :: r) 0 0 0 [(0, .ref m), (1, .int (nI s))] []
  refine J.iconst (0 : Int32) dX8_swing_0 rfl ?_
  refine J.istore_n [1, 2, 0] (lv' := [(0, .ref m), (1, .int (nI s)), (2, .int (0 : Int32))]) dX8_swing_1 rfl rfl ?_
  refine J.iconst (0 : Int32) dX8_swing_2 rfl ?_
  refine J.istore_n [1, 2, 3, 0] (lv' := [(0, .ref m), (1, .int (nI s)), (2, .int (0 : Int32)), (3, .int (0 : Int32))]) dX8_swing_3 rfl rfl ?_
  refine J.iconst (0 : Int32) dX8_swing_4 rfl ?_
  refine J.istore [1, 2, 3, 4, 0] (lv' := [(0, .ref m), (1, .int (nI s)), (2, .int (0 : Int32)), (3, .int (0 : Int32)), (4, .int (0 : Int32))]) dX8_swing_5 rfl rfl ?_
  refine J.iconst (0 : Int32) dX8_swing_7 rfl ?_
  refine J.istore [1, 2, 3, 4, 5, 0] (lv' := [(0, .ref m), (1, .int (nI s)), (2, .int (0 : Int32)), (3, .int (0 : Int32)), (4, .int (0 : Int32)), (5, .int (0 : Int32))]) dX8_swing_8 rfl rfl ?_
  exact X8_swing_lp B 0 0 0 0 hs (by omega) rfl
