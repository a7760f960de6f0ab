/-! the reference's STARS, as the class holds them -/
def mqF (ns : Nat) (kk rr ml cls : Nat → Int32) : Nat → sR := fun k => if k < ns then (kk k, !decide (rr k = 0), (if rr k = 0 then (fun _ => -9) else rowM ml k), cls k) else (0, false, fun _ => 0, 0)
section MQ
variable {ns s : Nat} {kk rr ml cls F : Nat → Int32} {RL : List rR}
theorem mq_no (h : s < ns) (hr : rr s = 0) : mqF ns kk rr ml cls s = (kk s, false, (fun _ => -9), cls s) := by
  unfold mqF
  rw [if_pos h, if_pos hr, decide_eq_true hr]
  rfl
theorem mq_yes (h : s < ns) (hr : ¬ rr s = 0) : mqF ns kk rr ml cls s = (kk s, true, rowM ml s, cls s) := by
  unfold mqF
  rw [if_pos h, if_neg hr, decide_eq_false hr]
  rfl
theorem mq_c (h : s < ns) : (mqF ns kk rr ml cls s).2.2.2 = cls s := by
  unfold mqF
  rw [if_pos h]
theorem mq_k (h : s < ns) : (mqF ns kk rr ml cls s).1 = kk s := by
  unfold mqF
  rw [if_pos h]
theorem nts_em : ∀ k, nts (fun _ => (-9 : Int32)) k = []
  | 0 => rfl
  | k + 1 => by
    rw [nts_no rfl, nts_em k]
theorem nN_none : nN (fun _ => (-9 : Int32)) = 0 := by
  show (nts _ 60).length = 0
  rw [nts_em]
  rfl
theorem wc_no (h : s < ns) (hr : rr s = 0) : wcF (mqF ns kk rr ml cls) F RL s = -9 := by
  unfold wcF wcV
  rw [mq_no h hr, if_pos nN_none]
theorem wc_nought (h : s < ns) (hr : ¬ rr s = 0) (h0 : nN (rowM ml s) = 0) : wcF (mqF ns kk rr ml cls) F RL s = -9 := by
  unfold wcF wcV
  rw [mq_yes h hr, if_pos h0]
theorem wc_yes (h : s < ns) (hr : ¬ rr s = 0) (h0 : 0 < nN (rowM ml s)) : wcF (mqF ns kk rr ml cls) F RL s = clsR (msV (rowM ml s) F) RL := by
  unfold wcF wcV
  rw [mq_yes h hr, if_neg (by show ¬ nN (rowM ml s) = 0; omega)]
theorem rws_nil {L : Nat → Int32} (h : nN L = 0) : midV (rws L 60) = 0 := by
  unfold midV
  rw [if_pos (by rw [rws_len]; exact h)]
theorem lv_no (h : s < ns) (hr : rr s = 0) : lvQ (mqF ns kk rr ml cls) s = 0 := by
  unfold lvQ
  rw [mq_no h hr]
  exact rws_nil nN_none
theorem lv_nought (h : s < ns) (hr : ¬ rr s = 0) (h0 : nN (rowM ml s) = 0) : lvQ (mqF ns kk rr ml cls) s = 0 := by
  unfold lvQ
  rw [mq_yes h hr]
  exact rws_nil h0
theorem lv_yes (h : s < ns) (hr : ¬ rr s = 0) : lvQ (mqF ns kk rr ml cls) s = midV (rws (rowM ml s) 60) := by
  unfold lvQ
  rw [mq_yes h hr]
end MQ
theorem fiF_ge {f g : Nat → Int32} {n j : Nat} (h : ¬ j < n) : fiF f g n j = f j := if_neg h
theorem cpy_0 (f g : Nat → Int32) (a b : Nat) : va_cpy f g a b 0 = g := by
  funext x
  unfold va_cpy
  rw [if_neg (by omega)]
theorem cpy_s (f g : Nat → Int32) (a b k : Nat) : upd (va_cpy f g a b k) (b + k) (f (a + k)) = va_cpy f g a b (k + 1) := by
  funext x
  unfold upd va_cpy
  by_cases h : x = b + k
  · subst h
    rw [if_pos rfl, if_pos (by omega), show b + k - b = k by omega]
  · rw [if_neg h]
    by_cases h2 : b ≤ x ∧ x < b + k
    · rw [if_pos h2, if_pos (by omega)]
    · rw [if_neg h2, if_neg (by omega)]
theorem cp_le {x y : Int32} : (x.toInt64 + y.toInt64 ≤ 60) ↔ x.toInt + y.toInt ≤ 60 := by
  have h1 := fb_rng x
  have h2 := fb_rng y
  rw [w64, w64, ← Int64.ofInt_add, fa_le64, i64_ofI (by omega) (by omega)]
  exact Iff.rfl
set_option maxHeartbeats 4000000 in
set_option maxRecDepth 100000 in
theorem r_copy_b1 (l : Launch) (G : jG) (r : va_W) {m : Nat} {D : Nat → Nat} {fi : Int32} {as : Int64} {ns : Nat} {ii : Int32} {de : Int64} {dl dp dc : Int32} {nr : Nat} {al wa : Int32} {num : Int32} (hns : ns ≤ 12) (hnum : inR num 0 ((ns : Int) - 1) = false) {num2 : Int32} {i j n : Int32} : Mt l G yX8_copy mX8_copy 2 43 0 0 [.ref m, .int num, .int i, .int num2, .int j, .int n] ((m, .inr (8, [.int fi, .ref (D 0), .long as, .int (nI ns), .ref (D 1), .ref (D 2), .ref (D 3), .ref (D 4), .ref (D 5), .ref (D 6), .ref (D 7), .ref (D 8), .int ii, .long de, .int dl, .int dp, .int dc, .ref (D 9), .int (nI nr), .ref (D 10), .ref (D 11), .ref (D 12), .ref (D 13), .ref (D 14), .int al, .int wa])) :: r) (fun v w => v = some (.int (-1 : Int32)) ∧ w = (m, .inr (8, [.int fi, .ref (D 0), .long as, .int (nI ns), .ref (D 1), .ref (D 2), .ref (D 3), .ref (D 4), .ref (D 5), .ref (D 6), .ref (D 7), .ref (D 8), .int ii, .long de, .int dl, .int dp, .int dc, .ref (D 9), .int (nI nr), .ref (D 10), .ref (D 11), .ref (D 12), .ref (D 13), .ref (D 14), .int al, .int wa])) :: r) := by
  refine Mt.of (by decide +kernel) rfl rfl (fun X B => ?_)
  show J G X mX8_copy ((m, .inr (8, [.int fi, .ref (D 0), .long as, .int (nI ns), .ref (D 1), .ref (D 2), .ref (D 3), .ref (D 4), .ref (D 5), .ref (D 6), .ref (D 7), .ref (D 8), .int ii, .long de, .int dl, .int dp, .int dc, .ref (D 9), .int (nI nr), .ref (D 10), .ref (D 11), .ref (D 12), .ref (D 13), .ref (D 14), .int al, .int wa])) :: r) 0 0 0 [(0, .ref m), (1, .int num), (2, .int i), (3, .int num2), (4, .int j), (5, .int n)] []
  refine J.aload_n 0 dX8_copy_0 rfl ?_
  refine J.iload_n 1 dX8_copy_1 rfl ?_
  refine J.callV 0 (st := []) B (c_X8_isStar l G _ (num := num) hns) ml_X8_80 mf_yX8_isStar mi_yX8_isStar rfl dX8_copy_2 rfl rfl rfl rfl (fun v_1 w_2 hp_3 => ?_)
  obtain ⟨rfl, rfl⟩ := hp_3
  show J G X mX8_copy _ _ _ 5 _ [.int (b01 (inR num 0 ((ns : Int) - 1)))]
  refine J.if_eq dX8_copy_5 (fun h9 => ?_) (fun z => absurd (by rw [hnum]; rfl) z)
  refine J.iconst (-1 : Int32) dX8_copy_16 rfl ?_
  exact J.iret B dX8_copy_17 rfl (⟨rfl, rfl⟩)
set_option maxHeartbeats 4000000 in
set_option maxRecDepth 100000 in
theorem r_copy_b2 (l : Launch) (G : jG) (r : va_W) {m : Nat} {D : Nat → Nat} {fi : Int32} {as : Int64} {ns : Nat} {ii : Int32} {de : Int64} {dl dp dc : Int32} {nr : Nat} {al wa : Int32} {s : Nat} (hk : s < ns) (hns : ns ≤ 12) {num2 : Int32} (hnum2 : inR num2 0 ((ns : Int) - 1) = false) {i j n : Int32} : Mt l G yX8_copy mX8_copy 2 43 0 0 [.ref m, .int (nI s), .int i, .int num2, .int j, .int n] ((m, .inr (8, [.int fi, .ref (D 0), .long as, .int (nI ns), .ref (D 1), .ref (D 2), .ref (D 3), .ref (D 4), .ref (D 5), .ref (D 6), .ref (D 7), .ref (D 8), .int ii, .long de, .int dl, .int dp, .int dc, .ref (D 9), .int (nI nr), .ref (D 10), .ref (D 11), .ref (D 12), .ref (D 13), .ref (D 14), .int al, .int wa])) :: r) (fun v w => v = some (.int (-1 : Int32)) ∧ w = (m, .inr (8, [.int fi, .ref (D 0), .long as, .int (nI ns), .ref (D 1), .ref (D 2), .ref (D 3), .ref (D 4), .ref (D 5), .ref (D 6), .ref (D 7), .ref (D 8), .int ii, .long de, .int dl, .int dp, .int dc, .ref (D 9), .int (nI nr), .ref (D 10), .ref (D 11), .ref (D 12), .ref (D 13), .ref (D 14), .int al, .int wa])) :: r) := by
  refine Mt.of (by decide +kernel) rfl rfl (fun X B => ?_)
  show J G X mX8_copy ((m, .inr (8, [.int fi, .ref (D 0), .long as, .int (nI ns), .ref (D 1), .ref (D 2), .ref (D 3), .ref (D 4), .ref (D 5), .ref (D 6), .ref (D 7), .ref (D 8), .int ii, .long de, .int dl, .int dp, .int dc, .ref (D 9), .int (nI nr), .ref (D 10), .ref (D 11), .ref (D 12), .ref (D 13), .ref (D 14), .int al, .int wa])) :: r) 0 0 0 [(0, .ref m), (1, .int (nI s)), (2, .int i), (3, .int num2), (4, .int j), (5, .int n)] []
  have hs : s < 12 := by omega
  have hin : inR (nI s) 0 ((ns : Int) - 1) = true := by rw [nI_inR (by omega)]; exact decide_eq_true ⟨by omega, by omega⟩
  refine J.aload_n 0 dX8_copy_0 rfl ?_
  refine J.iload_n 1 dX8_copy_1 rfl ?_
  refine J.callV 0 (st := []) B (c_X8_isStar l G _ (num := nI s) hns) ml_X8_80 mf_yX8_isStar mi_yX8_isStar rfl dX8_copy_2 rfl rfl rfl rfl (fun v_1 w_2 hp_3 => ?_)
  obtain ⟨rfl, rfl⟩ := hp_3
  show J G X mX8_copy _ _ _ 5 _ [.int (b01 (inR (nI s) 0 ((ns : Int) - 1)))]
  refine J.if_eq dX8_copy_5 (fun z => absurd z (by rw [hin]; decide)) (fun h9 => ?_)
  refine J.aload_n 0 dX8_copy_8 rfl ?_
  refine J.iload_n 3 dX8_copy_9 rfl ?_
  refine J.callV 0 (st := []) B (c_X8_isStar l G _ (num := num2) hns) ml_X8_80 mf_yX8_isStar mi_yX8_isStar rfl dX8_copy_10 rfl rfl rfl rfl (fun v_4 w_5 hp_6 => ?_)
  obtain ⟨rfl, rfl⟩ := hp_6
  show J G X mX8_copy _ _ _ 13 _ [.int (b01 (inR num2 0 ((ns : Int) - 1)))]
  refine J.if_ne dX8_copy_13 (fun z => absurd (by rw [hnum2]; rfl) z) (fun h9 => ?_)
  refine J.iconst (-1 : Int32) dX8_copy_16 rfl ?_
  exact J.iret B dX8_copy_17 rfl (⟨rfl, rfl⟩)
set_option maxHeartbeats 4000000 in
set_option maxRecDepth 100000 in
theorem r_copy_size (l : Launch) (G : jG) (r : va_W) {m : Nat} {D : Nat → Nat} {fi : Int32} {as : Int64} {ns : Nat} {ii : Int32} {de : Int64} {dl dp dc : Int32} {nr : Nat} {al wa : Int32} {s : Nat} (hk : s < ns) (hns : ns ≤ 12) {t : Nat} (hk2 : t < ns) {fc : Nat → Int32} {i j n : Int32} (hn : n.toInt < 0) : Mt l G yX8_copy mX8_copy 2 43 0 0 [.ref m, .int (nI s), .int i, .int (nI t), .int j, .int n] ((m, .inr (8, [.int fi, .ref (D 0), .long as, .int (nI ns), .ref (D 1), .ref (D 2), .ref (D 3), .ref (D 4), .ref (D 5), .ref (D 6), .ref (D 7), .ref (D 8), .int ii, .long de, .int dl, .int dp, .int dc, .ref (D 9), .int (nI nr), .ref (D 10), .ref (D 11), .ref (D 12), .ref (D 13), .ref (D 14), .int al, .int wa])) :: (D 0, .inl (G.2.1.1, 6, .inl fc)) :: r) (fun v w => v = some (.int (-3 : Int32)) ∧ w = (m, .inr (8, [.int (nI 5), .ref (D 0), .long as, .int (nI ns), .ref (D 1), .ref (D 2), .ref (D 3), .ref (D 4), .ref (D 5), .ref (D 6), .ref (D 7), .ref (D 8), .int ii, .long de, .int dl, .int dp, .int dc, .ref (D 9), .int (nI nr), .ref (D 10), .ref (D 11), .ref (D 12), .ref (D 13), .ref (D 14), .int al, .int wa])) :: (D 0, .inl (G.2.1.1, 6, .inl (upd fc 5 (fc 5 + 1)))) :: r) := by
  refine Mt.of (by decide +kernel) rfl rfl (fun X B => ?_)
  show J G X mX8_copy ((m, .inr (8, [.int fi, .ref (D 0), .long as, .int (nI ns), .ref (D 1), .ref (D 2), .ref (D 3), .ref (D 4), .ref (D 5), .ref (D 6), .ref (D 7), .ref (D 8), .int ii, .long de, .int dl, .int dp, .int dc, .ref (D 9), .int (nI nr), .ref (D 10), .ref (D 11), .ref (D 12), .ref (D 13), .ref (D 14), .int al, .int wa])) :: (D 0, .inl (G.2.1.1, 6, .inl fc)) :: r) 0 0 0 [(0, .ref m), (1, .int (nI s)), (2, .int i), (3, .int (nI t)), (4, .int j), (5, .int n)] []
  have hs : s < 12 := by omega
  have hin : inR (nI s) 0 ((ns : Int) - 1) = true := by rw [nI_inR (by omega)]; exact decide_eq_true ⟨by omega, by omega⟩
  have hs2 : t < 12 := by omega
  have hin2 : inR (nI t) 0 ((ns : Int) - 1) = true := by rw [nI_inR (by omega)]; exact decide_eq_true ⟨by omega, by omega⟩
  refine J.aload_n 0 dX8_copy_0 rfl ?_
  refine J.iload_n 1 dX8_copy_1 rfl ?_
  refine J.callV 0 (st := []) B (c_X8_isStar l G _ (num := nI s) hns) ml_X8_80 mf_yX8_isStar mi_yX8_isStar rfl dX8_copy_2 rfl rfl rfl rfl (fun v_1 w_2 hp_3 => ?_)
  obtain ⟨rfl, rfl⟩ := hp_3
  show J G X mX8_copy _ _ _ 5 _ [.int (b01 (inR (nI s) 0 ((ns : Int) - 1)))]
  refine J.if_eq dX8_copy_5 (fun z => absurd z (by rw [hin]; decide)) (fun h9 => ?_)
  refine J.aload_n 0 dX8_copy_8 rfl ?_
  refine J.iload_n 3 dX8_copy_9 rfl ?_
  refine J.callV 0 (st := []) B (c_X8_isStar l G _ (num := nI t) hns) ml_X8_80 mf_yX8_isStar mi_yX8_isStar rfl dX8_copy_10 rfl rfl rfl rfl (fun v_4 w_5 hp_6 => ?_)
  obtain ⟨rfl, rfl⟩ := hp_6
  show J G X mX8_copy _ _ _ 13 _ [.int (b01 (inR (nI t) 0 ((ns : Int) - 1)))]
  refine J.if_ne dX8_copy_13 (fun h9 => ?_) (fun z => absurd z (by rw [hin2]; decide))
  refine J.iload 5 dX8_copy_18 rfl ?_
  refine J.if_ge dX8_copy_20 (fun h8 => ?_) (fun h8 => ?_)
  · skip
    have h8 : (0 : Int) ≤ n.toInt := (fa_le _ _).mp h8
    omega
  · skip
    have h8 : ¬ (0 : Int) ≤ n.toInt := fun z => h8 ((fa_le _ _).mpr z)
    refine J.aload_n 0 dX8_copy_23 rfl ?_
    refine J.iconst (5 : Int32) dX8_copy_24 rfl ?_
    refine J.callV 0 (st := []) B (c_X8_meets l G _ (c := 5) (by decide)) ml_X8_95 mf_yX8_meets mi_yX8_meets rfl dX8_copy_25 rfl rfl rfl rfl (fun v_7 w_8 hp_9 => ?_)
    obtain ⟨rfl, rfl⟩ := hp_9
    show J G X mX8_copy _ _ _ 28 _ [.int (-3 : Int32)]
    exact J.iret B dX8_copy_28 rfl (⟨rfl, rfl⟩)
set_option maxHeartbeats 4000000 in
set_option maxRecDepth 100000 in
theorem r_copy_no1 (l : Launch) (G : jG) (r : va_W) {m : Nat} {D : Nat → Nat} {fi : Int32} {as : Int64} {ns : Nat} {ii : Int32} {de : Int64} {dl dp dc : Int32} {nr : Nat} {al wa : Int32} {s : Nat} (hk : s < ns) (hns : ns ≤ 12) {t : Nat} (hk2 : t < ns) {rr : Nat → Int32} {fc : Nat → Int32} {i j n : Int32} (hn : 0 ≤ n.toInt) (hr : rr s = 0) : Mt l G yX8_copy mX8_copy 2 43 0 0 [.ref m, .int (nI s), .int i, .int (nI t), .int j, .int n] ((m, .inr (8, [.int fi, .ref (D 0), .long as, .int (nI ns), .ref (D 1), .ref (D 2), .ref (D 3), .ref (D 4), .ref (D 5), .ref (D 6), .ref (D 7), .ref (D 8), .int ii, .long de, .int dl, .int dp, .int dc, .ref (D 9), .int (nI nr), .ref (D 10), .ref (D 11), .ref (D 12), .ref (D 13), .ref (D 14), .int al, .int wa])) :: (D 2, .inl (G.2.1.2.1, 12, .inl rr)) :: (D 0, .inl (G.2.1.1, 6, .inl fc)) :: r) (fun v w => v = some (.int (-3 : Int32)) ∧ w = (m, .inr (8, [.int (nI 1), .ref (D 0), .long as, .int (nI ns), .ref (D 1), .ref (D 2), .ref (D 3), .ref (D 4), .ref (D 5), .ref (D 6), .ref (D 7), .ref (D 8), .int ii, .long de, .int dl, .int dp, .int dc, .ref (D 9), .int (nI nr), .ref (D 10), .ref (D 11), .ref (D 12), .ref (D 13), .ref (D 14), .int al, .int wa])) :: (D 2, .inl (G.2.1.2.1, 12, .inl rr)) :: (D 0, .inl (G.2.1.1, 6, .inl (upd fc 1 (fc 1 + 1)))) :: r) := by
  refine Mt.of (by decide +kernel) rfl rfl (fun X B => ?_)
  show J G X mX8_copy ((m, .inr (8, [.int fi, .ref (D 0), .long as, .int (nI ns), .ref (D 1), .ref (D 2), .ref (D 3), .ref (D 4), .ref (D 5), .ref (D 6), .ref (D 7), .ref (D 8), .int ii, .long de, .int dl, .int dp, .int dc, .ref (D 9), .int (nI nr), .ref (D 10), .ref (D 11), .ref (D 12), .ref (D 13), .ref (D 14), .int al, .int wa])) :: (D 2, .inl (G.2.1.2.1, 12, .inl rr)) :: (D 0, .inl (G.2.1.1, 6, .inl fc)) :: r) 0 0 0 [(0, .ref m), (1, .int (nI s)), (2, .int i), (3, .int (nI t)), (4, .int j), (5, .int n)] []
  have hs : s < 12 := by omega
  have hin : inR (nI s) 0 ((ns : Int) - 1) = true := by rw [nI_inR (by omega)]; exact decide_eq_true ⟨by omega, by omega⟩
  have hs2 : t < 12 := by omega
  have hin2 : inR (nI t) 0 ((ns : Int) - 1) = true := by rw [nI_inR (by omega)]; exact decide_eq_true ⟨by omega, by omega⟩
  refine J.aload_n 0 dX8_copy_0 rfl ?_
  refine J.iload_n 1 dX8_copy_1 rfl ?_
  refine J.callV 0 (st := []) B (c_X8_isStar l G _ (num := nI s) hns) ml_X8_80 mf_yX8_isStar mi_yX8_isStar rfl dX8_copy_2 rfl rfl rfl rfl (fun v_1 w_2 hp_3 => ?_)
  obtain ⟨rfl, rfl⟩ := hp_3
  show J G X mX8_copy _ _ _ 5 _ [.int (b01 (inR (nI s) 0 ((ns : Int) - 1)))]
  refine J.if_eq dX8_copy_5 (fun z => absurd z (by rw [hin]; decide)) (fun h9 => ?_)
  refine J.aload_n 0 dX8_copy_8 rfl ?_
  refine J.iload_n 3 dX8_copy_9 rfl ?_
  refine J.callV 0 (st := []) B (c_X8_isStar l G _ (num := nI t) hns) ml_X8_80 mf_yX8_isStar mi_yX8_isStar rfl dX8_copy_10 rfl rfl rfl rfl (fun v_4 w_5 hp_6 => ?_)
  obtain ⟨rfl, rfl⟩ := hp_6
  show J G X mX8_copy _ _ _ 13 _ [.int (b01 (inR (nI t) 0 ((ns : Int) - 1)))]
  refine J.if_ne dX8_copy_13 (fun h9 => ?_) (fun z => absurd z (by rw [hin2]; decide))
  refine J.iload 5 dX8_copy_18 rfl ?_
  refine J.if_ge dX8_copy_20 (fun h8 => ?_) (fun h8 => ?_)
  · skip
    have h8 : (0 : Int) ≤ n.toInt := (fa_le _ _).mp h8
    refine J.aload_n 0 dX8_copy_29 rfl ?_
    refine J.get 0 fl_X8_16 dX8_copy_30 rfl rfl ?_
    refine J.iload_n 1 dX8_copy_33 rfl ?_
    refine J.zald 1 (s) dX8_copy_34 rfl (rfl) (by omega) (by decide) ?_
    refine J.if_eq dX8_copy_35 (fun h7 => ?_) (fun z => absurd (hr) z)
    refine J.aload_n 0 dX8_copy_47 rfl ?_
    refine J.iconst (1 : Int32) dX8_copy_48 rfl ?_
    refine J.re [0, 2, 1] 3 (ws2 := (m, .inr (8, [.int fi, .ref (D 0), .long as, .int (nI ns), .ref (D 1), .ref (D 2), .ref (D 3), .ref (D 4), .ref (D 5), .ref (D 6), .ref (D 7), .ref (D 8), .int ii, .long de, .int dl, .int dp, .int dc, .ref (D 9), .int (nI nr), .ref (D 10), .ref (D 11), .ref (D 12), .ref (D 13), .ref (D 14), .int al, .int wa])) :: (D 0, .inl (G.2.1.1, 6, .inl fc)) :: (D 2, .inl (G.2.1.2.1, 12, .inl rr)) :: r) rfl rfl ?_
    refine J.callV 0 (st := []) B (c_X8_meets l G _ (c := 1) (by decide)) ml_X8_95 mf_yX8_meets mi_yX8_meets rfl dX8_copy_49 rfl rfl rfl rfl (fun v_7 w_8 hp_9 => ?_)
    obtain ⟨rfl, rfl⟩ := hp_9
    refine J.re [0, 2, 1] 3 (ws2 := (m, .inr (8, [.int (nI 1), .ref (D 0), .long as, .int (nI ns), .ref (D 1), .ref (D 2), .ref (D 3), .ref (D 4), .ref (D 5), .ref (D 6), .ref (D 7), .ref (D 8), .int ii, .long de, .int dl, .int dp, .int dc, .ref (D 9), .int (nI nr), .ref (D 10), .ref (D 11), .ref (D 12), .ref (D 13), .ref (D 14), .int al, .int wa])) :: (D 2, .inl (G.2.1.2.1, 12, .inl rr)) :: (D 0, .inl (G.2.1.1, 6, .inl (upd fc 1 (fc 1 + 1)))) :: r) rfl rfl ?_
    show J G X mX8_copy _ _ _ 52 _ [.int (-3 : Int32)]
    exact J.iret B dX8_copy_52 rfl (⟨rfl, rfl⟩)
  · skip
    have h8 : ¬ (0 : Int) ≤ n.toInt := fun z => h8 ((fa_le _ _).mpr z)
    omega
set_option maxHeartbeats 4000000 in
set_option maxRecDepth 100000 in
theorem r_copy_no2 (l : Launch) (G : jG) (r : va_W) {m : Nat} {D : Nat → Nat} {fi : Int32} {as : Int64} {ns : Nat} {ii : Int32} {de : Int64} {dl dp dc : Int32} {nr : Nat} {al wa : Int32} {s : Nat} (hk : s < ns) (hns : ns ≤ 12) {t : Nat} (hk2 : t < ns) {rr : Nat → Int32} {fc : Nat → Int32} {i j n : Int32} (hn : 0 ≤ n.toInt) (hr : ¬ rr s = 0) (hr2 : rr t = 0) : Mt l G yX8_copy mX8_copy 2 43 0 0 [.ref m, .int (nI s), .int i, .int (nI t), .int j, .int n] ((m, .inr (8, [.int fi, .ref (D 0), .long as, .int (nI ns), .ref (D 1), .ref (D 2), .ref (D 3), .ref (D 4), .ref (D 5), .ref (D 6), .ref (D 7), .ref (D 8), .int ii, .long de, .int dl, .int dp, .int dc, .ref (D 9), .int (nI nr), .ref (D 10), .ref (D 11), .ref (D 12), .ref (D 13), .ref (D 14), .int al, .int wa])) :: (D 2, .inl (G.2.1.2.1, 12, .inl rr)) :: (D 0, .inl (G.2.1.1, 6, .inl fc)) :: r) (fun v w => v = some (.int (-3 : Int32)) ∧ w = (m, .inr (8, [.int (nI 1), .ref (D 0), .long as, .int (nI ns), .ref (D 1), .ref (D 2), .ref (D 3), .ref (D 4), .ref (D 5), .ref (D 6), .ref (D 7), .ref (D 8), .int ii, .long de, .int dl, .int dp, .int dc, .ref (D 9), .int (nI nr), .ref (D 10), .ref (D 11), .ref (D 12), .ref (D 13), .ref (D 14), .int al, .int wa])) :: (D 2, .inl (G.2.1.2.1, 12, .inl rr)) :: (D 0, .inl (G.2.1.1, 6, .inl (upd fc 1 (fc 1 + 1)))) :: r) := by
  refine Mt.of (by decide +kernel) rfl rfl (fun X B => ?_)
  show J G X mX8_copy ((m, .inr (8, [.int fi, .ref (D 0), .long as, .int (nI ns), .ref (D 1), .ref (D 2), .ref (D 3), .ref (D 4), .ref (D 5), .ref (D 6), .ref (D 7), .ref (D 8), .int ii, .long de, .int dl, .int dp, .int dc, .ref (D 9), .int (nI nr), .ref (D 10), .ref (D 11), .ref (D 12), .ref (D 13), .ref (D 14), .int al, .int wa])) :: (D 2, .inl (G.2.1.2.1, 12, .inl rr)) :: (D 0, .inl (G.2.1.1, 6, .inl fc)) :: r) 0 0 0 [(0, .ref m), (1, .int (nI s)), (2, .int i), (3, .int (nI t)), (4, .int j), (5, .int n)] []
  have hs : s < 12 := by omega
  have hin : inR (nI s) 0 ((ns : Int) - 1) = true := by rw [nI_inR (by omega)]; exact decide_eq_true ⟨by omega, by omega⟩
  have hs2 : t < 12 := by omega
  have hin2 : inR (nI t) 0 ((ns : Int) - 1) = true := by rw [nI_inR (by omega)]; exact decide_eq_true ⟨by omega, by omega⟩
  refine J.aload_n 0 dX8_copy_0 rfl ?_
  refine J.iload_n 1 dX8_copy_1 rfl ?_
  refine J.callV 0 (st := []) B (c_X8_isStar l G _ (num := nI s) hns) ml_X8_80 mf_yX8_isStar mi_yX8_isStar rfl dX8_copy_2 rfl rfl rfl rfl (fun v_1 w_2 hp_3 => ?_)
  obtain ⟨rfl, rfl⟩ := hp_3
  show J G X mX8_copy _ _ _ 5 _ [.int (b01 (inR (nI s) 0 ((ns : Int) - 1)))]
  refine J.if_eq dX8_copy_5 (fun z => absurd z (by rw [hin]; decide)) (fun h9 => ?_)
  refine J.aload_n 0 dX8_copy_8 rfl ?_
  refine J.iload_n 3 dX8_copy_9 rfl ?_
  refine J.callV 0 (st := []) B (c_X8_isStar l G _ (num := nI t) hns) ml_X8_80 mf_yX8_isStar mi_yX8_isStar rfl dX8_copy_10 rfl rfl rfl rfl (fun v_4 w_5 hp_6 => ?_)
  obtain ⟨rfl, rfl⟩ := hp_6
  show J G X mX8_copy _ _ _ 13 _ [.int (b01 (inR (nI t) 0 ((ns : Int) - 1)))]
  refine J.if_ne dX8_copy_13 (fun h9 => ?_) (fun z => absurd z (by rw [hin2]; decide))
  refine J.iload 5 dX8_copy_18 rfl ?_
  refine J.if_ge dX8_copy_20 (fun h8 => ?_) (fun h8 => ?_)
  · skip
    have h8 : (0 : Int) ≤ n.toInt := (fa_le _ _).mp h8
    refine J.aload_n 0 dX8_copy_29 rfl ?_
    refine J.get 0 fl_X8_16 dX8_copy_30 rfl rfl ?_
    refine J.iload_n 1 dX8_copy_33 rfl ?_
    refine J.zald 1 (s) dX8_copy_34 rfl (rfl) (by omega) (by decide) ?_
    refine J.if_eq dX8_copy_35 (fun z => absurd z (hr)) (fun h7 => ?_)
    refine J.aload_n 0 dX8_copy_38 rfl ?_
    refine J.get 0 fl_X8_16 dX8_copy_39 rfl rfl ?_
    refine J.iload_n 3 dX8_copy_42 rfl ?_
    refine J.zald 1 (t) dX8_copy_43 rfl (rfl) (by omega) (by decide) ?_
    refine J.if_ne dX8_copy_44 (fun z => absurd (hr2) z) (fun h6 => ?_)
    refine J.aload_n 0 dX8_copy_47 rfl ?_
    refine J.iconst (1 : Int32) dX8_copy_48 rfl ?_
    refine J.re [0, 2, 1] 3 (ws2 := (m, .inr (8, [.int fi, .ref (D 0), .long as, .int (nI ns), .ref (D 1), .ref (D 2), .ref (D 3), .ref (D 4), .ref (D 5), .ref (D 6), .ref (D 7), .ref (D 8), .int ii, .long de, .int dl, .int dp, .int dc, .ref (D 9), .int (nI nr), .ref (D 10), .ref (D 11), .ref (D 12), .ref (D 13), .ref (D 14), .int al, .int wa])) :: (D 0, .inl (G.2.1.1, 6, .inl fc)) :: (D 2, .inl (G.2.1.2.1, 12, .inl rr)) :: r) rfl rfl ?_
    refine J.callV 0 (st := []) B (c_X8_meets l G _ (c := 1) (by decide)) ml_X8_95 mf_yX8_meets mi_yX8_meets rfl dX8_copy_49 rfl rfl rfl rfl (fun v_7 w_8 hp_9 => ?_)
    obtain ⟨rfl, rfl⟩ := hp_9
    refine J.re [0, 2, 1] 3 (ws2 := (m, .inr (8, [.int (nI 1), .ref (D 0), .long as, .int (nI ns), .ref (D 1), .ref (D 2), .ref (D 3), .ref (D 4), .ref (D 5), .ref (D 6), .ref (D 7), .ref (D 8), .int ii, .long de, .int dl, .int dp, .int dc, .ref (D 9), .int (nI nr), .ref (D 10), .ref (D 11), .ref (D 12), .ref (D 13), .ref (D 14), .int al, .int wa])) :: (D 2, .inl (G.2.1.2.1, 12, .inl rr)) :: (D 0, .inl (G.2.1.1, 6, .inl (upd fc 1 (fc 1 + 1)))) :: r) rfl rfl ?_
    show J G X mX8_copy _ _ _ 52 _ [.int (-3 : Int32)]
    exact J.iret B dX8_copy_52 rfl (⟨rfl, rfl⟩)
  · skip
    have h8 : ¬ (0 : Int) ≤ n.toInt := fun z => h8 ((fa_le _ _).mpr z)
    omega
set_option maxHeartbeats 4000000 in
set_option maxRecDepth 100000 in
theorem r_copy_by (l : Launch) (G : jG) (r : va_W) {m : Nat} {D : Nat → Nat} {fi : Int32} {as : Int64} {ns : Nat} {ii : Int32} {de : Int64} {dl dp dc : Int32} {nr : Nat} {al wa : Int32} {s : Nat} (hk : s < ns) (hns : ns ≤ 12) {t : Nat} (hk2 : t < ns) {rr : Nat → Int32} {fc : Nat → Int32} {i j n : Int32} (hn : 0 ≤ n.toInt) (hr : ¬ rr s = 0) (hr2 : ¬ rr t = 0) (hb : (decide (0 ≤ i.toInt ∧ i.toInt + n.toInt ≤ 60) && decide (0 ≤ j.toInt ∧ j.toInt + n.toInt ≤ 60)) = false) : Mt l G yX8_copy mX8_copy 2 43 0 0 [.ref m, .int (nI s), .int i, .int (nI t), .int j, .int n] ((m, .inr (8, [.int fi, .ref (D 0), .long as, .int (nI ns), .ref (D 1), .ref (D 2), .ref (D 3), .ref (D 4), .ref (D 5), .ref (D 6), .ref (D 7), .ref (D 8), .int ii, .long de, .int dl, .int dp, .int dc, .ref (D 9), .int (nI nr), .ref (D 10), .ref (D 11), .ref (D 12), .ref (D 13), .ref (D 14), .int al, .int wa])) :: (D 2, .inl (G.2.1.2.1, 12, .inl rr)) :: (D 0, .inl (G.2.1.1, 6, .inl fc)) :: r) (fun v w => v = some (.int (-3 : Int32)) ∧ w = (m, .inr (8, [.int (nI 2), .ref (D 0), .long as, .int (nI ns), .ref (D 1), .ref (D 2), .ref (D 3), .ref (D 4), .ref (D 5), .ref (D 6), .ref (D 7), .ref (D 8), .int ii, .long de, .int dl, .int dp, .int dc, .ref (D 9), .int (nI nr), .ref (D 10), .ref (D 11), .ref (D 12), .ref (D 13), .ref (D 14), .int al, .int wa])) :: (D 2, .inl (G.2.1.2.1, 12, .inl rr)) :: (D 0, .inl (G.2.1.1, 6, .inl (upd fc 2 (fc 2 + 1)))) :: r) := by
  refine Mt.of (by decide +kernel) rfl rfl (fun X B => ?_)
  show J G X mX8_copy ((m, .inr (8, [.int fi, .ref (D 0), .long as, .int (nI ns), .ref (D 1), .ref (D 2), .ref (D 3), .ref (D 4), .ref (D 5), .ref (D 6), .ref (D 7), .ref (D 8), .int ii, .long de, .int dl, .int dp, .int dc, .ref (D 9), .int (nI nr), .ref (D 10), .ref (D 11), .ref (D 12), .ref (D 13), .ref (D 14), .int al, .int wa])) :: (D 2, .inl (G.2.1.2.1, 12, .inl rr)) :: (D 0, .inl (G.2.1.1, 6, .inl fc)) :: r) 0 0 0 [(0, .ref m), (1, .int (nI s)), (2, .int i), (3, .int (nI t)), (4, .int j), (5, .int n)] []
  have hs : s < 12 := by omega
  have hin : inR (nI s) 0 ((ns : Int) - 1) = true := by rw [nI_inR (by omega)]; exact decide_eq_true ⟨by omega, by omega⟩
  have hs2 : t < 12 := by omega
  have hin2 : inR (nI t) 0 ((ns : Int) - 1) = true := by rw [nI_inR (by omega)]; exact decide_eq_true ⟨by omega, by omega⟩
  refine J.aload_n 0 dX8_copy_0 rfl ?_
  refine J.iload_n 1 dX8_copy_1 rfl ?_
  refine J.callV 0 (st := []) B (c_X8_isStar l G _ (num := nI s) hns) ml_X8_80 mf_yX8_isStar mi_yX8_isStar rfl dX8_copy_2 rfl rfl rfl rfl (fun v_1 w_2 hp_3 => ?_)
  obtain ⟨rfl, rfl⟩ := hp_3
  show J G X mX8_copy _ _ _ 5 _ [.int (b01 (inR (nI s) 0 ((ns : Int) - 1)))]
  refine J.if_eq dX8_copy_5 (fun z => absurd z (by rw [hin]; decide)) (fun h9 => ?_)
  refine J.aload_n 0 dX8_copy_8 rfl ?_
  refine J.iload_n 3 dX8_copy_9 rfl ?_
  refine J.callV 0 (st := []) B (c_X8_isStar l G _ (num := nI t) hns) ml_X8_80 mf_yX8_isStar mi_yX8_isStar rfl dX8_copy_10 rfl rfl rfl rfl (fun v_4 w_5 hp_6 => ?_)
  obtain ⟨rfl, rfl⟩ := hp_6
  show J G X mX8_copy _ _ _ 13 _ [.int (b01 (inR (nI t) 0 ((ns : Int) - 1)))]
  refine J.if_ne dX8_copy_13 (fun h9 => ?_) (fun z => absurd z (by rw [hin2]; decide))
  refine J.iload 5 dX8_copy_18 rfl ?_
  refine J.if_ge dX8_copy_20 (fun h8 => ?_) (fun h8 => ?_)
  · skip
    have h8 : (0 : Int) ≤ n.toInt := (fa_le _ _).mp h8
    refine J.aload_n 0 dX8_copy_29 rfl ?_
    refine J.get 0 fl_X8_16 dX8_copy_30 rfl rfl ?_
    refine J.iload_n 1 dX8_copy_33 rfl ?_
    refine J.zald 1 (s) dX8_copy_34 rfl (rfl) (by omega) (by decide) ?_
    refine J.if_eq dX8_copy_35 (fun z => absurd z (hr)) (fun h7 => ?_)
    refine J.aload_n 0 dX8_copy_38 rfl ?_
    refine J.get 0 fl_X8_16 dX8_copy_39 rfl rfl ?_
    refine J.iload_n 3 dX8_copy_42 rfl ?_
    refine J.zald 1 (t) dX8_copy_43 rfl (rfl) (by omega) (by decide) ?_
    refine J.if_ne dX8_copy_44 (fun h6 => ?_) (fun z => absurd z (hr2))
    refine J.iload_n 2 dX8_copy_53 rfl ?_
    refine J.if_lt dX8_copy_54 (fun g1 => ?_) (fun g1 => ?_)
    · skip
      have g1 : i.toInt < (0 : Int) := (fa_lt _ _).mp g1
      refine J.aload_n 0 dX8_copy_89 rfl ?_
      refine J.iconst (2 : Int32) dX8_copy_90 rfl ?_
      refine J.re [0, 2, 1] 3 (ws2 := (m, .inr (8, [.int fi, .ref (D 0), .long as, .int (nI ns), .ref (D 1), .ref (D 2), .ref (D 3), .ref (D 4), .ref (D 5), .ref (D 6), .ref (D 7), .ref (D 8), .int ii, .long de, .int dl, .int dp, .int dc, .ref (D 9), .int (nI nr), .ref (D 10), .ref (D 11), .ref (D 12), .ref (D 13), .ref (D 14), .int al, .int wa])) :: (D 0, .inl (G.2.1.1, 6, .inl fc)) :: (D 2, .inl (G.2.1.2.1, 12, .inl rr)) :: r) rfl rfl ?_
      refine J.callV 0 (st := []) B (c_X8_meets l G _ (c := 2) (by decide)) ml_X8_95 mf_yX8_meets mi_yX8_meets rfl dX8_copy_91 rfl rfl rfl rfl (fun v_7 w_8 hp_9 => ?_)
      obtain ⟨rfl, rfl⟩ := hp_9
      refine J.re [0, 2, 1] 3 (ws2 := (m, .inr (8, [.int (nI 2), .ref (D 0), .long as, .int (nI ns), .ref (D 1), .ref (D 2), .ref (D 3), .ref (D 4), .ref (D 5), .ref (D 6), .ref (D 7), .ref (D 8), .int ii, .long de, .int dl, .int dp, .int dc, .ref (D 9), .int (nI nr), .ref (D 10), .ref (D 11), .ref (D 12), .ref (D 13), .ref (D 14), .int al, .int wa])) :: (D 2, .inl (G.2.1.2.1, 12, .inl rr)) :: (D 0, .inl (G.2.1.1, 6, .inl (upd fc 2 (fc 2 + 1)))) :: r) rfl rfl ?_
      show J G X mX8_copy _ _ _ 94 _ [.int (-3 : Int32)]
      exact J.iret B dX8_copy_94 rfl (⟨rfl, rfl⟩)
    · skip
      have g1 : ¬ i.toInt < (0 : Int) := fun z => g1 ((fa_lt _ _).mpr z)
      refine J.iload 4 dX8_copy_57 rfl ?_
      refine J.if_lt dX8_copy_59 (fun g2 => ?_) (fun g2 => ?_)
      · skip
        have g2 : j.toInt < (0 : Int) := (fa_lt _ _).mp g2
        refine J.aload_n 0 dX8_copy_89 rfl ?_
        refine J.iconst (2 : Int32) dX8_copy_90 rfl ?_
        refine J.re [0, 2, 1] 3 (ws2 := (m, .inr (8, [.int fi, .ref (D 0), .long as, .int (nI ns), .ref (D 1), .ref (D 2), .ref (D 3), .ref (D 4), .ref (D 5), .ref (D 6), .ref (D 7), .ref (D 8), .int ii, .long de, .int dl, .int dp, .int dc, .ref (D 9), .int (nI nr), .ref (D 10), .ref (D 11), .ref (D 12), .ref (D 13), .ref (D 14), .int al, .int wa])) :: (D 0, .inl (G.2.1.1, 6, .inl fc)) :: (D 2, .inl (G.2.1.2.1, 12, .inl rr)) :: r) rfl rfl ?_
        refine J.callV 0 (st := []) B (c_X8_meets l G _ (c := 2) (by decide)) ml_X8_95 mf_yX8_meets mi_yX8_meets rfl dX8_copy_91 rfl rfl rfl rfl (fun v_10 w_11 hp_12 => ?_)
        obtain ⟨rfl, rfl⟩ := hp_12
        refine J.re [0, 2, 1] 3 (ws2 := (m, .inr (8, [.int (nI 2), .ref (D 0), .long as, .int (nI ns), .ref (D 1), .ref (D 2), .ref (D 3), .ref (D 4), .ref (D 5), .ref (D 6), .ref (D 7), .ref (D 8), .int ii, .long de, .int dl, .int dp, .int dc, .ref (D 9), .int (nI nr), .ref (D 10), .ref (D 11), .ref (D 12), .ref (D 13), .ref (D 14), .int al, .int wa])) :: (D 2, .inl (G.2.1.2.1, 12, .inl rr)) :: (D 0, .inl (G.2.1.1, 6, .inl (upd fc 2 (fc 2 + 1)))) :: r) rfl rfl ?_
        show J G X mX8_copy _ _ _ 94 _ [.int (-3 : Int32)]
        exact J.iret B dX8_copy_94 rfl (⟨rfl, rfl⟩)
      · skip
        have g2 : ¬ j.toInt < (0 : Int) := fun z => g2 ((fa_lt _ _).mpr z)
        refine J.iload_n 2 dX8_copy_62 rfl ?_
        refine J.i2l dX8_copy_63 ?_
        refine J.iload 5 dX8_copy_64 rfl ?_
        refine J.i2l dX8_copy_66 ?_
        refine J.ladd dX8_copy_67 ?_
        refine J.ldc2 dX8_copy_68 kl_X8_118 ?_
        refine J.lcmp dX8_copy_71 ?_
        refine J.if_gt dX8_copy_72 (fun g3 => ?_) (fun g3 => ?_)
        · skip
          have g3 := jc_gt_t g3
          refine J.aload_n 0 dX8_copy_89 rfl ?_
          refine J.iconst (2 : Int32) dX8_copy_90 rfl ?_
          refine J.re [0, 2, 1] 3 (ws2 := (m, .inr (8, [.int fi, .ref (D 0), .long as, .int (nI ns), .ref (D 1), .ref (D 2), .ref (D 3), .ref (D 4), .ref (D 5), .ref (D 6), .ref (D 7), .ref (D 8), .int ii, .long de, .int dl, .int dp, .int dc, .ref (D 9), .int (nI nr), .ref (D 10), .ref (D 11), .ref (D 12), .ref (D 13), .ref (D 14), .int al, .int wa])) :: (D 0, .inl (G.2.1.1, 6, .inl fc)) :: (D 2, .inl (G.2.1.2.1, 12, .inl rr)) :: r) rfl rfl ?_
          refine J.callV 0 (st := []) B (c_X8_meets l G _ (c := 2) (by decide)) ml_X8_95 mf_yX8_meets mi_yX8_meets rfl dX8_copy_91 rfl rfl rfl rfl (fun v_13 w_14 hp_15 => ?_)
          obtain ⟨rfl, rfl⟩ := hp_15
          refine J.re [0, 2, 1] 3 (ws2 := (m, .inr (8, [.int (nI 2), .ref (D 0), .long as, .int (nI ns), .ref (D 1), .ref (D 2), .ref (D 3), .ref (D 4), .ref (D 5), .ref (D 6), .ref (D 7), .ref (D 8), .int ii, .long de, .int dl, .int dp, .int dc, .ref (D 9), .int (nI nr), .ref (D 10), .ref (D 11), .ref (D 12), .ref (D 13), .ref (D 14), .int al, .int wa])) :: (D 2, .inl (G.2.1.2.1, 12, .inl rr)) :: (D 0, .inl (G.2.1.1, 6, .inl (upd fc 2 (fc 2 + 1)))) :: r) rfl rfl ?_
          show J G X mX8_copy _ _ _ 94 _ [.int (-3 : Int32)]
          exact J.iret B dX8_copy_94 rfl (⟨rfl, rfl⟩)
        · skip
          have g3 := jc_gt_f g3
          have g3 := cp_le.mp (Int64.not_lt.mp g3)
          refine J.iload 4 dX8_copy_75 rfl ?_
          refine J.i2l dX8_copy_77 ?_
          refine J.iload 5 dX8_copy_78 rfl ?_
          refine J.i2l dX8_copy_80 ?_
          refine J.ladd dX8_copy_81 ?_
          refine J.ldc2 dX8_copy_82 kl_X8_118 ?_
          refine J.lcmp dX8_copy_85 ?_
          refine J.if_le dX8_copy_86 (fun g4 => ?_) (fun g4 => ?_)
          · skip
            have g4 := jc_le_t g4
            exact absurd (by rw [decide_eq_true (p := 0 ≤ i.toInt ∧ i.toInt + n.toInt ≤ 60) ⟨by omega, by omega⟩, decide_eq_true (p := 0 ≤ j.toInt ∧ j.toInt + n.toInt ≤ 60) ⟨by omega, cp_le.mp g4⟩]; rfl) (Bool.eq_false_iff.mp hb)
          · skip
            have g4 := jc_le_f g4
            refine J.aload_n 0 dX8_copy_89 rfl ?_
            refine J.iconst (2 : Int32) dX8_copy_90 rfl ?_
            refine J.re [0, 2, 1] 3 (ws2 := (m, .inr (8, [.int fi, .ref (D 0), .long as, .int (nI ns), .ref (D 1), .ref (D 2), .ref (D 3), .ref (D 4), .ref (D 5), .ref (D 6), .ref (D 7), .ref (D 8), .int ii, .long de, .int dl, .int dp, .int dc, .ref (D 9), .int (nI nr), .ref (D 10), .ref (D 11), .ref (D 12), .ref (D 13), .ref (D 14), .int al, .int wa])) :: (D 0, .inl (G.2.1.1, 6, .inl fc)) :: (D 2, .inl (G.2.1.2.1, 12, .inl rr)) :: r) rfl rfl ?_
            refine J.callV 0 (st := []) B (c_X8_meets l G _ (c := 2) (by decide)) ml_X8_95 mf_yX8_meets mi_yX8_meets rfl dX8_copy_91 rfl rfl rfl rfl (fun v_16 w_17 hp_18 => ?_)
            obtain ⟨rfl, rfl⟩ := hp_18
            refine J.re [0, 2, 1] 3 (ws2 := (m, .inr (8, [.int (nI 2), .ref (D 0), .long as, .int (nI ns), .ref (D 1), .ref (D 2), .ref (D 3), .ref (D 4), .ref (D 5), .ref (D 6), .ref (D 7), .ref (D 8), .int ii, .long de, .int dl, .int dp, .int dc, .ref (D 9), .int (nI nr), .ref (D 10), .ref (D 11), .ref (D 12), .ref (D 13), .ref (D 14), .int al, .int wa])) :: (D 2, .inl (G.2.1.2.1, 12, .inl rr)) :: (D 0, .inl (G.2.1.1, 6, .inl (upd fc 2 (fc 2 + 1)))) :: r) rfl rfl ?_
            show J G X mX8_copy _ _ _ 94 _ [.int (-3 : Int32)]
            exact J.iret B dX8_copy_94 rfl (⟨rfl, rfl⟩)
  · skip
    have h8 : ¬ (0 : Int) ≤ n.toInt := fun z => h8 ((fa_le _ _).mpr z)
    omega
set_option maxHeartbeats 4000000 in
set_option maxRecDepth 100000 in
theorem X8_cp2 {l : Launch} {G : jG} {X : jX} {r : va_W} {m : Nat} {D : Nat → Nat} {fi : Int32} {as : Int64} {ns : Nat} {ii : Int32} {de : Int64} {dl dp dc : Int32} {nr : Nat} {al wa : Int32} {rr ml mv : Nat → Int32} {s t i j n : Nat} (B : jB l G X 2 43 0 0 (fun v w => ∃ mv1, v = some (.int 1) ∧ w = (m, .inr (8, [.int fi, .ref (D 0), .long as, .int (nI ns), .ref (D 1), .ref (D 2), .ref (D 3), .ref (D 4), .ref (D 5), .ref (D 6), .ref (D 7), .ref (D 8), .int ii, .long de, .int dl, .int dp, .int dc, .ref (D 9), .int (nI nr), .ref (D 10), .ref (D 11), .ref (D 12), .ref (D 13), .ref (D 14), .int al, .int wa])) :: (D 2, .inl (G.2.1.2.1, 12, .inl rr)) :: (D 3, .inl (G.2.1.1, 720, .inl (va_cpy ml ml (60 * s + i) (60 * t + j) n))) :: (D 5, .inl (G.2.1.1, 60, .inl mv1)) :: r) "copy") (k : Nat) (hs : s < 12) (hs2 : t < 12) (h1 : i + n ≤ 60) (h2 : j + n ≤ 60) (hk : k ≤ n) : J G X mX8_copy ((m, .inr (8, [.int fi, .ref (D 0), .long as, .int (nI ns), .ref (D 1), .ref (D 2), .ref (D 3), .ref (D 4), .ref (D 5), .ref (D 6), .ref (D 7), .ref (D 8), .int ii, .long de, .int dl, .int dp, .int dc, .ref (D 9), .int (nI nr), .ref (D 10), .ref (D 11), .ref (D 12), .ref (D 13), .ref (D 14), .int al, .int wa])) :: (D 2, .inl (G.2.1.2.1, 12, .inl rr)) :: (D 3, .inl (G.2.1.1, 720, .inl (va_cpy ml ml (60 * s + i) (60 * t + j) k))) :: (D 5, .inl (G.2.1.1, 60, .inl (fiF mv (fun y => ml (60 * s + i + y)) n))) :: r) 0 0 135 [(0, .ref m), (1, .int (nI s)), (2, .int (nI i)), (3, .int (nI t)), (4, .int (nI j)), (5, .int (nI n)), (6, .int (nI k))] [] := by
  refine J.iload 6 dX8_copy_135 rfl ?_
  refine J.iload 5 dX8_copy_137 rfl ?_
  refine J.icmp_ge dX8_copy_139 (fun h9 => ?_) (fun h9 => ?_)
  · skip
    have h9 : n ≤ k := (nI_leI (a := n) (b := k) (by omega) (by omega)).mp h9
    have e : k = n := by omega
    subst e
    refine J.iconst (1 : Int32) dX8_copy_170 rfl ?_
    exact J.iret B dX8_copy_171 rfl (⟨fiF mv (fun y => ml (60 * s + i + y)) k, rfl, rfl⟩)
  · skip
    have h9 : ¬ n ≤ k := fun z => h9 ((nI_leI (a := n) (b := k) (by omega) (by omega)).mpr z)
    refine J.aload_n 0 dX8_copy_142 rfl ?_
    refine J.get 0 fl_X8_20 dX8_copy_143 rfl rfl ?_
    refine J.bipush (60 : Int32) dX8_copy_146 rfl ?_
    refine J.iload_n 3 dX8_copy_148 rfl ?_
    refine J.imul dX8_copy_149 ?_
    refine J.topi (y := nI (60 * t)) (pk_mul 60 t) ?_
    refine J.iload 4 dX8_copy_150 rfl ?_
    refine J.iadd dX8_copy_152 ?_
    refine J.topi (y := nI ((60 * t) + j)) (nI_add (60 * t) j) ?_
    refine J.iload 6 dX8_copy_153 rfl ?_
    refine J.iadd dX8_copy_155 ?_
    refine J.topi (y := nI (((60 * t) + j) + k)) (nI_add ((60 * t) + j) k) ?_
    refine J.aload_n 0 dX8_copy_156 rfl ?_
    refine J.get 0 fl_X8_26 dX8_copy_157 rfl rfl ?_
    refine J.iload 6 dX8_copy_160 rfl ?_
    refine J.iald 3 (k) dX8_copy_162 rfl (rfl) (by omega) (by decide) ?_
    refine J.topi (y := ml (60 * s + i + k)) (fiF_in (g := fun y => ml (60 * s + i + y)) (by omega)) ?_
    refine J.iast 2 (((60 * t) + j) + k) dX8_copy_163 rfl (rfl) (by omega) (by decide) (ws' := (m, .inr (8, [.int fi, .ref (D 0), .long as, .int (nI ns), .ref (D 1), .ref (D 2), .ref (D 3), .ref (D 4), .ref (D 5), .ref (D 6), .ref (D 7), .ref (D 8), .int ii, .long de, .int dl, .int dp, .int dc, .ref (D 9), .int (nI nr), .ref (D 10), .ref (D 11), .ref (D 12), .ref (D 13), .ref (D 14), .int al, .int wa])) :: (D 2, .inl (G.2.1.2.1, 12, .inl rr)) :: (D 3, .inl (G.2.1.1, 720, .inl (upd (va_cpy ml ml (60 * s + i) (60 * t + j) k) (((60 * t) + j) + k) (ml (60 * s + i + k))))) :: (D 5, .inl (G.2.1.1, 60, .inl (fiF mv (fun y => ml (60 * s + i + y)) n))) :: r) rfl ?_
    rw [show upd (va_cpy ml ml (60 * s + i) (60 * t + j) k) (((60 * t) + j) + k) (ml (60 * s + i + k)) = va_cpy ml ml (60 * s + i) (60 * t + j) (k + 1) from cpy_s ml ml (60 * s + i) (60 * t + j) k]
    refine J.iinc 6 [1, 2, 3, 4, 5, 6, 0] (lv' := [(0, .ref m), (1, .int (nI s)), (2, .int (nI i)), (3, .int (nI t)), (4, .int (nI j)), (5, .int (nI n)), (6, .int (nI (k + 1)))]) dX8_copy_164 rfl (jinc1 _) rfl rfl ?_
    refine J.goto dX8_copy_167 ?_
    exact X8_cp2 B (k + 1) hs hs2 h1 h2 (by omega)
termination_by n - k
decreasing_by all_goals omega
set_option maxHeartbeats 4000000 in
set_option maxRecDepth 100000 in
theorem X8_cp1 {l : Launch} {G : jG} {X : jX} {r : va_W} {m : Nat} {D : Nat → Nat} {fi : Int32} {as : Int64} {ns : Nat} {ii : Int32} {de : Int64} {dl dp dc : Int32} {nr : Nat} {al wa : Int32} {rr ml mv : Nat → Int32} {s t i j n : Nat} (B : jB l G X 2 43 0 0 (fun v w => ∃ mv1, v = some (.int 1) ∧ w = (m, .inr (8, [.int fi, .ref (D 0), .long as, .int (nI ns), .ref (D 1), .ref (D 2), .ref (D 3), .ref (D 4), .ref (D 5), .ref (D 6), .ref (D 7), .ref (D 8), .int ii, .long de, .int dl, .int dp, .int dc, .ref (D 9), .int (nI nr), .ref (D 10), .ref (D 11), .ref (D 12), .ref (D 13), .ref (D 14), .int al, .int wa])) :: (D 2, .inl (G.2.1.2.1, 12, .inl rr)) :: (D 3, .inl (G.2.1.1, 720, .inl (va_cpy ml ml (60 * s + i) (60 * t + j) n))) :: (D 5, .inl (G.2.1.1, 60, .inl mv1)) :: r) "copy") (k : Nat) (hs : s < 12) (hs2 : t < 12) (h1 : i + n ≤ 60) (h2 : j + n ≤ 60) (hk : k ≤ n) : J G X mX8_copy ((m, .inr (8, [.int fi, .ref (D 0), .long as, .int (nI ns), .ref (D 1), .ref (D 2), .ref (D 3), .ref (D 4), .ref (D 5), .ref (D 6), .ref (D 7), .ref (D 8), .int ii, .long de, .int dl, .int dp, .int dc, .ref (D 9), .int (nI nr), .ref (D 10), .ref (D 11), .ref (D 12), .ref (D 13), .ref (D 14), .int al, .int wa])) :: (D 2, .inl (G.2.1.2.1, 12, .inl rr)) :: (D 3, .inl (G.2.1.1, 720, .inl ml)) :: (D 5, .inl (G.2.1.1, 60, .inl (fiF mv (fun y => ml (60 * s + i + y)) k))) :: r) 0 0 98 [(0, .ref m), (1, .int (nI s)), (2, .int (nI i)), (3, .int (nI t)), (4, .int (nI j)), (5, .int (nI n)), (6, .int (nI k))] [] := by
  refine J.iload 6 dX8_copy_98 rfl ?_
  refine J.iload 5 dX8_copy_100 rfl ?_
  refine J.icmp_ge dX8_copy_102 (fun h9 => ?_) (fun h9 => ?_)
  · skip
    have h9 : n ≤ k := (nI_leI (a := n) (b := k) (by omega) (by omega)).mp h9
    have e : k = n := by omega
    subst e
    refine J.iconst (0 : Int32) dX8_copy_132 rfl ?_
    refine J.istore [1, 2, 3, 4, 5, 6, 0] (lv' := [(0, .ref m), (1, .int (nI s)), (2, .int (nI i)), (3, .int (nI t)), (4, .int (nI j)), (5, .int (nI k)), (6, .int (0 : Int32))]) dX8_copy_133 rfl rfl ?_
    have hq9 := X8_cp2 (rr := rr) (ml := ml) (mv := mv) B 0 hs hs2 h1 h2 (by omega)
    rw [cpy_0] at hq9
    exact hq9
  · skip
    have h9 : ¬ n ≤ k := fun z => h9 ((nI_leI (a := n) (b := k) (by omega) (by omega)).mpr z)
    refine J.aload_n 0 dX8_copy_105 rfl ?_
    refine J.get 0 fl_X8_26 dX8_copy_106 rfl rfl ?_
    refine J.iload 6 dX8_copy_109 rfl ?_
    refine J.aload_n 0 dX8_copy_111 rfl ?_
    refine J.get 0 fl_X8_20 dX8_copy_112 rfl rfl ?_
    refine J.bipush (60 : Int32) dX8_copy_115 rfl ?_
    refine J.iload_n 1 dX8_copy_117 rfl ?_
    refine J.imul dX8_copy_118 ?_
    refine J.topi (y := nI (60 * s)) (pk_mul 60 s) ?_
    refine J.iload_n 2 dX8_copy_119 rfl ?_
    refine J.iadd dX8_copy_120 ?_
    refine J.topi (y := nI ((60 * s) + i)) (nI_add (60 * s) i) ?_
    refine J.iload 6 dX8_copy_121 rfl ?_
    refine J.iadd dX8_copy_123 ?_
    refine J.topi (y := nI (((60 * s) + i) + k)) (nI_add ((60 * s) + i) k) ?_
    refine J.iald 2 (((60 * s) + i) + k) dX8_copy_124 rfl (rfl) (by omega) (by decide) ?_
    refine J.iast 3 (k) dX8_copy_125 rfl (rfl) (by omega) (by decide) (ws' := (m, .inr (8, [.int fi, .ref (D 0), .long as, .int (nI ns), .ref (D 1), .ref (D 2), .ref (D 3), .ref (D 4), .ref (D 5), .ref (D 6), .ref (D 7), .ref (D 8), .int ii, .long de, .int dl, .int dp, .int dc, .ref (D 9), .int (nI nr), .ref (D 10), .ref (D 11), .ref (D 12), .ref (D 13), .ref (D 14), .int al, .int wa])) :: (D 2, .inl (G.2.1.2.1, 12, .inl rr)) :: (D 3, .inl (G.2.1.1, 720, .inl ml)) :: (D 5, .inl (G.2.1.1, 60, .inl (upd (fiF mv (fun y => ml (60 * s + i + y)) k) k (ml (((60 * s) + i) + k))))) :: r) rfl ?_
    rw [show upd (fiF mv (fun y => ml (60 * s + i + y)) k) k (ml (((60 * s) + i) + k)) = fiF mv (fun y => ml (60 * s + i + y)) (k + 1) from fiF_s mv (fun y => ml (60 * s + i + y)) k]
    refine J.iinc 6 [1, 2, 3, 4, 5, 6, 0] (lv' := [(0, .ref m), (1, .int (nI s)), (2, .int (nI i)), (3, .int (nI t)), (4, .int (nI j)), (5, .int (nI n)), (6, .int (nI (k + 1)))]) dX8_copy_126 rfl (jinc1 _) rfl rfl ?_
    refine J.goto dX8_copy_129 ?_
    exact X8_cp1 B (k + 1) hs hs2 h1 h2 (by omega)
termination_by n - k
decreasing_by all_goals omega
set_option maxHeartbeats 4000000 in
set_option maxRecDepth 100000 in
theorem r_copy (l : Launch) (G : jG) (r : va_W) {m : Nat} {D : Nat → Nat} {fi : Int32} {as : Int64} {ns : Nat} {ii : Int32} {de : Int64} {dl dp dc : Int32} {nr : Nat} {al wa : Int32} {s : Nat} (hk : s < ns) (hns : ns ≤ 12) {t : Nat} (hk2 : t < ns) {rr : Nat → Int32} {ml mv : Nat → Int32} (hr : ¬ rr s = 0) (hr2 : ¬ rr t = 0) {i j n : Nat} (h1 : i + n ≤ 60) (h2 : j + n ≤ 60) : Mt l G yX8_copy mX8_copy 2 43 0 0 [.ref m, .int (nI s), .int (nI i), .int (nI t), .int (nI j), .int (nI n)] ((m, .inr (8, [.int fi, .ref (D 0), .long as, .int (nI ns), .ref (D 1), .ref (D 2), .ref (D 3), .ref (D 4), .ref (D 5), .ref (D 6), .ref (D 7), .ref (D 8), .int ii, .long de, .int dl, .int dp, .int dc, .ref (D 9), .int (nI nr), .ref (D 10), .ref (D 11), .ref (D 12), .ref (D 13), .ref (D 14), .int al, .int wa])) :: (D 2, .inl (G.2.1.2.1, 12, .inl rr)) :: (D 3, .inl (G.2.1.1, 720, .inl ml)) :: (D 5, .inl (G.2.1.1, 60, .inl mv)) :: r) (fun v w => ∃ mv1, v = some (.int 1) ∧ w = (m, .inr (8, [.int fi, .ref (D 0), .long as, .int (nI ns), .ref (D 1), .ref (D 2), .ref (D 3), .ref (D 4), .ref (D 5), .ref (D 6), .ref (D 7), .ref (D 8), .int ii, .long de, .int dl, .int dp, .int dc, .ref (D 9), .int (nI nr), .ref (D 10), .ref (D 11), .ref (D 12), .ref (D 13), .ref (D 14), .int al, .int wa])) :: (D 2, .inl (G.2.1.2.1, 12, .inl rr)) :: (D 3, .inl (G.2.1.1, 720, .inl (va_cpy ml ml (60 * s + i) (60 * t + j) n))) :: (D 5, .inl (G.2.1.1, 60, .inl mv1)) :: r) := by
  refine Mt.of (by decide +kernel) rfl rfl (fun X B => ?_)
  show J G X mX8_copy ((m, .inr (8, [.int fi, .ref (D 0), .long as, .int (nI ns), .ref (D 1), .ref (D 2), .ref (D 3), .ref (D 4), .ref (D 5), .ref (D 6), .ref (D 7), .ref (D 8), .int ii, .long de, .int dl, .int dp, .int dc, .ref (D 9), .int (nI nr), .ref (D 10), .ref (D 11), .ref (D 12), .ref (D 13), .ref (D 14), .int al, .int wa])) :: (D 2, .inl (G.2.1.2.1, 12, .inl rr)) :: (D 3, .inl (G.2.1.1, 720, .inl ml)) :: (D 5, .inl (G.2.1.1, 60, .inl mv)) :: r) 0 0 0 [(0, .ref m), (1, .int (nI s)), (2, .int (nI i)), (3, .int (nI t)), (4, .int (nI j)), (5, .int (nI n))] []
  have hs : s < 12 := by omega
  have hin : inR (nI s) 0 ((ns : Int) - 1) = true := by rw [nI_inR (by omega)]; exact decide_eq_true ⟨by omega, by omega⟩
  have hs2 : t < 12 := by omega
  have hin2 : inR (nI t) 0 ((ns : Int) - 1) = true := by rw [nI_inR (by omega)]; exact decide_eq_true ⟨by omega, by omega⟩
  have g5 : (nI i).toInt64 + (nI n).toInt64 ≤ 60 := cp_le.mpr (by rw [nI_toInt (by omega), nI_toInt (by omega)]; omega)
  have g6 : (nI j).toInt64 + (nI n).toInt64 ≤ 60 := cp_le.mpr (by rw [nI_toInt (by omega), nI_toInt (by omega)]; omega)
  refine J.aload_n 0 dX8_copy_0 rfl ?_
  refine J.iload_n 1 dX8_copy_1 rfl ?_
  refine J.callV 0 (st := []) B (c_X8_isStar l G _ (num := nI s) hns) ml_X8_80 mf_yX8_isStar mi_yX8_isStar rfl dX8_copy_2 rfl rfl rfl rfl (fun v_1 w_2 hp_3 => ?_)
  obtain ⟨rfl, rfl⟩ := hp_3
  show J G X mX8_copy _ _ _ 5 _ [.int (b01 (inR (nI s) 0 ((ns : Int) - 1)))]
  refine J.if_eq dX8_copy_5 (fun z => absurd z (by rw [hin]; decide)) (fun h9 => ?_)
  refine J.aload_n 0 dX8_copy_8 rfl ?_
  refine J.iload_n 3 dX8_copy_9 rfl ?_
  refine J.callV 0 (st := []) B (c_X8_isStar l G _ (num := nI t) hns) ml_X8_80 mf_yX8_isStar mi_yX8_isStar rfl dX8_copy_10 rfl rfl rfl rfl (fun v_4 w_5 hp_6 => ?_)
  obtain ⟨rfl, rfl⟩ := hp_6
  show J G X mX8_copy _ _ _ 13 _ [.int (b01 (inR (nI t) 0 ((ns : Int) - 1)))]
  refine J.if_ne dX8_copy_13 (fun h9 => ?_) (fun z => absurd z (by rw [hin2]; decide))
  refine J.iload 5 dX8_copy_18 rfl ?_
  refine J.if_ge dX8_copy_20 (fun h8 => ?_) (fun h8 => ?_)
  · skip
    have h8 : 0 ≤ n := (nI_leI (a := 0) (b := n) (by omega) (by omega)).mp h8
    refine J.aload_n 0 dX8_copy_29 rfl ?_
    refine J.get 0 fl_X8_16 dX8_copy_30 rfl rfl ?_
    refine J.iload_n 1 dX8_copy_33 rfl ?_
    refine J.zald 1 (s) dX8_copy_34 rfl (rfl) (by omega) (by decide) ?_
    refine J.if_eq dX8_copy_35 (fun z => absurd z (hr)) (fun h7 => ?_)
    refine J.aload_n 0 dX8_copy_38 rfl ?_
    refine J.get 0 fl_X8_16 dX8_copy_39 rfl rfl ?_
    refine J.iload_n 3 dX8_copy_42 rfl ?_
    refine J.zald 1 (t) dX8_copy_43 rfl (rfl) (by omega) (by decide) ?_
    refine J.if_ne dX8_copy_44 (fun h6 => ?_) (fun z => absurd z (hr2))
    refine J.iload_n 2 dX8_copy_53 rfl ?_
    refine J.if_lt dX8_copy_54 (fun g1 => ?_) (fun g1 => ?_)
    · skip
      have g1 : i < 0 := (nI_ltI (a := i) (b := 0) (by omega) (by omega)).mp g1
      omega
    · skip
      have g1 : ¬ i < 0 := fun z => g1 ((nI_ltI (a := i) (b := 0) (by omega) (by omega)).mpr z)
      refine J.iload 4 dX8_copy_57 rfl ?_
      refine J.if_lt dX8_copy_59 (fun g2 => ?_) (fun g2 => ?_)
      · skip
        have g2 : j < 0 := (nI_ltI (a := j) (b := 0) (by omega) (by omega)).mp g2
        omega
      · skip
        have g2 : ¬ j < 0 := fun z => g2 ((nI_ltI (a := j) (b := 0) (by omega) (by omega)).mpr z)
        refine J.iload_n 2 dX8_copy_62 rfl ?_
        refine J.i2l dX8_copy_63 ?_
        refine J.iload 5 dX8_copy_64 rfl ?_
        refine J.i2l dX8_copy_66 ?_
        refine J.ladd dX8_copy_67 ?_
        refine J.ldc2 dX8_copy_68 kl_X8_118 ?_
        refine J.lcmp dX8_copy_71 ?_
        refine J.if_gt dX8_copy_72 (fun g3 => ?_) (fun g3 => ?_)
        · skip
          have g3 := jc_gt_t g3
          exact absurd g3 (Int64.not_lt.mpr g5)
        · skip
          have g3 := jc_gt_f g3
          refine J.iload 4 dX8_copy_75 rfl ?_
          refine J.i2l dX8_copy_77 ?_
          refine J.iload 5 dX8_copy_78 rfl ?_
          refine J.i2l dX8_copy_80 ?_
          refine J.ladd dX8_copy_81 ?_
          refine J.ldc2 dX8_copy_82 kl_X8_118 ?_
          refine J.lcmp dX8_copy_85 ?_
          refine J.if_le dX8_copy_86 (fun g4 => ?_) (fun g4 => ?_)
          · skip
            have g4 := jc_le_t g4
            refine J.iconst (0 : Int32) dX8_copy_95 rfl ?_
            refine J.istore [1, 2, 3, 4, 5, 6, 0] (lv' := [(0, .ref m), (1, .int (nI s)), (2, .int (nI i)), (3, .int (nI t)), (4, .int (nI j)), (5, .int (nI n)), (6, .int (0 : Int32))]) dX8_copy_96 rfl rfl ?_
            have hq9 := X8_cp1 (rr := rr) (ml := ml) (mv := mv) B 0 hs hs2 h1 h2 (by omega)
            rw [fiF_0] at hq9
            exact hq9
          · skip
            have g4 := jc_le_f g4
            exact absurd g6 g4
  · skip
    have h8 : ¬ 0 ≤ n := fun z => h8 ((nI_leI (a := 0) (b := n) (by omega) (by omega)).mpr z)
    omega
theorem rw_no {ns s : Nat} {kk rr ml cls : Nat → Int32} (h : s < ns) (hr : rr s = 0) : rwN (mqF ns kk rr ml cls) (s + 1) = rwN (mqF ns kk rr ml cls) s + 0 := by
  show rwN (mqF ns kk rr ml cls) s + _ = _
  rw [mq_no h hr]
  rfl
theorem rw_yes {ns s : Nat} {kk rr ml cls : Nat → Int32} (h : s < ns) (hr : ¬ rr s = 0) : rwN (mqF ns kk rr ml cls) (s + 1) = rwN (mqF ns kk rr ml cls) s + 1 := by
  show rwN (mqF ns kk rr ml cls) s + _ = _
  rw [mq_yes h hr]
  rfl
theorem lg_no {ns s : Nat} {kk rr ml cls : Nat → Int32} (h : s < ns) (hr : rr s = 0) : lgN (mqF ns kk rr ml cls) (s + 1) = lgN (mqF ns kk rr ml cls) s + 0 := by
  show lgN (mqF ns kk rr ml cls) s + nN _ = _
  rw [mq_no h hr]
  show _ + nN (fun _ => -9) = _
  rw [nN_none]
theorem lg_yes {ns s : Nat} {kk rr ml cls : Nat → Int32} (h : s < ns) (hr : ¬ rr s = 0) : lgN (mqF ns kk rr ml cls) (s + 1) = lgN (mqF ns kk rr ml cls) s + nN (rowM ml s) := by
  show lgN (mqF ns kk rr ml cls) s + nN _ = _
  rw [mq_yes h hr]
set_option maxHeartbeats 4000000 in
set_option maxRecDepth 100000 in
theorem X8_cntZ {l : Launch} {G : jG} {X : jX} {r : va_W} {m : Nat} {D : Nat → Nat} {fi : Int32} {as : Int64} {ns : Nat} {ii : Int32} {de : Int64} {dl dp dc : Int32} {nr : Nat} {al wa : Int32} {rr : Nat → Int32} {a : Int32} {po : Option Value → va_W → Prop} (B : jB l G X 2 45 0 0 (po) "count") (hns : ns ≤ 12) (ha1 : ¬ a = 1) (ha2 : ¬ a = 2) (hK : J G X mX8_count ((m, .inr (8, [.int fi, .ref (D 0), .long as, .int (nI ns), .ref (D 1), .ref (D 2), .ref (D 3), .ref (D 4), .ref (D 5), .ref (D 6), .ref (D 7), .ref (D 8), .int ii, .long de, .int dl, .int dp, .int dc, .ref (D 9), .int (nI nr), .ref (D 10), .ref (D 11), .ref (D 12), .ref (D 13), .ref (D 14), .int al, .int wa])) :: (D 2, .inl (G.2.1.2.1, 12, .inl rr)) :: r) 0 0 57 [(0, .ref m), (1, .int a), (2, .int (0 : Int32))] []) (s : Nat) (hk : s ≤ ns) : J G X mX8_count ((m, .inr (8, [.int fi, .ref (D 0), .long as, .int (nI ns), .ref (D 1), .ref (D 2), .ref (D 3), .ref (D 4), .ref (D 5), .ref (D 6), .ref (D 7), .ref (D 8), .int ii, .long de, .int dl, .int dp, .int dc, .ref (D 9), .int (nI nr), .ref (D 10), .ref (D 11), .ref (D 12), .ref (D 13), .ref (D 14), .int al, .int wa])) :: (D 2, .inl (G.2.1.2.1, 12, .inl rr)) :: r) 0 0 4 [(0, .ref m), (1, .int a), (2, .int (0 : Int32)), (3, .int (nI s))] [] := by
  refine J.iload_n 3 dX8_count_4 rfl ?_
  refine J.aload_n 0 dX8_count_5 rfl ?_
  refine J.get 0 fl_X8_73 dX8_count_6 rfl rfl ?_
  refine J.icmp_ge dX8_count_9 (fun h9 => ?_) (fun h9 => ?_)
  · skip
    have h9 : ns ≤ s := (nI_leI (a := ns) (b := s) (by omega) (by omega)).mp h9
    refine J.loc [0, 1, 2] (lv' := [(0, .ref m), (1, .int a), (2, .int (0 : Int32))]) rfl ?_
    exact hK
  · skip
    have h9 : ¬ ns ≤ s := fun z => h9 ((nI_leI (a := ns) (b := s) (by omega) (by omega)).mpr z)
    refine J.iload_n 2 dX8_count_12 rfl ?_
    refine J.aload_n 0 dX8_count_13 rfl ?_
    refine J.get 0 fl_X8_16 dX8_count_14 rfl rfl ?_
    refine J.iload_n 3 dX8_count_17 rfl ?_
    refine J.zald 1 (s) dX8_count_18 rfl (rfl) (by omega) (by decide) ?_
    refine J.if_ne dX8_count_19 (fun h8 => ?_) (fun h8 => ?_)
    · skip
      refine J.iload_n 1 dX8_count_26 rfl ?_
      refine J.iconst (1 : Int32) dX8_count_27 rfl ?_
      refine J.icmp_ne dX8_count_28 (fun h7 => ?_) (fun z => absurd z (ha1))
      refine J.iload_n 1 dX8_count_35 rfl ?_
      refine J.iconst (2 : Int32) dX8_count_36 rfl ?_
      refine J.icmp_ne dX8_count_37 (fun h7 => ?_) (fun z => absurd z (ha2))
      refine J.iconst (0 : Int32) dX8_count_48 rfl ?_
      refine J.iadd dX8_count_49 ?_
      refine J.topi (y := nI (0 + 0)) (nI_add 0 0) ?_
      refine J.istore_n [1, 2, 0, 3] (lv' := [(0, .ref m), (1, .int a), (2, .int (nI (0 + 0))), (3, .int (nI s))]) dX8_count_50 rfl rfl ?_
      refine J.iinc 3 [1, 2, 3, 0] (lv' := [(0, .ref m), (1, .int a), (2, .int (nI (0 + 0))), (3, .int (nI (s + 1)))]) dX8_count_51 rfl (jinc1 _) rfl rfl ?_
      refine J.goto dX8_count_54 ?_
      exact X8_cntZ B hns ha1 ha2 hK (s + 1) (by omega)
    · skip
      refine J.iconst (0 : Int32) dX8_count_22 rfl ?_
      refine J.goto dX8_count_23 ?_
      refine J.iadd dX8_count_49 ?_
      refine J.topi (y := nI (0 + 0)) (nI_add 0 0) ?_
      refine J.istore_n [1, 2, 0, 3] (lv' := [(0, .ref m), (1, .int a), (2, .int (nI (0 + 0))), (3, .int (nI s))]) dX8_count_50 rfl rfl ?_
      refine J.iinc 3 [1, 2, 3, 0] (lv' := [(0, .ref m), (1, .int a), (2, .int (nI (0 + 0))), (3, .int (nI (s + 1)))]) dX8_count_51 rfl (jinc1 _) rfl rfl ?_
      refine J.goto dX8_count_54 ?_
      exact X8_cntZ B hns ha1 ha2 hK (s + 1) (by omega)
termination_by ns - s
decreasing_by all_goals omega
set_option maxHeartbeats 4000000 in
set_option maxRecDepth 100000 in
theorem r_count0 (l : Launch) (G : jG) (r : va_W) {m : Nat} {D : Nat → Nat} {fi : Int32} {as : Int64} {ns : Nat} {ii : Int32} {de : Int64} {dl dp dc : Int32} {nr : Nat} {al wa : Int32} {rr : Nat → Int32} (hns : ns ≤ 12) : Mt l G yX8_count mX8_count 2 45 0 0 [.ref m, .int (0 : Int32)] ((m, .inr (8, [.int fi, .ref (D 0), .long as, .int (nI ns), .ref (D 1), .ref (D 2), .ref (D 3), .ref (D 4), .ref (D 5), .ref (D 6), .ref (D 7), .ref (D 8), .int ii, .long de, .int dl, .int dp, .int dc, .ref (D 9), .int (nI nr), .ref (D 10), .ref (D 11), .ref (D 12), .ref (D 13), .ref (D 14), .int al, .int wa])) :: (D 2, .inl (G.2.1.2.1, 12, .inl rr)) :: r) (fun v w => v = some (.int (nI ns)) ∧ w = (m, .inr (8, [.int fi, .ref (D 0), .long as, .int (nI ns), .ref (D 1), .ref (D 2), .ref (D 3), .ref (D 4), .ref (D 5), .ref (D 6), .ref (D 7), .ref (D 8), .int ii, .long de, .int dl, .int dp, .int dc, .ref (D 9), .int (nI nr), .ref (D 10), .ref (D 11), .ref (D 12), .ref (D 13), .ref (D 14), .int al, .int wa])) :: (D 2, .inl (G.2.1.2.1, 12, .inl rr)) :: r) := by
  refine Mt.of (by decide +kernel) rfl rfl (fun X B => ?_)
  show J G X mX8_count ((m, .inr (8, [.int fi, .ref (D 0), .long as, .int (nI ns), .ref (D 1), .ref (D 2), .ref (D 3), .ref (D 4), .ref (D 5), .ref (D 6), .ref (D 7), .ref (D 8), .int ii, .long de, .int dl, .int dp, .int dc, .ref (D 9), .int (nI nr), .ref (D 10), .ref (D 11), .ref (D 12), .ref (D 13), .ref (D 14), .int al, .int wa])) :: (D 2, .inl (G.2.1.2.1, 12, .inl rr)) :: r) 0 0 0 [(0, .ref m), (1, .int (0 : Int32))] []
  refine J.iconst (0 : Int32) dX8_count_0 rfl ?_
  refine J.istore_n [1, 2, 0] (lv' := [(0, .ref m), (1, .int (0 : Int32)), (2, .int (0 : Int32))]) dX8_count_1 rfl rfl ?_
  refine J.iconst (0 : Int32) dX8_count_2 rfl ?_
  refine J.istore_n [1, 2, 3, 0] (lv' := [(0, .ref m), (1, .int (0 : Int32)), (2, .int (0 : Int32)), (3, .int (0 : Int32))]) dX8_count_3 rfl rfl ?_
  refine X8_cntZ B hns (by decide) (by decide) ?_ 0 (by omega)
  refine J.iload_n 1 dX8_count_57 rfl ?_
  refine J.if_ne dX8_count_58 (fun z => absurd z (by decide)) (fun _ => ?_)
  refine J.aload_n 0 dX8_count_61 rfl ?_
  refine J.get 0 fl_X8_73 dX8_count_62 rfl rfl ?_
  refine J.goto dX8_count_65 ?_
  exact J.iret B dX8_count_106 rfl (⟨rfl, rfl⟩)
set_option maxHeartbeats 4000000 in
set_option maxRecDepth 100000 in
theorem r_count3 (l : Launch) (G : jG) (r : va_W) {m : Nat} {D : Nat → Nat} {fi : Int32} {as : Int64} {ns : Nat} {ii : Int32} {de : Int64} {dl dp dc : Int32} {nr : Nat} {al wa : Int32} {rr : Nat → Int32} (hns : ns ≤ 12) : Mt l G yX8_count mX8_count 2 45 0 0 [.ref m, .int (3 : Int32)] ((m, .inr (8, [.int fi, .ref (D 0), .long as, .int (nI ns), .ref (D 1), .ref (D 2), .ref (D 3), .ref (D 4), .ref (D 5), .ref (D 6), .ref (D 7), .ref (D 8), .int ii, .long de, .int dl, .int dp, .int dc, .ref (D 9), .int (nI nr), .ref (D 10), .ref (D 11), .ref (D 12), .ref (D 13), .ref (D 14), .int al, .int wa])) :: (D 2, .inl (G.2.1.2.1, 12, .inl rr)) :: r) (fun v w => v = some (.int (nI nr)) ∧ w = (m, .inr (8, [.int fi, .ref (D 0), .long as, .int (nI ns), .ref (D 1), .ref (D 2), .ref (D 3), .ref (D 4), .ref (D 5), .ref (D 6), .ref (D 7), .ref (D 8), .int ii, .long de, .int dl, .int dp, .int dc, .ref (D 9), .int (nI nr), .ref (D 10), .ref (D 11), .ref (D 12), .ref (D 13), .ref (D 14), .int al, .int wa])) :: (D 2, .inl (G.2.1.2.1, 12, .inl rr)) :: r) := by
  refine Mt.of (by decide +kernel) rfl rfl (fun X B => ?_)
  show J G X mX8_count ((m, .inr (8, [.int fi, .ref (D 0), .long as, .int (nI ns), .ref (D 1), .ref (D 2), .ref (D 3), .ref (D 4), .ref (D 5), .ref (D 6), .ref (D 7), .ref (D 8), .int ii, .long de, .int dl, .int dp, .int dc, .ref (D 9), .int (nI nr), .ref (D 10), .ref (D 11), .ref (D 12), .ref (D 13), .ref (D 14), .int al, .int wa])) :: (D 2, .inl (G.2.1.2.1, 12, .inl rr)) :: r) 0 0 0 [(0, .ref m), (1, .int (3 : Int32))] []
  refine J.iconst (0 : Int32) dX8_count_0 rfl ?_
  refine J.istore_n [1, 2, 0] (lv' := [(0, .ref m), (1, .int (3 : Int32)), (2, .int (0 : Int32))]) dX8_count_1 rfl rfl ?_
  refine J.iconst (0 : Int32) dX8_count_2 rfl ?_
  refine J.istore_n [1, 2, 3, 0] (lv' := [(0, .ref m), (1, .int (3 : Int32)), (2, .int (0 : Int32)), (3, .int (0 : Int32))]) dX8_count_3 rfl rfl ?_
  refine X8_cntZ B hns (by decide) (by decide) ?_ 0 (by omega)
  refine J.iload_n 1 dX8_count_57 rfl ?_
  refine J.if_ne dX8_count_58 (fun _ => ?_) (fun z => absurd z (by decide))
  refine J.iload_n 1 dX8_count_68 rfl ?_
  refine J.iconst (1 : Int32) dX8_count_69 rfl ?_
  refine J.iconst (2 : Int32) dX8_count_70 rfl ?_
  refine J.callS (st := []) B (c_X8_in l G _ (v := (3 : Int32)) (lo := (1 : Int32)) (hi := (2 : Int32)) (a := 1) (b := 2) rfl rfl) ml_X8_76 mf_yX8_in mS_yX8_in dX8_count_71 rfl rfl rfl (fun v_1 w_2 hp_3 => ?_)
  obtain ⟨rfl, rfl⟩ := hp_3
  show J G X mX8_count _ _ _ 74 _ [.int (b01 (inR (3 : Int32) 1 2))]
  refine J.if_eq dX8_count_74 (fun h9 => ?_) (fun z => absurd (by decide) z)
  refine J.iload_n 1 dX8_count_81 rfl ?_
  refine J.iconst (3 : Int32) dX8_count_82 rfl ?_
  refine J.icmp_ne dX8_count_83 (fun z => absurd z (by decide)) (fun _ => ?_)
  refine J.aload_n 0 dX8_count_86 rfl ?_
  refine J.get 0 fl_X8_172 dX8_count_87 rfl rfl ?_
  refine J.goto dX8_count_90 ?_
  exact J.iret B dX8_count_106 rfl (⟨rfl, rfl⟩)
set_option maxHeartbeats 4000000 in
set_option maxRecDepth 100000 in
theorem r_count4 (l : Launch) (G : jG) (r : va_W) {m : Nat} {D : Nat → Nat} {fi : Int32} {as : Int64} {ns : Nat} {ii : Int32} {de : Int64} {dl dp dc : Int32} {nr : Nat} {al wa : Int32} {rr : Nat → Int32} (hns : ns ≤ 12) : Mt l G yX8_count mX8_count 2 45 0 0 [.ref m, .int (4 : Int32)] ((m, .inr (8, [.int fi, .ref (D 0), .long as, .int (nI ns), .ref (D 1), .ref (D 2), .ref (D 3), .ref (D 4), .ref (D 5), .ref (D 6), .ref (D 7), .ref (D 8), .int ii, .long de, .int dl, .int dp, .int dc, .ref (D 9), .int (nI nr), .ref (D 10), .ref (D 11), .ref (D 12), .ref (D 13), .ref (D 14), .int al, .int wa])) :: (D 2, .inl (G.2.1.2.1, 12, .inl rr)) :: r) (fun v w => v = some (.int wa) ∧ w = (m, .inr (8, [.int fi, .ref (D 0), .long as, .int (nI ns), .ref (D 1), .ref (D 2), .ref (D 3), .ref (D 4), .ref (D 5), .ref (D 6), .ref (D 7), .ref (D 8), .int ii, .long de, .int dl, .int dp, .int dc, .ref (D 9), .int (nI nr), .ref (D 10), .ref (D 11), .ref (D 12), .ref (D 13), .ref (D 14), .int al, .int wa])) :: (D 2, .inl (G.2.1.2.1, 12, .inl rr)) :: r) := by
  refine Mt.of (by decide +kernel) rfl rfl (fun X B => ?_)
  show J G X mX8_count ((m, .inr (8, [.int fi, .ref (D 0), .long as, .int (nI ns), .ref (D 1), .ref (D 2), .ref (D 3), .ref (D 4), .ref (D 5), .ref (D 6), .ref (D 7), .ref (D 8), .int ii, .long de, .int dl, .int dp, .int dc, .ref (D 9), .int (nI nr), .ref (D 10), .ref (D 11), .ref (D 12), .ref (D 13), .ref (D 14), .int al, .int wa])) :: (D 2, .inl (G.2.1.2.1, 12, .inl rr)) :: r) 0 0 0 [(0, .ref m), (1, .int (4 : Int32))] []
  refine J.iconst (0 : Int32) dX8_count_0 rfl ?_
  refine J.istore_n [1, 2, 0] (lv' := [(0, .ref m), (1, .int (4 : Int32)), (2, .int (0 : Int32))]) dX8_count_1 rfl rfl ?_
  refine J.iconst (0 : Int32) dX8_count_2 rfl ?_
  refine J.istore_n [1, 2, 3, 0] (lv' := [(0, .ref m), (1, .int (4 : Int32)), (2, .int (0 : Int32)), (3, .int (0 : Int32))]) dX8_count_3 rfl rfl ?_
  refine X8_cntZ B hns (by decide) (by decide) ?_ 0 (by omega)
  refine J.iload_n 1 dX8_count_57 rfl ?_
  refine J.if_ne dX8_count_58 (fun _ => ?_) (fun z => absurd z (by decide))
  refine J.iload_n 1 dX8_count_68 rfl ?_
  refine J.iconst (1 : Int32) dX8_count_69 rfl ?_
  refine J.iconst (2 : Int32) dX8_count_70 rfl ?_
  refine J.callS (st := []) B (c_X8_in l G _ (v := (4 : Int32)) (lo := (1 : Int32)) (hi := (2 : Int32)) (a := 1) (b := 2) rfl rfl) ml_X8_76 mf_yX8_in mS_yX8_in dX8_count_71 rfl rfl rfl (fun v_1 w_2 hp_3 => ?_)
  obtain ⟨rfl, rfl⟩ := hp_3
  show J G X mX8_count _ _ _ 74 _ [.int (b01 (inR (4 : Int32) 1 2))]
  refine J.if_eq dX8_count_74 (fun h9 => ?_) (fun z => absurd (by decide) z)
  refine J.iload_n 1 dX8_count_81 rfl ?_
  refine J.iconst (3 : Int32) dX8_count_82 rfl ?_
  refine J.icmp_ne dX8_count_83 (fun _ => ?_) (fun z => absurd z (by decide))
  refine J.iload_n 1 dX8_count_93 rfl ?_
  refine J.iconst (4 : Int32) dX8_count_94 rfl ?_
  refine J.icmp_ne dX8_count_95 (fun z => absurd z (by decide)) (fun _ => ?_)
  refine J.aload_n 0 dX8_count_98 rfl ?_
  refine J.get 0 fl_X8_184 dX8_count_99 rfl rfl ?_
  refine J.goto dX8_count_102 ?_
  exact J.iret B dX8_count_106 rfl (⟨rfl, rfl⟩)
set_option maxHeartbeats 4000000 in
set_option maxRecDepth 100000 in
theorem r_count_bad (l : Launch) (G : jG) (r : va_W) {m : Nat} {D : Nat → Nat} {fi : Int32} {as : Int64} {ns : Nat} {ii : Int32} {de : Int64} {dl dp dc : Int32} {nr : Nat} {al wa : Int32} {rr : Nat → Int32} {a : Int32} (ha : inR a 0 4 = false) (hns : ns ≤ 12) : Mt l G yX8_count mX8_count 2 45 0 0 [.ref m, .int a] ((m, .inr (8, [.int fi, .ref (D 0), .long as, .int (nI ns), .ref (D 1), .ref (D 2), .ref (D 3), .ref (D 4), .ref (D 5), .ref (D 6), .ref (D 7), .ref (D 8), .int ii, .long de, .int dl, .int dp, .int dc, .ref (D 9), .int (nI nr), .ref (D 10), .ref (D 11), .ref (D 12), .ref (D 13), .ref (D 14), .int al, .int wa])) :: (D 2, .inl (G.2.1.2.1, 12, .inl rr)) :: r) (fun v w => v = some (.int (-1 : Int32)) ∧ w = (m, .inr (8, [.int fi, .ref (D 0), .long as, .int (nI ns), .ref (D 1), .ref (D 2), .ref (D 3), .ref (D 4), .ref (D 5), .ref (D 6), .ref (D 7), .ref (D 8), .int ii, .long de, .int dl, .int dp, .int dc, .ref (D 9), .int (nI nr), .ref (D 10), .ref (D 11), .ref (D 12), .ref (D 13), .ref (D 14), .int al, .int wa])) :: (D 2, .inl (G.2.1.2.1, 12, .inl rr)) :: r) := by
  refine Mt.of (by decide +kernel) rfl rfl (fun X B => ?_)
  show J G X mX8_count ((m, .inr (8, [.int fi, .ref (D 0), .long as, .int (nI ns), .ref (D 1), .ref (D 2), .ref (D 3), .ref (D 4), .ref (D 5), .ref (D 6), .ref (D 7), .ref (D 8), .int ii, .long de, .int dl, .int dp, .int dc, .ref (D 9), .int (nI nr), .ref (D 10), .ref (D 11), .ref (D 12), .ref (D 13), .ref (D 14), .int al, .int wa])) :: (D 2, .inl (G.2.1.2.1, 12, .inl rr)) :: r) 0 0 0 [(0, .ref m), (1, .int a)] []
  refine J.iconst (0 : Int32) dX8_count_0 rfl ?_
  refine J.istore_n [1, 2, 0] (lv' := [(0, .ref m), (1, .int a), (2, .int (0 : Int32))]) dX8_count_1 rfl rfl ?_
  refine J.iconst (0 : Int32) dX8_count_2 rfl ?_
  refine J.istore_n [1, 2, 3, 0] (lv' := [(0, .ref m), (1, .int a), (2, .int (0 : Int32)), (3, .int (0 : Int32))]) dX8_count_3 rfl rfl ?_
  refine X8_cntZ B hns (fun e => by subst e; exact absurd ha (by decide)) (fun e => by subst e; exact absurd ha (by decide)) ?_ 0 (by omega)
  refine J.iload_n 1 dX8_count_57 rfl ?_
  refine J.if_ne dX8_count_58 (fun h9 => ?_) (fun z => absurd z ((fun e => by subst e; exact absurd ha (by decide))))
  refine J.iload_n 1 dX8_count_68 rfl ?_
  refine J.iconst (1 : Int32) dX8_count_69 rfl ?_
  refine J.iconst (2 : Int32) dX8_count_70 rfl ?_
  refine J.callS (st := []) B (c_X8_in l G _ (v := a) (lo := (1 : Int32)) (hi := (2 : Int32)) (a := 1) (b := 2) rfl rfl) ml_X8_76 mf_yX8_in mS_yX8_in dX8_count_71 rfl rfl rfl (fun v_1 w_2 hp_3 => ?_)
  obtain ⟨rfl, rfl⟩ := hp_3
  show J G X mX8_count _ _ _ 74 _ [.int (b01 (inR a 1 2))]
  refine J.if_eq dX8_count_74 (fun h9 => ?_) (fun z => absurd (by rw [show inR a 1 2 = false from by have h9 := inR_no ha; exact inR_f (by omega)]; rfl) z)
  refine J.iload_n 1 dX8_count_81 rfl ?_
  refine J.iconst (3 : Int32) dX8_count_82 rfl ?_
  refine J.icmp_ne dX8_count_83 (fun h9 => ?_) (fun z => absurd z ((fun e => by subst e; exact absurd ha (by decide))))
  refine J.iload_n 1 dX8_count_93 rfl ?_
  refine J.iconst (4 : Int32) dX8_count_94 rfl ?_
  refine J.icmp_ne dX8_count_95 (fun h9 => ?_) (fun z => absurd z ((fun e => by subst e; exact absurd ha (by decide))))
  refine J.iconst (-1 : Int32) dX8_count_105 rfl ?_
  exact J.iret B dX8_count_106 rfl (⟨rfl, rfl⟩)
set_option maxHeartbeats 4000000 in
set_option maxRecDepth 100000 in
theorem X8_rwN {l : Launch} {G : jG} {X : jX} {r : va_W} {m : Nat} {D : Nat → Nat} {fi : Int32} {as : Int64} {ns : Nat} {ii : Int32} {de : Int64} {dl dp dc : Int32} {nr : Nat} {al wa : Int32} {kk rr ml cls : Nat → Int32} (B : jB l G X 2 45 0 0 (fun v w => v = some (.int (nI (rwN (mqF ns kk rr ml cls) ns))) ∧ w = (m, .inr (8, [.int fi, .ref (D 0), .long as, .int (nI ns), .ref (D 1), .ref (D 2), .ref (D 3), .ref (D 4), .ref (D 5), .ref (D 6), .ref (D 7), .ref (D 8), .int ii, .long de, .int dl, .int dp, .int dc, .ref (D 9), .int (nI nr), .ref (D 10), .ref (D 11), .ref (D 12), .ref (D 13), .ref (D 14), .int al, .int wa])) :: (D 2, .inl (G.2.1.2.1, 12, .inl rr)) :: r) "count") (s : Nat) (hns : ns ≤ 12) (hk : s ≤ ns) : J G X mX8_count ((m, .inr (8, [.int fi, .ref (D 0), .long as, .int (nI ns), .ref (D 1), .ref (D 2), .ref (D 3), .ref (D 4), .ref (D 5), .ref (D 6), .ref (D 7), .ref (D 8), .int ii, .long de, .int dl, .int dp, .int dc, .ref (D 9), .int (nI nr), .ref (D 10), .ref (D 11), .ref (D 12), .ref (D 13), .ref (D 14), .int al, .int wa])) :: (D 2, .inl (G.2.1.2.1, 12, .inl rr)) :: r) 0 0 4 [(0, .ref m), (1, .int (1 : Int32)), (2, .int (nI (rwN (mqF ns kk rr ml cls) s))), (3, .int (nI s))] [] := by
  have hle := rwN_le (mqF ns kk rr ml cls) s
  refine J.iload_n 3 dX8_count_4 rfl ?_
  refine J.aload_n 0 dX8_count_5 rfl ?_
  refine J.get 0 fl_X8_73 dX8_count_6 rfl rfl ?_
  refine J.icmp_ge dX8_count_9 (fun h9 => ?_) (fun h9 => ?_)
  · skip
    have h9 : ns ≤ s := (nI_leI (a := ns) (b := s) (by omega) (by omega)).mp h9
    have e : s = ns := by omega
    subst e
    refine J.iload_n 1 dX8_count_57 rfl ?_
    refine J.if_ne dX8_count_58 (fun _ => ?_) (fun z => absurd z (by decide))
    refine J.iload_n 1 dX8_count_68 rfl ?_
    refine J.iconst (1 : Int32) dX8_count_69 rfl ?_
    refine J.iconst (2 : Int32) dX8_count_70 rfl ?_
    refine J.callS (st := []) B (c_X8_in l G _ (v := (1 : Int32)) (lo := (1 : Int32)) (hi := (2 : Int32)) (a := 1) (b := 2) rfl rfl) ml_X8_76 mf_yX8_in mS_yX8_in dX8_count_71 rfl rfl rfl (fun v_1 w_2 hp_3 => ?_)
    obtain ⟨rfl, rfl⟩ := hp_3
    show J G X mX8_count _ _ _ 74 _ [.int (b01 (inR (1 : Int32) 1 2))]
    refine J.if_eq dX8_count_74 (fun z => absurd z (by decide)) (fun h9 => ?_)
    refine J.iload_n 2 dX8_count_77 rfl ?_
    refine J.goto dX8_count_78 ?_
    exact J.iret B dX8_count_106 rfl (⟨rfl, rfl⟩)
  · skip
    have h9 : ¬ ns ≤ s := fun z => h9 ((nI_leI (a := ns) (b := s) (by omega) (by omega)).mpr z)
    have h9 : s < ns := by omega
    refine J.iload_n 2 dX8_count_12 rfl ?_
    refine J.aload_n 0 dX8_count_13 rfl ?_
    refine J.get 0 fl_X8_16 dX8_count_14 rfl rfl ?_
    refine J.iload_n 3 dX8_count_17 rfl ?_
    refine J.zald 1 (s) dX8_count_18 rfl (rfl) (by omega) (by decide) ?_
    refine J.if_ne dX8_count_19 (fun h8 => ?_) (fun h8 => ?_)
    · skip
      have h8 : ¬ rr s = 0 := h8
      refine J.iload_n 1 dX8_count_26 rfl ?_
      refine J.iconst (1 : Int32) dX8_count_27 rfl ?_
      refine J.icmp_ne dX8_count_28 (fun z => absurd z (by decide)) (fun _ => ?_)
      refine J.iconst (1 : Int32) dX8_count_31 rfl ?_
      refine J.goto dX8_count_32 ?_
      refine J.iadd dX8_count_49 ?_
      refine J.topi (y := nI ((rwN (mqF ns kk rr ml cls) s) + 1)) (nI_add (rwN (mqF ns kk rr ml cls) s) 1) ?_
      refine J.istore_n [1, 2, 0, 3] (lv' := [(0, .ref m), (1, .int (1 : Int32)), (2, .int (nI ((rwN (mqF ns kk rr ml cls) s) + 1))), (3, .int (nI s))]) dX8_count_50 rfl rfl ?_
      refine J.iinc 3 [1, 2, 3, 0] (lv' := [(0, .ref m), (1, .int (1 : Int32)), (2, .int (nI ((rwN (mqF ns kk rr ml cls) s) + 1))), (3, .int (nI (s + 1)))]) dX8_count_51 rfl (jinc1 _) rfl rfl ?_
      refine J.goto dX8_count_54 ?_
      rw [← rw_yes (kk := kk) (rr := rr) (ml := ml) (cls := cls) h9 h8]
      exact X8_rwN B (s + 1) hns (by omega)
    · skip
      have h8 : rr s = 0 := h8
      refine J.iconst (0 : Int32) dX8_count_22 rfl ?_
      refine J.goto dX8_count_23 ?_
      refine J.iadd dX8_count_49 ?_
      refine J.topi (y := nI ((rwN (mqF ns kk rr ml cls) s) + 0)) (nI_add (rwN (mqF ns kk rr ml cls) s) 0) ?_
      refine J.istore_n [1, 2, 0, 3] (lv' := [(0, .ref m), (1, .int (1 : Int32)), (2, .int (nI ((rwN (mqF ns kk rr ml cls) s) + 0))), (3, .int (nI s))]) dX8_count_50 rfl rfl ?_
      refine J.iinc 3 [1, 2, 3, 0] (lv' := [(0, .ref m), (1, .int (1 : Int32)), (2, .int (nI ((rwN (mqF ns kk rr ml cls) s) + 0))), (3, .int (nI (s + 1)))]) dX8_count_51 rfl (jinc1 _) rfl rfl ?_
      refine J.goto dX8_count_54 ?_
      rw [← rw_no (kk := kk) (rr := rr) (ml := ml) (cls := cls) h9 h8]
      exact X8_rwN B (s + 1) hns (by omega)
termination_by ns - s
decreasing_by all_goals omega
set_option maxHeartbeats 4000000 in
set_option maxRecDepth 100000 in
theorem r_count1 (l : Launch) (G : jG) (r : va_W) {m : Nat} {D : Nat → Nat} {fi : Int32} {as : Int64} {ns : Nat} {ii : Int32} {de : Int64} {dl dp dc : Int32} {nr : Nat} {al wa : Int32} {kk rr ml cls : Nat → Int32} (hns : ns ≤ 12) : Mt l G yX8_count mX8_count 2 45 0 0 [.ref m, .int (1 : Int32)] ((m, .inr (8, [.int fi, .ref (D 0), .long as, .int (nI ns), .ref (D 1), .ref (D 2), .ref (D 3), .ref (D 4), .ref (D 5), .ref (D 6), .ref (D 7), .ref (D 8), .int ii, .long de, .int dl, .int dp, .int dc, .ref (D 9), .int (nI nr), .ref (D 10), .ref (D 11), .ref (D 12), .ref (D 13), .ref (D 14), .int al, .int wa])) :: (D 2, .inl (G.2.1.2.1, 12, .inl rr)) :: r) (fun v w => v = some (.int (nI (rwN (mqF ns kk rr ml cls) ns))) ∧ w = (m, .inr (8, [.int fi, .ref (D 0), .long as, .int (nI ns), .ref (D 1), .ref (D 2), .ref (D 3), .ref (D 4), .ref (D 5), .ref (D 6), .ref (D 7), .ref (D 8), .int ii, .long de, .int dl, .int dp, .int dc, .ref (D 9), .int (nI nr), .ref (D 10), .ref (D 11), .ref (D 12), .ref (D 13), .ref (D 14), .int al, .int wa])) :: (D 2, .inl (G.2.1.2.1, 12, .inl rr)) :: r) := by
  refine Mt.of (by decide +kernel) rfl rfl (fun X B => ?_)
  show J G X mX8_count ((m, .inr (8, [.int fi, .ref (D 0), .long as, .int (nI ns), .ref (D 1), .ref (D 2), .ref (D 3), .ref (D 4), .ref (D 5), .ref (D 6), .ref (D 7), .ref (D 8), .int ii, .long de, .int dl, .int dp, .int dc, .ref (D 9), .int (nI nr), .ref (D 10), .ref (D 11), .ref (D 12), .ref (D 13), .ref (D 14), .int al, .int wa])) :: (D 2, .inl (G.2.1.2.1, 12, .inl rr)) :: r) 0 0 0 [(0, .ref m), (1, .int (1 : Int32))] []
  refine J.iconst (0 : Int32) dX8_count_0 rfl ?_
  refine J.istore_n [1, 2, 0] (lv' := [(0, .ref m), (1, .int (1 : Int32)), (2, .int (0 : Int32))]) dX8_count_1 rfl rfl ?_
  refine J.iconst (0 : Int32) dX8_count_2 rfl ?_
  refine J.istore_n [1, 2, 3, 0] (lv' := [(0, .ref m), (1, .int (1 : Int32)), (2, .int (0 : Int32)), (3, .int (0 : Int32))]) dX8_count_3 rfl rfl ?_
  exact X8_rwN B 0 hns (by omega)
set_option maxHeartbeats 4000000 in
set_option maxRecDepth 100000 in
theorem X8_lgN {l : Launch} {G : jG} {X : jX} {r : va_W} {m : Nat} {D : Nat → Nat} {fi : Int32} {as : Int64} {ns : Nat} {ii : Int32} {de : Int64} {dl dp dc : Int32} {nr : Nat} {al wa : Int32} {kk rr ml cls : Nat → Int32} (B : jB l G X 2 45 0 0 (fun v w => v = some (.int (nI (lgN (mqF ns kk rr ml cls) ns))) ∧ w = (m, .inr (8, [.int fi, .ref (D 0), .long as, .int (nI ns), .ref (D 1), .ref (D 2), .ref (D 3), .ref (D 4), .ref (D 5), .ref (D 6), .ref (D 7), .ref (D 8), .int ii, .long de, .int dl, .int dp, .int dc, .ref (D 9), .int (nI nr), .ref (D 10), .ref (D 11), .ref (D 12), .ref (D 13), .ref (D 14), .int al, .int wa])) :: (D 2, .inl (G.2.1.2.1, 12, .inl rr)) :: (D 3, .inl (G.2.1.1, 720, .inl ml)) :: r) "count") (s : Nat) (hns : ns ≤ 12) (hk : s ≤ ns) : J G X mX8_count ((m, .inr (8, [.int fi, .ref (D 0), .long as, .int (nI ns), .ref (D 1), .ref (D 2), .ref (D 3), .ref (D 4), .ref (D 5), .ref (D 6), .ref (D 7), .ref (D 8), .int ii, .long de, .int dl, .int dp, .int dc, .ref (D 9), .int (nI nr), .ref (D 10), .ref (D 11), .ref (D 12), .ref (D 13), .ref (D 14), .int al, .int wa])) :: (D 2, .inl (G.2.1.2.1, 12, .inl rr)) :: (D 3, .inl (G.2.1.1, 720, .inl ml)) :: r) 0 0 4 [(0, .ref m), (1, .int (2 : Int32)), (2, .int (nI (lgN (mqF ns kk rr ml cls) s))), (3, .int (nI s))] [] := by
  have hle := lgN_le (mqF ns kk rr ml cls) s
  refine J.iload_n 3 dX8_count_4 rfl ?_
  refine J.aload_n 0 dX8_count_5 rfl ?_
  refine J.get 0 fl_X8_73 dX8_count_6 rfl rfl ?_
  refine J.icmp_ge dX8_count_9 (fun h9 => ?_) (fun h9 => ?_)
  · skip
    have h9 : ns ≤ s := (nI_leI (a := ns) (b := s) (by omega) (by omega)).mp h9
    have e : s = ns := by omega
    subst e
    refine J.iload_n 1 dX8_count_57 rfl ?_
    refine J.if_ne dX8_count_58 (fun _ => ?_) (fun z => absurd z (by decide))
    refine J.iload_n 1 dX8_count_68 rfl ?_
    refine J.iconst (1 : Int32) dX8_count_69 rfl ?_
    refine J.iconst (2 : Int32) dX8_count_70 rfl ?_
    refine J.callS (st := []) B (c_X8_in l G _ (v := (2 : Int32)) (lo := (1 : Int32)) (hi := (2 : Int32)) (a := 1) (b := 2) rfl rfl) ml_X8_76 mf_yX8_in mS_yX8_in dX8_count_71 rfl rfl rfl (fun v_1 w_2 hp_3 => ?_)
    obtain ⟨rfl, rfl⟩ := hp_3
    show J G X mX8_count _ _ _ 74 _ [.int (b01 (inR (2 : Int32) 1 2))]
    refine J.if_eq dX8_count_74 (fun z => absurd z (by decide)) (fun h9 => ?_)
    refine J.iload_n 2 dX8_count_77 rfl ?_
    refine J.goto dX8_count_78 ?_
    exact J.iret B dX8_count_106 rfl (⟨rfl, rfl⟩)
  · skip
    have h9 : ¬ ns ≤ s := fun z => h9 ((nI_leI (a := ns) (b := s) (by omega) (by omega)).mpr z)
    have h9 : s < ns := by omega
    have hs : s < 12 := by omega
    have hnl := nN_le (rowM ml s)
    refine J.iload_n 2 dX8_count_12 rfl ?_
    refine J.aload_n 0 dX8_count_13 rfl ?_
    refine J.get 0 fl_X8_16 dX8_count_14 rfl rfl ?_
    refine J.iload_n 3 dX8_count_17 rfl ?_
    refine J.zald 1 (s) dX8_count_18 rfl (rfl) (by omega) (by decide) ?_
    refine J.if_ne dX8_count_19 (fun h8 => ?_) (fun h8 => ?_)
    · skip
      have h8 : ¬ rr s = 0 := h8
      refine J.iload_n 1 dX8_count_26 rfl ?_
      refine J.iconst (1 : Int32) dX8_count_27 rfl ?_
      refine J.icmp_ne dX8_count_28 (fun _ => ?_) (fun z => absurd z (by decide))
      refine J.iload_n 1 dX8_count_35 rfl ?_
      refine J.iconst (2 : Int32) dX8_count_36 rfl ?_
      refine J.icmp_ne dX8_count_37 (fun z => absurd z (by decide)) (fun _ => ?_)
      refine J.aload_n 0 dX8_count_40 rfl ?_
      refine J.iload_n 3 dX8_count_41 rfl ?_
      refine J.re [0, 2, 1] 3 (ws2 := (m, .inr (8, [.int fi, .ref (D 0), .long as, .int (nI ns), .ref (D 1), .ref (D 2), .ref (D 3), .ref (D 4), .ref (D 5), .ref (D 6), .ref (D 7), .ref (D 8), .int ii, .long de, .int dl, .int dp, .int dc, .ref (D 9), .int (nI nr), .ref (D 10), .ref (D 11), .ref (D 12), .ref (D 13), .ref (D 14), .int al, .int wa])) :: (D 3, .inl (G.2.1.1, 720, .inl ml)) :: (D 2, .inl (G.2.1.2.1, 12, .inl rr)) :: r) rfl rfl ?_
      refine J.callV 0 (st := [.int (nI (lgN (mqF ns kk rr ml cls) s))]) B (c_X8_many l G _ (s := s) hs) ml_X8_99 mf_yX8_many mi_yX8_many rfl dX8_count_42 rfl rfl rfl rfl (fun v_4 w_5 hp_6 => ?_)
      obtain ⟨rfl, rfl⟩ := hp_6
      refine J.re [0, 2, 1] 3 (ws2 := (m, .inr (8, [.int fi, .ref (D 0), .long as, .int (nI ns), .ref (D 1), .ref (D 2), .ref (D 3), .ref (D 4), .ref (D 5), .ref (D 6), .ref (D 7), .ref (D 8), .int ii, .long de, .int dl, .int dp, .int dc, .ref (D 9), .int (nI nr), .ref (D 10), .ref (D 11), .ref (D 12), .ref (D 13), .ref (D 14), .int al, .int wa])) :: (D 2, .inl (G.2.1.2.1, 12, .inl rr)) :: (D 3, .inl (G.2.1.1, 720, .inl ml)) :: r) rfl rfl ?_
      show J G X mX8_count _ _ _ 45 _ [.int (nI (nN (rowM ml s))), .int (nI (lgN (mqF ns kk rr ml cls) s))]
      refine J.goto dX8_count_45 ?_
      refine J.iadd dX8_count_49 ?_
      refine J.topi (y := nI ((lgN (mqF ns kk rr ml cls) s) + (nN (rowM ml s)))) (nI_add (lgN (mqF ns kk rr ml cls) s) (nN (rowM ml s))) ?_
      refine J.istore_n [1, 2, 0, 3] (lv' := [(0, .ref m), (1, .int (2 : Int32)), (2, .int (nI ((lgN (mqF ns kk rr ml cls) s) + (nN (rowM ml s))))), (3, .int (nI s))]) dX8_count_50 rfl rfl ?_
      refine J.iinc 3 [1, 2, 3, 0] (lv' := [(0, .ref m), (1, .int (2 : Int32)), (2, .int (nI ((lgN (mqF ns kk rr ml cls) s) + (nN (rowM ml s))))), (3, .int (nI (s + 1)))]) dX8_count_51 rfl (jinc1 _) rfl rfl ?_
      refine J.goto dX8_count_54 ?_
      rw [← lg_yes (kk := kk) (rr := rr) (ml := ml) (cls := cls) h9 h8]
      exact X8_lgN B (s + 1) hns (by omega)
    · skip
      have h8 : rr s = 0 := h8
      refine J.iconst (0 : Int32) dX8_count_22 rfl ?_
      refine J.goto dX8_count_23 ?_
      refine J.iadd dX8_count_49 ?_
      refine J.topi (y := nI ((lgN (mqF ns kk rr ml cls) s) + 0)) (nI_add (lgN (mqF ns kk rr ml cls) s) 0) ?_
      refine J.istore_n [1, 2, 0, 3] (lv' := [(0, .ref m), (1, .int (2 : Int32)), (2, .int (nI ((lgN (mqF ns kk rr ml cls) s) + 0))), (3, .int (nI s))]) dX8_count_50 rfl rfl ?_
      refine J.iinc 3 [1, 2, 3, 0] (lv' := [(0, .ref m), (1, .int (2 : Int32)), (2, .int (nI ((lgN (mqF ns kk rr ml cls) s) + 0))), (3, .int (nI (s + 1)))]) dX8_count_51 rfl (jinc1 _) rfl rfl ?_
      refine J.goto dX8_count_54 ?_
      rw [← lg_no (kk := kk) (rr := rr) (ml := ml) (cls := cls) h9 h8]
      exact X8_lgN B (s + 1) hns (by omega)
termination_by ns - s
decreasing_by all_goals omega
set_option maxHeartbeats 4000000 in
set_option maxRecDepth 100000 in
theorem r_count2 (l : Launch) (G : jG) (r : va_W) {m : Nat} {D : Nat → Nat} {fi : Int32} {as : Int64} {ns : Nat} {ii : Int32} {de : Int64} {dl dp dc : Int32} {nr : Nat} {al wa : Int32} {kk rr ml cls : Nat → Int32} (hns : ns ≤ 12) : Mt l G yX8_count mX8_count 2 45 0 0 [.ref m, .int (2 : Int32)] ((m, .inr (8, [.int fi, .ref (D 0), .long as, .int (nI ns), .ref (D 1), .ref (D 2), .ref (D 3), .ref (D 4), .ref (D 5), .ref (D 6), .ref (D 7), .ref (D 8), .int ii, .long de, .int dl, .int dp, .int dc, .ref (D 9), .int (nI nr), .ref (D 10), .ref (D 11), .ref (D 12), .ref (D 13), .ref (D 14), .int al, .int wa])) :: (D 2, .inl (G.2.1.2.1, 12, .inl rr)) :: (D 3, .inl (G.2.1.1, 720, .inl ml)) :: r) (fun v w => v = some (.int (nI (lgN (mqF ns kk rr ml cls) ns))) ∧ w = (m, .inr (8, [.int fi, .ref (D 0), .long as, .int (nI ns), .ref (D 1), .ref (D 2), .ref (D 3), .ref (D 4), .ref (D 5), .ref (D 6), .ref (D 7), .ref (D 8), .int ii, .long de, .int dl, .int dp, .int dc, .ref (D 9), .int (nI nr), .ref (D 10), .ref (D 11), .ref (D 12), .ref (D 13), .ref (D 14), .int al, .int wa])) :: (D 2, .inl (G.2.1.2.1, 12, .inl rr)) :: (D 3, .inl (G.2.1.1, 720, .inl ml)) :: r) := by
  refine Mt.of (by decide +kernel) rfl rfl (fun X B => ?_)
  show J G X mX8_count ((m, .inr (8, [.int fi, .ref (D 0), .long as, .int (nI ns), .ref (D 1), .ref (D 2), .ref (D 3), .ref (D 4), .ref (D 5), .ref (D 6), .ref (D 7), .ref (D 8), .int ii, .long de, .int dl, .int dp, .int dc, .ref (D 9), .int (nI nr), .ref (D 10), .ref (D 11), .ref (D 12), .ref (D 13), .ref (D 14), .int al, .int wa])) :: (D 2, .inl (G.2.1.2.1, 12, .inl rr)) :: (D 3, .inl (G.2.1.1, 720, .inl ml)) :: r) 0 0 0 [(0, .ref m), (1, .int (2 : Int32))] []
  refine J.iconst (0 : Int32) dX8_count_0 rfl ?_
  refine J.istore_n [1, 2, 0] (lv' := [(0, .ref m), (1, .int (2 : Int32)), (2, .int (0 : Int32))]) dX8_count_1 rfl rfl ?_
  refine J.iconst (0 : Int32) dX8_count_2 rfl ?_
  refine J.istore_n [1, 2, 3, 0] (lv' := [(0, .ref m), (1, .int (2 : Int32)), (2, .int (0 : Int32)), (3, .int (0 : Int32))]) dX8_count_3 rfl rfl ?_
  exact X8_lgN B 0 hns (by omega)
set_option maxHeartbeats 4000000 in
set_option maxRecDepth 100000 in
theorem X8_wa {l : Launch} {G : jG} {X : jX} {r : va_W} {m : Nat} {D : Nat → Nat} {fi : Int32} {as : Int64} {ns : Nat} {ii : Int32} {de : Int64} {dl dp dc : Int32} {nr : Nat} {al wa : Int32} {kk rr ml cls : Nat → Int32} {F : Nat → Int32} {wh rlo rhi rcl : Nat → Int32} {RL : List rR} (B : jB l G X 5 118 0 0 (fun v w => ∃ so1 lt1, v = some (.int (nI (waN (mqF ns kk rr ml cls) (wcF (mqF ns kk rr ml cls) F RL) ns))) ∧ w = (m, .inr (8, [.int fi, .ref (D 0), .long as, .int (nI ns), .ref (D 1), .ref (D 2), .ref (D 3), .ref (D 4), .ref (D 5), .ref (D 6), .ref (D 7), .ref (D 8), .int ii, .long de, .int dl, .int dp, .int dc, .ref (D 9), .int (nI nr), .ref (D 10), .ref (D 11), .ref (D 12), .ref (D 13), .ref (D 14), .int (waB (mqF ns kk rr ml cls) (wcF (mqF ns kk rr ml cls) F RL) ns), .int (wa + (1 : Int32))])) :: (D 2, .inl (G.2.1.2.1, 12, .inl rr)) :: (D 3, .inl (G.2.1.1, 720, .inl ml)) :: (D 4, .inl (G.2.1.1, 60, .inl F)) :: (D 6, .inl (G.2.1.1, 60, .inl so1)) :: (D 9, .inl (G.2.1.1, 60, .inl lt1)) :: (D 10, .inl (G.2.1.1, 10, .inl wh)) :: (D 11, .inl (G.2.1.1, 10, .inl rlo)) :: (D 12, .inl (G.2.1.1, 10, .inl rhi)) :: (D 13, .inl (G.2.1.1, 10, .inl rcl)) :: (D 14, .inl (G.2.1.1, 12, .inl (fiF cls (wcF (mqF ns kk rr ml cls) F RL) ns))) :: r) "watch") (s : Nat) (so lti : Nat → Int32) (hns : ns ≤ 12) (hlen : RL.length = nr) (hnr : nr ≤ 10) (hR : RLok RL wh rlo rhi rcl) (hk : s ≤ ns) : J G X mX8_watch ((m, .inr (8, [.int fi, .ref (D 0), .long as, .int (nI ns), .ref (D 1), .ref (D 2), .ref (D 3), .ref (D 4), .ref (D 5), .ref (D 6), .ref (D 7), .ref (D 8), .int ii, .long de, .int dl, .int dp, .int dc, .ref (D 9), .int (nI nr), .ref (D 10), .ref (D 11), .ref (D 12), .ref (D 13), .ref (D 14), .int (waB (mqF ns kk rr ml cls) (wcF (mqF ns kk rr ml cls) F RL) s), .int (wa + (1 : Int32))])) :: (D 2, .inl (G.2.1.2.1, 12, .inl rr)) :: (D 3, .inl (G.2.1.1, 720, .inl ml)) :: (D 4, .inl (G.2.1.1, 60, .inl F)) :: (D 6, .inl (G.2.1.1, 60, .inl so)) :: (D 9, .inl (G.2.1.1, 60, .inl lti)) :: (D 10, .inl (G.2.1.1, 10, .inl wh)) :: (D 11, .inl (G.2.1.1, 10, .inl rlo)) :: (D 12, .inl (G.2.1.1, 10, .inl rhi)) :: (D 13, .inl (G.2.1.1, 10, .inl rcl)) :: (D 14, .inl (G.2.1.1, 12, .inl (fiF cls (wcF (mqF ns kk rr ml cls) F RL) s))) :: r) 0 0 19 [(0, .ref m), (1, .int (nI (waN (mqF ns kk rr ml cls) (wcF (mqF ns kk rr ml cls) F RL) s))), (2, .int (nI s))] [] := by
  have hle := waN_le (mqF ns kk rr ml cls) (wcF (mqF ns kk rr ml cls) F RL) s
  refine J.iload_n 2 dX8_watch_19 rfl ?_
  refine J.aload_n 0 dX8_watch_20 rfl ?_
  refine J.get 0 fl_X8_73 dX8_watch_21 rfl rfl ?_
  refine J.icmp_ge dX8_watch_24 (fun h9 => ?_) (fun h9 => ?_)
  · skip
    have h9 : ns ≤ s := (nI_leI (a := ns) (b := s) (by omega) (by omega)).mp h9
    have e : s = ns := by omega
    subst e
    refine J.iload_n 1 dX8_watch_93 rfl ?_
    exact J.iret B dX8_watch_94 rfl (⟨so, lti, rfl, rfl⟩)
  · skip
    have h9 : ¬ ns ≤ s := fun z => h9 ((nI_leI (a := ns) (b := s) (by omega) (by omega)).mpr z)
    have h9 : s < ns := by omega
    have hs : s < 12 := by omega
    have hnl := nN_le (rowM ml s)
    refine J.aload_n 0 dX8_watch_27 rfl ?_
    refine J.get 0 fl_X8_16 dX8_watch_28 rfl rfl ?_
    refine J.iload_n 2 dX8_watch_31 rfl ?_
    refine J.zald 1 (s) dX8_watch_32 rfl (rfl) (by omega) (by decide) ?_
    refine J.if_eq dX8_watch_33 (fun h8 => ?_) (fun h8 => ?_)
    · skip
      refine J.bipush (-9 : Int32) dX8_watch_52 rfl ?_
      refine J.topi (y := (wcF (mqF ns kk rr ml cls) F RL) s) (by first | exact (wc_no h9 h8).symm | exact (wc_nought h9 h8 (by omega)).symm) ?_
      refine J.istore_n [1, 2, 3, 0] (lv' := [(0, .ref m), (1, .int (nI (waN (mqF ns kk rr ml cls) (wcF (mqF ns kk rr ml cls) F RL) s))), (2, .int (nI s)), (3, .int ((wcF (mqF ns kk rr ml cls) F RL) s))]) dX8_watch_54 rfl rfl ?_
      refine J.iload_n 3 dX8_watch_55 rfl ?_
      refine J.aload_n 0 dX8_watch_56 rfl ?_
      refine J.get 0 fl_X8_63 dX8_watch_57 rfl rfl ?_
      refine J.iload_n 2 dX8_watch_60 rfl ?_
      refine J.iald 10 (s) dX8_watch_61 rfl (rfl) (by omega) (by decide) ?_
      refine J.topi (y := cls s) (fiF_ge (by omega)) ?_
      refine J.icmp_eq dX8_watch_62 (fun h6 => ?_) (fun h6 => ?_)
      · skip
        refine J.aload_n 0 dX8_watch_80 rfl ?_
        refine J.get 0 fl_X8_63 dX8_watch_81 rfl rfl ?_
        refine J.iload_n 2 dX8_watch_84 rfl ?_
        refine J.iload_n 3 dX8_watch_85 rfl ?_
        refine J.iast 10 (s) dX8_watch_86 rfl (rfl) (by omega) (by decide) (ws' := (m, .inr (8, [.int fi, .ref (D 0), .long as, .int (nI ns), .ref (D 1), .ref (D 2), .ref (D 3), .ref (D 4), .ref (D 5), .ref (D 6), .ref (D 7), .ref (D 8), .int ii, .long de, .int dl, .int dp, .int dc, .ref (D 9), .int (nI nr), .ref (D 10), .ref (D 11), .ref (D 12), .ref (D 13), .ref (D 14), .int (waB (mqF ns kk rr ml cls) (wcF (mqF ns kk rr ml cls) F RL) s), .int (wa + (1 : Int32))])) :: (D 2, .inl (G.2.1.2.1, 12, .inl rr)) :: (D 3, .inl (G.2.1.1, 720, .inl ml)) :: (D 4, .inl (G.2.1.1, 60, .inl F)) :: (D 6, .inl (G.2.1.1, 60, .inl so)) :: (D 9, .inl (G.2.1.1, 60, .inl lti)) :: (D 10, .inl (G.2.1.1, 10, .inl wh)) :: (D 11, .inl (G.2.1.1, 10, .inl rlo)) :: (D 12, .inl (G.2.1.1, 10, .inl rhi)) :: (D 13, .inl (G.2.1.1, 10, .inl rcl)) :: (D 14, .inl (G.2.1.1, 12, .inl (upd (fiF cls (wcF (mqF ns kk rr ml cls) F RL) s) s ((wcF (mqF ns kk rr ml cls) F RL) s)))) :: r) rfl ?_
        rw [show upd (fiF cls (wcF (mqF ns kk rr ml cls) F RL) s) s ((wcF (mqF ns kk rr ml cls) F RL) s) = fiF cls (wcF (mqF ns kk rr ml cls) F RL) (s + 1) from fiF_s _ _ _]
        refine J.iinc 2 [1, 2, 0, 3] (lv' := [(0, .ref m), (1, .int (nI (waN (mqF ns kk rr ml cls) (wcF (mqF ns kk rr ml cls) F RL) s))), (2, .int (nI (s + 1))), (3, .int ((wcF (mqF ns kk rr ml cls) F RL) s))]) dX8_watch_87 rfl (jinc1 _) rfl rfl ?_
        refine J.goto dX8_watch_90 ?_
        refine J.loc [0, 1, 2] (lv' := [(0, .ref m), (1, .int (nI (waN (mqF ns kk rr ml cls) (wcF (mqF ns kk rr ml cls) F RL) s))), (2, .int (nI (s + 1)))]) rfl ?_
        have h7 : ((wcF (mqF ns kk rr ml cls) F RL) s = ((mqF ns kk rr ml cls) s).2.2.2) := by rw [mq_c h9]; exact h6
        have he1 : waN (mqF ns kk rr ml cls) (wcF (mqF ns kk rr ml cls) F RL) (s + 1) = waN (mqF ns kk rr ml cls) (wcF (mqF ns kk rr ml cls) F RL) s := by
          show waN (mqF ns kk rr ml cls) (wcF (mqF ns kk rr ml cls) F RL) s + _ = _
          rw [if_pos h7]
          rfl
        have he2 : waB (mqF ns kk rr ml cls) (wcF (mqF ns kk rr ml cls) F RL) (s + 1) = waB (mqF ns kk rr ml cls) (wcF (mqF ns kk rr ml cls) F RL) s := if_pos h7
        have hq7 := X8_wa (wa := wa) (al := al) B (s + 1) so lti hns hlen hnr hR (by omega)
        rw [he1, he2] at hq7
        exact hq7
      · skip
        refine J.aload_n 0 dX8_watch_65 rfl ?_
        refine J.dup dX8_watch_66 rfl ?_
        refine J.get 0 fl_X8_181 dX8_watch_67 rfl rfl ?_
        refine J.iconst (1 : Int32) dX8_watch_70 rfl ?_
        refine J.iload_n 2 dX8_watch_71 rfl ?_
        refine J.ishl dX8_watch_72 ?_
        refine J.ior dX8_watch_73 ?_
        refine J.put 0 fp_X8_181 dX8_watch_74 rfl (rfl) (rfl) rfl (ws' := (m, .inr (8, [.int fi, .ref (D 0), .long as, .int (nI ns), .ref (D 1), .ref (D 2), .ref (D 3), .ref (D 4), .ref (D 5), .ref (D 6), .ref (D 7), .ref (D 8), .int ii, .long de, .int dl, .int dp, .int dc, .ref (D 9), .int (nI nr), .ref (D 10), .ref (D 11), .ref (D 12), .ref (D 13), .ref (D 14), .int ((waB (mqF ns kk rr ml cls) (wcF (mqF ns kk rr ml cls) F RL) s) ||| ((1 : Int32) <<< ((nI s) &&& 31))), .int (wa + (1 : Int32))])) :: (D 2, .inl (G.2.1.2.1, 12, .inl rr)) :: (D 3, .inl (G.2.1.1, 720, .inl ml)) :: (D 4, .inl (G.2.1.1, 60, .inl F)) :: (D 6, .inl (G.2.1.1, 60, .inl so)) :: (D 9, .inl (G.2.1.1, 60, .inl lti)) :: (D 10, .inl (G.2.1.1, 10, .inl wh)) :: (D 11, .inl (G.2.1.1, 10, .inl rlo)) :: (D 12, .inl (G.2.1.1, 10, .inl rhi)) :: (D 13, .inl (G.2.1.1, 10, .inl rcl)) :: (D 14, .inl (G.2.1.1, 12, .inl (fiF cls (wcF (mqF ns kk rr ml cls) F RL) s))) :: r) rfl ?_
        refine J.iinc 1 [1, 0, 2, 3] (lv' := [(0, .ref m), (1, .int (nI (waN (mqF ns kk rr ml cls) (wcF (mqF ns kk rr ml cls) F RL) s + 1))), (2, .int (nI s)), (3, .int ((wcF (mqF ns kk rr ml cls) F RL) s))]) dX8_watch_77 rfl (jinc1 _) rfl rfl ?_
        refine J.aload_n 0 dX8_watch_80 rfl ?_
        refine J.get 0 fl_X8_63 dX8_watch_81 rfl rfl ?_
        refine J.iload_n 2 dX8_watch_84 rfl ?_
        refine J.iload_n 3 dX8_watch_85 rfl ?_
        refine J.iast 10 (s) dX8_watch_86 rfl (rfl) (by omega) (by decide) (ws' := (m, .inr (8, [.int fi, .ref (D 0), .long as, .int (nI ns), .ref (D 1), .ref (D 2), .ref (D 3), .ref (D 4), .ref (D 5), .ref (D 6), .ref (D 7), .ref (D 8), .int ii, .long de, .int dl, .int dp, .int dc, .ref (D 9), .int (nI nr), .ref (D 10), .ref (D 11), .ref (D 12), .ref (D 13), .ref (D 14), .int ((waB (mqF ns kk rr ml cls) (wcF (mqF ns kk rr ml cls) F RL) s) ||| ((1 : Int32) <<< ((nI s) &&& 31))), .int (wa + (1 : Int32))])) :: (D 2, .inl (G.2.1.2.1, 12, .inl rr)) :: (D 3, .inl (G.2.1.1, 720, .inl ml)) :: (D 4, .inl (G.2.1.1, 60, .inl F)) :: (D 6, .inl (G.2.1.1, 60, .inl so)) :: (D 9, .inl (G.2.1.1, 60, .inl lti)) :: (D 10, .inl (G.2.1.1, 10, .inl wh)) :: (D 11, .inl (G.2.1.1, 10, .inl rlo)) :: (D 12, .inl (G.2.1.1, 10, .inl rhi)) :: (D 13, .inl (G.2.1.1, 10, .inl rcl)) :: (D 14, .inl (G.2.1.1, 12, .inl (upd (fiF cls (wcF (mqF ns kk rr ml cls) F RL) s) s ((wcF (mqF ns kk rr ml cls) F RL) s)))) :: r) rfl ?_
        rw [show upd (fiF cls (wcF (mqF ns kk rr ml cls) F RL) s) s ((wcF (mqF ns kk rr ml cls) F RL) s) = fiF cls (wcF (mqF ns kk rr ml cls) F RL) (s + 1) from fiF_s _ _ _]
        refine J.iinc 2 [1, 2, 0, 3] (lv' := [(0, .ref m), (1, .int (nI (waN (mqF ns kk rr ml cls) (wcF (mqF ns kk rr ml cls) F RL) s + 1))), (2, .int (nI (s + 1))), (3, .int ((wcF (mqF ns kk rr ml cls) F RL) s))]) dX8_watch_87 rfl (jinc1 _) rfl rfl ?_
        refine J.goto dX8_watch_90 ?_
        refine J.loc [0, 1, 2] (lv' := [(0, .ref m), (1, .int (nI (waN (mqF ns kk rr ml cls) (wcF (mqF ns kk rr ml cls) F RL) s + 1))), (2, .int (nI (s + 1)))]) rfl ?_
        have h7 : ¬ ((wcF (mqF ns kk rr ml cls) F RL) s = ((mqF ns kk rr ml cls) s).2.2.2) := by rw [mq_c h9]; exact h6
        have he1 : waN (mqF ns kk rr ml cls) (wcF (mqF ns kk rr ml cls) F RL) (s + 1) = waN (mqF ns kk rr ml cls) (wcF (mqF ns kk rr ml cls) F RL) s + 1 := by
          show waN (mqF ns kk rr ml cls) (wcF (mqF ns kk rr ml cls) F RL) s + _ = _
          rw [if_neg h7]
        have he2 : waB (mqF ns kk rr ml cls) (wcF (mqF ns kk rr ml cls) F RL) (s + 1) = waB (mqF ns kk rr ml cls) (wcF (mqF ns kk rr ml cls) F RL) s ||| ((1 : Int32) <<< (nI s &&& 31)) := if_neg h7
        have hq7 := X8_wa (wa := wa) (al := al) B (s + 1) so lti hns hlen hnr hR (by omega)
        rw [he1, he2] at hq7
        exact hq7
    · skip
      refine J.aload_n 0 dX8_watch_36 rfl ?_
      refine J.iload_n 2 dX8_watch_37 rfl ?_
      refine J.re [0, 2, 1, 3, 4, 5, 6, 7, 8, 9, 10] 11 (ws2 := (m, .inr (8, [.int fi, .ref (D 0), .long as, .int (nI ns), .ref (D 1), .ref (D 2), .ref (D 3), .ref (D 4), .ref (D 5), .ref (D 6), .ref (D 7), .ref (D 8), .int ii, .long de, .int dl, .int dp, .int dc, .ref (D 9), .int (nI nr), .ref (D 10), .ref (D 11), .ref (D 12), .ref (D 13), .ref (D 14), .int (waB (mqF ns kk rr ml cls) (wcF (mqF ns kk rr ml cls) F RL) s), .int (wa + (1 : Int32))])) :: (D 3, .inl (G.2.1.1, 720, .inl ml)) :: (D 2, .inl (G.2.1.2.1, 12, .inl rr)) :: (D 4, .inl (G.2.1.1, 60, .inl F)) :: (D 6, .inl (G.2.1.1, 60, .inl so)) :: (D 9, .inl (G.2.1.1, 60, .inl lti)) :: (D 10, .inl (G.2.1.1, 10, .inl wh)) :: (D 11, .inl (G.2.1.1, 10, .inl rlo)) :: (D 12, .inl (G.2.1.1, 10, .inl rhi)) :: (D 13, .inl (G.2.1.1, 10, .inl rcl)) :: (D 14, .inl (G.2.1.1, 12, .inl (fiF cls (wcF (mqF ns kk rr ml cls) F RL) s))) :: r) rfl rfl ?_
      refine J.callV 0 (st := []) B (c_X8_many l G _ (s := s) hs) ml_X8_99 mf_yX8_many mi_yX8_many rfl dX8_watch_38 rfl rfl rfl rfl (fun v_1 w_2 hp_3 => ?_)
      obtain ⟨rfl, rfl⟩ := hp_3
      refine J.re [0, 2, 1, 3, 4, 5, 6, 7, 8, 9, 10] 11 (ws2 := (m, .inr (8, [.int fi, .ref (D 0), .long as, .int (nI ns), .ref (D 1), .ref (D 2), .ref (D 3), .ref (D 4), .ref (D 5), .ref (D 6), .ref (D 7), .ref (D 8), .int ii, .long de, .int dl, .int dp, .int dc, .ref (D 9), .int (nI nr), .ref (D 10), .ref (D 11), .ref (D 12), .ref (D 13), .ref (D 14), .int (waB (mqF ns kk rr ml cls) (wcF (mqF ns kk rr ml cls) F RL) s), .int (wa + (1 : Int32))])) :: (D 2, .inl (G.2.1.2.1, 12, .inl rr)) :: (D 3, .inl (G.2.1.1, 720, .inl ml)) :: (D 4, .inl (G.2.1.1, 60, .inl F)) :: (D 6, .inl (G.2.1.1, 60, .inl so)) :: (D 9, .inl (G.2.1.1, 60, .inl lti)) :: (D 10, .inl (G.2.1.1, 10, .inl wh)) :: (D 11, .inl (G.2.1.1, 10, .inl rlo)) :: (D 12, .inl (G.2.1.1, 10, .inl rhi)) :: (D 13, .inl (G.2.1.1, 10, .inl rcl)) :: (D 14, .inl (G.2.1.1, 12, .inl (fiF cls (wcF (mqF ns kk rr ml cls) F RL) s))) :: r) rfl rfl ?_
      show J G X mX8_watch _ _ _ 41 _ [.int (nI (nN (rowM ml s)))]
      refine J.if_le dX8_watch_41 (fun h5 => ?_) (fun h5 => ?_)
      · skip
        have h5 : (nN (rowM ml s)) ≤ 0 := (nI_leI (a := (nN (rowM ml s))) (b := 0) (by omega) (by omega)).mp h5
        refine J.bipush (-9 : Int32) dX8_watch_52 rfl ?_
        refine J.topi (y := (wcF (mqF ns kk rr ml cls) F RL) s) (by first | exact (wc_no h9 h8).symm | exact (wc_nought h9 h8 (by omega)).symm) ?_
        refine J.istore_n [1, 2, 3, 0] (lv' := [(0, .ref m), (1, .int (nI (waN (mqF ns kk rr ml cls) (wcF (mqF ns kk rr ml cls) F RL) s))), (2, .int (nI s)), (3, .int ((wcF (mqF ns kk rr ml cls) F RL) s))]) dX8_watch_54 rfl rfl ?_
        refine J.iload_n 3 dX8_watch_55 rfl ?_
        refine J.aload_n 0 dX8_watch_56 rfl ?_
        refine J.get 0 fl_X8_63 dX8_watch_57 rfl rfl ?_
        refine J.iload_n 2 dX8_watch_60 rfl ?_
        refine J.iald 10 (s) dX8_watch_61 rfl (rfl) (by omega) (by decide) ?_
        refine J.topi (y := cls s) (fiF_ge (by omega)) ?_
        refine J.icmp_eq dX8_watch_62 (fun h6 => ?_) (fun h6 => ?_)
        · skip
          refine J.aload_n 0 dX8_watch_80 rfl ?_
          refine J.get 0 fl_X8_63 dX8_watch_81 rfl rfl ?_
          refine J.iload_n 2 dX8_watch_84 rfl ?_
          refine J.iload_n 3 dX8_watch_85 rfl ?_
          refine J.iast 10 (s) dX8_watch_86 rfl (rfl) (by omega) (by decide) (ws' := (m, .inr (8, [.int fi, .ref (D 0), .long as, .int (nI ns), .ref (D 1), .ref (D 2), .ref (D 3), .ref (D 4), .ref (D 5), .ref (D 6), .ref (D 7), .ref (D 8), .int ii, .long de, .int dl, .int dp, .int dc, .ref (D 9), .int (nI nr), .ref (D 10), .ref (D 11), .ref (D 12), .ref (D 13), .ref (D 14), .int (waB (mqF ns kk rr ml cls) (wcF (mqF ns kk rr ml cls) F RL) s), .int (wa + (1 : Int32))])) :: (D 2, .inl (G.2.1.2.1, 12, .inl rr)) :: (D 3, .inl (G.2.1.1, 720, .inl ml)) :: (D 4, .inl (G.2.1.1, 60, .inl F)) :: (D 6, .inl (G.2.1.1, 60, .inl so)) :: (D 9, .inl (G.2.1.1, 60, .inl lti)) :: (D 10, .inl (G.2.1.1, 10, .inl wh)) :: (D 11, .inl (G.2.1.1, 10, .inl rlo)) :: (D 12, .inl (G.2.1.1, 10, .inl rhi)) :: (D 13, .inl (G.2.1.1, 10, .inl rcl)) :: (D 14, .inl (G.2.1.1, 12, .inl (upd (fiF cls (wcF (mqF ns kk rr ml cls) F RL) s) s ((wcF (mqF ns kk rr ml cls) F RL) s)))) :: r) rfl ?_
          rw [show upd (fiF cls (wcF (mqF ns kk rr ml cls) F RL) s) s ((wcF (mqF ns kk rr ml cls) F RL) s) = fiF cls (wcF (mqF ns kk rr ml cls) F RL) (s + 1) from fiF_s _ _ _]
          refine J.iinc 2 [1, 2, 0, 3] (lv' := [(0, .ref m), (1, .int (nI (waN (mqF ns kk rr ml cls) (wcF (mqF ns kk rr ml cls) F RL) s))), (2, .int (nI (s + 1))), (3, .int ((wcF (mqF ns kk rr ml cls) F RL) s))]) dX8_watch_87 rfl (jinc1 _) rfl rfl ?_
          refine J.goto dX8_watch_90 ?_
          refine J.loc [0, 1, 2] (lv' := [(0, .ref m), (1, .int (nI (waN (mqF ns kk rr ml cls) (wcF (mqF ns kk rr ml cls) F RL) s))), (2, .int (nI (s + 1)))]) rfl ?_
          have h7 : ((wcF (mqF ns kk rr ml cls) F RL) s = ((mqF ns kk rr ml cls) s).2.2.2) := by rw [mq_c h9]; exact h6
          have he1 : waN (mqF ns kk rr ml cls) (wcF (mqF ns kk rr ml cls) F RL) (s + 1) = waN (mqF ns kk rr ml cls) (wcF (mqF ns kk rr ml cls) F RL) s := by
            show waN (mqF ns kk rr ml cls) (wcF (mqF ns kk rr ml cls) F RL) s + _ = _
            rw [if_pos h7]
            rfl
          have he2 : waB (mqF ns kk rr ml cls) (wcF (mqF ns kk rr ml cls) F RL) (s + 1) = waB (mqF ns kk rr ml cls) (wcF (mqF ns kk rr ml cls) F RL) s := if_pos h7
          have hq7 := X8_wa (wa := wa) (al := al) B (s + 1) so lti hns hlen hnr hR (by omega)
          rw [he1, he2] at hq7
          exact hq7
        · skip
          refine J.aload_n 0 dX8_watch_65 rfl ?_
          refine J.dup dX8_watch_66 rfl ?_
          refine J.get 0 fl_X8_181 dX8_watch_67 rfl rfl ?_
          refine J.iconst (1 : Int32) dX8_watch_70 rfl ?_
          refine J.iload_n 2 dX8_watch_71 rfl ?_
          refine J.ishl dX8_watch_72 ?_
          refine J.ior dX8_watch_73 ?_
          refine J.put 0 fp_X8_181 dX8_watch_74 rfl (rfl) (rfl) rfl (ws' := (m, .inr (8, [.int fi, .ref (D 0), .long as, .int (nI ns), .ref (D 1), .ref (D 2), .ref (D 3), .ref (D 4), .ref (D 5), .ref (D 6), .ref (D 7), .ref (D 8), .int ii, .long de, .int dl, .int dp, .int dc, .ref (D 9), .int (nI nr), .ref (D 10), .ref (D 11), .ref (D 12), .ref (D 13), .ref (D 14), .int ((waB (mqF ns kk rr ml cls) (wcF (mqF ns kk rr ml cls) F RL) s) ||| ((1 : Int32) <<< ((nI s) &&& 31))), .int (wa + (1 : Int32))])) :: (D 2, .inl (G.2.1.2.1, 12, .inl rr)) :: (D 3, .inl (G.2.1.1, 720, .inl ml)) :: (D 4, .inl (G.2.1.1, 60, .inl F)) :: (D 6, .inl (G.2.1.1, 60, .inl so)) :: (D 9, .inl (G.2.1.1, 60, .inl lti)) :: (D 10, .inl (G.2.1.1, 10, .inl wh)) :: (D 11, .inl (G.2.1.1, 10, .inl rlo)) :: (D 12, .inl (G.2.1.1, 10, .inl rhi)) :: (D 13, .inl (G.2.1.1, 10, .inl rcl)) :: (D 14, .inl (G.2.1.1, 12, .inl (fiF cls (wcF (mqF ns kk rr ml cls) F RL) s))) :: r) rfl ?_
          refine J.iinc 1 [1, 0, 2, 3] (lv' := [(0, .ref m), (1, .int (nI (waN (mqF ns kk rr ml cls) (wcF (mqF ns kk rr ml cls) F RL) s + 1))), (2, .int (nI s)), (3, .int ((wcF (mqF ns kk rr ml cls) F RL) s))]) dX8_watch_77 rfl (jinc1 _) rfl rfl ?_
          refine J.aload_n 0 dX8_watch_80 rfl ?_
          refine J.get 0 fl_X8_63 dX8_watch_81 rfl rfl ?_
          refine J.iload_n 2 dX8_watch_84 rfl ?_
          refine J.iload_n 3 dX8_watch_85 rfl ?_
          refine J.iast 10 (s) dX8_watch_86 rfl (rfl) (by omega) (by decide) (ws' := (m, .inr (8, [.int fi, .ref (D 0), .long as, .int (nI ns), .ref (D 1), .ref (D 2), .ref (D 3), .ref (D 4), .ref (D 5), .ref (D 6), .ref (D 7), .ref (D 8), .int ii, .long de, .int dl, .int dp, .int dc, .ref (D 9), .int (nI nr), .ref (D 10), .ref (D 11), .ref (D 12), .ref (D 13), .ref (D 14), .int ((waB (mqF ns kk rr ml cls) (wcF (mqF ns kk rr ml cls) F RL) s) ||| ((1 : Int32) <<< ((nI s) &&& 31))), .int (wa + (1 : Int32))])) :: (D 2, .inl (G.2.1.2.1, 12, .inl rr)) :: (D 3, .inl (G.2.1.1, 720, .inl ml)) :: (D 4, .inl (G.2.1.1, 60, .inl F)) :: (D 6, .inl (G.2.1.1, 60, .inl so)) :: (D 9, .inl (G.2.1.1, 60, .inl lti)) :: (D 10, .inl (G.2.1.1, 10, .inl wh)) :: (D 11, .inl (G.2.1.1, 10, .inl rlo)) :: (D 12, .inl (G.2.1.1, 10, .inl rhi)) :: (D 13, .inl (G.2.1.1, 10, .inl rcl)) :: (D 14, .inl (G.2.1.1, 12, .inl (upd (fiF cls (wcF (mqF ns kk rr ml cls) F RL) s) s ((wcF (mqF ns kk rr ml cls) F RL) s)))) :: r) rfl ?_
          rw [show upd (fiF cls (wcF (mqF ns kk rr ml cls) F RL) s) s ((wcF (mqF ns kk rr ml cls) F RL) s) = fiF cls (wcF (mqF ns kk rr ml cls) F RL) (s + 1) from fiF_s _ _ _]
          refine J.iinc 2 [1, 2, 0, 3] (lv' := [(0, .ref m), (1, .int (nI (waN (mqF ns kk rr ml cls) (wcF (mqF ns kk rr ml cls) F RL) s + 1))), (2, .int (nI (s + 1))), (3, .int ((wcF (mqF ns kk rr ml cls) F RL) s))]) dX8_watch_87 rfl (jinc1 _) rfl rfl ?_
          refine J.goto dX8_watch_90 ?_
          refine J.loc [0, 1, 2] (lv' := [(0, .ref m), (1, .int (nI (waN (mqF ns kk rr ml cls) (wcF (mqF ns kk rr ml cls) F RL) s + 1))), (2, .int (nI (s + 1)))]) rfl ?_
          have h7 : ¬ ((wcF (mqF ns kk rr ml cls) F RL) s = ((mqF ns kk rr ml cls) s).2.2.2) := by rw [mq_c h9]; exact h6
          have he1 : waN (mqF ns kk rr ml cls) (wcF (mqF ns kk rr ml cls) F RL) (s + 1) = waN (mqF ns kk rr ml cls) (wcF (mqF ns kk rr ml cls) F RL) s + 1 := by
            show waN (mqF ns kk rr ml cls) (wcF (mqF ns kk rr ml cls) F RL) s + _ = _
            rw [if_neg h7]
          have he2 : waB (mqF ns kk rr ml cls) (wcF (mqF ns kk rr ml cls) F RL) (s + 1) = waB (mqF ns kk rr ml cls) (wcF (mqF ns kk rr ml cls) F RL) s ||| ((1 : Int32) <<< (nI s &&& 31)) := if_neg h7
          have hq7 := X8_wa (wa := wa) (al := al) B (s + 1) so lti hns hlen hnr hR (by omega)
          rw [he1, he2] at hq7
          exact hq7
      · skip
        have h5 : ¬ (nN (rowM ml s)) ≤ 0 := fun z => h5 ((nI_leI (a := (nN (rowM ml s))) (b := 0) (by omega) (by omega)).mpr z)
        have h0 : 0 < nN (rowM ml s) := by omega
        refine J.aload_n 0 dX8_watch_44 rfl ?_
        refine J.iload_n 2 dX8_watch_45 rfl ?_
        refine J.re [0, 2, 3, 4, 5, 6, 7, 8, 9, 1, 10] 11 (ws2 := (m, .inr (8, [.int fi, .ref (D 0), .long as, .int (nI ns), .ref (D 1), .ref (D 2), .ref (D 3), .ref (D 4), .ref (D 5), .ref (D 6), .ref (D 7), .ref (D 8), .int ii, .long de, .int dl, .int dp, .int dc, .ref (D 9), .int (nI nr), .ref (D 10), .ref (D 11), .ref (D 12), .ref (D 13), .ref (D 14), .int (waB (mqF ns kk rr ml cls) (wcF (mqF ns kk rr ml cls) F RL) s), .int (wa + (1 : Int32))])) :: (D 3, .inl (G.2.1.1, 720, .inl ml)) :: (D 4, .inl (G.2.1.1, 60, .inl F)) :: (D 6, .inl (G.2.1.1, 60, .inl so)) :: (D 9, .inl (G.2.1.1, 60, .inl lti)) :: (D 10, .inl (G.2.1.1, 10, .inl wh)) :: (D 11, .inl (G.2.1.1, 10, .inl rlo)) :: (D 12, .inl (G.2.1.1, 10, .inl rhi)) :: (D 13, .inl (G.2.1.1, 10, .inl rcl)) :: (D 2, .inl (G.2.1.2.1, 12, .inl rr)) :: (D 14, .inl (G.2.1.1, 12, .inl (fiF cls (wcF (mqF ns kk rr ml cls) F RL) s))) :: r) rfl rfl ?_
        refine J.callV 0 (st := []) B (c_X8_classIs l G _ hlen hnr hR hs h0) ml_X8_178 mf_yX8_classIs mi_yX8_classIs rfl dX8_watch_46 rfl rfl rfl rfl (fun v_4 w_5 hp_6 => ?_)
        obtain ⟨so1, lt1, rfl, rfl⟩ := hp_6
        refine J.re [0, 9, 1, 2, 3, 4, 5, 6, 7, 8, 10] 11 (ws2 := (m, .inr (8, [.int fi, .ref (D 0), .long as, .int (nI ns), .ref (D 1), .ref (D 2), .ref (D 3), .ref (D 4), .ref (D 5), .ref (D 6), .ref (D 7), .ref (D 8), .int ii, .long de, .int dl, .int dp, .int dc, .ref (D 9), .int (nI nr), .ref (D 10), .ref (D 11), .ref (D 12), .ref (D 13), .ref (D 14), .int (waB (mqF ns kk rr ml cls) (wcF (mqF ns kk rr ml cls) F RL) s), .int (wa + (1 : Int32))])) :: (D 2, .inl (G.2.1.2.1, 12, .inl rr)) :: (D 3, .inl (G.2.1.1, 720, .inl ml)) :: (D 4, .inl (G.2.1.1, 60, .inl F)) :: (D 6, .inl (G.2.1.1, 60, .inl so1)) :: (D 9, .inl (G.2.1.1, 60, .inl lt1)) :: (D 10, .inl (G.2.1.1, 10, .inl wh)) :: (D 11, .inl (G.2.1.1, 10, .inl rlo)) :: (D 12, .inl (G.2.1.1, 10, .inl rhi)) :: (D 13, .inl (G.2.1.1, 10, .inl rcl)) :: (D 14, .inl (G.2.1.1, 12, .inl (fiF cls (wcF (mqF ns kk rr ml cls) F RL) s))) :: r) rfl rfl ?_
        show J G X mX8_watch _ _ _ 49 _ [.int (clsR (msV (rowM ml s) F) RL)]
        refine J.goto dX8_watch_49 ?_
        refine J.topi (y := (wcF (mqF ns kk rr ml cls) F RL) s) (wc_yes h9 h8 h0).symm ?_
        refine J.istore_n [1, 2, 3, 0] (lv' := [(0, .ref m), (1, .int (nI (waN (mqF ns kk rr ml cls) (wcF (mqF ns kk rr ml cls) F RL) s))), (2, .int (nI s)), (3, .int ((wcF (mqF ns kk rr ml cls) F RL) s))]) dX8_watch_54 rfl rfl ?_
        refine J.iload_n 3 dX8_watch_55 rfl ?_
        refine J.aload_n 0 dX8_watch_56 rfl ?_
        refine J.get 0 fl_X8_63 dX8_watch_57 rfl rfl ?_
        refine J.iload_n 2 dX8_watch_60 rfl ?_
        refine J.iald 10 (s) dX8_watch_61 rfl (rfl) (by omega) (by decide) ?_
        refine J.topi (y := cls s) (fiF_ge (by omega)) ?_
        refine J.icmp_eq dX8_watch_62 (fun h6 => ?_) (fun h6 => ?_)
        · skip
          refine J.aload_n 0 dX8_watch_80 rfl ?_
          refine J.get 0 fl_X8_63 dX8_watch_81 rfl rfl ?_
          refine J.iload_n 2 dX8_watch_84 rfl ?_
          refine J.iload_n 3 dX8_watch_85 rfl ?_
          refine J.iast 10 (s) dX8_watch_86 rfl (rfl) (by omega) (by decide) (ws' := (m, .inr (8, [.int fi, .ref (D 0), .long as, .int (nI ns), .ref (D 1), .ref (D 2), .ref (D 3), .ref (D 4), .ref (D 5), .ref (D 6), .ref (D 7), .ref (D 8), .int ii, .long de, .int dl, .int dp, .int dc, .ref (D 9), .int (nI nr), .ref (D 10), .ref (D 11), .ref (D 12), .ref (D 13), .ref (D 14), .int (waB (mqF ns kk rr ml cls) (wcF (mqF ns kk rr ml cls) F RL) s), .int (wa + (1 : Int32))])) :: (D 2, .inl (G.2.1.2.1, 12, .inl rr)) :: (D 3, .inl (G.2.1.1, 720, .inl ml)) :: (D 4, .inl (G.2.1.1, 60, .inl F)) :: (D 6, .inl (G.2.1.1, 60, .inl so1)) :: (D 9, .inl (G.2.1.1, 60, .inl lt1)) :: (D 10, .inl (G.2.1.1, 10, .inl wh)) :: (D 11, .inl (G.2.1.1, 10, .inl rlo)) :: (D 12, .inl (G.2.1.1, 10, .inl rhi)) :: (D 13, .inl (G.2.1.1, 10, .inl rcl)) :: (D 14, .inl (G.2.1.1, 12, .inl (upd (fiF cls (wcF (mqF ns kk rr ml cls) F RL) s) s ((wcF (mqF ns kk rr ml cls) F RL) s)))) :: r) rfl ?_
          rw [show upd (fiF cls (wcF (mqF ns kk rr ml cls) F RL) s) s ((wcF (mqF ns kk rr ml cls) F RL) s) = fiF cls (wcF (mqF ns kk rr ml cls) F RL) (s + 1) from fiF_s _ _ _]
          refine J.iinc 2 [1, 2, 0, 3] (lv' := [(0, .ref m), (1, .int (nI (waN (mqF ns kk rr ml cls) (wcF (mqF ns kk rr ml cls) F RL) s))), (2, .int (nI (s + 1))), (3, .int ((wcF (mqF ns kk rr ml cls) F RL) s))]) dX8_watch_87 rfl (jinc1 _) rfl rfl ?_
          refine J.goto dX8_watch_90 ?_
          refine J.loc [0, 1, 2] (lv' := [(0, .ref m), (1, .int (nI (waN (mqF ns kk rr ml cls) (wcF (mqF ns kk rr ml cls) F RL) s))), (2, .int (nI (s + 1)))]) rfl ?_
          have h7 : ((wcF (mqF ns kk rr ml cls) F RL) s = ((mqF ns kk rr ml cls) s).2.2.2) := by rw [mq_c h9]; exact h6
          have he1 : waN (mqF ns kk rr ml cls) (wcF (mqF ns kk rr ml cls) F RL) (s + 1) = waN (mqF ns kk rr ml cls) (wcF (mqF ns kk rr ml cls) F RL) s := by
            show waN (mqF ns kk rr ml cls) (wcF (mqF ns kk rr ml cls) F RL) s + _ = _
            rw [if_pos h7]
            rfl
          have he2 : waB (mqF ns kk rr ml cls) (wcF (mqF ns kk rr ml cls) F RL) (s + 1) = waB (mqF ns kk rr ml cls) (wcF (mqF ns kk rr ml cls) F RL) s := if_pos h7
          have hq7 := X8_wa (wa := wa) (al := al) B (s + 1) so1 lt1 hns hlen hnr hR (by omega)
          rw [he1, he2] at hq7
          exact hq7
        · skip
          refine J.aload_n 0 dX8_watch_65 rfl ?_
          refine J.dup dX8_watch_66 rfl ?_
          refine J.get 0 fl_X8_181 dX8_watch_67 rfl rfl ?_
          refine J.iconst (1 : Int32) dX8_watch_70 rfl ?_
          refine J.iload_n 2 dX8_watch_71 rfl ?_
          refine J.ishl dX8_watch_72 ?_
          refine J.ior dX8_watch_73 ?_
          refine J.put 0 fp_X8_181 dX8_watch_74 rfl (rfl) (rfl) rfl (ws' := (m, .inr (8, [.int fi, .ref (D 0), .long as, .int (nI ns), .ref (D 1), .ref (D 2), .ref (D 3), .ref (D 4), .ref (D 5), .ref (D 6), .ref (D 7), .ref (D 8), .int ii, .long de, .int dl, .int dp, .int dc, .ref (D 9), .int (nI nr), .ref (D 10), .ref (D 11), .ref (D 12), .ref (D 13), .ref (D 14), .int ((waB (mqF ns kk rr ml cls) (wcF (mqF ns kk rr ml cls) F RL) s) ||| ((1 : Int32) <<< ((nI s) &&& 31))), .int (wa + (1 : Int32))])) :: (D 2, .inl (G.2.1.2.1, 12, .inl rr)) :: (D 3, .inl (G.2.1.1, 720, .inl ml)) :: (D 4, .inl (G.2.1.1, 60, .inl F)) :: (D 6, .inl (G.2.1.1, 60, .inl so1)) :: (D 9, .inl (G.2.1.1, 60, .inl lt1)) :: (D 10, .inl (G.2.1.1, 10, .inl wh)) :: (D 11, .inl (G.2.1.1, 10, .inl rlo)) :: (D 12, .inl (G.2.1.1, 10, .inl rhi)) :: (D 13, .inl (G.2.1.1, 10, .inl rcl)) :: (D 14, .inl (G.2.1.1, 12, .inl (fiF cls (wcF (mqF ns kk rr ml cls) F RL) s))) :: r) rfl ?_
          refine J.iinc 1 [1, 0, 2, 3] (lv' := [(0, .ref m), (1, .int (nI (waN (mqF ns kk rr ml cls) (wcF (mqF ns kk rr ml cls) F RL) s + 1))), (2, .int (nI s)), (3, .int ((wcF (mqF ns kk rr ml cls) F RL) s))]) dX8_watch_77 rfl (jinc1 _) rfl rfl ?_
          refine J.aload_n 0 dX8_watch_80 rfl ?_
          refine J.get 0 fl_X8_63 dX8_watch_81 rfl rfl ?_
          refine J.iload_n 2 dX8_watch_84 rfl ?_
          refine J.iload_n 3 dX8_watch_85 rfl ?_
          refine J.iast 10 (s) dX8_watch_86 rfl (rfl) (by omega) (by decide) (ws' := (m, .inr (8, [.int fi, .ref (D 0), .long as, .int (nI ns), .ref (D 1), .ref (D 2), .ref (D 3), .ref (D 4), .ref (D 5), .ref (D 6), .ref (D 7), .ref (D 8), .int ii, .long de, .int dl, .int dp, .int dc, .ref (D 9), .int (nI nr), .ref (D 10), .ref (D 11), .ref (D 12), .ref (D 13), .ref (D 14), .int ((waB (mqF ns kk rr ml cls) (wcF (mqF ns kk rr ml cls) F RL) s) ||| ((1 : Int32) <<< ((nI s) &&& 31))), .int (wa + (1 : Int32))])) :: (D 2, .inl (G.2.1.2.1, 12, .inl rr)) :: (D 3, .inl (G.2.1.1, 720, .inl ml)) :: (D 4, .inl (G.2.1.1, 60, .inl F)) :: (D 6, .inl (G.2.1.1, 60, .inl so1)) :: (D 9, .inl (G.2.1.1, 60, .inl lt1)) :: (D 10, .inl (G.2.1.1, 10, .inl wh)) :: (D 11, .inl (G.2.1.1, 10, .inl rlo)) :: (D 12, .inl (G.2.1.1, 10, .inl rhi)) :: (D 13, .inl (G.2.1.1, 10, .inl rcl)) :: (D 14, .inl (G.2.1.1, 12, .inl (upd (fiF cls (wcF (mqF ns kk rr ml cls) F RL) s) s ((wcF (mqF ns kk rr ml cls) F RL) s)))) :: r) rfl ?_
          rw [show upd (fiF cls (wcF (mqF ns kk rr ml cls) F RL) s) s ((wcF (mqF ns kk rr ml cls) F RL) s) = fiF cls (wcF (mqF ns kk rr ml cls) F RL) (s + 1) from fiF_s _ _ _]
          refine J.iinc 2 [1, 2, 0, 3] (lv' := [(0, .ref m), (1, .int (nI (waN (mqF ns kk rr ml cls) (wcF (mqF ns kk rr ml cls) F RL) s + 1))), (2, .int (nI (s + 1))), (3, .int ((wcF (mqF ns kk rr ml cls) F RL) s))]) dX8_watch_87 rfl (jinc1 _) rfl rfl ?_
          refine J.goto dX8_watch_90 ?_
          refine J.loc [0, 1, 2] (lv' := [(0, .ref m), (1, .int (nI (waN (mqF ns kk rr ml cls) (wcF (mqF ns kk rr ml cls) F RL) s + 1))), (2, .int (nI (s + 1)))]) rfl ?_
          have h7 : ¬ ((wcF (mqF ns kk rr ml cls) F RL) s = ((mqF ns kk rr ml cls) s).2.2.2) := by rw [mq_c h9]; exact h6
          have he1 : waN (mqF ns kk rr ml cls) (wcF (mqF ns kk rr ml cls) F RL) (s + 1) = waN (mqF ns kk rr ml cls) (wcF (mqF ns kk rr ml cls) F RL) s + 1 := by
            show waN (mqF ns kk rr ml cls) (wcF (mqF ns kk rr ml cls) F RL) s + _ = _
            rw [if_neg h7]
          have he2 : waB (mqF ns kk rr ml cls) (wcF (mqF ns kk rr ml cls) F RL) (s + 1) = waB (mqF ns kk rr ml cls) (wcF (mqF ns kk rr ml cls) F RL) s ||| ((1 : Int32) <<< (nI s &&& 31)) := if_neg h7
          have hq7 := X8_wa (wa := wa) (al := al) B (s + 1) so1 lt1 hns hlen hnr hR (by omega)
          rw [he1, he2] at hq7
          exact hq7
termination_by ns - s
decreasing_by all_goals omega
set_option maxHeartbeats 4000000 in
set_option maxRecDepth 100000 in
theorem r_watch (l : Launch) (G : jG) (r : va_W) {m : Nat} {D : Nat → Nat} {fi : Int32} {as : Int64} {ns : Nat} {ii : Int32} {de : Int64} {dl dp dc : Int32} {nr : Nat} {al wa : Int32} {kk rr ml cls : Nat → Int32} {F so lti : Nat → Int32} {wh rlo rhi rcl : Nat → Int32} {RL : List rR} (hns : ns ≤ 12) (hlen : RL.length = nr) (hnr : nr ≤ 10) (hR : RLok RL wh rlo rhi rcl) : Mt l G yX8_watch mX8_watch 5 118 0 0 [.ref m] ((m, .inr (8, [.int fi, .ref (D 0), .long as, .int (nI ns), .ref (D 1), .ref (D 2), .ref (D 3), .ref (D 4), .ref (D 5), .ref (D 6), .ref (D 7), .ref (D 8), .int ii, .long de, .int dl, .int dp, .int dc, .ref (D 9), .int (nI nr), .ref (D 10), .ref (D 11), .ref (D 12), .ref (D 13), .ref (D 14), .int al, .int wa])) :: (D 2, .inl (G.2.1.2.1, 12, .inl rr)) :: (D 3, .inl (G.2.1.1, 720, .inl ml)) :: (D 4, .inl (G.2.1.1, 60, .inl F)) :: (D 6, .inl (G.2.1.1, 60, .inl so)) :: (D 9, .inl (G.2.1.1, 60, .inl lti)) :: (D 10, .inl (G.2.1.1, 10, .inl wh)) :: (D 11, .inl (G.2.1.1, 10, .inl rlo)) :: (D 12, .inl (G.2.1.1, 10, .inl rhi)) :: (D 13, .inl (G.2.1.1, 10, .inl rcl)) :: (D 14, .inl (G.2.1.1, 12, .inl cls)) :: r) (fun v w => ∃ so1 lt1, v = some (.int (nI (waN (mqF ns kk rr ml cls) (wcF (mqF ns kk rr ml cls) F RL) ns))) ∧ w = (m, .inr (8, [.int fi, .ref (D 0), .long as, .int (nI ns), .ref (D 1), .ref (D 2), .ref (D 3), .ref (D 4), .ref (D 5), .ref (D 6), .ref (D 7), .ref (D 8), .int ii, .long de, .int dl, .int dp, .int dc, .ref (D 9), .int (nI nr), .ref (D 10), .ref (D 11), .ref (D 12), .ref (D 13), .ref (D 14), .int (waB (mqF ns kk rr ml cls) (wcF (mqF ns kk rr ml cls) F RL) ns), .int (wa + (1 : Int32))])) :: (D 2, .inl (G.2.1.2.1, 12, .inl rr)) :: (D 3, .inl (G.2.1.1, 720, .inl ml)) :: (D 4, .inl (G.2.1.1, 60, .inl F)) :: (D 6, .inl (G.2.1.1, 60, .inl so1)) :: (D 9, .inl (G.2.1.1, 60, .inl lt1)) :: (D 10, .inl (G.2.1.1, 10, .inl wh)) :: (D 11, .inl (G.2.1.1, 10, .inl rlo)) :: (D 12, .inl (G.2.1.1, 10, .inl rhi)) :: (D 13, .inl (G.2.1.1, 10, .inl rcl)) :: (D 14, .inl (G.2.1.1, 12, .inl (fiF cls (wcF (mqF ns kk rr ml cls) F RL) ns))) :: r) := by
  refine Mt.of (by decide +kernel) rfl rfl (fun X B => ?_)
  show J G X mX8_watch ((m, .inr (8, [.int fi, .ref (D 0), .long as, .int (nI ns), .ref (D 1), .ref (D 2), .ref (D 3), .ref (D 4), .ref (D 5), .ref (D 6), .ref (D 7), .ref (D 8), .int ii, .long de, .int dl, .int dp, .int dc, .ref (D 9), .int (nI nr), .ref (D 10), .ref (D 11), .ref (D 12), .ref (D 13), .ref (D 14), .int al, .int wa])) :: (D 2, .inl (G.2.1.2.1, 12, .inl rr)) :: (D 3, .inl (G.2.1.1, 720, .inl ml)) :: (D 4, .inl (G.2.1.1, 60, .inl F)) :: (D 6, .inl (G.2.1.1, 60, .inl so)) :: (D 9, .inl (G.2.1.1, 60, .inl lti)) :: (D 10, .inl (G.2.1.1, 10, .inl wh)) :: (D 11, .inl (G.2.1.1, 10, .inl rlo)) :: (D 12, .inl (G.2.1.1, 10, .inl rhi)) :: (D 13, .inl (G.2.1.1, 10, .inl rcl)) :: (D 14, .inl (G.2.1.1, 12, .inl cls)) :: r) 0 0 0 [(0, .ref m)] []
  refine J.iconst (0 : Int32) dX8_watch_0 rfl ?_
  refine J.istore_n [1, 0] (lv' := [(0, .ref m), (1, .int (0 : Int32))]) dX8_watch_1 rfl rfl ?_
  refine J.aload_n 0 dX8_watch_2 rfl ?_
  refine J.iconst (0 : Int32) dX8_watch_3 rfl ?_
  refine J.put 0 fp_X8_181 dX8_watch_4 rfl (rfl) (rfl) rfl (ws' := (m, .inr (8, [.int fi, .ref (D 0), .long as, .int (nI ns), .ref (D 1), .ref (D 2), .ref (D 3), .ref (D 4), .ref (D 5), .ref (D 6), .ref (D 7), .ref (D 8), .int ii, .long de, .int dl, .int dp, .int dc, .ref (D 9), .int (nI nr), .ref (D 10), .ref (D 11), .ref (D 12), .ref (D 13), .ref (D 14), .int (0 : Int32), .int wa])) :: (D 2, .inl (G.2.1.2.1, 12, .inl rr)) :: (D 3, .inl (G.2.1.1, 720, .inl ml)) :: (D 4, .inl (G.2.1.1, 60, .inl F)) :: (D 6, .inl (G.2.1.1, 60, .inl so)) :: (D 9, .inl (G.2.1.1, 60, .inl lti)) :: (D 10, .inl (G.2.1.1, 10, .inl wh)) :: (D 11, .inl (G.2.1.1, 10, .inl rlo)) :: (D 12, .inl (G.2.1.1, 10, .inl rhi)) :: (D 13, .inl (G.2.1.1, 10, .inl rcl)) :: (D 14, .inl (G.2.1.1, 12, .inl cls)) :: r) rfl ?_
  refine J.aload_n 0 dX8_watch_7 rfl ?_
  refine J.dup dX8_watch_8 rfl ?_
  refine J.get 0 fl_X8_184 dX8_watch_9 rfl rfl ?_
  refine J.iconst (1 : Int32) dX8_watch_12 rfl ?_
  refine J.iadd dX8_watch_13 ?_
  refine J.put 0 fp_X8_184 dX8_watch_14 rfl (rfl) (rfl) rfl (ws' := (m, .inr (8, [.int fi, .ref (D 0), .long as, .int (nI ns), .ref (D 1), .ref (D 2), .ref (D 3), .ref (D 4), .ref (D 5), .ref (D 6), .ref (D 7), .ref (D 8), .int ii, .long de, .int dl, .int dp, .int dc, .ref (D 9), .int (nI nr), .ref (D 10), .ref (D 11), .ref (D 12), .ref (D 13), .ref (D 14), .int (0 : Int32), .int (wa + (1 : Int32))])) :: (D 2, .inl (G.2.1.2.1, 12, .inl rr)) :: (D 3, .inl (G.2.1.1, 720, .inl ml)) :: (D 4, .inl (G.2.1.1, 60, .inl F)) :: (D 6, .inl (G.2.1.1, 60, .inl so)) :: (D 9, .inl (G.2.1.1, 60, .inl lti)) :: (D 10, .inl (G.2.1.1, 10, .inl wh)) :: (D 11, .inl (G.2.1.1, 10, .inl rlo)) :: (D 12, .inl (G.2.1.1, 10, .inl rhi)) :: (D 13, .inl (G.2.1.1, 10, .inl rcl)) :: (D 14, .inl (G.2.1.1, 12, .inl cls)) :: r) rfl ?_
  refine J.iconst (0 : Int32) dX8_watch_17 rfl ?_
  refine J.istore_n [1, 2, 0] (lv' := [(0, .ref m), (1, .int (0 : Int32)), (2, .int (0 : Int32))]) dX8_watch_18 rfl rfl ?_
  have hq9 := X8_wa (al := al) (wa := wa) (cls := cls) (rr := rr) (ml := ml) (kk := kk) B 0 so lti hns hlen hnr hR (by omega)
  rw [fiF_0] at hq9
  exact hq9
set_option maxHeartbeats 4000000 in
set_option maxRecDepth 100000 in
theorem X8_dg3 {l : Launch} {G : jG} {X : jX} {r : va_W} {m : Nat} {D : Nat → Nat} {fi : Int32} {as : Int64} {ns : Nat} {ii : Int32} {de : Int64} {dl dp dc : Int32} {nr : Nat} {al wa : Int32} {kk rr ml cls : Nat → Int32} {F : Nat → Int32} (B : jB l G X 0 0 0 0 (fun v w => v = some (.long (dgA (mqF ns kk rr ml cls) F ns)) ∧ w = (m, .inr (8, [.int fi, .ref (D 0), .long as, .int (nI ns), .ref (D 1), .ref (D 2), .ref (D 3), .ref (D 4), .ref (D 5), .ref (D 6), .ref (D 7), .ref (D 8), .int ii, .long de, .int dl, .int dp, .int dc, .ref (D 9), .int (nI nr), .ref (D 10), .ref (D 11), .ref (D 12), .ref (D 13), .ref (D 14), .int al, .int wa])) :: (D 1, .inl (G.2.1.1, 12, .inl kk)) :: (D 2, .inl (G.2.1.2.1, 12, .inl rr)) :: (D 3, .inl (G.2.1.1, 720, .inl ml)) :: (D 4, .inl (G.2.1.1, 60, .inl F)) :: (D 14, .inl (G.2.1.1, 12, .inl cls)) :: r) "digest") (s : Nat) (hns : ns ≤ 12) (hk : s ≤ ns) : J G X mX8_digest ((m, .inr (8, [.int fi, .ref (D 0), .long as, .int (nI ns), .ref (D 1), .ref (D 2), .ref (D 3), .ref (D 4), .ref (D 5), .ref (D 6), .ref (D 7), .ref (D 8), .int ii, .long de, .int dl, .int dp, .int dc, .ref (D 9), .int (nI nr), .ref (D 10), .ref (D 11), .ref (D 12), .ref (D 13), .ref (D 14), .int al, .int wa])) :: (D 1, .inl (G.2.1.1, 12, .inl kk)) :: (D 2, .inl (G.2.1.2.1, 12, .inl rr)) :: (D 3, .inl (G.2.1.1, 720, .inl ml)) :: (D 4, .inl (G.2.1.1, 60, .inl F)) :: (D 14, .inl (G.2.1.1, 12, .inl cls)) :: r) 0 0 126 [(0, .ref m), (1, .long (dgW (mqF ns kk rr ml cls) (dg60 F (dgS (mqF ns kk rr ml cls) ns) 60) s)), (3, .int (nI s))] [] := by
  refine J.iload_n 2 dX8_digest_126 rfl ?_
  refine J.aload_n 0 dX8_digest_127 rfl ?_
  refine J.get 0 fl_X8_73 dX8_digest_128 rfl rfl ?_
  refine J.icmp_ge dX8_digest_131 (fun h9 => ?_) (fun h9 => ?_)
  · skip
    have h9 : ns ≤ s := (nI_leI (a := ns) (b := s) (by omega) (by omega)).mp h9
    have e : s = ns := by omega
    subst e
    refine J.lload_n 1 dX8_digest_154 rfl ?_
    exact J.lret B dX8_digest_155 rfl (⟨rfl, rfl⟩)
  · skip
    have h9 : ¬ ns ≤ s := fun z => h9 ((nI_leI (a := ns) (b := s) (by omega) (by omega)).mpr z)
    have h9 : s < ns := by omega
    refine J.ldc2 dX8_digest_134 kl_X8_189 ?_
    refine J.lload_n 1 dX8_digest_137 rfl ?_
    refine J.lmul dX8_digest_138 ?_
    refine J.aload_n 0 dX8_digest_139 rfl ?_
    refine J.get 0 fl_X8_63 dX8_digest_140 rfl rfl ?_
    refine J.iload_n 2 dX8_digest_143 rfl ?_
    refine J.iald 5 (s) dX8_digest_144 rfl (rfl) (by omega) (by decide) ?_
    refine J.i2l dX8_digest_145 ?_
    refine J.ladd dX8_digest_146 ?_
    refine J.lstore_n [1, 0, 2] (lv' := [(0, .ref m), (1, .long (((31 : Int64) * (dgW (mqF ns kk rr ml cls) (dg60 F (dgS (mqF ns kk rr ml cls) ns) 60) s)) + ((cls s).toInt64))), (3, .int (nI s))]) dX8_digest_147 rfl rfl ?_
    refine J.iinc 2 [1, 2, 0] (lv' := [(0, .ref m), (1, .long (((31 : Int64) * (dgW (mqF ns kk rr ml cls) (dg60 F (dgS (mqF ns kk rr ml cls) ns) 60) s)) + ((cls s).toInt64))), (3, .int (nI (s + 1)))]) dX8_digest_148 rfl (jinc1 _) rfl rfl ?_
    refine J.goto dX8_digest_151 ?_
    rw [show 31 * dgW (mqF ns kk rr ml cls) (dg60 F (dgS (mqF ns kk rr ml cls) ns) 60) s + (cls s).toInt64 = dgW (mqF ns kk rr ml cls) (dg60 F (dgS (mqF ns kk rr ml cls) ns) 60) (s + 1) by
      show _ = 31 * _ + ((mqF ns kk rr ml cls) s).2.2.2.toInt64
      rw [mq_c h9]]
    exact X8_dg3 B (s + 1) hns (by omega)
termination_by ns - s
decreasing_by all_goals omega
set_option maxHeartbeats 4000000 in
set_option maxRecDepth 100000 in
theorem X8_dg2 {l : Launch} {G : jG} {X : jX} {r : va_W} {m : Nat} {D : Nat → Nat} {fi : Int32} {as : Int64} {ns : Nat} {ii : Int32} {de : Int64} {dl dp dc : Int32} {nr : Nat} {al wa : Int32} {kk rr ml cls : Nat → Int32} {F : Nat → Int32} (B : jB l G X 0 0 0 0 (fun v w => v = some (.long (dgA (mqF ns kk rr ml cls) F ns)) ∧ w = (m, .inr (8, [.int fi, .ref (D 0), .long as, .int (nI ns), .ref (D 1), .ref (D 2), .ref (D 3), .ref (D 4), .ref (D 5), .ref (D 6), .ref (D 7), .ref (D 8), .int ii, .long de, .int dl, .int dp, .int dc, .ref (D 9), .int (nI nr), .ref (D 10), .ref (D 11), .ref (D 12), .ref (D 13), .ref (D 14), .int al, .int wa])) :: (D 1, .inl (G.2.1.1, 12, .inl kk)) :: (D 2, .inl (G.2.1.2.1, 12, .inl rr)) :: (D 3, .inl (G.2.1.1, 720, .inl ml)) :: (D 4, .inl (G.2.1.1, 60, .inl F)) :: (D 14, .inl (G.2.1.1, 12, .inl cls)) :: r) "digest") (k : Nat) (hns : ns ≤ 12) (hk : k ≤ 60) : J G X mX8_digest ((m, .inr (8, [.int fi, .ref (D 0), .long as, .int (nI ns), .ref (D 1), .ref (D 2), .ref (D 3), .ref (D 4), .ref (D 5), .ref (D 6), .ref (D 7), .ref (D 8), .int ii, .long de, .int dl, .int dp, .int dc, .ref (D 9), .int (nI nr), .ref (D 10), .ref (D 11), .ref (D 12), .ref (D 13), .ref (D 14), .int al, .int wa])) :: (D 1, .inl (G.2.1.1, 12, .inl kk)) :: (D 2, .inl (G.2.1.2.1, 12, .inl rr)) :: (D 3, .inl (G.2.1.1, 720, .inl ml)) :: (D 4, .inl (G.2.1.1, 60, .inl F)) :: (D 14, .inl (G.2.1.1, 12, .inl cls)) :: r) 0 0 98 [(0, .ref m), (1, .long (dg60 F (dgS (mqF ns kk rr ml cls) ns) k)), (3, .int (nI k))] [] := by
  refine J.iload_n 2 dX8_digest_98 rfl ?_
  refine J.bipush (60 : Int32) dX8_digest_99 rfl ?_
  refine J.icmp_ge dX8_digest_101 (fun h9 => ?_) (fun h9 => ?_)
  · skip
    have h9 : 60 ≤ k := (nI_leI (a := 60) (b := k) (by omega) (by omega)).mp h9
    have e : k = 60 := by omega
    subst e
    refine J.iconst (0 : Int32) dX8_digest_124 rfl ?_
    refine J.istore_n [1, 2, 0] (lv' := [(0, .ref m), (1, .long (dg60 F (dgS (mqF ns kk rr ml cls) ns) 60)), (3, .int (0 : Int32))]) dX8_digest_125 rfl rfl ?_
    exact X8_dg3 B 0 hns (by omega)
  · skip
    have h9 : ¬ 60 ≤ k := fun z => h9 ((nI_leI (a := 60) (b := k) (by omega) (by omega)).mpr z)
    refine J.ldc2 dX8_digest_104 kl_X8_189 ?_
    refine J.lload_n 1 dX8_digest_107 rfl ?_
    refine J.lmul dX8_digest_108 ?_
    refine J.aload_n 0 dX8_digest_109 rfl ?_
    refine J.get 0 fl_X8_23 dX8_digest_110 rfl rfl ?_
    refine J.iload_n 2 dX8_digest_113 rfl ?_
    refine J.iald 4 (k) dX8_digest_114 rfl (rfl) (by omega) (by decide) ?_
    refine J.i2l dX8_digest_115 ?_
    refine J.ladd dX8_digest_116 ?_
    refine J.lstore_n [1, 0, 2] (lv' := [(0, .ref m), (1, .long (((31 : Int64) * (dg60 F (dgS (mqF ns kk rr ml cls) ns) k)) + ((F k).toInt64))), (3, .int (nI k))]) dX8_digest_117 rfl rfl ?_
    refine J.iinc 2 [1, 2, 0] (lv' := [(0, .ref m), (1, .long (((31 : Int64) * (dg60 F (dgS (mqF ns kk rr ml cls) ns) k)) + ((F k).toInt64))), (3, .int (nI (k + 1)))]) dX8_digest_118 rfl (jinc1 _) rfl rfl ?_
    refine J.goto dX8_digest_121 ?_
    exact X8_dg2 B (k + 1) hns (by omega)
termination_by 60 - k
decreasing_by all_goals omega
set_option maxHeartbeats 4000000 in
set_option maxRecDepth 100000 in
theorem X8_dgi {l : Launch} {G : jG} {X : jX} {r : va_W} {m : Nat} {D : Nat → Nat} {fi : Int32} {as : Int64} {ns : Nat} {ii : Int32} {de : Int64} {dl dp dc : Int32} {nr : Nat} {al wa : Int32} {kk rr ml cls : Nat → Int32} {F : Nat → Int32} {s : Nat} {h0 : Int64} (B : jB l G X 0 0 0 0 (fun v w => v = some (.long (dgA (mqF ns kk rr ml cls) F ns)) ∧ w = (m, .inr (8, [.int fi, .ref (D 0), .long as, .int (nI ns), .ref (D 1), .ref (D 2), .ref (D 3), .ref (D 4), .ref (D 5), .ref (D 6), .ref (D 7), .ref (D 8), .int ii, .long de, .int dl, .int dp, .int dc, .ref (D 9), .int (nI nr), .ref (D 10), .ref (D 11), .ref (D 12), .ref (D 13), .ref (D 14), .int al, .int wa])) :: (D 1, .inl (G.2.1.1, 12, .inl kk)) :: (D 2, .inl (G.2.1.2.1, 12, .inl rr)) :: (D 3, .inl (G.2.1.1, 720, .inl ml)) :: (D 4, .inl (G.2.1.1, 60, .inl F)) :: (D 14, .inl (G.2.1.1, 12, .inl cls)) :: r) "digest") (k : Nat) (hs : s < 12) (hr : ¬ rr s = 0) (hk : k ≤ 60) (hK : J G X mX8_digest ((m, .inr (8, [.int fi, .ref (D 0), .long as, .int (nI ns), .ref (D 1), .ref (D 2), .ref (D 3), .ref (D 4), .ref (D 5), .ref (D 6), .ref (D 7), .ref (D 8), .int ii, .long de, .int dl, .int dp, .int dc, .ref (D 9), .int (nI nr), .ref (D 10), .ref (D 11), .ref (D 12), .ref (D 13), .ref (D 14), .int al, .int wa])) :: (D 1, .inl (G.2.1.1, 12, .inl kk)) :: (D 2, .inl (G.2.1.2.1, 12, .inl rr)) :: (D 3, .inl (G.2.1.1, 720, .inl ml)) :: (D 4, .inl (G.2.1.1, 60, .inl F)) :: (D 14, .inl (G.2.1.1, 12, .inl cls)) :: r) 0 0 90 [(0, .ref m), (1, .long (dg60 (rowM ml s) h0 60)), (3, .int (nI s))] []) : J G X mX8_digest ((m, .inr (8, [.int fi, .ref (D 0), .long as, .int (nI ns), .ref (D 1), .ref (D 2), .ref (D 3), .ref (D 4), .ref (D 5), .ref (D 6), .ref (D 7), .ref (D 8), .int ii, .long de, .int dl, .int dp, .int dc, .ref (D 9), .int (nI nr), .ref (D 10), .ref (D 11), .ref (D 12), .ref (D 13), .ref (D 14), .int al, .int wa])) :: (D 1, .inl (G.2.1.1, 12, .inl kk)) :: (D 2, .inl (G.2.1.2.1, 12, .inl rr)) :: (D 3, .inl (G.2.1.1, 720, .inl ml)) :: (D 4, .inl (G.2.1.1, 60, .inl F)) :: (D 14, .inl (G.2.1.1, 12, .inl cls)) :: r) 0 0 48 [(0, .ref m), (1, .long (dg60 (rowM ml s) h0 k)), (3, .int (nI s)), (4, .int (nI k))] [] := by
  refine J.iload 3 dX8_digest_48 rfl ?_
  refine J.bipush (60 : Int32) dX8_digest_50 rfl ?_
  refine J.icmp_ge dX8_digest_52 (fun h9 => ?_) (fun h9 => ?_)
  · skip
    have h9 : 60 ≤ k := (nI_leI (a := 60) (b := k) (by omega) (by omega)).mp h9
    have e : k = 60 := by omega
    subst e
    refine J.loc [0, 1, 2] (lv' := [(0, .ref m), (1, .long (dg60 (rowM ml s) h0 60)), (3, .int (nI s))]) rfl ?_
    exact hK
  · skip
    have h9 : ¬ 60 ≤ k := fun z => h9 ((nI_leI (a := 60) (b := k) (by omega) (by omega)).mpr z)
    refine J.aload_n 0 dX8_digest_55 rfl ?_
    refine J.get 0 fl_X8_16 dX8_digest_56 rfl rfl ?_
    refine J.iload_n 2 dX8_digest_59 rfl ?_
    refine J.zald 2 (s) dX8_digest_60 rfl (rfl) (by omega) (by decide) ?_
    refine J.if_eq dX8_digest_61 (fun z => absurd z (hr)) (fun h8 => ?_)
    refine J.ldc2 dX8_digest_64 kl_X8_189 ?_
    refine J.lload_n 1 dX8_digest_67 rfl ?_
    refine J.lmul dX8_digest_68 ?_
    refine J.aload_n 0 dX8_digest_69 rfl ?_
    refine J.get 0 fl_X8_20 dX8_digest_70 rfl rfl ?_
    refine J.bipush (60 : Int32) dX8_digest_73 rfl ?_
    refine J.iload_n 2 dX8_digest_75 rfl ?_
    refine J.imul dX8_digest_76 ?_
    refine J.topi (y := nI (60 * s)) (pk_mul 60 s) ?_
    refine J.iload 3 dX8_digest_77 rfl ?_
    refine J.iadd dX8_digest_79 ?_
    refine J.topi (y := nI ((60 * s) + k)) (nI_add (60 * s) k) ?_
    refine J.iald 3 ((60 * s) + k) dX8_digest_80 rfl (rfl) (by omega) (by decide) ?_
    refine J.topi (y := rowM ml s k) (rfl) ?_
    refine J.i2l dX8_digest_81 ?_
    refine J.ladd dX8_digest_82 ?_
    refine J.lstore_n [1, 0, 2, 3] (lv' := [(0, .ref m), (1, .long (((31 : Int64) * (dg60 (rowM ml s) h0 k)) + ((rowM ml s k).toInt64))), (3, .int (nI s)), (4, .int (nI k))]) dX8_digest_83 rfl rfl ?_
    refine J.iinc 3 [1, 2, 3, 0] (lv' := [(0, .ref m), (1, .long (((31 : Int64) * (dg60 (rowM ml s) h0 k)) + ((rowM ml s k).toInt64))), (3, .int (nI s)), (4, .int (nI (k + 1)))]) dX8_digest_84 rfl (jinc1 _) rfl rfl ?_
    refine J.goto dX8_digest_87 ?_
    exact X8_dgi B (k + 1) hs hr (by omega) hK
termination_by 60 - k
decreasing_by all_goals omega
theorem dgS_no {ns s : Nat} {kk rr ml cls : Nat → Int32} (h : s < ns) (hr : rr s = 0) : 31 * (31 * dgS (mqF ns kk rr ml cls) s + (kk s).toInt64) - 1 = dgS (mqF ns kk rr ml cls) (s + 1) := by
  show _ = if ((mqF ns kk rr ml cls) s).2.1 then _ else _
  rw [mq_no h hr]
  rfl
theorem dgS_yes {ns s : Nat} {kk rr ml cls : Nat → Int32} (h : s < ns) (hr : ¬ rr s = 0) : dg60 (rowM ml s) (31 * dgS (mqF ns kk rr ml cls) s + (kk s).toInt64) 60 = dgS (mqF ns kk rr ml cls) (s + 1) := by
  show _ = if ((mqF ns kk rr ml cls) s).2.1 then _ else _
  rw [mq_yes h hr]
  rfl
set_option maxHeartbeats 4000000 in
set_option maxRecDepth 100000 in
theorem X8_dg1 {l : Launch} {G : jG} {X : jX} {r : va_W} {m : Nat} {D : Nat → Nat} {fi : Int32} {as : Int64} {ns : Nat} {ii : Int32} {de : Int64} {dl dp dc : Int32} {nr : Nat} {al wa : Int32} {kk rr ml cls : Nat → Int32} {F : Nat → Int32} (B : jB l G X 0 0 0 0 (fun v w => v = some (.long (dgA (mqF ns kk rr ml cls) F ns)) ∧ w = (m, .inr (8, [.int fi, .ref (D 0), .long as, .int (nI ns), .ref (D 1), .ref (D 2), .ref (D 3), .ref (D 4), .ref (D 5), .ref (D 6), .ref (D 7), .ref (D 8), .int ii, .long de, .int dl, .int dp, .int dc, .ref (D 9), .int (nI nr), .ref (D 10), .ref (D 11), .ref (D 12), .ref (D 13), .ref (D 14), .int al, .int wa])) :: (D 1, .inl (G.2.1.1, 12, .inl kk)) :: (D 2, .inl (G.2.1.2.1, 12, .inl rr)) :: (D 3, .inl (G.2.1.1, 720, .inl ml)) :: (D 4, .inl (G.2.1.1, 60, .inl F)) :: (D 14, .inl (G.2.1.1, 12, .inl cls)) :: r) "digest") (s : Nat) (hns : ns ≤ 12) (hk : s ≤ ns) : J G X mX8_digest ((m, .inr (8, [.int fi, .ref (D 0), .long as, .int (nI ns), .ref (D 1), .ref (D 2), .ref (D 3), .ref (D 4), .ref (D 5), .ref (D 6), .ref (D 7), .ref (D 8), .int ii, .long de, .int dl, .int dp, .int dc, .ref (D 9), .int (nI nr), .ref (D 10), .ref (D 11), .ref (D 12), .ref (D 13), .ref (D 14), .int al, .int wa])) :: (D 1, .inl (G.2.1.1, 12, .inl kk)) :: (D 2, .inl (G.2.1.2.1, 12, .inl rr)) :: (D 3, .inl (G.2.1.1, 720, .inl ml)) :: (D 4, .inl (G.2.1.1, 60, .inl F)) :: (D 14, .inl (G.2.1.1, 12, .inl cls)) :: r) 0 0 6 [(0, .ref m), (1, .long (dgS (mqF ns kk rr ml cls) s)), (3, .int (nI s))] [] := by
  refine J.iload_n 2 dX8_digest_6 rfl ?_
  refine J.aload_n 0 dX8_digest_7 rfl ?_
  refine J.get 0 fl_X8_73 dX8_digest_8 rfl rfl ?_
  refine J.icmp_ge dX8_digest_11 (fun h9 => ?_) (fun h9 => ?_)
  · skip
    have h9 : ns ≤ s := (nI_leI (a := ns) (b := s) (by omega) (by omega)).mp h9
    have e : s = ns := by omega
    subst e
    refine J.iconst (0 : Int32) dX8_digest_96 rfl ?_
    refine J.istore_n [1, 2, 0] (lv' := [(0, .ref m), (1, .long (dgS (mqF s kk rr ml cls) s)), (3, .int (0 : Int32))]) dX8_digest_97 rfl rfl ?_
    exact X8_dg2 B 0 hns (by omega)
  · skip
    have h9 : ¬ ns ≤ s := fun z => h9 ((nI_leI (a := ns) (b := s) (by omega) (by omega)).mpr z)
    have h9 : s < ns := by omega
    have hs : s < 12 := by omega
    refine J.ldc2 dX8_digest_14 kl_X8_189 ?_
    refine J.lload_n 1 dX8_digest_17 rfl ?_
    refine J.lmul dX8_digest_18 ?_
    refine J.aload_n 0 dX8_digest_19 rfl ?_
    refine J.get 0 fl_X8_13 dX8_digest_20 rfl rfl ?_
    refine J.iload_n 2 dX8_digest_23 rfl ?_
    refine J.iald 1 (s) dX8_digest_24 rfl (rfl) (by omega) (by decide) ?_
    refine J.i2l dX8_digest_25 ?_
    refine J.ladd dX8_digest_26 ?_
    refine J.lstore_n [1, 0, 2] (lv' := [(0, .ref m), (1, .long (((31 : Int64) * (dgS (mqF ns kk rr ml cls) s)) + ((kk s).toInt64))), (3, .int (nI s))]) dX8_digest_27 rfl rfl ?_
    refine J.aload_n 0 dX8_digest_28 rfl ?_
    refine J.get 0 fl_X8_16 dX8_digest_29 rfl rfl ?_
    refine J.iload_n 2 dX8_digest_32 rfl ?_
    refine J.zald 2 (s) dX8_digest_33 rfl (rfl) (by omega) (by decide) ?_
    refine J.if_ne dX8_digest_34 (fun h8 => ?_) (fun h8 => ?_)
    · skip
      refine J.iconst (0 : Int32) dX8_digest_45 rfl ?_
      refine J.istore [1, 2, 3, 0] (lv' := [(0, .ref m), (1, .long (((31 : Int64) * (dgS (mqF ns kk rr ml cls) s)) + ((kk s).toInt64))), (3, .int (nI s)), (4, .int (0 : Int32))]) dX8_digest_46 rfl rfl ?_
      refine X8_dgi (s := s) (h0 := 31 * dgS (mqF ns kk rr ml cls) s + (kk s).toInt64) B 0 hs h8 (by omega) ?_
      rw [dgS_yes h9 h8]
      refine J.iinc 2 [1, 2, 0] (lv' := [(0, .ref m), (1, .long (dgS (mqF ns kk rr ml cls) (s + 1))), (3, .int (nI (s + 1)))]) dX8_digest_90 rfl (jinc1 _) rfl rfl ?_
      refine J.goto dX8_digest_93 ?_
      exact X8_dg1 B (s + 1) hns (by omega)
    · skip
      refine J.ldc2 dX8_digest_37 kl_X8_189 ?_
      refine J.lload_n 1 dX8_digest_40 rfl ?_
      refine J.lmul dX8_digest_41 ?_
      refine J.lconst 1 dX8_digest_42 rfl ?_
      refine J.lsub dX8_digest_43 ?_
      refine J.lstore_n [1, 0, 2] (lv' := [(0, .ref m), (1, .long (((31 : Int64) * (((31 : Int64) * (dgS (mqF ns kk rr ml cls) s)) + ((kk s).toInt64))) - (1 : Int64))), (3, .int (nI s))]) dX8_digest_44 rfl rfl ?_
      refine J.iconst (0 : Int32) dX8_digest_45 rfl ?_
      refine J.istore [1, 2, 3, 0] (lv' := [(0, .ref m), (1, .long (((31 : Int64) * (((31 : Int64) * (dgS (mqF ns kk rr ml cls) s)) + ((kk s).toInt64))) - (1 : Int64))), (3, .int (nI s)), (4, .int (0 : Int32))]) dX8_digest_46 rfl rfl ?_
      refine J.iload 3 dX8_digest_48 rfl ?_
      refine J.bipush (60 : Int32) dX8_digest_50 rfl ?_
      refine J.icmp_ge dX8_digest_52 (fun z => absurd z (by decide)) (fun _ => ?_)
      refine J.aload_n 0 dX8_digest_55 rfl ?_
      refine J.get 0 fl_X8_16 dX8_digest_56 rfl rfl ?_
      refine J.iload_n 2 dX8_digest_59 rfl ?_
      refine J.zald 2 (s) dX8_digest_60 rfl (rfl) (by omega) (by decide) ?_
      refine J.if_eq dX8_digest_61 (fun h7 => ?_) (fun z => absurd (h8) z)
      refine J.iinc 2 [1, 2, 0, 3] (lv' := [(0, .ref m), (1, .long (((31 : Int64) * (((31 : Int64) * (dgS (mqF ns kk rr ml cls) s)) + ((kk s).toInt64))) - (1 : Int64))), (3, .int (nI (s + 1))), (4, .int (0 : Int32))]) dX8_digest_90 rfl (jinc1 _) rfl rfl ?_
      refine J.goto dX8_digest_93 ?_
      refine J.loc [0, 1, 2] (lv' := [(0, .ref m), (1, .long (((31 : Int64) * (((31 : Int64) * (dgS (mqF ns kk rr ml cls) s)) + ((kk s).toInt64))) - (1 : Int64))), (3, .int (nI (s + 1)))]) rfl ?_
      rw [show 31 * (31 * dgS (mqF ns kk rr ml cls) s + (kk s).toInt64) - 1 = dgS (mqF ns kk rr ml cls) (s + 1) from dgS_no h9 h8]
      exact X8_dg1 B (s + 1) hns (by omega)
termination_by ns - s
decreasing_by all_goals omega
set_option maxHeartbeats 4000000 in
set_option maxRecDepth 100000 in
theorem r_digest (l : Launch) (G : jG) (r : va_W) {m : Nat} {D : Nat → Nat} {fi : Int32} {as : Int64} {ns : Nat} {ii : Int32} {de : Int64} {dl dp dc : Int32} {nr : Nat} {al wa : Int32} {kk rr ml cls : Nat → Int32} {F : Nat → Int32} (hns : ns ≤ 12) : Mt l G yX8_digest mX8_digest 0 0 0 0 [.ref m] ((m, .inr (8, [.int fi, .ref (D 0), .long as, .int (nI ns), .ref (D 1), .ref (D 2), .ref (D 3), .ref (D 4), .ref (D 5), .ref (D 6), .ref (D 7), .ref (D 8), .int ii, .long de, .int dl, .int dp, .int dc, .ref (D 9), .int (nI nr), .ref (D 10), .ref (D 11), .ref (D 12), .ref (D 13), .ref (D 14), .int al, .int wa])) :: (D 1, .inl (G.2.1.1, 12, .inl kk)) :: (D 2, .inl (G.2.1.2.1, 12, .inl rr)) :: (D 3, .inl (G.2.1.1, 720, .inl ml)) :: (D 4, .inl (G.2.1.1, 60, .inl F)) :: (D 14, .inl (G.2.1.1, 12, .inl cls)) :: r) (fun v w => v = some (.long (dgA (mqF ns kk rr ml cls) F ns)) ∧ w = (m, .inr (8, [.int fi, .ref (D 0), .long as, .int (nI ns), .ref (D 1), .ref (D 2), .ref (D 3), .ref (D 4), .ref (D 5), .ref (D 6), .ref (D 7), .ref (D 8), .int ii, .long de, .int dl, .int dp, .int dc, .ref (D 9), .int (nI nr), .ref (D 10), .ref (D 11), .ref (D 12), .ref (D 13), .ref (D 14), .int al, .int wa])) :: (D 1, .inl (G.2.1.1, 12, .inl kk)) :: (D 2, .inl (G.2.1.2.1, 12, .inl rr)) :: (D 3, .inl (G.2.1.1, 720, .inl ml)) :: (D 4, .inl (G.2.1.1, 60, .inl F)) :: (D 14, .inl (G.2.1.1, 12, .inl cls)) :: r) := by
  refine Mt.of (by decide +kernel) rfl rfl (fun X B => ?_)
  show J G X mX8_digest ((m, .inr (8, [.int fi, .ref (D 0), .long as, .int (nI ns), .ref (D 1), .ref (D 2), .ref (D 3), .ref (D 4), .ref (D 5), .ref (D 6), .ref (D 7), .ref (D 8), .int ii, .long de, .int dl, .int dp, .int dc, .ref (D 9), .int (nI nr), .ref (D 10), .ref (D 11), .ref (D 12), .ref (D 13), .ref (D 14), .int al, .int wa])) :: (D 1, .inl (G.2.1.1, 12, .inl kk)) :: (D 2, .inl (G.2.1.2.1, 12, .inl rr)) :: (D 3, .inl (G.2.1.1, 720, .inl ml)) :: (D 4, .inl (G.2.1.1, 60, .inl F)) :: (D 14, .inl (G.2.1.1, 12, .inl cls)) :: r) 0 0 0 [(0, .ref m)] []
  refine J.ldc2 dX8_digest_0 kl_X8_187 ?_
  refine J.lstore_n [1, 0] (lv' := [(0, .ref m), (1, .long (17 : Int64))]) dX8_digest_3 rfl rfl ?_
  refine J.iconst (0 : Int32) dX8_digest_4 rfl ?_
  refine J.istore_n [1, 2, 0] (lv' := [(0, .ref m), (1, .long (17 : Int64)), (3, .int (0 : Int32))]) dX8_digest_5 rfl rfl ?_
  exact X8_dg1 B 0 hns (by omega)
