set_option maxHeartbeats 4000000 in
set_option maxRecDepth 100000 in
theorem X1_gather_lp {l : Launch} {G : jG} {X : jX} {r : va_W} {c ta ua s la fa : Nat} {kd hr wc : Int32} {L F : Nat → Int32} (B : jB l G X 0 0 0 0 (fun v w => ∃ t u, CV L F t u ∧ v = none ∧ w = oX1 c ta ua (nI (nN L)) :: iA G ta 60 t :: iA G ua 60 u :: (s, .inr (6, [.int kd, .ref la, .int hr, .int wc])) :: iA G la 60 L :: iA G fa 60 F :: r) "gather") (k : Nat) (t u : Nat → Int32) (hk : k ≤ 60) (hc : CVk L F k t u) : J G X mX1_gather ((c, .inr (1, [.ref ta, .ref ua, .int (nI ((nts L k).length))])) :: (ta, .inl (G.2.1.1, 60, .inl t)) :: (ua, .inl (G.2.1.1, 60, .inl u)) :: (s, .inr (6, [.int kd, .ref la, .int hr, .int wc])) :: (la, .inl (G.2.1.1, 60, .inl L)) :: (fa, .inl (G.2.1.1, 60, .inl F)) :: r) 0 0 7 [(0, .ref c), (1, .ref s), (2, .ref fa), (3, .int (nI k))] [] := by
  refine J.iload_n 3 dX1_gather_7 rfl ?_
  refine J.bipush (60 : Int32) dX1_gather_8 rfl ?_
  refine J.icmp_ge dX1_gather_10 (fun h9 => ?_) (fun h9 => ?_)
  · skip
    have h9 : 60 ≤ k := (nI_leI (a := 60) (b := k) (by omega) (by omega)).mp h9
    have e : k = 60 := by omega
    subst e
    exact J.vret B dX1_gather_69 rfl (⟨t, u, hc, rfl, rfl⟩)
  · skip
    have h9 : ¬ 60 ≤ k := fun z => h9 ((nI_leI (a := 60) (b := k) (by omega) (by omega)).mpr z)
    refine J.aload_n 1 dX1_gather_13 rfl ?_
    refine J.get 3 fl_X1_22 dX1_gather_14 rfl rfl ?_
    refine J.iload_n 3 dX1_gather_17 rfl ?_
    refine J.iald 4 (k) dX1_gather_18 rfl (rfl) (by omega) (by decide) ?_
    refine J.bipush (-9 : Int32) dX1_gather_19 rfl ?_
    refine J.icmp_eq dX1_gather_21 (fun h8 => ?_) (fun h8 => ?_)
    · skip
      rw [← nts_no h8]
      refine J.iinc 3 [1, 2, 3, 0] (lv' := [(0, .ref c), (1, .ref s), (2, .ref fa), (3, .int (nI (k + 1)))]) dX1_gather_63 rfl (jinc1 _) rfl rfl ?_
      refine J.goto dX1_gather_66 ?_
      exact X1_gather_lp B (k + 1) t u (by omega) (CVk_no h8 hc)
    · skip
      have hz := nts_le L k
      refine J.aload_n 0 dX1_gather_24 rfl ?_
      refine J.get 0 fl_X1_9 dX1_gather_25 rfl rfl ?_
      refine J.aload_n 0 dX1_gather_28 rfl ?_
      refine J.get 0 fl_X1_18 dX1_gather_29 rfl rfl ?_
      refine J.iload_n 3 dX1_gather_32 rfl ?_
      refine J.iast 1 ((nts L k).length) dX1_gather_33 rfl (rfl) (by omega) (by decide) (ws' := (c, .inr (1, [.ref ta, .ref ua, .int (nI ((nts L k).length))])) :: (ta, .inl (G.2.1.1, 60, .inl (upd t ((nts L k).length) (nI k)))) :: (ua, .inl (G.2.1.1, 60, .inl u)) :: (s, .inr (6, [.int kd, .ref la, .int hr, .int wc])) :: (la, .inl (G.2.1.1, 60, .inl L)) :: (fa, .inl (G.2.1.1, 60, .inl F)) :: r) rfl ?_
      refine J.aload_n 0 dX1_gather_34 rfl ?_
      refine J.get 0 fl_X1_15 dX1_gather_35 rfl rfl ?_
      refine J.aload_n 0 dX1_gather_38 rfl ?_
      refine J.get 0 fl_X1_18 dX1_gather_39 rfl rfl ?_
      refine J.aload_n 1 dX1_gather_42 rfl ?_
      refine J.get 3 fl_X1_22 dX1_gather_43 rfl rfl ?_
      refine J.iload_n 3 dX1_gather_46 rfl ?_
      refine J.iald 4 (k) dX1_gather_47 rfl (rfl) (by omega) (by decide) ?_
      refine J.aload_n 2 dX1_gather_48 rfl ?_
      refine J.iload_n 3 dX1_gather_49 rfl ?_
      refine J.iald 5 (k) dX1_gather_50 rfl (rfl) (by omega) (by decide) ?_
      refine J.isub dX1_gather_51 ?_
      refine J.iast 2 ((nts L k).length) dX1_gather_52 rfl (rfl) (by omega) (by decide) (ws' := (c, .inr (1, [.ref ta, .ref ua, .int (nI ((nts L k).length))])) :: (ta, .inl (G.2.1.1, 60, .inl (upd t ((nts L k).length) (nI k)))) :: (ua, .inl (G.2.1.1, 60, .inl (upd u ((nts L k).length) ((L k) - (F k))))) :: (s, .inr (6, [.int kd, .ref la, .int hr, .int wc])) :: (la, .inl (G.2.1.1, 60, .inl L)) :: (fa, .inl (G.2.1.1, 60, .inl F)) :: r) rfl ?_
      refine J.aload_n 0 dX1_gather_53 rfl ?_
      refine J.dup dX1_gather_54 rfl ?_
      refine J.get 0 fl_X1_18 dX1_gather_55 rfl rfl ?_
      refine J.iconst (1 : Int32) dX1_gather_58 rfl ?_
      refine J.iadd dX1_gather_59 ?_
      refine J.topi (y := nI (((nts L k).length) + 1)) (nI_add ((nts L k).length) 1) ?_
      refine J.put 0 fp_X1_18 dX1_gather_60 rfl (rfl) rfl rfl (ws' := (c, .inr (1, [.ref ta, .ref ua, .int (nI (((nts L k).length) + 1))])) :: (ta, .inl (G.2.1.1, 60, .inl (upd t ((nts L k).length) (nI k)))) :: (ua, .inl (G.2.1.1, 60, .inl (upd u ((nts L k).length) ((L k) - (F k))))) :: (s, .inr (6, [.int kd, .ref la, .int hr, .int wc])) :: (la, .inl (G.2.1.1, 60, .inl L)) :: (fa, .inl (G.2.1.1, 60, .inl F)) :: r) rfl ?_
      refine J.iinc 3 [1, 2, 3, 0] (lv' := [(0, .ref c), (1, .ref s), (2, .ref fa), (3, .int (nI (k + 1)))]) dX1_gather_63 rfl (jinc1 _) rfl rfl ?_
      refine J.goto dX1_gather_66 ?_
      rw [← nts_yes_len h8]
      exact X1_gather_lp B (k + 1) _ _ (by omega) (CVk_yes h8 hc)
termination_by 60 - k
decreasing_by all_goals omega
set_option maxHeartbeats 4000000 in
set_option maxRecDepth 100000 in
theorem c_X1_gather (l : Launch) (G : jG) (r : va_W) {c ta ua s la fa : Nat} {kd hr wc : Int32} {L F : Nat → Int32} {sz : Int32} {t u : Nat → Int32} : Mt l G yX1_gather mX1_gather 0 0 0 0 [.ref c, .ref s, .ref fa] ((c, .inr (1, [.ref ta, .ref ua, .int sz])) :: (ta, .inl (G.2.1.1, 60, .inl t)) :: (ua, .inl (G.2.1.1, 60, .inl u)) :: (s, .inr (6, [.int kd, .ref la, .int hr, .int wc])) :: (la, .inl (G.2.1.1, 60, .inl L)) :: (fa, .inl (G.2.1.1, 60, .inl F)) :: r) (fun v w => ∃ t u, CV L F t u ∧ v = none ∧ w = oX1 c ta ua (nI (nN L)) :: iA G ta 60 t :: iA G ua 60 u :: (s, .inr (6, [.int kd, .ref la, .int hr, .int wc])) :: iA G la 60 L :: iA G fa 60 F :: r) := by
  refine Mt.of (by decide +kernel) rfl rfl (fun X B => ?_)
  show J G X mX1_gather ((c, .inr (1, [.ref ta, .ref ua, .int sz])) :: (ta, .inl (G.2.1.1, 60, .inl t)) :: (ua, .inl (G.2.1.1, 60, .inl u)) :: (s, .inr (6, [.int kd, .ref la, .int hr, .int wc])) :: (la, .inl (G.2.1.1, 60, .inl L)) :: (fa, .inl (G.2.1.1, 60, .inl F)) :: r) 0 0 0 [(0, .ref c), (1, .ref s), (2, .ref fa)] []
  refine J.aload_n 0 dX1_gather_0 rfl ?_
  refine J.iconst (0 : Int32) dX1_gather_1 rfl ?_
  refine J.put 0 fp_X1_18 dX1_gather_2 rfl (rfl) rfl rfl (ws' := (c, .inr (1, [.ref ta, .ref ua, .int (0 : Int32)])) :: (ta, .inl (G.2.1.1, 60, .inl t)) :: (ua, .inl (G.2.1.1, 60, .inl u)) :: (s, .inr (6, [.int kd, .ref la, .int hr, .int wc])) :: (la, .inl (G.2.1.1, 60, .inl L)) :: (fa, .inl (G.2.1.1, 60, .inl F)) :: r) rfl ?_
  refine J.iconst (0 : Int32) dX1_gather_5 rfl ?_
  refine J.istore_n [1, 2, 3, 0] (lv' := [(0, .ref c), (1, .ref s), (2, .ref fa), (3, .int (0 : Int32))]) dX1_gather_6 rfl rfl ?_
  exact X1_gather_lp B 0 t u (by omega) CVk_0
set_option maxHeartbeats 4000000 in
set_option maxRecDepth 100000 in
theorem X1_sum_lp {l : Launch} {G : jG} {X : jX} {r : va_W} {c ta ua n : Nat} {u : Nat → Int32} (B : jB l G X 0 0 0 0 (fun v w => v = some (.long (sm64 u n)) ∧ w = oX1 c ta ua (nI n) :: iA G ua 60 u :: r) "sum") (k : Nat) (hn : n ≤ 60) (hk : k ≤ n) : J G X mX1_sum ((c, .inr (1, [.ref ta, .ref ua, .int (nI n)])) :: (ua, .inl (G.2.1.1, 60, .inl u)) :: r) 0 0 4 [(0, .ref c), (1, .long (sm64 u k)), (3, .int (nI k))] [] := by
  refine J.iload_n 2 dX1_sum_4 rfl ?_
  refine J.aload_n 0 dX1_sum_5 rfl ?_
  refine J.get 0 fl_X1_18 dX1_sum_6 rfl rfl ?_
  refine J.icmp_ge dX1_sum_9 (fun h9 => ?_) (fun h9 => ?_)
  · skip
    have h9 : n ≤ k := (nI_leI (a := n) (b := k) (by omega) (by omega)).mp h9
    have e : k = n := by omega
    subst e
    refine J.lload_n 1 dX1_sum_28 rfl ?_
    exact J.lret B dX1_sum_29 rfl (⟨rfl, rfl⟩)
  · skip
    have h9 : ¬ n ≤ k := fun z => h9 ((nI_leI (a := n) (b := k) (by omega) (by omega)).mpr z)
    refine J.lload_n 1 dX1_sum_12 rfl ?_
    refine J.aload_n 0 dX1_sum_13 rfl ?_
    refine J.get 0 fl_X1_15 dX1_sum_14 rfl rfl ?_
    refine J.iload_n 2 dX1_sum_17 rfl ?_
    refine J.iald 1 (k) dX1_sum_18 rfl (rfl) (by omega) (by decide) ?_
    refine J.i2l dX1_sum_19 ?_
    refine J.ladd dX1_sum_20 ?_
    refine J.lstore_n [1, 0, 2] (lv' := [(0, .ref c), (1, .long ((sm64 u k) + ((u k).toInt64))), (3, .int (nI k))]) dX1_sum_21 rfl rfl ?_
    refine J.iinc 2 [1, 2, 0] (lv' := [(0, .ref c), (1, .long ((sm64 u k) + ((u k).toInt64))), (3, .int (nI (k + 1)))]) dX1_sum_22 rfl (jinc1 _) rfl rfl ?_
    refine J.goto dX1_sum_25 ?_
    exact X1_sum_lp B (k + 1) hn (by omega)
termination_by n - k
decreasing_by all_goals omega
set_option maxHeartbeats 4000000 in
set_option maxRecDepth 100000 in
theorem c_X1_sum (l : Launch) (G : jG) (r : va_W) {c ta ua n : Nat} {u : Nat → Int32} (hn : n ≤ 60) : Mt l G yX1_sum mX1_sum 0 0 0 0 [.ref c] ((c, .inr (1, [.ref ta, .ref ua, .int (nI n)])) :: (ua, .inl (G.2.1.1, 60, .inl u)) :: r) (fun v w => v = some (.long (sm64 u n)) ∧ w = oX1 c ta ua (nI n) :: iA G ua 60 u :: r) := by
  refine Mt.of (by decide +kernel) rfl rfl (fun X B => ?_)
  show J G X mX1_sum ((c, .inr (1, [.ref ta, .ref ua, .int (nI n)])) :: (ua, .inl (G.2.1.1, 60, .inl u)) :: r) 0 0 0 [(0, .ref c)] []
  refine J.lconst 0 dX1_sum_0 rfl ?_
  refine J.lstore_n [1, 0] (lv' := [(0, .ref c), (1, .long (0 : Int64))]) dX1_sum_1 rfl rfl ?_
  refine J.iconst (0 : Int32) dX1_sum_2 rfl ?_
  refine J.istore_n [1, 2, 0] (lv' := [(0, .ref c), (1, .long (0 : Int64)), (3, .int (0 : Int32))]) dX1_sum_3 rfl rfl ?_
  exact X1_sum_lp B 0 hn (by omega)
set_option maxHeartbeats 4000000 in
set_option maxRecDepth 100000 in
theorem c_X1_average (l : Launch) (G : jG) (r : va_W) {c ta ua n : Nat} {u : Nat → Int32} (hn : n ≤ 60) : Mt l G yX1_average mX1_average 1 23 0 0 [.ref c] ((c, .inr (1, [.ref ta, .ref ua, .int (nI n)])) :: (ua, .inl (G.2.1.1, 60, .inl u)) :: r) (fun v w => v = some (.long (if n = 0 then 0 else sm64 u n / (nI n).toInt64)) ∧ w = oX1 c ta ua (nI n) :: iA G ua 60 u :: r) := by
  refine Mt.of (by decide +kernel) rfl rfl (fun X B => ?_)
  show J G X mX1_average ((c, .inr (1, [.ref ta, .ref ua, .int (nI n)])) :: (ua, .inl (G.2.1.1, 60, .inl u)) :: r) 0 0 0 [(0, .ref c)] []
  refine J.aload_n 0 dX1_average_0 rfl ?_
  refine J.get 0 fl_X1_18 dX1_average_1 rfl rfl ?_
  refine J.if_ne dX1_average_4 (fun h9 => ?_) (fun h9 => ?_)
  · skip
    have h9 : ¬ n = 0 := fun z => h9 ((nI_eq (a := n) (b := 0) (by omega) (by omega)).mpr z)
    refine J.aload_n 0 dX1_average_11 rfl ?_
    refine J.callV 0 (st := []) B (c_X1_sum l G _ hn) ml_X1_25 mf_yX1_sum mi_yX1_sum rfl dX1_average_12 rfl rfl rfl rfl (fun v_1 w_2 hp_3 => ?_)
    obtain ⟨rfl, rfl⟩ := hp_3
    show J G X mX1_average _ _ _ 15 _ [.long (sm64 u n)]
    refine J.aload_n 0 dX1_average_15 rfl ?_
    refine J.get 0 fl_X1_18 dX1_average_16 rfl rfl ?_
    refine J.i2l dX1_average_19 ?_
    refine J.ldiv dX1_average_20 (nI64_ne0 (by omega) (by omega)) ?_
    exact J.lret B dX1_average_21 rfl (⟨by simp [h9], rfl⟩)
  · skip
    have h9 : n = 0 := (nI_eq (a := n) (b := 0) (by omega) (by omega)).mp h9
    refine J.lconst 0 dX1_average_7 rfl ?_
    refine J.goto dX1_average_8 ?_
    exact J.lret B dX1_average_21 rfl (⟨by simp [h9], rfl⟩)
set_option maxHeartbeats 4000000 in
set_option maxRecDepth 100000 in
theorem J7_fill_lp {l : Launch} {G : jG} {X : jX} {r : va_W} {a n : Nat} {f : Nat → Int32} {v0 : Int32} (B : jB l G X 0 0 0 0 (fun v w => v = none ∧ w = iA G a n (flA f v0 n) :: r) "fill") (k : Nat) (hn : n < 2 ^ 31) (hk : k ≤ n) : J G X mJ7_fill_53178 ((a, .inl (G.2.1.1, n, .inl (flA f v0 k))) :: r) 0 0 5 [(0, .ref a), (1, .int v0), (2, .int (nI k)), (3, .int (nI n))] [] := by
  refine J.iload_n 2 dJ7_fill_53178_5 rfl ?_
  refine J.iload_n 3 dJ7_fill_53178_6 rfl ?_
  refine J.icmp_ge dJ7_fill_53178_7 (fun h9 => ?_) (fun h9 => ?_)
  · skip
    have h9 : n ≤ k := (nI_leI (a := n) (b := k) (by omega) (by omega)).mp h9
    have e : k = n := by omega
    subst e
    exact J.vret B dJ7_fill_53178_20 rfl (⟨rfl, rfl⟩)
  · skip
    have h9 : ¬ n ≤ k := fun z => h9 ((nI_leI (a := n) (b := k) (by omega) (by omega)).mpr z)
    refine J.aload_n 0 dJ7_fill_53178_10 rfl ?_
    refine J.iload_n 2 dJ7_fill_53178_11 rfl ?_
    refine J.iload_n 1 dJ7_fill_53178_12 rfl ?_
    refine J.iast 0 (k) dJ7_fill_53178_13 rfl (rfl) (by omega) (hn) (ws' := (a, .inl (G.2.1.1, n, .inl (upd (flA f v0 k) k v0))) :: r) rfl ?_
    rw [show upd (flA f v0 k) k v0 = flA f v0 (k + 1) from flA_s f v0 k]
    refine J.iinc 2 [1, 2, 0, 3] (lv' := [(0, .ref a), (1, .int v0), (2, .int (nI (k + 1))), (3, .int (nI n))]) dJ7_fill_53178_14 rfl (jinc1 _) rfl rfl ?_
    refine J.goto dJ7_fill_53178_17 ?_
    exact J7_fill_lp B (k + 1) hn (by omega)
termination_by n - k
decreasing_by all_goals omega
set_option maxHeartbeats 4000000 in
set_option maxRecDepth 100000 in
theorem c_J7_fill_53178 (l : Launch) (G : jG) (r : va_W) {a n : Nat} {f : Nat → Int32} {v0 : Int32} (hn : n < 2 ^ 31) : Mt l G yJ7_fill_53178 mJ7_fill_53178 0 0 0 0 [.ref a, .int v0] ((a, .inl (G.2.1.1, n, .inl f)) :: r) (fun v w => v = none ∧ w = iA G a n (flA f v0 n) :: r) := by
  refine Mt.of (by decide +kernel) rfl rfl (fun X B => ?_)
  show J G X mJ7_fill_53178 ((a, .inl (G.2.1.1, n, .inl f)) :: r) 0 0 0 [(0, .ref a), (1, .int v0)] []
  refine J.iconst (0 : Int32) dJ7_fill_53178_0 rfl ?_
  refine J.istore_n [1, 2, 0] (lv' := [(0, .ref a), (1, .int v0), (2, .int (0 : Int32))]) dJ7_fill_53178_1 rfl rfl ?_
  refine J.aload_n 0 dJ7_fill_53178_2 rfl ?_
  refine J.alen 0 0 (nI n) dJ7_fill_53178_3 rfl rfl rfl ?_
  refine J.istore_n [1, 2, 3, 0] (lv' := [(0, .ref a), (1, .int v0), (2, .int (0 : Int32)), (3, .int (nI n))]) dJ7_fill_53178_4 rfl rfl ?_
  refine J.world (w2 := iA G a n (flA f v0 0) :: r) (by rw [flA_0]) ?_
  exact J7_fill_lp B 0 hn (by omega)
