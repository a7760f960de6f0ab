set_option maxHeartbeats 4000000 in
set_option maxRecDepth 100000 in
theorem c_J9_min_7cf53 (l : Launch) (G : jG) (r : va_W) {a b : Int32} : Mt l G yJ9_min_7cf53 mJ9_min_7cf53 0 0 0 0 [.int a, .int b] (r) (fun v w => v = some (.int (if b < a then b else a)) ∧ w = r) := by
  refine Mt.of (by decide +kernel) rfl rfl (fun X B => ?_)
  show J G X mJ9_min_7cf53 (r) 0 0 0 [(0, .int a), (1, .int b)] []
  refine J.iload_n 0 dJ9_min_7cf53_0 rfl ?_
  refine J.iload_n 1 dJ9_min_7cf53_1 rfl ?_
  refine J.icmp_gt dJ9_min_7cf53_2 (fun h9 => ?_) (fun h9 => ?_)
  · skip
    refine J.iload_n 1 dJ9_min_7cf53_9 rfl ?_
    exact J.iret B dJ9_min_7cf53_10 rfl (⟨by simp [h9], rfl⟩)
  · skip
    refine J.iload_n 0 dJ9_min_7cf53_5 rfl ?_
    refine J.goto dJ9_min_7cf53_6 ?_
    exact J.iret B dJ9_min_7cf53_10 rfl (⟨by simp [h9], rfl⟩)
set_option maxHeartbeats 4000000 in
set_option maxRecDepth 100000 in
theorem c_J9_abs_0f7a4 (l : Launch) (G : jG) (r : va_W) {a : Int32} : Mt l G yJ9_abs_0f7a4 mJ9_abs_0f7a4 0 0 0 0 [.int a] (r) (fun v w => v = some (.int (if 0 ≤ a then a else -a)) ∧ w = r) := by
  refine Mt.of (by decide +kernel) rfl rfl (fun X B => ?_)
  show J G X mJ9_abs_0f7a4 (r) 0 0 0 [(0, .int a)] []
  refine J.iload_n 0 dJ9_abs_0f7a4_0 rfl ?_
  refine J.if_ge dJ9_abs_0f7a4_1 (fun h9 => ?_) (fun h9 => ?_)
  · skip
    refine J.iload_n 0 dJ9_abs_0f7a4_9 rfl ?_
    exact J.iret B dJ9_abs_0f7a4_10 rfl (⟨by simp [h9], rfl⟩)
  · skip
    refine J.iload_n 0 dJ9_abs_0f7a4_4 rfl ?_
    refine J.ineg dJ9_abs_0f7a4_5 ?_
    refine J.goto dJ9_abs_0f7a4_6 ?_
    exact J.iret B dJ9_abs_0f7a4_10 rfl (⟨by simp [h9], rfl⟩)
set_option maxHeartbeats 4000000 in
set_option maxRecDepth 100000 in
theorem c_J9_floorMod_7cf53 (l : Launch) (G : jG) (r : va_W) {a b : Int32} (hb : 0 < b) : Mt l G yJ9_floorMod_7cf53 mJ9_floorMod_7cf53 0 0 0 0 [.int a, .int b] (r) (fun v w => v = some (.int (Int32.ofInt (a.toInt % b.toInt))) ∧ w = r) := by
  refine Mt.of (by decide +kernel) rfl rfl (fun X B => ?_)
  show J G X mJ9_floorMod_7cf53 (r) 0 0 0 [(0, .int a), (1, .int b)] []
  refine J.iload_n 0 dJ9_floorMod_7cf53_0 rfl ?_
  refine J.iload_n 1 dJ9_floorMod_7cf53_1 rfl ?_
  refine J.irem dJ9_floorMod_7cf53_2 (fun z => absurd hb (by rw [z]; decide)) ?_
  refine J.istore_n [1, 2, 0] (lv' := [(0, .int a), (1, .int b), (2, .int (a - a / b * b))]) dJ9_floorMod_7cf53_3 rfl rfl ?_
  refine J.iload_n 0 dJ9_floorMod_7cf53_4 rfl ?_
  refine J.iload_n 1 dJ9_floorMod_7cf53_5 rfl ?_
  refine J.ixor dJ9_floorMod_7cf53_6 ?_
  refine J.if_ge dJ9_floorMod_7cf53_7 (fun h9 => ?_) (fun h9 => ?_)
  · skip
    refine J.iload_n 2 dJ9_floorMod_7cf53_18 rfl ?_
    exact J.iret B dJ9_floorMod_7cf53_19 rfl (⟨by first | rw [fmod_a hb h9] | rw [fmod_b hb h9 h8], rfl⟩)
  · skip
    refine J.iload_n 2 dJ9_floorMod_7cf53_10 rfl ?_
    refine J.if_eq dJ9_floorMod_7cf53_11 (fun h8 => ?_) (fun h8 => ?_)
    · skip
      refine J.iload_n 2 dJ9_floorMod_7cf53_18 rfl ?_
      exact J.iret B dJ9_floorMod_7cf53_19 rfl (⟨by first | rw [fmod_a hb h9] | rw [fmod_b hb h9 h8], rfl⟩)
    · skip
      refine J.iload_n 2 dJ9_floorMod_7cf53_14 rfl ?_
      refine J.iload_n 1 dJ9_floorMod_7cf53_15 rfl ?_
      refine J.iadd dJ9_floorMod_7cf53_16 ?_
      exact J.iret B dJ9_floorMod_7cf53_17 rfl (⟨by rw [fmod_c hb h9 h8], rfl⟩)
set_option maxHeartbeats 4000000 in
set_option maxRecDepth 100000 in
theorem c_J9_floorDiv_7cf53 (l : Launch) (G : jG) (r : va_W) {a b : Int32} (hb : 0 < b) : Mt l G yJ9_floorDiv_7cf53 mJ9_floorDiv_7cf53 0 0 0 0 [.int a, .int b] (r) (fun v w => v = some (.int (Int32.ofInt (a.toInt / b.toInt))) ∧ w = r) := by
  refine Mt.of (by decide +kernel) rfl rfl (fun X B => ?_)
  show J G X mJ9_floorDiv_7cf53 (r) 0 0 0 [(0, .int a), (1, .int b)] []
  refine J.iload_n 0 dJ9_floorDiv_7cf53_0 rfl ?_
  refine J.iload_n 1 dJ9_floorDiv_7cf53_1 rfl ?_
  refine J.idiv dJ9_floorDiv_7cf53_2 (fun z => absurd hb (by rw [z]; decide)) ?_
  refine J.istore_n [1, 2, 0] (lv' := [(0, .int a), (1, .int b), (2, .int (a / b))]) dJ9_floorDiv_7cf53_3 rfl rfl ?_
  refine J.iload_n 0 dJ9_floorDiv_7cf53_4 rfl ?_
  refine J.iload_n 1 dJ9_floorDiv_7cf53_5 rfl ?_
  refine J.ixor dJ9_floorDiv_7cf53_6 ?_
  refine J.if_ge dJ9_floorDiv_7cf53_7 (fun h9 => ?_) (fun h9 => ?_)
  · skip
    refine J.iload_n 2 dJ9_floorDiv_7cf53_21 rfl ?_
    exact J.iret B dJ9_floorDiv_7cf53_22 rfl (⟨by first | rw [fdiv_a hb h9] | rw [fdiv_b hb h9 h8], rfl⟩)
  · skip
    refine J.iload_n 2 dJ9_floorDiv_7cf53_10 rfl ?_
    refine J.iload_n 1 dJ9_floorDiv_7cf53_11 rfl ?_
    refine J.imul dJ9_floorDiv_7cf53_12 ?_
    refine J.iload_n 0 dJ9_floorDiv_7cf53_13 rfl ?_
    refine J.icmp_eq dJ9_floorDiv_7cf53_14 (fun h8 => ?_) (fun h8 => ?_)
    · skip
      refine J.iload_n 2 dJ9_floorDiv_7cf53_21 rfl ?_
      exact J.iret B dJ9_floorDiv_7cf53_22 rfl (⟨by first | rw [fdiv_a hb h9] | rw [fdiv_b hb h9 h8], rfl⟩)
    · skip
      refine J.iload_n 2 dJ9_floorDiv_7cf53_17 rfl ?_
      refine J.iconst (1 : Int32) dJ9_floorDiv_7cf53_18 rfl ?_
      refine J.isub dJ9_floorDiv_7cf53_19 ?_
      exact J.iret B dJ9_floorDiv_7cf53_20 rfl (⟨by rw [fdiv_c hb h9 h8], rfl⟩)
set_option maxHeartbeats 4000000 in
set_option maxRecDepth 100000 in
theorem c_X6_isOfKind (l : Launch) (G : jG) (r : va_W) {s la : Nat} {kd hr wc a : Int32} : Mt l G yX6_isOfKind mX6_isOfKind 0 0 0 0 [.ref s, .int a] ((s, .inr (6, [.int kd, .ref la, .int hr, .int wc])) :: r) (fun v w => v = some (.int (b01 (ofK kd a))) ∧ w = (s, .inr (6, [.int kd, .ref la, .int hr, .int wc])) :: r) := by
  refine Mt.of (by decide +kernel) rfl rfl (fun X B => ?_)
  show J G X mX6_isOfKind ((s, .inr (6, [.int kd, .ref la, .int hr, .int wc])) :: r) 0 0 0 [(0, .ref s), (1, .int a)] []
  refine J.iload_n 1 dX6_isOfKind_0 rfl ?_
  refine J.if_eq dX6_isOfKind_1 (fun h_1 => ?_) (fun h_1 => ?_)
  · skip
    refine J.iconst (1 : Int32) dX6_isOfKind_25 rfl ?_
    refine J.goto dX6_isOfKind_26 ?_
    exact J.zret B dX6_isOfKind_30 rfl (by decide) (⟨by simp_all [ofK, b01], rfl⟩)
  · skip
    refine J.iload_n 1 dX6_isOfKind_4 rfl ?_
    refine J.aload_n 0 dX6_isOfKind_5 rfl ?_
    refine J.get 0 fl_X6_19 dX6_isOfKind_6 rfl rfl ?_
    refine J.icmp_eq dX6_isOfKind_9 (fun h_2 => ?_) (fun h_2 => ?_)
    · skip
      refine J.iconst (1 : Int32) dX6_isOfKind_25 rfl ?_
      refine J.goto dX6_isOfKind_26 ?_
      exact J.zret B dX6_isOfKind_30 rfl (by decide) (⟨by simp_all [ofK, b01], rfl⟩)
    · skip
      refine J.iload_n 1 dX6_isOfKind_12 rfl ?_
      refine J.iconst (2 : Int32) dX6_isOfKind_13 rfl ?_
      refine J.icmp_ne dX6_isOfKind_14 (fun h_3 => ?_) (fun h_3 => ?_)
      · skip
        refine J.iconst (0 : Int32) dX6_isOfKind_29 rfl ?_
        exact J.zret B dX6_isOfKind_30 rfl (by decide) (⟨by simp_all [ofK, b01], rfl⟩)
      · skip
        refine J.aload_n 0 dX6_isOfKind_17 rfl ?_
        refine J.get 0 fl_X6_19 dX6_isOfKind_18 rfl rfl ?_
        refine J.iconst (3 : Int32) dX6_isOfKind_21 rfl ?_
        refine J.icmp_ne dX6_isOfKind_22 (fun h_4 => ?_) (fun h_4 => ?_)
        · skip
          refine J.iconst (0 : Int32) dX6_isOfKind_29 rfl ?_
          exact J.zret B dX6_isOfKind_30 rfl (by decide) (⟨by simp_all [ofK, b01], rfl⟩)
        · skip
          refine J.iconst (1 : Int32) dX6_isOfKind_25 rfl ?_
          refine J.goto dX6_isOfKind_26 ?_
          exact J.zret B dX6_isOfKind_30 rfl (by decide) (⟨by simp_all [ofK, b01], rfl⟩)
set_option maxHeartbeats 4000000 in
set_option maxRecDepth 100000 in
theorem c_X6_emptyRow (l : Launch) (G : jG) (r : va_W) {s la : Nat} {kd hr wc : Int32} {L : Nat → Int32} {b : Bool} : Mt l G yX6_emptyRow mX6_emptyRow 1 23 0 0 [.ref s, .int (b01 b)] ((s, .inr (6, [.int kd, .ref la, .int hr, .int wc])) :: (la, .inl (G.2.1.1, 60, .inl L)) :: r) (fun v w => v = none ∧ w = (s, .inr (6, [.int kd, .ref la, .int (b01 b), .int wc])) :: iA G la 60 (flA L (-9) 60) :: r) := by
  refine Mt.of (by decide +kernel) rfl rfl (fun X B => ?_)
  show J G X mX6_emptyRow ((s, .inr (6, [.int kd, .ref la, .int hr, .int wc])) :: (la, .inl (G.2.1.1, 60, .inl L)) :: r) 0 0 0 [(0, .ref s), (1, .int (b01 b))] []
  refine J.aload_n 0 dX6_emptyRow_0 rfl ?_
  refine J.iload_n 1 dX6_emptyRow_1 rfl ?_
  refine J.put 0 fp_X6_28 dX6_emptyRow_2 rfl (nar_b01 b) (fit_b01 b) rfl (ws' := (s, .inr (6, [.int kd, .ref la, .int (b01 b), .int wc])) :: (la, .inl (G.2.1.1, 60, .inl L)) :: r) rfl ?_
  refine J.aload_n 0 dX6_emptyRow_5 rfl ?_
  refine J.get 0 fl_X6_9 dX6_emptyRow_6 rfl rfl ?_
  refine J.bipush (-9 : Int32) dX6_emptyRow_9 rfl ?_
  refine J.re [1, 0] 2 (ws2 := (la, .inl (G.2.1.1, 60, .inl L)) :: (s, .inr (6, [.int kd, .ref la, .int (b01 b), .int wc])) :: r) rfl rfl ?_
  refine J.callS (st := []) B (c_J7_fill_53178 l G _ (n := 60) (by decide)) ml_X6_22 mf_yJ7_fill_53178 mS_yJ7_fill_53178 dX6_emptyRow_11 rfl rfl rfl (fun v_1 w_2 hp_3 => ?_)
  obtain ⟨rfl, rfl⟩ := hp_3
  refine J.re [1, 0] 2 (ws2 := (s, .inr (6, [.int kd, .ref la, .int (b01 b), .int wc])) :: (la, .inl (G.2.1.1, 60, .inl (flA L (-9 : Int32) 60))) :: r) rfl rfl ?_
  show J G X mX6_emptyRow _ _ _ 14 _ []
  exact J.vret B dX6_emptyRow_14 rfl (⟨rfl, rfl⟩)
set_option maxHeartbeats 4000000 in
set_option maxRecDepth 100000 in
theorem X6_dig_lp {l : Launch} {G : jG} {X : jX} {r : va_W} {s la : Nat} {kd hr wc : Int32} {L : Nat → Int32} {h0 : Int64} (B : jB l G X 0 0 0 0 (fun v w => v = some (.long (if hr = 0 then 31 * (31 * h0 + kd.toInt64) - 1 else dg60 L (31 * h0 + kd.toInt64) 60)) ∧ w = (s, .inr (6, [.int kd, .ref la, .int hr, .int wc])) :: iA G la 60 L :: r) "digestOnto") (k : Nat) (hh : ¬ hr = 0) (hk : k ≤ 60) : J G X mX6_digestOnto ((s, .inr (6, [.int kd, .ref la, .int hr, .int wc])) :: (la, .inl (G.2.1.1, 60, .inl L)) :: r) 0 0 30 [(0, .ref s), (1, .long h0), (3, .long (dg60 L (31 * h0 + kd.toInt64) k)), (5, .int (nI k))] [] := by
  refine J.iload 3 dX6_digestOnto_30 rfl ?_
  refine J.bipush (60 : Int32) dX6_digestOnto_32 rfl ?_
  refine J.icmp_ge dX6_digestOnto_34 (fun h9 => ?_) (fun h9 => ?_)
  · skip
    have h9 : 60 ≤ k := (nI_leI (a := 60) (b := k) (by omega) (by omega)).mp h9
    have e : k = 60 := by omega
    subst e
    refine J.lload_n 2 dX6_digestOnto_58 rfl ?_
    exact J.lret B dX6_digestOnto_59 rfl (⟨by rw [if_neg hh], rfl⟩)
  · skip
    have h9 : ¬ 60 ≤ k := fun z => h9 ((nI_leI (a := 60) (b := k) (by omega) (by omega)).mpr z)
    refine J.ldc2 dX6_digestOnto_37 kl_X6_32 ?_
    refine J.lload_n 2 dX6_digestOnto_40 rfl ?_
    refine J.lmul dX6_digestOnto_41 ?_
    refine J.aload_n 0 dX6_digestOnto_42 rfl ?_
    refine J.get 0 fl_X6_9 dX6_digestOnto_43 rfl rfl ?_
    refine J.iload 3 dX6_digestOnto_46 rfl ?_
    refine J.iald 1 (k) dX6_digestOnto_48 rfl (rfl) (by omega) (by decide) ?_
    refine J.i2l dX6_digestOnto_49 ?_
    refine J.ladd dX6_digestOnto_50 ?_
    refine J.lstore_n [1, 2, 0, 3] (lv' := [(0, .ref s), (1, .long h0), (3, .long (((31 : Int64) * (dg60 L (31 * h0 + kd.toInt64) k)) + ((L k).toInt64))), (5, .int (nI k))]) dX6_digestOnto_51 rfl rfl ?_
    refine J.iinc 3 [1, 2, 3, 0] (lv' := [(0, .ref s), (1, .long h0), (3, .long (((31 : Int64) * (dg60 L (31 * h0 + kd.toInt64) k)) + ((L k).toInt64))), (5, .int (nI (k + 1)))]) dX6_digestOnto_52 rfl (jinc1 _) rfl rfl ?_
    refine J.goto dX6_digestOnto_55 ?_
    exact X6_dig_lp B (k + 1) hh (by omega)
termination_by 60 - k
decreasing_by all_goals omega
set_option maxHeartbeats 4000000 in
set_option maxRecDepth 100000 in
theorem c_X6_digestOnto (l : Launch) (G : jG) (r : va_W) {s la : Nat} {kd hr wc : Int32} {L : Nat → Int32} {h0 : Int64} : Mt l G yX6_digestOnto mX6_digestOnto 0 0 0 0 [.ref s, .long h0] ((s, .inr (6, [.int kd, .ref la, .int hr, .int wc])) :: (la, .inl (G.2.1.1, 60, .inl L)) :: r) (fun v w => v = some (.long (if hr = 0 then 31 * (31 * h0 + kd.toInt64) - 1 else dg60 L (31 * h0 + kd.toInt64) 60)) ∧ w = (s, .inr (6, [.int kd, .ref la, .int hr, .int wc])) :: iA G la 60 L :: r) := by
  refine Mt.of (by decide +kernel) rfl rfl (fun X B => ?_)
  show J G X mX6_digestOnto ((s, .inr (6, [.int kd, .ref la, .int hr, .int wc])) :: (la, .inl (G.2.1.1, 60, .inl L)) :: r) 0 0 0 [(0, .ref s), (1, .long h0)] []
  refine J.ldc2 dX6_digestOnto_0 kl_X6_32 ?_
  refine J.lload_n 1 dX6_digestOnto_3 rfl ?_
  refine J.lmul dX6_digestOnto_4 ?_
  refine J.aload_n 0 dX6_digestOnto_5 rfl ?_
  refine J.get 0 fl_X6_19 dX6_digestOnto_6 rfl rfl ?_
  refine J.i2l dX6_digestOnto_9 ?_
  refine J.ladd dX6_digestOnto_10 ?_
  refine J.lstore_n [1, 2, 0] (lv' := [(0, .ref s), (1, .long h0), (3, .long (((31 : Int64) * h0) + kd.toInt64))]) dX6_digestOnto_11 rfl rfl ?_
  refine J.aload_n 0 dX6_digestOnto_12 rfl ?_
  refine J.get 0 fl_X6_28 dX6_digestOnto_13 rfl rfl ?_
  refine J.if_ne dX6_digestOnto_16 (fun h9 => ?_) (fun h9 => ?_)
  · skip
    refine J.iconst (0 : Int32) dX6_digestOnto_27 rfl ?_
    refine J.istore [1, 2, 3, 0] (lv' := [(0, .ref s), (1, .long h0), (3, .long (((31 : Int64) * h0) + kd.toInt64)), (5, .int (0 : Int32))]) dX6_digestOnto_28 rfl rfl ?_
    exact X6_dig_lp B 0 h9 (by omega)
  · skip
    refine J.ldc2 dX6_digestOnto_19 kl_X6_32 ?_
    refine J.lload_n 2 dX6_digestOnto_22 rfl ?_
    refine J.lmul dX6_digestOnto_23 ?_
    refine J.lconst 1 dX6_digestOnto_24 rfl ?_
    refine J.lsub dX6_digestOnto_25 ?_
    exact J.lret B dX6_digestOnto_26 rfl (⟨by rw [if_pos h9], rfl⟩)
set_option maxHeartbeats 4000000 in
set_option maxRecDepth 100000 in
theorem c_X5_fits (l : Launch) (G : jG) (r : va_W) {s ma : Nat} {wh lo hi cc : Int32} {M : Nat → Int32} {j : Nat} (hw : wh = nI j) (hj : j < 4) : Mt l G yX5_fits mX5_fits 0 0 0 0 [.ref s, .ref ma] ((s, .inr (5, [.int wh, .int lo, .int hi, .int cc])) :: (ma, .inl (G.2.1.1, 4, .inl M)) :: r) (fun v w => v = some (.int (b01 (decide (lo ≤ M j ∧ M j ≤ hi)))) ∧ w = oX5 s wh lo hi cc :: iA G ma 4 M :: r) := by
  refine Mt.of (by decide +kernel) rfl rfl (fun X B => ?_)
  show J G X mX5_fits ((s, .inr (5, [.int wh, .int lo, .int hi, .int cc])) :: (ma, .inl (G.2.1.1, 4, .inl M)) :: r) 0 0 0 [(0, .ref s), (1, .ref ma)] []
  refine J.aload_n 0 dX5_fits_0 rfl ?_
  refine J.get 0 fl_X5_7 dX5_fits_1 rfl rfl ?_
  refine J.if_lt dX5_fits_4 (fun z => absurd z (by rw [hw]; exact nI_pos (by omega))) (fun h_1 => ?_)
  refine J.aload_n 0 dX5_fits_7 rfl ?_
  refine J.get 0 fl_X5_7 dX5_fits_8 rfl rfl ?_
  refine J.aload_n 1 dX5_fits_11 rfl ?_
  refine J.alen 1 0 (4 : Int32) dX5_fits_12 rfl rfl rfl ?_
  refine J.icmp_ge dX5_fits_13 (fun z => absurd z (by rw [hw]; exact nI_ge (b := 4) hj (by omega))) (fun h_2 => ?_)
  refine J.aload_n 0 dX5_fits_16 rfl ?_
  refine J.get 0 fl_X5_13 dX5_fits_17 rfl rfl ?_
  refine J.aload_n 1 dX5_fits_20 rfl ?_
  refine J.aload_n 0 dX5_fits_21 rfl ?_
  refine J.get 0 fl_X5_7 dX5_fits_22 rfl rfl ?_
  refine J.iald 1 (j) dX5_fits_25 rfl (hw) (hj) (by decide) ?_
  refine J.icmp_gt dX5_fits_26 (fun h9 => ?_) (fun h9 => ?_)
  · skip
    refine J.iconst (0 : Int32) dX5_fits_46 rfl ?_
    exact J.zret B dX5_fits_47 rfl (by decide) (⟨by rw [decide_eq_false (fun z => by first | exact absurd h9 (Int32.not_lt.mpr z.1) | exact absurd h8 (Int32.not_lt.mpr z.2))]; rfl, rfl⟩)
  · skip
    refine J.aload_n 1 dX5_fits_29 rfl ?_
    refine J.aload_n 0 dX5_fits_30 rfl ?_
    refine J.get 0 fl_X5_7 dX5_fits_31 rfl rfl ?_
    refine J.iald 1 (j) dX5_fits_34 rfl (hw) (hj) (by decide) ?_
    refine J.aload_n 0 dX5_fits_35 rfl ?_
    refine J.get 0 fl_X5_16 dX5_fits_36 rfl rfl ?_
    refine J.icmp_gt dX5_fits_39 (fun h8 => ?_) (fun h8 => ?_)
    · skip
      refine J.iconst (0 : Int32) dX5_fits_46 rfl ?_
      exact J.zret B dX5_fits_47 rfl (by decide) (⟨by rw [decide_eq_false (fun z => by first | exact absurd h9 (Int32.not_lt.mpr z.1) | exact absurd h8 (Int32.not_lt.mpr z.2))]; rfl, rfl⟩)
    · skip
      refine J.iconst (1 : Int32) dX5_fits_42 rfl ?_
      refine J.goto dX5_fits_43 ?_
      exact J.zret B dX5_fits_47 rfl (by decide) (⟨by rw [decide_eq_true ⟨Int32.not_lt.mp h9, Int32.not_lt.mp h8⟩]; rfl, rfl⟩)
