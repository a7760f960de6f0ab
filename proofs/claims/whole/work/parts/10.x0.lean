set_option maxHeartbeats 4000000 in
set_option maxRecDepth 100000 in
theorem c_X0_clear (l : Launch) (G : jG) (r : va_W) (a b : Nat) (f : Nat → Int32) (sz : Int32) : Mt l G yX0_clear mX0_clear 0 0 0 0 [.ref a] ((a, .inr (0, [.ref b, .int sz])) :: (b, .inl (G.2.1.1, 60, .inl f)) :: r) (fun v w => v = none ∧ w = oX0 a b 0 :: iA G b 60 f :: r) := by
  refine Mt.of (by decide +kernel) rfl rfl (fun X B => ?_)
  show J G X mX0_clear ((a, .inr (0, [.ref b, .int sz])) :: (b, .inl (G.2.1.1, 60, .inl f)) :: r) 0 0 0 [(0, .ref a)] []
  refine J.aload_n 0 dX0_clear_0 rfl ?_
  refine J.iconst (0 : Int32) dX0_clear_1 rfl ?_
  refine J.put 0 fp_X0_15 dX0_clear_2 rfl (rfl) rfl rfl (ws' := (a, .inr (0, [.ref b, .int (0 : Int32)])) :: (b, .inl (G.2.1.1, 60, .inl f)) :: r) rfl ?_
  exact J.vret B dX0_clear_5 rfl (⟨rfl, rfl⟩)
set_option maxHeartbeats 4000000 in
set_option maxRecDepth 100000 in
theorem X0_put_lp {l : Launch} {G : jG} {X : jX} {r : va_W} {a b sz : Nat} {v0 : Int32} {f0 : Nat → Int32} (B : jB l G X 0 0 0 0 (fun v w => v = none ∧ w = oX0 a b (nI (sz + 1)) :: iA G b 60 (insA f0 v0 sz) :: r) "put") (hs : sz < 60) : ∀ (pl : Nat) (f : Nat → Int32), pl ≤ sz → insA f v0 pl = insA f0 v0 sz → J G X mX0_put ((a, .inr (0, [.ref b, .int (nI sz)])) :: (b, .inl (G.2.1.1, 60, .inl f)) :: r) 0 0 15 [(0, .ref a), (1, .int v0), (2, .int (nI pl))] [] := by
  intro pl
  induction pl with
  | zero =>
    intro f hp hf
    refine J.iload_n 2 dX0_put_15 rfl ?_
    refine J.if_le dX0_put_16 (fun h_1 => ?_) (fun z => absurd (by decide) z)
    refine J.aload_n 0 dX0_put_51 rfl ?_
    refine J.get 0 fl_X0_9 dX0_put_52 rfl rfl ?_
    refine J.iload_n 2 dX0_put_55 rfl ?_
    refine J.iload_n 1 dX0_put_56 rfl ?_
    refine J.iast 1 (0) dX0_put_57 rfl (rfl) (by omega) (by decide) (ws' := (a, .inr (0, [.ref b, .int (nI sz)])) :: (b, .inl (G.2.1.1, 60, .inl (upd f 0 v0))) :: r) rfl ?_
    refine J.aload_n 0 dX0_put_58 rfl ?_
    refine J.dup dX0_put_59 rfl ?_
    refine J.get 0 fl_X0_15 dX0_put_60 rfl rfl ?_
    refine J.iconst (1 : Int32) dX0_put_63 rfl ?_
    refine J.iadd dX0_put_64 ?_
    refine J.topi (y := nI (sz + 1)) (nI_add sz 1) ?_
    refine J.put 0 fp_X0_15 dX0_put_65 rfl (rfl) rfl rfl (ws' := (a, .inr (0, [.ref b, .int (nI (sz + 1))])) :: (b, .inl (G.2.1.1, 60, .inl (upd f 0 v0))) :: r) rfl ?_
    exact J.vret B dX0_put_68 rfl (⟨rfl, by rw [← hf]; rfl⟩)
  | succ pl ih =>
    intro f hp hf
    refine J.iload_n 2 dX0_put_15 rfl ?_
    refine J.if_le dX0_put_16 (fun z => absurd z (nI_nle (by omega) (by omega))) (fun h_1 => ?_)
    refine J.aload_n 0 dX0_put_19 rfl ?_
    refine J.get 0 fl_X0_9 dX0_put_20 rfl rfl ?_
    refine J.iload_n 2 dX0_put_23 rfl ?_
    refine J.iconst (1 : Int32) dX0_put_24 rfl ?_
    refine J.isub dX0_put_25 ?_
    refine J.topi (y := nI pl) (pk_sub (a := pl + 1) (b := 1) (by omega)) ?_
    refine J.iald 1 (pl) dX0_put_26 rfl (rfl) (by omega) (by decide) ?_
    refine J.iload_n 1 dX0_put_27 rfl ?_
    refine J.icmp_le dX0_put_28 (fun h9 => ?_) (fun h9 => ?_)
    · skip
      refine J.aload_n 0 dX0_put_51 rfl ?_
      refine J.get 0 fl_X0_9 dX0_put_52 rfl rfl ?_
      refine J.iload_n 2 dX0_put_55 rfl ?_
      refine J.iload_n 1 dX0_put_56 rfl ?_
      refine J.iast 1 (pl + 1) dX0_put_57 rfl (rfl) (by omega) (by decide) (ws' := (a, .inr (0, [.ref b, .int (nI sz)])) :: (b, .inl (G.2.1.1, 60, .inl (upd f (pl + 1) v0))) :: r) rfl ?_
      refine J.aload_n 0 dX0_put_58 rfl ?_
      refine J.dup dX0_put_59 rfl ?_
      refine J.get 0 fl_X0_15 dX0_put_60 rfl rfl ?_
      refine J.iconst (1 : Int32) dX0_put_63 rfl ?_
      refine J.iadd dX0_put_64 ?_
      refine J.topi (y := nI (sz + 1)) (nI_add sz 1) ?_
      refine J.put 0 fp_X0_15 dX0_put_65 rfl (rfl) rfl rfl (ws' := (a, .inr (0, [.ref b, .int (nI (sz + 1))])) :: (b, .inl (G.2.1.1, 60, .inl (upd f (pl + 1) v0))) :: r) rfl ?_
      exact J.vret B dX0_put_68 rfl (⟨rfl, by rw [← hf, insA, if_pos h9]⟩)
    · skip
      refine J.aload_n 0 dX0_put_31 rfl ?_
      refine J.get 0 fl_X0_9 dX0_put_32 rfl rfl ?_
      refine J.iload_n 2 dX0_put_35 rfl ?_
      refine J.aload_n 0 dX0_put_36 rfl ?_
      refine J.get 0 fl_X0_9 dX0_put_37 rfl rfl ?_
      refine J.iload_n 2 dX0_put_40 rfl ?_
      refine J.iconst (1 : Int32) dX0_put_41 rfl ?_
      refine J.isub dX0_put_42 ?_
      refine J.topi (y := nI pl) (pk_sub (a := pl + 1) (b := 1) (by omega)) ?_
      refine J.iald 1 (pl) dX0_put_43 rfl (rfl) (by omega) (by decide) ?_
      refine J.iast 1 (pl + 1) dX0_put_44 rfl (rfl) (by omega) (by decide) (ws' := (a, .inr (0, [.ref b, .int (nI sz)])) :: (b, .inl (G.2.1.1, 60, .inl (upd f (pl + 1) (f pl)))) :: r) rfl ?_
      refine J.iinc 2 [1, 2, 0] (lv' := [(0, .ref a), (1, .int v0), (2, .int (nI pl))]) dX0_put_45 rfl (jdec1 _) rfl rfl ?_
      refine J.goto dX0_put_48 ?_
      exact ih _ (by omega) (by rw [← hf, insA, if_neg h9])
set_option maxHeartbeats 4000000 in
set_option maxRecDepth 100000 in
theorem c_X0_put (l : Launch) (G : jG) (r : va_W) {a b sz : Nat} {f0 : Nat → Int32} {v0 : Int32} (hs : sz < 60) : Mt l G yX0_put mX0_put 0 0 0 0 [.ref a, .int v0] ((a, .inr (0, [.ref b, .int (nI sz)])) :: (b, .inl (G.2.1.1, 60, .inl f0)) :: r) (fun v w => v = none ∧ w = oX0 a b (nI (sz + 1)) :: iA G b 60 (insA f0 v0 sz) :: r) := by
  refine Mt.of (by decide +kernel) rfl rfl (fun X B => ?_)
  show J G X mX0_put ((a, .inr (0, [.ref b, .int (nI sz)])) :: (b, .inl (G.2.1.1, 60, .inl f0)) :: r) 0 0 0 [(0, .ref a), (1, .int v0)] []
  refine J.aload_n 0 dX0_put_0 rfl ?_
  refine J.get 0 fl_X0_15 dX0_put_1 rfl rfl ?_
  refine J.bipush (60 : Int32) dX0_put_4 rfl ?_
  refine J.icmp_lt dX0_put_6 (fun h9 => ?_) (fun h9 => ?_)
  · skip
    have h9 : sz < 60 := (nI_ltI (a := sz) (b := 60) (by omega) (by omega)).mp h9
    refine J.aload_n 0 dX0_put_10 rfl ?_
    refine J.get 0 fl_X0_15 dX0_put_11 rfl rfl ?_
    refine J.istore_n [1, 2, 0] (lv' := [(0, .ref a), (1, .int v0), (2, .int (nI sz))]) dX0_put_14 rfl rfl ?_
    exact X0_put_lp B hs sz f0 (Nat.le_refl _) rfl
  · skip
    have h9 : ¬ sz < 60 := fun z => h9 ((nI_ltI (a := sz) (b := 60) (by omega) (by omega)).mpr z)
    exact absurd hs h9
set_option maxHeartbeats 4000000 in
set_option maxRecDepth 100000 in
theorem c_X0_middle (l : Launch) (G : jG) (r : va_W) {a b sz : Nat} {f : Nat → Int32} (hs : sz ≤ 60) (hs0 : sz < 120) : Mt l G yX0_middle mX0_middle 0 0 0 0 [.ref a] ((a, .inr (0, [.ref b, .int (nI sz)])) :: (b, .inl (G.2.1.1, 60, .inl f)) :: r) (fun v w => v = some (.int (if sz = 0 then 0 else f (sz / 2))) ∧ w = oX0 a b (nI sz) :: iA G b 60 f :: r) := by
  refine Mt.of (by decide +kernel) rfl rfl (fun X B => ?_)
  show J G X mX0_middle ((a, .inr (0, [.ref b, .int (nI sz)])) :: (b, .inl (G.2.1.1, 60, .inl f)) :: r) 0 0 0 [(0, .ref a)] []
  refine J.aload_n 0 dX0_middle_0 rfl ?_
  refine J.get 0 fl_X0_15 dX0_middle_1 rfl rfl ?_
  refine J.if_ne dX0_middle_4 (fun h9 => ?_) (fun h9 => ?_)
  · skip
    have h9 : ¬ sz = 0 := fun z => h9 ((nI_eq (a := sz) (b := 0) (by omega) (by omega)).mpr z)
    refine J.aload_n 0 dX0_middle_11 rfl ?_
    refine J.get 0 fl_X0_9 dX0_middle_12 rfl rfl ?_
    refine J.aload_n 0 dX0_middle_15 rfl ?_
    refine J.get 0 fl_X0_15 dX0_middle_16 rfl rfl ?_
    refine J.iconst (2 : Int32) dX0_middle_19 rfl ?_
    refine J.idiv dX0_middle_20 (by decide) ?_
    refine J.topi (y := nI (sz / 2)) (pk_div (a := sz) (d := 2) (by omega) (by omega) (by omega)) ?_
    refine J.iald 1 (sz / 2) dX0_middle_21 rfl (rfl) (by omega) (by decide) ?_
    exact J.iret B dX0_middle_22 rfl (⟨by simp [h9], rfl⟩)
  · skip
    have h9 : sz = 0 := (nI_eq (a := sz) (b := 0) (by omega) (by omega)).mp h9
    refine J.iconst (0 : Int32) dX0_middle_7 rfl ?_
    refine J.goto dX0_middle_8 ?_
    exact J.iret B dX0_middle_22 rfl (⟨by simp [h9], rfl⟩)
set_option maxHeartbeats 4000000 in
set_option maxRecDepth 100000 in
theorem c_X0_spread (l : Launch) (G : jG) (r : va_W) {a b sz : Nat} {f : Nat → Int32} (hs : sz ≤ 60) : Mt l G yX0_spread mX0_spread 0 0 0 0 [.ref a] ((a, .inr (0, [.ref b, .int (nI sz)])) :: (b, .inl (G.2.1.1, 60, .inl f)) :: r) (fun v w => v = some (.int (if sz = 0 then 0 else f (sz - 1) - f 0)) ∧ w = oX0 a b (nI sz) :: iA G b 60 f :: r) := by
  refine Mt.of (by decide +kernel) rfl rfl (fun X B => ?_)
  show J G X mX0_spread ((a, .inr (0, [.ref b, .int (nI sz)])) :: (b, .inl (G.2.1.1, 60, .inl f)) :: r) 0 0 0 [(0, .ref a)] []
  refine J.aload_n 0 dX0_spread_0 rfl ?_
  refine J.get 0 fl_X0_15 dX0_spread_1 rfl rfl ?_
  refine J.if_ne dX0_spread_4 (fun h9 => ?_) (fun h9 => ?_)
  · skip
    have h9 : ¬ sz = 0 := fun z => h9 ((nI_eq (a := sz) (b := 0) (by omega) (by omega)).mpr z)
    refine J.aload_n 0 dX0_spread_11 rfl ?_
    refine J.get 0 fl_X0_9 dX0_spread_12 rfl rfl ?_
    refine J.aload_n 0 dX0_spread_15 rfl ?_
    refine J.get 0 fl_X0_15 dX0_spread_16 rfl rfl ?_
    refine J.iconst (1 : Int32) dX0_spread_19 rfl ?_
    refine J.isub dX0_spread_20 ?_
    refine J.topi (y := nI (sz - 1)) (pk_sub (a := sz) (b := 1) (by omega)) ?_
    refine J.iald 1 (sz - 1) dX0_spread_21 rfl (rfl) (by omega) (by decide) ?_
    refine J.aload_n 0 dX0_spread_22 rfl ?_
    refine J.get 0 fl_X0_9 dX0_spread_23 rfl rfl ?_
    refine J.iconst (0 : Int32) dX0_spread_26 rfl ?_
    refine J.iald 1 (0) dX0_spread_27 rfl (rfl) (by omega) (by decide) ?_
    refine J.isub dX0_spread_28 ?_
    exact J.iret B dX0_spread_29 rfl (⟨by simp [h9], rfl⟩)
  · skip
    have h9 : sz = 0 := (nI_eq (a := sz) (b := 0) (by omega) (by omega)).mp h9
    refine J.iconst (0 : Int32) dX0_spread_7 rfl ?_
    refine J.goto dX0_spread_8 ?_
    exact J.iret B dX0_spread_29 rfl (⟨by simp [h9], rfl⟩)
