set_option maxHeartbeats 4000000 in
set_option maxRecDepth 100000 in
theorem c_X7_phaseOfTime (l : Launch) (G : jG) (r : va_W) {k p q : Nat} (hp : 1 ≤ p) (hp2 : p ≤ 600) (hk : k < 60) (hq : q ≤ 60) : Mt l G yX7_phaseOfTime mX7_phaseOfTime 0 0 0 0 [.int (nI k), .int (nI p), .int (nI q)] (r) (fun v w => v = some (.int (nI (k * q % p))) ∧ w = r) := by
  refine Mt.of (by decide +kernel) rfl rfl (fun X B => ?_)
  show J G X mX7_phaseOfTime (r) 0 0 0 [(0, .int (nI k)), (1, .int (nI p)), (2, .int (nI q))] []
  have hkq : k * q ≤ 60 * 60 := Nat.mul_le_mul (by omega) hq
  refine J.iload_n 1 dX7_phaseOfTime_0 rfl ?_
  refine J.iconst (1 : Int32) dX7_phaseOfTime_1 rfl ?_
  refine J.icmp_ge dX7_phaseOfTime_2 (fun h9 => ?_) (fun h9 => ?_)
  · skip
    have h9 : 1 ≤ p := (nI_leI (a := 1) (b := p) (by omega) (by omega)).mp h9
    refine J.iload_n 0 dX7_phaseOfTime_9 rfl ?_
    refine J.iload_n 2 dX7_phaseOfTime_10 rfl ?_
    refine J.imul dX7_phaseOfTime_11 ?_
    refine J.topi (y := nI (k * q)) (pk_mul k q) ?_
    refine J.iload_n 1 dX7_phaseOfTime_12 rfl ?_
    refine J.irem dX7_phaseOfTime_13 (nI_ne0 (n := p) (by omega) (by omega)) ?_
    refine J.topi (y := nI ((k * q) % p)) (pk_rem (a := k * q) (d := p) (by omega) (by omega) (by omega)) ?_
    exact J.iret B dX7_phaseOfTime_14 rfl (⟨rfl, rfl⟩)
  · skip
    have h9 : ¬ 1 ≤ p := fun z => h9 ((nI_leI (a := 1) (b := p) (by omega) (by omega)).mpr z)
    omega
set_option maxHeartbeats 4000000 in
set_option maxRecDepth 100000 in
theorem X3_put_lp {l : Launch} {G : jG} {X : jX} {r : va_W} {o pa qa sa k : Nat} {key : Nat → Nat} {n0 w0 : Int32} {R0 : (Nat → Int32) × (Nat → Int32)} (B : jB l G X 0 0 0 0 (fun v w => v = none ∧ w = oX3 o pa qa sa :: iA G pa 60 R0.1 :: iA G qa 60 R0.2 :: r) "put") (hkey : ∀ y, key y < 600) : ∀ (xs : List Nat) (P Q : Nat → Int32), xs.length < 60 → AG P (xs.map (fun y => nI (key y))) → insF key k (nI (key k)) w0 P Q xs = R0 → J G X mX3_put ((o, .inr (3, [.ref pa, .ref qa, .ref sa])) :: (pa, .inl (G.2.1.1, 60, .inl P)) :: (qa, .inl (G.2.1.1, 60, .inl Q)) :: r) 0 0 3 [(0, .ref o), (1, .int n0), (2, .int (nI (key k))), (3, .int w0), (4, .int (nI xs.length))] [] := by
  intro xs
  have hk2 := hkey k
  induction xs with
  | nil =>
    intro P Q hp hA hR
    show J G X mX3_put ((o, .inr (3, [.ref pa, .ref qa, .ref sa])) :: (pa, .inl (G.2.1.1, 60, .inl P)) :: (qa, .inl (G.2.1.1, 60, .inl Q)) :: r) 0 0 3 [(0, .ref o), (1, .int n0), (2, .int (nI (key k))), (3, .int w0), (4, .int (nI 0))] []
    refine J.iload 4 dX3_put_3 rfl ?_
    refine J.if_le dX3_put_5 (fun h_1 => ?_) (fun z => absurd (by decide) z)
    refine J.aload_n 0 dX3_put_59 rfl ?_
    refine J.get 0 fl_X3_9 dX3_put_60 rfl rfl ?_
    refine J.iload 4 dX3_put_63 rfl ?_
    refine J.iload_n 2 dX3_put_65 rfl ?_
    refine J.iast 1 (0) dX3_put_66 rfl (rfl) (by omega) (by decide) (ws' := (o, .inr (3, [.ref pa, .ref qa, .ref sa])) :: (pa, .inl (G.2.1.1, 60, .inl (upd P 0 (nI (key k))))) :: (qa, .inl (G.2.1.1, 60, .inl Q)) :: r) rfl ?_
    refine J.aload_n 0 dX3_put_67 rfl ?_
    refine J.get 0 fl_X3_15 dX3_put_68 rfl rfl ?_
    refine J.iload 4 dX3_put_71 rfl ?_
    refine J.iload_n 3 dX3_put_73 rfl ?_
    refine J.iast 2 (0) dX3_put_74 rfl (rfl) (by omega) (by decide) (ws' := (o, .inr (3, [.ref pa, .ref qa, .ref sa])) :: (pa, .inl (G.2.1.1, 60, .inl (upd P 0 (nI (key k))))) :: (qa, .inl (G.2.1.1, 60, .inl (upd Q 0 w0))) :: r) rfl ?_
    exact J.vret B dX3_put_75 rfl (⟨rfl, by rw [← hR]; rfl⟩)
  | cons x xs ih =>
    intro P Q hp hA hR
    rw [List.length_cons] at hp
    have hk1 := hkey x
    show J G X mX3_put ((o, .inr (3, [.ref pa, .ref qa, .ref sa])) :: (pa, .inl (G.2.1.1, 60, .inl P)) :: (qa, .inl (G.2.1.1, 60, .inl Q)) :: r) 0 0 3 [(0, .ref o), (1, .int n0), (2, .int (nI (key k))), (3, .int w0), (4, .int (nI (xs.length + 1)))] []
    refine J.iload 4 dX3_put_3 rfl ?_
    refine J.if_le dX3_put_5 (fun z => absurd z (nI_nle (by omega) (by omega))) (fun h_1 => ?_)
    refine J.aload_n 0 dX3_put_8 rfl ?_
    refine J.get 0 fl_X3_9 dX3_put_9 rfl rfl ?_
    refine J.iload 4 dX3_put_12 rfl ?_
    refine J.iconst (1 : Int32) dX3_put_14 rfl ?_
    refine J.isub dX3_put_15 ?_
    refine J.topi (y := nI xs.length) (pk_sub (a := xs.length + 1) (b := 1) (by omega)) ?_
    refine J.iald 1 (xs.length) dX3_put_16 rfl (rfl) (by omega) (by decide) ?_
    refine J.topi (y := nI (key x)) (AG_hd (φ := fun y => nI (key y)) hA) ?_
    refine J.iload_n 2 dX3_put_17 rfl ?_
    refine J.icmp_le dX3_put_18 (fun h8 => ?_) (fun h8 => ?_)
    · skip
      have h8 : (key x) ≤ (key k) := (nI_leI (a := (key x)) (b := (key k)) (by omega) (by omega)).mp h8
      refine J.aload_n 0 dX3_put_59 rfl ?_
      refine J.get 0 fl_X3_9 dX3_put_60 rfl rfl ?_
      refine J.iload 4 dX3_put_63 rfl ?_
      refine J.iload_n 2 dX3_put_65 rfl ?_
      refine J.iast 1 (xs.length + 1) dX3_put_66 rfl (rfl) (by omega) (by decide) (ws' := (o, .inr (3, [.ref pa, .ref qa, .ref sa])) :: (pa, .inl (G.2.1.1, 60, .inl (upd P (xs.length + 1) (nI (key k))))) :: (qa, .inl (G.2.1.1, 60, .inl Q)) :: r) rfl ?_
      refine J.aload_n 0 dX3_put_67 rfl ?_
      refine J.get 0 fl_X3_15 dX3_put_68 rfl rfl ?_
      refine J.iload 4 dX3_put_71 rfl ?_
      refine J.iload_n 3 dX3_put_73 rfl ?_
      refine J.iast 2 (xs.length + 1) dX3_put_74 rfl (rfl) (by omega) (by decide) (ws' := (o, .inr (3, [.ref pa, .ref qa, .ref sa])) :: (pa, .inl (G.2.1.1, 60, .inl (upd P (xs.length + 1) (nI (key k))))) :: (qa, .inl (G.2.1.1, 60, .inl (upd Q (xs.length + 1) w0))) :: r) rfl ?_
      exact J.vret B dX3_put_75 rfl (⟨rfl, by rw [← hR, insF, if_pos h8]⟩)
    · skip
      have h8 : ¬ (key x) ≤ (key k) := fun z => h8 ((nI_leI (a := (key x)) (b := (key k)) (by omega) (by omega)).mpr z)
      refine J.aload_n 0 dX3_put_21 rfl ?_
      refine J.get 0 fl_X3_9 dX3_put_22 rfl rfl ?_
      refine J.iload 4 dX3_put_25 rfl ?_
      refine J.aload_n 0 dX3_put_27 rfl ?_
      refine J.get 0 fl_X3_9 dX3_put_28 rfl rfl ?_
      refine J.iload 4 dX3_put_31 rfl ?_
      refine J.iconst (1 : Int32) dX3_put_33 rfl ?_
      refine J.isub dX3_put_34 ?_
      refine J.topi (y := nI xs.length) (pk_sub (a := xs.length + 1) (b := 1) (by omega)) ?_
      refine J.iald 1 (xs.length) dX3_put_35 rfl (rfl) (by omega) (by decide) ?_
      refine J.iast 1 (xs.length + 1) dX3_put_36 rfl (rfl) (by omega) (by decide) (ws' := (o, .inr (3, [.ref pa, .ref qa, .ref sa])) :: (pa, .inl (G.2.1.1, 60, .inl (upd P (xs.length + 1) (P xs.length)))) :: (qa, .inl (G.2.1.1, 60, .inl Q)) :: r) rfl ?_
      refine J.aload_n 0 dX3_put_37 rfl ?_
      refine J.get 0 fl_X3_15 dX3_put_38 rfl rfl ?_
      refine J.iload 4 dX3_put_41 rfl ?_
      refine J.aload_n 0 dX3_put_43 rfl ?_
      refine J.get 0 fl_X3_15 dX3_put_44 rfl rfl ?_
      refine J.iload 4 dX3_put_47 rfl ?_
      refine J.iconst (1 : Int32) dX3_put_49 rfl ?_
      refine J.isub dX3_put_50 ?_
      refine J.topi (y := nI xs.length) (pk_sub (a := xs.length + 1) (b := 1) (by omega)) ?_
      refine J.iald 2 (xs.length) dX3_put_51 rfl (rfl) (by omega) (by decide) ?_
      refine J.iast 2 (xs.length + 1) dX3_put_52 rfl (rfl) (by omega) (by decide) (ws' := (o, .inr (3, [.ref pa, .ref qa, .ref sa])) :: (pa, .inl (G.2.1.1, 60, .inl (upd P (xs.length + 1) (P xs.length)))) :: (qa, .inl (G.2.1.1, 60, .inl (upd Q (xs.length + 1) (Q xs.length)))) :: r) rfl ?_
      refine J.iinc 4 [1, 2, 3, 4, 0] (lv' := [(0, .ref o), (1, .int n0), (2, .int (nI (key k))), (3, .int w0), (4, .int (nI xs.length))]) dX3_put_53 rfl (jdec1 _) rfl rfl ?_
      refine J.goto dX3_put_56 ?_
      exact ih _ _ (by omega) (AG_tl hA (fun j hj => pk_un (by omega))) (by rw [← hR, insF, if_neg h8])
set_option maxHeartbeats 4000000 in
set_option maxRecDepth 100000 in
theorem c_X3_put (l : Launch) (G : jG) (r : va_W) {o pa qa sa k : Nat} {key : Nat → Nat} {w0 : Int32} {P Q : Nat → Int32} (xs : List Nat) (hkey : ∀ y, key y < 600) (hx : xs.length < 60) (hA : AG P (xs.map (fun y => nI (key y)))) : Mt l G yX3_put mX3_put 0 0 0 0 [.ref o, .int (nI xs.length), .int (nI (key k)), .int w0] ((o, .inr (3, [.ref pa, .ref qa, .ref sa])) :: (pa, .inl (G.2.1.1, 60, .inl P)) :: (qa, .inl (G.2.1.1, 60, .inl Q)) :: r) (fun v w => v = none ∧ w = oX3 o pa qa sa :: iA G pa 60 (insF key k (nI (key k)) w0 P Q xs).1 :: iA G qa 60 (insF key k (nI (key k)) w0 P Q xs).2 :: r) := by
  refine Mt.of (by decide +kernel) rfl rfl (fun X B => ?_)
  show J G X mX3_put ((o, .inr (3, [.ref pa, .ref qa, .ref sa])) :: (pa, .inl (G.2.1.1, 60, .inl P)) :: (qa, .inl (G.2.1.1, 60, .inl Q)) :: r) 0 0 0 [(0, .ref o), (1, .int (nI xs.length)), (2, .int (nI (key k))), (3, .int w0)] []
  refine J.iload_n 1 dX3_put_0 rfl ?_
  refine J.istore [1, 2, 3, 4, 0] (lv' := [(0, .ref o), (1, .int (nI xs.length)), (2, .int (nI (key k))), (3, .int w0), (4, .int (nI xs.length))]) dX3_put_1 rfl rfl ?_
  exact X3_put_lp B hkey xs P Q hx hA rfl
set_option maxHeartbeats 4000000 in
set_option maxRecDepth 100000 in
theorem X3_str_lp2 {l : Launch} {G : jG} {X : jX} {r : va_W} {o pa qa sa c cta cua p q : Nat} {L F t u : Nat → Int32} (B : jB l G X 1 24 0 0 (fun v w => v = some (.int (Int32.ofInt (strV L F p q))) ∧ ∃ P Q, w = oX3 o pa qa sa :: iA G pa 60 P :: iA G qa 60 Q :: oX1 c cta cua (nI (nN L)) :: iA G cta 60 t :: iA G cua 60 u :: r) "stringOf") (i : Nat) (hc : CV L F t u) (hb : BD L F) (hp : 1 ≤ p) (hp2 : p ≤ 600) (hq : q ≤ 60) (P Q : Nat → Int32) (hQ : AG Q ((ordK (fun y => y * q % p) (nts L 60)).map (ltF L F))) (hi : i ≤ nN L) : J G X mX3_stringOf ((o, .inr (3, [.ref pa, .ref qa, .ref sa])) :: (pa, .inl (G.2.1.1, 60, .inl P)) :: (qa, .inl (G.2.1.1, 60, .inl Q)) :: (c, .inr (1, [.ref cta, .ref cua, .int (nI (nN L))])) :: (cta, .inl (G.2.1.1, 60, .inl t)) :: (cua, .inl (G.2.1.1, 60, .inl u)) :: r) 0 0 49 [(0, .ref o), (1, .ref c), (2, .int (nI p)), (3, .int (nI q)), (4, .int (Int32.ofInt (strS (ltF L F) (ordK (fun y => y * q % p) (nts L 60)) i))), (5, .int (nI i))] [] := by
  have hn := nN_le L
  have hl : (ordK (fun y => y * q % p) (nts L 60)).length = nN L := ordK_len _ _
  refine J.iload 5 dX3_stringOf_49 rfl ?_
  refine J.aload_n 1 dX3_stringOf_51 rfl ?_
  refine J.get 3 fl_X3_21 dX3_stringOf_52 rfl rfl ?_
  refine J.icmp_ge dX3_stringOf_55 (fun h9 => ?_) (fun h9 => ?_)
  · skip
    have h9 : (nN L) ≤ i := (nI_leI (a := (nN L)) (b := i) (by omega) (by omega)).mp h9
    have e : i = nN L := by omega
    subst e
    refine J.iload 4 dX3_stringOf_108 rfl ?_
    exact J.iret B dX3_stringOf_110 rfl (⟨rfl, P, Q, rfl⟩)
  · skip
    have h9 : ¬ (nN L) ≤ i := fun z => h9 ((nI_leI (a := (nN L)) (b := i) (by omega) (by omega)).mpr z)
    have h9 : i < nN L := by omega
    refine J.iload 5 dX3_stringOf_58 rfl ?_
    refine J.iconst (1 : Int32) dX3_stringOf_60 rfl ?_
    refine J.iadd dX3_stringOf_61 ?_
    refine J.topi (y := nI (i + 1)) (nI_add i 1) ?_
    refine J.aload_n 1 dX3_stringOf_62 rfl ?_
    refine J.get 3 fl_X3_21 dX3_stringOf_63 rfl rfl ?_
    refine J.icmp_ge dX3_stringOf_66 (fun h8 => ?_) (fun h8 => ?_)
    · skip
      have h8 : (nN L) ≤ (i + 1) := (nI_leI (a := (nN L)) (b := (i + 1)) (by omega) (by omega)).mp h8
      have hnx : nx (ordK (fun y => y * q % p) (nts L 60)).length i = 0 := by unfold nx; rw [hl, if_neg (by omega)]
      refine J.iconst (0 : Int32) dX3_stringOf_76 rfl ?_
      refine J.istore [1, 2, 3, 4, 5, 6, 0] (lv' := [(0, .ref o), (1, .ref c), (2, .int (nI p)), (3, .int (nI q)), (4, .int (Int32.ofInt (strS (ltF L F) (ordK (fun y => y * q % p) (nts L 60)) i))), (5, .int (nI i)), (6, .int (0 : Int32))]) dX3_stringOf_77 rfl rfl ?_
      refine J.iload 4 dX3_stringOf_79 rfl ?_
      refine J.aload_n 0 dX3_stringOf_81 rfl ?_
      refine J.get 0 fl_X3_15 dX3_stringOf_82 rfl rfl ?_
      refine J.iload 5 dX3_stringOf_85 rfl ?_
      refine J.iald 2 (i) dX3_stringOf_87 rfl (rfl) (by omega) (by decide) ?_
      refine J.aload_n 0 dX3_stringOf_88 rfl ?_
      refine J.get 0 fl_X3_15 dX3_stringOf_89 rfl rfl ?_
      refine J.iload 6 dX3_stringOf_92 rfl ?_
      refine J.iald 2 (0) dX3_stringOf_94 rfl (rfl) (by omega) (by decide) ?_
      refine J.isub dX3_stringOf_95 ?_
      refine J.callS (st := [.int (Int32.ofInt (strS (ltF L F) (ordK (fun y => y * q % p) (nts L 60)) i))]) B (c_J9_abs_0f7a4 l G _ (a := (Q i) - (Q 0))) ml_X3_39 mf_yJ9_abs_0f7a4 mS_yJ9_abs_0f7a4 dX3_stringOf_96 rfl rfl rfl (fun v_1 w_2 hp_3 => ?_)
      obtain ⟨rfl, rfl⟩ := hp_3
      show J G X mX3_stringOf _ _ _ 99 _ [.int (if 0 ≤ ((Q i) - (Q 0)) then (Q i) - (Q 0) else -((Q i) - (Q 0))), .int (Int32.ofInt (strS (ltF L F) (ordK (fun y => y * q % p) (nts L 60)) i))]
      refine J.iadd dX3_stringOf_99 ?_
      refine J.istore [1, 2, 3, 4, 0, 5, 6] (lv' := [(0, .ref o), (1, .ref c), (2, .int (nI p)), (3, .int (nI q)), (4, .int ((Int32.ofInt (strS (ltF L F) (ordK (fun y => y * q % p) (nts L 60)) i)) + (if 0 ≤ ((Q i) - (Q 0)) then (Q i) - (Q 0) else -((Q i) - (Q 0))))), (5, .int (nI i)), (6, .int (0 : Int32))]) dX3_stringOf_100 rfl rfl ?_
      refine J.iinc 5 [1, 2, 3, 4, 5, 0, 6] (lv' := [(0, .ref o), (1, .ref c), (2, .int (nI p)), (3, .int (nI q)), (4, .int ((Int32.ofInt (strS (ltF L F) (ordK (fun y => y * q % p) (nts L 60)) i)) + (if 0 ≤ ((Q i) - (Q 0)) then (Q i) - (Q 0) else -((Q i) - (Q 0))))), (5, .int (nI (i + 1))), (6, .int (0 : Int32))]) dX3_stringOf_102 rfl (jinc1 _) rfl rfl ?_
      refine J.goto dX3_stringOf_105 ?_
      refine J.loc [0, 1, 2, 3, 4, 5] (lv' := [(0, .ref o), (1, .ref c), (2, .int (nI p)), (3, .int (nI q)), (4, .int ((Int32.ofInt (strS (ltF L F) (ordK (fun y => y * q % p) (nts L 60)) i)) + (if 0 ≤ ((Q i) - (Q 0)) then (Q i) - (Q 0) else -((Q i) - (Q 0))))), (5, .int (nI (i + 1)))]) rfl ?_
      refine J.lveq (l2 := [(0, .ref o), (1, .ref c), (2, .int (nI p)), (3, .int (nI q)), (4, .int (Int32.ofInt (strS (ltF L F) (ordK (fun y => y * q % p) (nts L 60)) (i + 1)))), (5, .int (nI (i + 1)))]) (by rw [str_stepI hb (fun y => y * q % p) (i := i) h9 (AG_rg hQ (by rw [hl]; exact h9)) (hnx.symm ▸ AG_rg hQ (by rw [hl]; omega))]) ?_
      exact X3_str_lp2 B (i + 1) hc hb hp hp2 hq P Q hQ (by omega)
    · skip
      have h8 : ¬ (nN L) ≤ (i + 1) := fun z => h8 ((nI_leI (a := (nN L)) (b := (i + 1)) (by omega) (by omega)).mpr z)
      have hnx : nx (ordK (fun y => y * q % p) (nts L 60)).length i = i + 1 := by unfold nx; rw [hl, if_pos (by omega)]
      refine J.iload 5 dX3_stringOf_69 rfl ?_
      refine J.iconst (1 : Int32) dX3_stringOf_71 rfl ?_
      refine J.iadd dX3_stringOf_72 ?_
      refine J.topi (y := nI (i + 1)) (nI_add i 1) ?_
      refine J.goto dX3_stringOf_73 ?_
      refine J.istore [1, 2, 3, 4, 5, 6, 0] (lv' := [(0, .ref o), (1, .ref c), (2, .int (nI p)), (3, .int (nI q)), (4, .int (Int32.ofInt (strS (ltF L F) (ordK (fun y => y * q % p) (nts L 60)) i))), (5, .int (nI i)), (6, .int (nI (i + 1)))]) dX3_stringOf_77 rfl rfl ?_
      refine J.iload 4 dX3_stringOf_79 rfl ?_
      refine J.aload_n 0 dX3_stringOf_81 rfl ?_
      refine J.get 0 fl_X3_15 dX3_stringOf_82 rfl rfl ?_
      refine J.iload 5 dX3_stringOf_85 rfl ?_
      refine J.iald 2 (i) dX3_stringOf_87 rfl (rfl) (by omega) (by decide) ?_
      refine J.aload_n 0 dX3_stringOf_88 rfl ?_
      refine J.get 0 fl_X3_15 dX3_stringOf_89 rfl rfl ?_
      refine J.iload 6 dX3_stringOf_92 rfl ?_
      refine J.iald 2 (i + 1) dX3_stringOf_94 rfl (rfl) (by omega) (by decide) ?_
      refine J.isub dX3_stringOf_95 ?_
      refine J.callS (st := [.int (Int32.ofInt (strS (ltF L F) (ordK (fun y => y * q % p) (nts L 60)) i))]) B (c_J9_abs_0f7a4 l G _ (a := (Q i) - (Q (i + 1)))) ml_X3_39 mf_yJ9_abs_0f7a4 mS_yJ9_abs_0f7a4 dX3_stringOf_96 rfl rfl rfl (fun v_4 w_5 hp_6 => ?_)
      obtain ⟨rfl, rfl⟩ := hp_6
      show J G X mX3_stringOf _ _ _ 99 _ [.int (if 0 ≤ ((Q i) - (Q (i + 1))) then (Q i) - (Q (i + 1)) else -((Q i) - (Q (i + 1)))), .int (Int32.ofInt (strS (ltF L F) (ordK (fun y => y * q % p) (nts L 60)) i))]
      refine J.iadd dX3_stringOf_99 ?_
      refine J.istore [1, 2, 3, 4, 0, 5, 6] (lv' := [(0, .ref o), (1, .ref c), (2, .int (nI p)), (3, .int (nI q)), (4, .int ((Int32.ofInt (strS (ltF L F) (ordK (fun y => y * q % p) (nts L 60)) i)) + (if 0 ≤ ((Q i) - (Q (i + 1))) then (Q i) - (Q (i + 1)) else -((Q i) - (Q (i + 1)))))), (5, .int (nI i)), (6, .int (nI (i + 1)))]) dX3_stringOf_100 rfl rfl ?_
      refine J.iinc 5 [1, 2, 3, 4, 5, 0, 6] (lv' := [(0, .ref o), (1, .ref c), (2, .int (nI p)), (3, .int (nI q)), (4, .int ((Int32.ofInt (strS (ltF L F) (ordK (fun y => y * q % p) (nts L 60)) i)) + (if 0 ≤ ((Q i) - (Q (i + 1))) then (Q i) - (Q (i + 1)) else -((Q i) - (Q (i + 1)))))), (5, .int (nI (i + 1))), (6, .int (nI (i + 1)))]) dX3_stringOf_102 rfl (jinc1 _) rfl rfl ?_
      refine J.goto dX3_stringOf_105 ?_
      refine J.loc [0, 1, 2, 3, 4, 5] (lv' := [(0, .ref o), (1, .ref c), (2, .int (nI p)), (3, .int (nI q)), (4, .int ((Int32.ofInt (strS (ltF L F) (ordK (fun y => y * q % p) (nts L 60)) i)) + (if 0 ≤ ((Q i) - (Q (i + 1))) then (Q i) - (Q (i + 1)) else -((Q i) - (Q (i + 1)))))), (5, .int (nI (i + 1)))]) rfl ?_
      refine J.lveq (l2 := [(0, .ref o), (1, .ref c), (2, .int (nI p)), (3, .int (nI q)), (4, .int (Int32.ofInt (strS (ltF L F) (ordK (fun y => y * q % p) (nts L 60)) (i + 1)))), (5, .int (nI (i + 1)))]) (by rw [str_stepI hb (fun y => y * q % p) (i := i) h9 (AG_rg hQ (by rw [hl]; exact h9)) (hnx.symm ▸ AG_rg hQ (by rw [hl]; omega))]) ?_
      exact X3_str_lp2 B (i + 1) hc hb hp hp2 hq P Q hQ (by omega)
termination_by nN L - i
decreasing_by all_goals omega
set_option maxHeartbeats 4000000 in
set_option maxRecDepth 100000 in
theorem X3_str_lp1 {l : Launch} {G : jG} {X : jX} {r : va_W} {o pa qa sa c cta cua p q : Nat} {L F t u : Nat → Int32} (B : jB l G X 1 24 0 0 (fun v w => v = some (.int (Int32.ofInt (strV L F p q))) ∧ ∃ P Q, w = oX3 o pa qa sa :: iA G pa 60 P :: iA G qa 60 Q :: oX1 c cta cua (nI (nN L)) :: iA G cta 60 t :: iA G cua 60 u :: r) "stringOf") (i : Nat) (P Q : Nat → Int32) (hc : CV L F t u) (hb : BD L F) (hp : 1 ≤ p) (hp2 : p ≤ 600) (hq : q ≤ 60) (hi : i ≤ nN L) (hP : AG P ((ordK (fun y => y * q % p) ((nts L 60).take i)).map (fun y => nI (y * q % p)))) (hQ : AG Q ((ordK (fun y => y * q % p) ((nts L 60).take i)).map (ltF L F))) : J G X mX3_stringOf ((o, .inr (3, [.ref pa, .ref qa, .ref sa])) :: (pa, .inl (G.2.1.1, 60, .inl P)) :: (qa, .inl (G.2.1.1, 60, .inl Q)) :: (c, .inr (1, [.ref cta, .ref cua, .int (nI (nN L))])) :: (cta, .inl (G.2.1.1, 60, .inl t)) :: (cua, .inl (G.2.1.1, 60, .inl u)) :: r) 0 0 3 [(0, .ref o), (1, .ref c), (2, .int (nI p)), (3, .int (nI q)), (4, .int (nI i))] [] := by
  have hn := nN_le L
  have hlen : (ordK (fun y => y * q % p) ((nts L 60).take i)).length = i := take_ordK_len hi _
  refine J.iload 4 dX3_stringOf_3 rfl ?_
  refine J.aload_n 1 dX3_stringOf_5 rfl ?_
  refine J.get 3 fl_X3_21 dX3_stringOf_6 rfl rfl ?_
  refine J.icmp_ge dX3_stringOf_9 (fun h9 => ?_) (fun h9 => ?_)
  · skip
    have h9 : (nN L) ≤ i := (nI_leI (a := (nN L)) (b := i) (by omega) (by omega)).mp h9
    have e : i = nN L := by omega
    subst e
    rw [List.take_length] at hQ
    refine J.iconst (0 : Int32) dX3_stringOf_43 rfl ?_
    refine J.istore [1, 2, 3, 4, 0] (lv' := [(0, .ref o), (1, .ref c), (2, .int (nI p)), (3, .int (nI q)), (4, .int (0 : Int32))]) dX3_stringOf_44 rfl rfl ?_
    refine J.iconst (0 : Int32) dX3_stringOf_46 rfl ?_
    refine J.istore [1, 2, 3, 4, 5, 0] (lv' := [(0, .ref o), (1, .ref c), (2, .int (nI p)), (3, .int (nI q)), (4, .int (0 : Int32)), (5, .int (0 : Int32))]) dX3_stringOf_47 rfl rfl ?_
    exact X3_str_lp2 B 0 hc hb hp hp2 hq P Q hQ (by omega)
  · skip
    have h9 : ¬ (nN L) ≤ i := fun z => h9 ((nI_leI (a := (nN L)) (b := i) (by omega) (by omega)).mpr z)
    have h9 : i < nN L := by omega
    refine J.aload_n 0 dX3_stringOf_12 rfl ?_
    refine J.iload 4 dX3_stringOf_13 rfl ?_
    refine J.aload_n 1 dX3_stringOf_15 rfl ?_
    refine J.get 3 fl_X3_27 dX3_stringOf_16 rfl rfl ?_
    refine J.iload 4 dX3_stringOf_19 rfl ?_
    refine J.iald 4 (i) dX3_stringOf_21 rfl (rfl) (by omega) (by decide) ?_
    refine J.topi (y := nI (ntN L i)) ((hc i h9).1) ?_
    refine J.iload_n 2 dX3_stringOf_22 rfl ?_
    refine J.iload_n 3 dX3_stringOf_23 rfl ?_
    refine J.callS (st := [.int (nI i), .ref o]) B (c_X7_phaseOfTime l G _ (k := ntN L i) (p := p) (q := q) hp hp2 (ntN_lt h9).1 hq) ml_X3_30 mf_yX7_phaseOfTime mS_yX7_phaseOfTime dX3_stringOf_24 rfl rfl rfl (fun v_1 w_2 hp_3 => ?_)
    obtain ⟨rfl, rfl⟩ := hp_3
    show J G X mX3_stringOf _ _ _ 27 _ [.int (nI ((ntN L i) * q % p)), .int (nI i), .ref o]
    refine J.aload_n 1 dX3_stringOf_27 rfl ?_
    refine J.get 3 fl_X3_34 dX3_stringOf_28 rfl rfl ?_
    refine J.iload 4 dX3_stringOf_31 rfl ?_
    refine J.iald 5 (i) dX3_stringOf_33 rfl (rfl) (by omega) (by decide) ?_
    refine J.topi (y := ltF L F (ntN L i)) ((hc i h9).2) ?_
    refine J.lveq (l2 := [(0, .ref o), (1, .ref c), (2, .int (nI p)), (3, .int (nI q)), (4, .int (nI i))]) rfl ?_
    refine J.callV 0 (st := []) B (hlen ▸ c_X3_put l G _ (k := ntN L i) (key := (fun y => y * q % p)) (w0 := ltF L F (ntN L i)) (ordK (fun y => y * q % p) ((nts L 60).take i)) (key_lt hp hp2) (by rw [hlen]; omega) hP) ml_X3_35 mf_yX3_put mi_yX3_put rfl dX3_stringOf_34 rfl rfl rfl rfl (fun v_4 w_5 hp_6 => ?_)
    obtain ⟨rfl, rfl⟩ := hp_6
    show J G X mX3_stringOf _ _ _ 37 _ []
    refine J.iinc 4 [1, 2, 3, 4, 0] (lv' := [(0, .ref o), (1, .ref c), (2, .int (nI p)), (3, .int (nI q)), (4, .int (nI (i + 1)))]) dX3_stringOf_37 rfl (jinc1 _) rfl rfl ?_
    refine J.goto dX3_stringOf_40 ?_
    have ha := AG_insF (fun y => y * q % p) (ntN L i) (fun y => nI (y * q % p)) (ltF L F) _ P Q hP hQ
    rw [← take_ordK h9 (fun y => y * q % p)] at ha
    exact X3_str_lp1 B (i + 1) _ _ hc hb hp hp2 hq (by omega) ha.1 ha.2
termination_by nN L - i
decreasing_by all_goals omega
set_option maxHeartbeats 4000000 in
set_option maxRecDepth 100000 in
theorem c_X3_stringOf (l : Launch) (G : jG) (r : va_W) {o pa qa sa c cta cua p q : Nat} {L F t u : Nat → Int32} {P Q : Nat → Int32} (hc : CV L F t u) (hb : BD L F) (hp : 1 ≤ p) (hp2 : p ≤ 600) (hq : q ≤ 60) : Mt l G yX3_stringOf mX3_stringOf 1 24 0 0 [.ref o, .ref c, .int (nI p), .int (nI q)] ((o, .inr (3, [.ref pa, .ref qa, .ref sa])) :: (pa, .inl (G.2.1.1, 60, .inl P)) :: (qa, .inl (G.2.1.1, 60, .inl Q)) :: (c, .inr (1, [.ref cta, .ref cua, .int (nI (nN L))])) :: (cta, .inl (G.2.1.1, 60, .inl t)) :: (cua, .inl (G.2.1.1, 60, .inl u)) :: r) (fun v w => v = some (.int (Int32.ofInt (strV L F p q))) ∧ ∃ P Q, w = oX3 o pa qa sa :: iA G pa 60 P :: iA G qa 60 Q :: oX1 c cta cua (nI (nN L)) :: iA G cta 60 t :: iA G cua 60 u :: r) := by
  refine Mt.of (by decide +kernel) rfl rfl (fun X B => ?_)
  show J G X mX3_stringOf ((o, .inr (3, [.ref pa, .ref qa, .ref sa])) :: (pa, .inl (G.2.1.1, 60, .inl P)) :: (qa, .inl (G.2.1.1, 60, .inl Q)) :: (c, .inr (1, [.ref cta, .ref cua, .int (nI (nN L))])) :: (cta, .inl (G.2.1.1, 60, .inl t)) :: (cua, .inl (G.2.1.1, 60, .inl u)) :: r) 0 0 0 [(0, .ref o), (1, .ref c), (2, .int (nI p)), (3, .int (nI q))] []
  refine J.iconst (0 : Int32) dX3_stringOf_0 rfl ?_
  refine J.istore [1, 2, 3, 4, 0] (lv' := [(0, .ref o), (1, .ref c), (2, .int (nI p)), (3, .int (nI q)), (4, .int (0 : Int32))]) dX3_stringOf_1 rfl rfl ?_
  exact X3_str_lp1 B 0 P Q hc hb hp hp2 hq (by omega) trivial trivial
set_option maxHeartbeats 4000000 in
set_option maxRecDepth 100000 in
theorem X3_sft_lp {l : Launch} {G : jG} {X : jX} {r : va_W} {o pa qa sa c cta cua q a b : Nat} {L F t u : Nat → Int32} (B : jB l G X 2 50 0 0 (fun v w => ∃ P Q S, (∀ j, a ≤ j → j ≤ b → S j = Int32.ofInt (strV L F j q)) ∧ v = none ∧ w = oX3 o pa qa sa :: iA G pa 60 P :: iA G qa 60 Q :: iA G sa 601 S :: oX1 c cta cua (nI (nN L)) :: iA G cta 60 t :: iA G cua 60 u :: r) "stringsFromTo") (p : Nat) (P Q S : Nat → Int32) (hc : CV L F t u) (hb : BD L F) (ha : 1 ≤ a) (hb2 : b ≤ 600) (hq : q ≤ 60) (hap : a ≤ p) (hpb : p ≤ b + 1) (hS : ∀ j, a ≤ j → j < p → S j = Int32.ofInt (strV L F j q)) : J G X mX3_stringsFromTo ((o, .inr (3, [.ref pa, .ref qa, .ref sa])) :: (pa, .inl (G.2.1.1, 60, .inl P)) :: (qa, .inl (G.2.1.1, 60, .inl Q)) :: (sa, .inl (G.2.1.1, 601, .inl S)) :: (c, .inr (1, [.ref cta, .ref cua, .int (nI (nN L))])) :: (cta, .inl (G.2.1.1, 60, .inl t)) :: (cua, .inl (G.2.1.1, 60, .inl u)) :: r) 0 0 3 [(0, .ref o), (1, .ref c), (2, .int (nI q)), (3, .int (nI a)), (4, .int (nI b)), (5, .int (nI p))] [] := by
  refine J.iload 5 dX3_stringsFromTo_3 rfl ?_
  refine J.iload 4 dX3_stringsFromTo_5 rfl ?_
  refine J.icmp_gt dX3_stringsFromTo_7 (fun h9 => ?_) (fun h9 => ?_)
  · skip
    have h9 : b < p := (nI_ltI (a := b) (b := p) (by omega) (by omega)).mp h9
    exact J.vret B dX3_stringsFromTo_31 rfl (⟨P, Q, S, fun j h1 h2 => hS j h1 (by omega), rfl, rfl⟩)
  · skip
    have h9 : ¬ b < p := fun z => h9 ((nI_ltI (a := b) (b := p) (by omega) (by omega)).mpr z)
    refine J.aload_n 0 dX3_stringsFromTo_10 rfl ?_
    refine J.get 0 fl_X3_18 dX3_stringsFromTo_11 rfl rfl ?_
    refine J.iload 5 dX3_stringsFromTo_14 rfl ?_
    refine J.aload_n 0 dX3_stringsFromTo_16 rfl ?_
    refine J.aload_n 1 dX3_stringsFromTo_17 rfl ?_
    refine J.iload 5 dX3_stringsFromTo_18 rfl ?_
    refine J.iload_n 2 dX3_stringsFromTo_20 rfl ?_
    refine J.re [0, 1, 2, 4, 5, 6, 3] 7 (ws2 := (o, .inr (3, [.ref pa, .ref qa, .ref sa])) :: (pa, .inl (G.2.1.1, 60, .inl P)) :: (qa, .inl (G.2.1.1, 60, .inl Q)) :: (c, .inr (1, [.ref cta, .ref cua, .int (nI (nN L))])) :: (cta, .inl (G.2.1.1, 60, .inl t)) :: (cua, .inl (G.2.1.1, 60, .inl u)) :: (sa, .inl (G.2.1.1, 601, .inl S)) :: r) rfl rfl ?_
    refine J.callV 0 (st := [.int (nI p), .ref sa]) B (c_X3_stringOf l G _ (p := p) (q := q) hc hb (by omega) (by omega) hq) ml_X3_45 mf_yX3_stringOf mi_yX3_stringOf rfl dX3_stringsFromTo_21 rfl rfl rfl rfl (fun v_1 w_2 hp_3 => ?_)
    obtain ⟨rfl, P1, Q1, rfl⟩ := hp_3
    refine J.re [0, 1, 2, 6, 3, 4, 5] 7 (ws2 := (o, .inr (3, [.ref pa, .ref qa, .ref sa])) :: (pa, .inl (G.2.1.1, 60, .inl P1)) :: (qa, .inl (G.2.1.1, 60, .inl Q1)) :: (sa, .inl (G.2.1.1, 601, .inl S)) :: (c, .inr (1, [.ref cta, .ref cua, .int (nI (nN L))])) :: (cta, .inl (G.2.1.1, 60, .inl t)) :: (cua, .inl (G.2.1.1, 60, .inl u)) :: r) rfl rfl ?_
    show J G X mX3_stringsFromTo _ _ _ 24 _ [.int (Int32.ofInt (strV L F p q)), .int (nI p), .ref sa]
    refine J.iast 3 (p) dX3_stringsFromTo_24 rfl (rfl) (by omega) (by decide) (ws' := (o, .inr (3, [.ref pa, .ref qa, .ref sa])) :: (pa, .inl (G.2.1.1, 60, .inl P1)) :: (qa, .inl (G.2.1.1, 60, .inl Q1)) :: (sa, .inl (G.2.1.1, 601, .inl (upd S p (Int32.ofInt (strV L F p q))))) :: (c, .inr (1, [.ref cta, .ref cua, .int (nI (nN L))])) :: (cta, .inl (G.2.1.1, 60, .inl t)) :: (cua, .inl (G.2.1.1, 60, .inl u)) :: r) rfl ?_
    refine J.iinc 5 [1, 2, 3, 4, 5, 0] (lv' := [(0, .ref o), (1, .ref c), (2, .int (nI q)), (3, .int (nI a)), (4, .int (nI b)), (5, .int (nI (p + 1)))]) dX3_stringsFromTo_25 rfl (jinc1 _) rfl rfl ?_
    refine J.goto dX3_stringsFromTo_28 ?_
    exact X3_sft_lp B (p + 1) _ _ _ hc hb ha hb2 hq (by omega) (by omega) (fun j h1 h2 => by
      rcases Nat.lt_or_ge j p with h3 | h3
      · rw [pk_un (by omega)]; exact hS j h1 h3
      · rw [show j = p by omega]; exact pk_us)
termination_by b + 1 - p
decreasing_by all_goals omega
set_option maxHeartbeats 4000000 in
set_option maxRecDepth 100000 in
theorem c_X3_stringsFromTo (l : Launch) (G : jG) (r : va_W) {o pa qa sa c cta cua q a b : Nat} {L F t u : Nat → Int32} {P Q S : Nat → Int32} (hc : CV L F t u) (hb : BD L F) (ha : 1 ≤ a) (hb2 : b ≤ 600) (hq : q ≤ 60) (hab : a ≤ b) : Mt l G yX3_stringsFromTo mX3_stringsFromTo 2 50 0 0 [.ref o, .ref c, .int (nI q), .int (nI a), .int (nI b)] ((o, .inr (3, [.ref pa, .ref qa, .ref sa])) :: (pa, .inl (G.2.1.1, 60, .inl P)) :: (qa, .inl (G.2.1.1, 60, .inl Q)) :: (sa, .inl (G.2.1.1, 601, .inl S)) :: (c, .inr (1, [.ref cta, .ref cua, .int (nI (nN L))])) :: (cta, .inl (G.2.1.1, 60, .inl t)) :: (cua, .inl (G.2.1.1, 60, .inl u)) :: r) (fun v w => ∃ P Q S, (∀ j, a ≤ j → j ≤ b → S j = Int32.ofInt (strV L F j q)) ∧ v = none ∧ w = oX3 o pa qa sa :: iA G pa 60 P :: iA G qa 60 Q :: iA G sa 601 S :: oX1 c cta cua (nI (nN L)) :: iA G cta 60 t :: iA G cua 60 u :: r) := by
  refine Mt.of (by decide +kernel) rfl rfl (fun X B => ?_)
  show J G X mX3_stringsFromTo ((o, .inr (3, [.ref pa, .ref qa, .ref sa])) :: (pa, .inl (G.2.1.1, 60, .inl P)) :: (qa, .inl (G.2.1.1, 60, .inl Q)) :: (sa, .inl (G.2.1.1, 601, .inl S)) :: (c, .inr (1, [.ref cta, .ref cua, .int (nI (nN L))])) :: (cta, .inl (G.2.1.1, 60, .inl t)) :: (cua, .inl (G.2.1.1, 60, .inl u)) :: r) 0 0 0 [(0, .ref o), (1, .ref c), (2, .int (nI q)), (3, .int (nI a)), (4, .int (nI b))] []
  refine J.iload_n 3 dX3_stringsFromTo_0 rfl ?_
  refine J.istore [1, 2, 3, 4, 5, 0] (lv' := [(0, .ref o), (1, .ref c), (2, .int (nI q)), (3, .int (nI a)), (4, .int (nI b)), (5, .int (nI a))]) dX3_stringsFromTo_1 rfl rfl ?_
  exact X3_sft_lp B a P Q S hc hb ha hb2 hq (Nat.le_refl _) (by omega) (fun j h1 h2 => absurd h2 (by omega))
set_option maxHeartbeats 4000000 in
set_option maxRecDepth 100000 in
theorem X3_lft_lp {l : Launch} {G : jG} {X : jX} {r : va_W} {o pa qa sa a b : Nat} {S : Nat → Int32} {g : Nat → Int} (B : jB l G X 0 0 0 0 (fun v w => v = some (.int (nI (lstN g a (b - a)))) ∧ w = oX3 o pa qa sa :: iA G sa 601 S :: r) "leastFromTo") (d : Nat) (hb2 : b ≤ 600) (hS : ∀ j, a ≤ j → j ≤ b → S j = Int32.ofInt (g j)) (hg : ∀ j, 0 ≤ g j ∧ g j ≤ 2400000) (hd : a + d ≤ b) : J G X mX3_leastFromTo ((o, .inr (3, [.ref pa, .ref qa, .ref sa])) :: (sa, .inl (G.2.1.1, 601, .inl S)) :: r) 0 0 7 [(0, .ref o), (1, .int (nI a)), (2, .int (nI b)), (3, .int (nI (lstN g a d))), (4, .int (nI (a + d + 1)))] [] := by
  have hl := lstN_in g a d
  refine J.iload 4 dX3_leastFromTo_7 rfl ?_
  refine J.iload_n 2 dX3_leastFromTo_9 rfl ?_
  refine J.icmp_gt dX3_leastFromTo_10 (fun h9 => ?_) (fun h9 => ?_)
  · skip
    have h9 : b < (a + d + 1) := (nI_ltI (a := b) (b := (a + d + 1)) (by omega) (by omega)).mp h9
    refine J.iload_n 3 dX3_leastFromTo_38 rfl ?_
    exact J.iret B dX3_leastFromTo_39 rfl (⟨by rw [show b - a = d by omega], rfl⟩)
  · skip
    have h9 : ¬ b < (a + d + 1) := fun z => h9 ((nI_ltI (a := b) (b := (a + d + 1)) (by omega) (by omega)).mpr z)
    refine J.aload_n 0 dX3_leastFromTo_13 rfl ?_
    refine J.get 0 fl_X3_18 dX3_leastFromTo_14 rfl rfl ?_
    refine J.iload 4 dX3_leastFromTo_17 rfl ?_
    refine J.iald 1 (a + d + 1) dX3_leastFromTo_19 rfl (rfl) (by omega) (by decide) ?_
    refine J.aload_n 0 dX3_leastFromTo_20 rfl ?_
    refine J.get 0 fl_X3_18 dX3_leastFromTo_21 rfl rfl ?_
    refine J.iload_n 3 dX3_leastFromTo_24 rfl ?_
    refine J.iald 1 (lstN g a d) dX3_leastFromTo_25 rfl (rfl) (by omega) (by decide) ?_
    refine J.icmp_ge dX3_leastFromTo_26 (fun h8 => ?_) (fun h8 => ?_)
    · skip
      refine J.iinc 4 [1, 2, 3, 4, 0] (lv' := [(0, .ref o), (1, .int (nI a)), (2, .int (nI b)), (3, .int (nI (lstN g a d))), (4, .int (nI (a + d + 1 + 1)))]) dX3_leastFromTo_32 rfl (jinc1 _) rfl rfl ?_
      refine J.goto dX3_leastFromTo_35 ?_
      have he : lstN g a (d + 1) = lstN g a d := by
        rw [hS _ (by omega) (by omega), hS _ (by omega) (by omega)] at h8
        rw [ofI_lt (hg _) (hg _)] at h8
        rw [lstN_s, if_neg (by omega)]
      have hq := X3_lft_lp B (d + 1) hb2 hS hg (by omega)
      rw [he] at hq
      exact hq
    · skip
      refine J.iload 4 dX3_leastFromTo_29 rfl ?_
      refine J.istore_n [1, 2, 3, 0, 4] (lv' := [(0, .ref o), (1, .int (nI a)), (2, .int (nI b)), (3, .int (nI (a + d + 1))), (4, .int (nI (a + d + 1)))]) dX3_leastFromTo_31 rfl rfl ?_
      refine J.iinc 4 [1, 2, 3, 4, 0] (lv' := [(0, .ref o), (1, .int (nI a)), (2, .int (nI b)), (3, .int (nI (a + d + 1))), (4, .int (nI (a + d + 1 + 1)))]) dX3_leastFromTo_32 rfl (jinc1 _) rfl rfl ?_
      refine J.goto dX3_leastFromTo_35 ?_
      have he : lstN g a (d + 1) = a + d + 1 := by
        rw [hS _ (by omega) (by omega), hS _ (by omega) (by omega)] at h8
        rw [ofI_lt (hg _) (hg _)] at h8
        rw [lstN_s, if_pos (by omega)]
      have hq := X3_lft_lp B (d + 1) hb2 hS hg (by omega)
      rw [he] at hq
      exact hq
termination_by b - (a + d)
decreasing_by all_goals omega
set_option maxHeartbeats 4000000 in
set_option maxRecDepth 100000 in
theorem c_X3_leastFromTo (l : Launch) (G : jG) (r : va_W) {o pa qa sa a b : Nat} {S : Nat → Int32} {g : Nat → Int} (hb2 : b ≤ 600) (hS : ∀ j, a ≤ j → j ≤ b → S j = Int32.ofInt (g j)) (hg : ∀ j, 0 ≤ g j ∧ g j ≤ 2400000) (hab : a ≤ b) : Mt l G yX3_leastFromTo mX3_leastFromTo 0 0 0 0 [.ref o, .int (nI a), .int (nI b)] ((o, .inr (3, [.ref pa, .ref qa, .ref sa])) :: (sa, .inl (G.2.1.1, 601, .inl S)) :: r) (fun v w => v = some (.int (nI (lstN g a (b - a)))) ∧ w = oX3 o pa qa sa :: iA G sa 601 S :: r) := by
  refine Mt.of (by decide +kernel) rfl rfl (fun X B => ?_)
  show J G X mX3_leastFromTo ((o, .inr (3, [.ref pa, .ref qa, .ref sa])) :: (sa, .inl (G.2.1.1, 601, .inl S)) :: r) 0 0 0 [(0, .ref o), (1, .int (nI a)), (2, .int (nI b))] []
  refine J.iload_n 1 dX3_leastFromTo_0 rfl ?_
  refine J.istore_n [1, 2, 3, 0] (lv' := [(0, .ref o), (1, .int (nI a)), (2, .int (nI b)), (3, .int (nI a))]) dX3_leastFromTo_1 rfl rfl ?_
  refine J.iload_n 1 dX3_leastFromTo_2 rfl ?_
  refine J.iconst (1 : Int32) dX3_leastFromTo_3 rfl ?_
  refine J.iadd dX3_leastFromTo_4 ?_
  refine J.topi (y := nI (a + 1)) (nI_add a 1) ?_
  refine J.istore [1, 2, 3, 4, 0] (lv' := [(0, .ref o), (1, .int (nI a)), (2, .int (nI b)), (3, .int (nI a)), (4, .int (nI (a + 1)))]) dX3_leastFromTo_5 rfl rfl ?_
  exact X3_lft_lp B 0 hb2 hS hg (by omega)
