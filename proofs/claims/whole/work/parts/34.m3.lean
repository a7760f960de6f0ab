set_option maxHeartbeats 4000000 in
set_option maxRecDepth 100000 in
theorem X8_str_in {l : Launch} {G : jG} {X : jX} {r : va_W} {m : Nat} {D : Nat → Nat} {fi : Int32} {as : Int64} {ns : Nat} {ii : Int32} {de : Int64} {dl dp dc : Int32} {nr : Nat} {al wa : Int32} {ml F : Nat → Int32} {s p q : Nat} {n k : Nat} {R0 : Nat → Int32} (B : jB l G X 1 22 0 0 (fun v w => v = some (.long (Int64.ofInt (strV (rowM ml s) F p q))) ∧ ∃ od1, w = (m, .inr (8, [.int fi, .ref (D 0), .long as, .int (nI ns), .ref (D 1), .ref (D 2), .ref (D 3), .ref (D 4), .ref (D 5), .ref (D 6), .ref (D 7), .ref (D 8), .int ii, .long de, .int dl, .int dp, .int dc, .ref (D 9), .int (nI nr), .ref (D 10), .ref (D 11), .ref (D 12), .ref (D 13), .ref (D 14), .int al, .int wa])) :: (D 3, .inl (G.2.1.1, 720, .inl ml)) :: (D 4, .inl (G.2.1.1, 60, .inl F)) :: (D 8, .inl (G.2.1.1, 60, .inl od1)) :: r) "stringOf") (hs : s < 12) (hb : BD (rowM ml s) F) (hp : 1 ≤ p) (hp2 : p ≤ 600) (hq : q ≤ 60) (hk : k < 60) (hK : J G X mX8_stringOf ((m, .inr (8, [.int fi, .ref (D 0), .long as, .int (nI ns), .ref (D 1), .ref (D 2), .ref (D 3), .ref (D 4), .ref (D 5), .ref (D 6), .ref (D 7), .ref (D 8), .int ii, .long de, .int dl, .int dp, .int dc, .ref (D 9), .int (nI nr), .ref (D 10), .ref (D 11), .ref (D 12), .ref (D 13), .ref (D 14), .int al, .int wa])) :: (D 3, .inl (G.2.1.1, 720, .inl ml)) :: (D 4, .inl (G.2.1.1, 60, .inl F)) :: (D 8, .inl (G.2.1.1, 60, .inl R0)) :: r) 0 0 6 [(0, .ref m), (1, .int (nI s)), (2, .int (nI p)), (3, .int (nI q)), (4, .int (nI (n + 1))), (5, .int (nI (k + 1)))] []) : ∀ (xs : List Nat) (f : Nat → Int32), xs.length < 60 → (∀ y ∈ xs, y < 60) → AG f (xs.map nI) → insO (fun y => y * q % p) k f xs = R0 → J G X mX8_stringOf ((m, .inr (8, [.int fi, .ref (D 0), .long as, .int (nI ns), .ref (D 1), .ref (D 2), .ref (D 3), .ref (D 4), .ref (D 5), .ref (D 6), .ref (D 7), .ref (D 8), .int ii, .long de, .int dl, .int dp, .int dc, .ref (D 9), .int (nI nr), .ref (D 10), .ref (D 11), .ref (D 12), .ref (D 13), .ref (D 14), .int al, .int wa])) :: (D 3, .inl (G.2.1.1, 720, .inl ml)) :: (D 4, .inl (G.2.1.1, 60, .inl F)) :: (D 8, .inl (G.2.1.1, 60, .inl f)) :: r) 0 0 27 [(0, .ref m), (1, .int (nI s)), (2, .int (nI p)), (3, .int (nI q)), (4, .int (nI n)), (5, .int (nI k)), (6, .int (nI xs.length))] [] := by
  intro xs
  have hkq : k * q ≤ 60 * 60 := Nat.mul_le_mul (by omega) hq
  have hk2 := key_lt (q := q) hp hp2 k
  induction xs with
  | nil =>
    intro f hx hy hA hR
    show J G X mX8_stringOf ((m, .inr (8, [.int fi, .ref (D 0), .long as, .int (nI ns), .ref (D 1), .ref (D 2), .ref (D 3), .ref (D 4), .ref (D 5), .ref (D 6), .ref (D 7), .ref (D 8), .int ii, .long de, .int dl, .int dp, .int dc, .ref (D 9), .int (nI nr), .ref (D 10), .ref (D 11), .ref (D 12), .ref (D 13), .ref (D 14), .int al, .int wa])) :: (D 3, .inl (G.2.1.1, 720, .inl ml)) :: (D 4, .inl (G.2.1.1, 60, .inl F)) :: (D 8, .inl (G.2.1.1, 60, .inl f)) :: r) 0 0 27 [(0, .ref m), (1, .int (nI s)), (2, .int (nI p)), (3, .int (nI q)), (4, .int (nI n)), (5, .int (nI k)), (6, .int (nI 0))] []
    refine J.iload 6 dX8_stringOf_27 rfl ?_
    refine J.if_le dX8_stringOf_29 (fun h_1 => ?_) (fun z => absurd (by decide) z)
    refine J.aload_n 0 dX8_stringOf_76 rfl ?_
    refine J.get 0 fl_X8_35 dX8_stringOf_77 rfl rfl ?_
    refine J.iload 6 dX8_stringOf_80 rfl ?_
    refine J.iload 5 dX8_stringOf_82 rfl ?_
    refine J.iast 3 (0) dX8_stringOf_84 rfl (rfl) (by omega) (by decide) (ws' := (m, .inr (8, [.int fi, .ref (D 0), .long as, .int (nI ns), .ref (D 1), .ref (D 2), .ref (D 3), .ref (D 4), .ref (D 5), .ref (D 6), .ref (D 7), .ref (D 8), .int ii, .long de, .int dl, .int dp, .int dc, .ref (D 9), .int (nI nr), .ref (D 10), .ref (D 11), .ref (D 12), .ref (D 13), .ref (D 14), .int al, .int wa])) :: (D 3, .inl (G.2.1.1, 720, .inl ml)) :: (D 4, .inl (G.2.1.1, 60, .inl F)) :: (D 8, .inl (G.2.1.1, 60, .inl (upd f 0 (nI k)))) :: r) rfl ?_
    refine J.iinc 4 [1, 2, 3, 4, 0, 5, 6] (lv' := [(0, .ref m), (1, .int (nI s)), (2, .int (nI p)), (3, .int (nI q)), (4, .int (nI (n + 1))), (5, .int (nI k)), (6, .int (nI 0))]) dX8_stringOf_85 rfl (jinc1 _) rfl rfl ?_
    refine J.iinc 5 [1, 2, 3, 4, 5, 0, 6] (lv' := [(0, .ref m), (1, .int (nI s)), (2, .int (nI p)), (3, .int (nI q)), (4, .int (nI (n + 1))), (5, .int (nI (k + 1))), (6, .int (nI 0))]) dX8_stringOf_88 rfl (jinc1 _) rfl rfl ?_
    refine J.goto dX8_stringOf_91 ?_
    refine J.loc [0, 1, 2, 3, 4, 5] (lv' := [(0, .ref m), (1, .int (nI s)), (2, .int (nI p)), (3, .int (nI q)), (4, .int (nI (n + 1))), (5, .int (nI (k + 1)))]) rfl ?_
    rw [← hR] at hK
    exact hK
  | cons x xs ih =>
    intro f hx hy hA hR
    rw [List.length_cons] at hx
    have hx0 := hy x List.mem_cons_self
    have hxq : x * q ≤ 60 * 60 := Nat.mul_le_mul (by omega) hq
    have hk1 := key_lt (q := q) hp hp2 x
    show J G X mX8_stringOf ((m, .inr (8, [.int fi, .ref (D 0), .long as, .int (nI ns), .ref (D 1), .ref (D 2), .ref (D 3), .ref (D 4), .ref (D 5), .ref (D 6), .ref (D 7), .ref (D 8), .int ii, .long de, .int dl, .int dp, .int dc, .ref (D 9), .int (nI nr), .ref (D 10), .ref (D 11), .ref (D 12), .ref (D 13), .ref (D 14), .int al, .int wa])) :: (D 3, .inl (G.2.1.1, 720, .inl ml)) :: (D 4, .inl (G.2.1.1, 60, .inl F)) :: (D 8, .inl (G.2.1.1, 60, .inl f)) :: r) 0 0 27 [(0, .ref m), (1, .int (nI s)), (2, .int (nI p)), (3, .int (nI q)), (4, .int (nI n)), (5, .int (nI k)), (6, .int (nI (xs.length + 1)))] []
    refine J.iload 6 dX8_stringOf_27 rfl ?_
    refine J.if_le dX8_stringOf_29 (fun z => absurd z (nI_nle (by omega) (by omega))) (fun h_1 => ?_)
    refine J.aload_n 0 dX8_stringOf_32 rfl ?_
    refine J.get 0 fl_X8_35 dX8_stringOf_33 rfl rfl ?_
    refine J.iload 6 dX8_stringOf_36 rfl ?_
    refine J.iconst (1 : Int32) dX8_stringOf_38 rfl ?_
    refine J.isub dX8_stringOf_39 ?_
    refine J.topi (y := nI xs.length) (pk_sub (a := xs.length + 1) (b := 1) (by omega)) ?_
    refine J.iald 3 (xs.length) dX8_stringOf_40 rfl (rfl) (by omega) (by decide) ?_
    refine J.topi (y := nI x) (AG_hd hA) ?_
    refine J.iload_n 3 dX8_stringOf_41 rfl ?_
    refine J.imul dX8_stringOf_42 ?_
    refine J.topi (y := nI (x * q)) (pk_mul x q) ?_
    refine J.iload_n 2 dX8_stringOf_43 rfl ?_
    refine J.irem dX8_stringOf_44 (nI_ne0 (n := p) (by omega) (by omega)) ?_
    refine J.topi (y := nI ((x * q) % p)) (pk_rem (a := x * q) (d := p) (by omega) (by omega) (by omega)) ?_
    refine J.iload 5 dX8_stringOf_45 rfl ?_
    refine J.iload_n 3 dX8_stringOf_47 rfl ?_
    refine J.imul dX8_stringOf_48 ?_
    refine J.topi (y := nI (k * q)) (pk_mul k q) ?_
    refine J.iload_n 2 dX8_stringOf_49 rfl ?_
    refine J.irem dX8_stringOf_50 (nI_ne0 (n := p) (by omega) (by omega)) ?_
    refine J.topi (y := nI ((k * q) % p)) (pk_rem (a := k * q) (d := p) (by omega) (by omega) (by omega)) ?_
    refine J.icmp_le dX8_stringOf_51 (fun h8 => ?_) (fun h8 => ?_)
    · skip
      have h8 : ((x * q) % p) ≤ ((k * q) % p) := (nI_leI (a := ((x * q) % p)) (b := ((k * q) % p)) (by omega) (by omega)).mp h8
      refine J.aload_n 0 dX8_stringOf_76 rfl ?_
      refine J.get 0 fl_X8_35 dX8_stringOf_77 rfl rfl ?_
      refine J.iload 6 dX8_stringOf_80 rfl ?_
      refine J.iload 5 dX8_stringOf_82 rfl ?_
      refine J.iast 3 (xs.length + 1) dX8_stringOf_84 rfl (rfl) (by omega) (by decide) (ws' := (m, .inr (8, [.int fi, .ref (D 0), .long as, .int (nI ns), .ref (D 1), .ref (D 2), .ref (D 3), .ref (D 4), .ref (D 5), .ref (D 6), .ref (D 7), .ref (D 8), .int ii, .long de, .int dl, .int dp, .int dc, .ref (D 9), .int (nI nr), .ref (D 10), .ref (D 11), .ref (D 12), .ref (D 13), .ref (D 14), .int al, .int wa])) :: (D 3, .inl (G.2.1.1, 720, .inl ml)) :: (D 4, .inl (G.2.1.1, 60, .inl F)) :: (D 8, .inl (G.2.1.1, 60, .inl (upd f (xs.length + 1) (nI k)))) :: r) rfl ?_
      refine J.iinc 4 [1, 2, 3, 4, 0, 5, 6] (lv' := [(0, .ref m), (1, .int (nI s)), (2, .int (nI p)), (3, .int (nI q)), (4, .int (nI (n + 1))), (5, .int (nI k)), (6, .int (nI (xs.length + 1)))]) dX8_stringOf_85 rfl (jinc1 _) rfl rfl ?_
      refine J.iinc 5 [1, 2, 3, 4, 5, 0, 6] (lv' := [(0, .ref m), (1, .int (nI s)), (2, .int (nI p)), (3, .int (nI q)), (4, .int (nI (n + 1))), (5, .int (nI (k + 1))), (6, .int (nI (xs.length + 1)))]) dX8_stringOf_88 rfl (jinc1 _) rfl rfl ?_
      refine J.goto dX8_stringOf_91 ?_
      refine J.loc [0, 1, 2, 3, 4, 5] (lv' := [(0, .ref m), (1, .int (nI s)), (2, .int (nI p)), (3, .int (nI q)), (4, .int (nI (n + 1))), (5, .int (nI (k + 1)))]) rfl ?_
      rw [← hR, insO, if_pos h8] at hK
      exact hK
    · skip
      have h8 : ¬ ((x * q) % p) ≤ ((k * q) % p) := fun z => h8 ((nI_leI (a := ((x * q) % p)) (b := ((k * q) % p)) (by omega) (by omega)).mpr z)
      refine J.aload_n 0 dX8_stringOf_54 rfl ?_
      refine J.get 0 fl_X8_35 dX8_stringOf_55 rfl rfl ?_
      refine J.iload 6 dX8_stringOf_58 rfl ?_
      refine J.aload_n 0 dX8_stringOf_60 rfl ?_
      refine J.get 0 fl_X8_35 dX8_stringOf_61 rfl rfl ?_
      refine J.iload 6 dX8_stringOf_64 rfl ?_
      refine J.iconst (1 : Int32) dX8_stringOf_66 rfl ?_
      refine J.isub dX8_stringOf_67 ?_
      refine J.topi (y := nI xs.length) (pk_sub (a := xs.length + 1) (b := 1) (by omega)) ?_
      refine J.iald 3 (xs.length) dX8_stringOf_68 rfl (rfl) (by omega) (by decide) ?_
      refine J.iast 3 (xs.length + 1) dX8_stringOf_69 rfl (rfl) (by omega) (by decide) (ws' := (m, .inr (8, [.int fi, .ref (D 0), .long as, .int (nI ns), .ref (D 1), .ref (D 2), .ref (D 3), .ref (D 4), .ref (D 5), .ref (D 6), .ref (D 7), .ref (D 8), .int ii, .long de, .int dl, .int dp, .int dc, .ref (D 9), .int (nI nr), .ref (D 10), .ref (D 11), .ref (D 12), .ref (D 13), .ref (D 14), .int al, .int wa])) :: (D 3, .inl (G.2.1.1, 720, .inl ml)) :: (D 4, .inl (G.2.1.1, 60, .inl F)) :: (D 8, .inl (G.2.1.1, 60, .inl (upd f (xs.length + 1) (f xs.length)))) :: r) rfl ?_
      refine J.iinc 6 [1, 2, 3, 4, 5, 6, 0] (lv' := [(0, .ref m), (1, .int (nI s)), (2, .int (nI p)), (3, .int (nI q)), (4, .int (nI n)), (5, .int (nI k)), (6, .int (nI xs.length))]) dX8_stringOf_70 rfl (jdec1 _) rfl rfl ?_
      refine J.goto dX8_stringOf_73 ?_
      exact ih _ (by omega) (fun y h => hy y (List.mem_cons_of_mem _ h)) (AG_tl hA (fun j hj => pk_un (by omega))) (by rw [← hR, insO, if_neg h8])
set_option maxHeartbeats 4000000 in
set_option maxRecDepth 100000 in
theorem X8_str_lp2 {l : Launch} {G : jG} {X : jX} {r : va_W} {m : Nat} {D : Nat → Nat} {fi : Int32} {as : Int64} {ns : Nat} {ii : Int32} {de : Int64} {dl dp dc : Int32} {nr : Nat} {al wa : Int32} {ml F : Nat → Int32} {s p q : Nat} (B : jB l G X 1 22 0 0 (fun v w => v = some (.long (Int64.ofInt (strV (rowM ml s) F p q))) ∧ ∃ od1, w = (m, .inr (8, [.int fi, .ref (D 0), .long as, .int (nI ns), .ref (D 1), .ref (D 2), .ref (D 3), .ref (D 4), .ref (D 5), .ref (D 6), .ref (D 7), .ref (D 8), .int ii, .long de, .int dl, .int dp, .int dc, .ref (D 9), .int (nI nr), .ref (D 10), .ref (D 11), .ref (D 12), .ref (D 13), .ref (D 14), .int al, .int wa])) :: (D 3, .inl (G.2.1.1, 720, .inl ml)) :: (D 4, .inl (G.2.1.1, 60, .inl F)) :: (D 8, .inl (G.2.1.1, 60, .inl od1)) :: r) "stringOf") (i : Nat) (hs : s < 12) (hb : BD (rowM ml s) F) (hp : 1 ≤ p) (hp2 : p ≤ 600) (hq : q ≤ 60) (od : Nat → Int32) (hO : AG od ((ordK (fun y => y * q % p) (nts (rowM ml s) 60)).map nI)) (hi : i ≤ nN (rowM ml s)) : J G X mX8_stringOf ((m, .inr (8, [.int fi, .ref (D 0), .long as, .int (nI ns), .ref (D 1), .ref (D 2), .ref (D 3), .ref (D 4), .ref (D 5), .ref (D 6), .ref (D 7), .ref (D 8), .int ii, .long de, .int dl, .int dp, .int dc, .ref (D 9), .int (nI nr), .ref (D 10), .ref (D 11), .ref (D 12), .ref (D 13), .ref (D 14), .int al, .int wa])) :: (D 3, .inl (G.2.1.1, 720, .inl ml)) :: (D 4, .inl (G.2.1.1, 60, .inl F)) :: (D 8, .inl (G.2.1.1, 60, .inl od)) :: r) 0 0 100 [(0, .ref m), (1, .int (nI s)), (2, .int (nI p)), (3, .int (nI q)), (4, .int (nI (nN (rowM ml s)))), (5, .long (Int64.ofInt (strS (ltF (rowM ml s) F) (ordK (fun y => y * q % p) (nts (rowM ml s) 60)) i))), (7, .int (nI i))] [] := by
  have hn := nN_le (rowM ml s)
  have hl : (ordK (fun y => y * q % p) (nts (rowM ml s) 60)).length = nN (rowM ml s) := ordK_len _ _
  refine J.iload 6 dX8_stringOf_100 rfl ?_
  refine J.iload 4 dX8_stringOf_102 rfl ?_
  refine J.icmp_ge dX8_stringOf_104 (fun h9 => ?_) (fun h9 => ?_)
  · skip
    have h9 : (nN (rowM ml s)) ≤ i := (nI_leI (a := (nN (rowM ml s))) (b := i) (by omega) (by omega)).mp h9
    have e : i = nN (rowM ml s) := by omega
    subst e
    refine J.lload 5 dX8_stringOf_165 rfl ?_
    exact J.lret B dX8_stringOf_167 rfl (⟨rfl, od, rfl⟩)
  · skip
    have h9 : ¬ (nN (rowM ml s)) ≤ i := fun z => h9 ((nI_leI (a := (nN (rowM ml s))) (b := i) (by omega) (by omega)).mpr z)
    have h9 : i < nN (rowM ml s) := by omega
    have hg1 : rg (ordK (fun y => y * q % p) (nts (rowM ml s) 60)) i < 60 := ord_lt (rg_mem (by rw [hl]; exact h9))
    have hg2 : rg (ordK (fun y => y * q % p) (nts (rowM ml s) 60)) (nx (ordK (fun y => y * q % p) (nts (rowM ml s) 60)).length i) < 60 := ord_lt (rg_mem (by unfold nx; split <;> omega))
    have hmod : (i + 1) % nN (rowM ml s) = nx (ordK (fun y => y * q % p) (nts (rowM ml s) 60)).length i := by rw [hl]; exact nx_mod h9
    refine J.aload_n 0 dX8_stringOf_107 rfl ?_
    refine J.iload_n 1 dX8_stringOf_108 rfl ?_
    refine J.aload_n 0 dX8_stringOf_109 rfl ?_
    refine J.get 0 fl_X8_35 dX8_stringOf_110 rfl rfl ?_
    refine J.iload 6 dX8_stringOf_113 rfl ?_
    refine J.iald 3 (i) dX8_stringOf_115 rfl (rfl) (by omega) (by decide) ?_
    refine J.topi (y := nI (rg (ordK (fun y => y * q % p) (nts (rowM ml s) 60)) i)) (AG_rg hO (by rw [hl]; exact h9)) ?_
    refine J.callV 0 (st := []) B (c_X8_lightOf l G _ (s := s) (n := rg (ordK (fun y => y * q % p) (nts (rowM ml s) 60)) i) hs hg1) ml_X8_91 mf_yX8_lightOf mi_yX8_lightOf rfl dX8_stringOf_116 rfl rfl rfl rfl (fun v_1 w_2 hp_3 => ?_)
    obtain ⟨rfl, rfl⟩ := hp_3
    show J G X mX8_stringOf _ _ _ 119 _ [.int (ltF (rowM ml s) F (rg (ordK (fun y => y * q % p) (nts (rowM ml s) 60)) i))]
    refine J.aload_n 0 dX8_stringOf_119 rfl ?_
    refine J.iload_n 1 dX8_stringOf_120 rfl ?_
    refine J.aload_n 0 dX8_stringOf_121 rfl ?_
    refine J.get 0 fl_X8_35 dX8_stringOf_122 rfl rfl ?_
    refine J.iload 6 dX8_stringOf_125 rfl ?_
    refine J.iconst (1 : Int32) dX8_stringOf_127 rfl ?_
    refine J.iadd dX8_stringOf_128 ?_
    refine J.topi (y := nI (i + 1)) (nI_add i 1) ?_
    refine J.iload 4 dX8_stringOf_129 rfl ?_
    refine J.irem dX8_stringOf_131 (nI_ne0 (n := nN (rowM ml s)) (by omega) (by omega)) ?_
    refine J.topi (y := nI ((i + 1) % (nN (rowM ml s)))) (pk_rem (a := i + 1) (d := nN (rowM ml s)) (by omega) (by omega) (by omega)) ?_
    refine J.iald 3 ((i + 1) % (nN (rowM ml s))) dX8_stringOf_132 rfl (rfl) (Nat.lt_of_lt_of_le (Nat.mod_lt _ (by omega)) hn) (by decide) ?_
    refine J.topi (y := nI (rg (ordK (fun y => y * q % p) (nts (rowM ml s) 60)) (nx (ordK (fun y => y * q % p) (nts (rowM ml s) 60)).length i))) (by rw [hmod]; exact AG_rg hO (by unfold nx; split <;> omega)) ?_
    refine J.callV 0 (st := [.int (ltF (rowM ml s) F (rg (ordK (fun y => y * q % p) (nts (rowM ml s) 60)) i))]) B (c_X8_lightOf l G _ (s := s) (n := rg (ordK (fun y => y * q % p) (nts (rowM ml s) 60)) (nx (ordK (fun y => y * q % p) (nts (rowM ml s) 60)).length i)) hs hg2) ml_X8_91 mf_yX8_lightOf mi_yX8_lightOf rfl dX8_stringOf_133 rfl rfl rfl rfl (fun v_4 w_5 hp_6 => ?_)
    obtain ⟨rfl, rfl⟩ := hp_6
    show J G X mX8_stringOf _ _ _ 136 _ [.int (ltF (rowM ml s) F (rg (ordK (fun y => y * q % p) (nts (rowM ml s) 60)) (nx (ordK (fun y => y * q % p) (nts (rowM ml s) 60)).length i))), .int (ltF (rowM ml s) F (rg (ordK (fun y => y * q % p) (nts (rowM ml s) 60)) i))]
    refine J.isub dX8_stringOf_136 ?_
    refine J.istore [1, 2, 3, 4, 5, 6, 7, 0] (lv' := [(0, .ref m), (1, .int (nI s)), (2, .int (nI p)), (3, .int (nI q)), (4, .int (nI (nN (rowM ml s)))), (5, .long (Int64.ofInt (strS (ltF (rowM ml s) F) (ordK (fun y => y * q % p) (nts (rowM ml s) 60)) i))), (7, .int (nI i)), (8, .int ((ltF (rowM ml s) F (rg (ordK (fun y => y * q % p) (nts (rowM ml s) 60)) i)) - (ltF (rowM ml s) F (rg (ordK (fun y => y * q % p) (nts (rowM ml s) 60)) (nx (ordK (fun y => y * q % p) (nts (rowM ml s) 60)).length i)))))]) dX8_stringOf_137 rfl rfl ?_
    refine J.lload 5 dX8_stringOf_139 rfl ?_
    refine J.iload 7 dX8_stringOf_141 rfl ?_
    refine J.if_ge dX8_stringOf_143 (fun h8 => ?_) (fun h8 => ?_)
    · skip
      refine J.iload 7 dX8_stringOf_153 rfl ?_
      refine J.i2l dX8_stringOf_155 ?_
      refine J.ladd dX8_stringOf_156 ?_
      refine J.lstore [1, 2, 3, 4, 5, 0, 6, 7] (lv' := [(0, .ref m), (1, .int (nI s)), (2, .int (nI p)), (3, .int (nI q)), (4, .int (nI (nN (rowM ml s)))), (5, .long ((Int64.ofInt (strS (ltF (rowM ml s) F) (ordK (fun y => y * q % p) (nts (rowM ml s) 60)) i)) + (((ltF (rowM ml s) F (rg (ordK (fun y => y * q % p) (nts (rowM ml s) 60)) i)) - (ltF (rowM ml s) F (rg (ordK (fun y => y * q % p) (nts (rowM ml s) 60)) (nx (ordK (fun y => y * q % p) (nts (rowM ml s) 60)).length i)))).toInt64))), (7, .int (nI i)), (8, .int ((ltF (rowM ml s) F (rg (ordK (fun y => y * q % p) (nts (rowM ml s) 60)) i)) - (ltF (rowM ml s) F (rg (ordK (fun y => y * q % p) (nts (rowM ml s) 60)) (nx (ordK (fun y => y * q % p) (nts (rowM ml s) 60)).length i)))))]) dX8_stringOf_157 rfl rfl ?_
      refine J.iinc 6 [1, 2, 3, 4, 5, 6, 0, 7] (lv' := [(0, .ref m), (1, .int (nI s)), (2, .int (nI p)), (3, .int (nI q)), (4, .int (nI (nN (rowM ml s)))), (5, .long ((Int64.ofInt (strS (ltF (rowM ml s) F) (ordK (fun y => y * q % p) (nts (rowM ml s) 60)) i)) + (((ltF (rowM ml s) F (rg (ordK (fun y => y * q % p) (nts (rowM ml s) 60)) i)) - (ltF (rowM ml s) F (rg (ordK (fun y => y * q % p) (nts (rowM ml s) 60)) (nx (ordK (fun y => y * q % p) (nts (rowM ml s) 60)).length i)))).toInt64))), (7, .int (nI (i + 1))), (8, .int ((ltF (rowM ml s) F (rg (ordK (fun y => y * q % p) (nts (rowM ml s) 60)) i)) - (ltF (rowM ml s) F (rg (ordK (fun y => y * q % p) (nts (rowM ml s) 60)) (nx (ordK (fun y => y * q % p) (nts (rowM ml s) 60)).length i)))))]) dX8_stringOf_159 rfl (jinc1 _) rfl rfl ?_
      refine J.goto dX8_stringOf_162 ?_
      refine J.loc [0, 1, 2, 3, 4, 5, 6] (lv' := [(0, .ref m), (1, .int (nI s)), (2, .int (nI p)), (3, .int (nI q)), (4, .int (nI (nN (rowM ml s)))), (5, .long ((Int64.ofInt (strS (ltF (rowM ml s) F) (ordK (fun y => y * q % p) (nts (rowM ml s) 60)) i)) + (((ltF (rowM ml s) F (rg (ordK (fun y => y * q % p) (nts (rowM ml s) 60)) i)) - (ltF (rowM ml s) F (rg (ordK (fun y => y * q % p) (nts (rowM ml s) 60)) (nx (ordK (fun y => y * q % p) (nts (rowM ml s) 60)).length i)))).toInt64))), (7, .int (nI (i + 1)))]) rfl ?_
      rw [str_stepL hb (fun y => y * q % p) (i := i) h9 (by first | rw [if_pos h8] | rw [if_neg h8])]
      exact X8_str_lp2 B (i + 1) hs hb hp hp2 hq od hO (by omega)
    · skip
      refine J.iload 7 dX8_stringOf_146 rfl ?_
      refine J.ineg dX8_stringOf_148 ?_
      refine J.i2l dX8_stringOf_149 ?_
      refine J.goto dX8_stringOf_150 ?_
      refine J.ladd dX8_stringOf_156 ?_
      refine J.lstore [1, 2, 3, 4, 5, 0, 6, 7] (lv' := [(0, .ref m), (1, .int (nI s)), (2, .int (nI p)), (3, .int (nI q)), (4, .int (nI (nN (rowM ml s)))), (5, .long ((Int64.ofInt (strS (ltF (rowM ml s) F) (ordK (fun y => y * q % p) (nts (rowM ml s) 60)) i)) + ((-((ltF (rowM ml s) F (rg (ordK (fun y => y * q % p) (nts (rowM ml s) 60)) i)) - (ltF (rowM ml s) F (rg (ordK (fun y => y * q % p) (nts (rowM ml s) 60)) (nx (ordK (fun y => y * q % p) (nts (rowM ml s) 60)).length i))))).toInt64))), (7, .int (nI i)), (8, .int ((ltF (rowM ml s) F (rg (ordK (fun y => y * q % p) (nts (rowM ml s) 60)) i)) - (ltF (rowM ml s) F (rg (ordK (fun y => y * q % p) (nts (rowM ml s) 60)) (nx (ordK (fun y => y * q % p) (nts (rowM ml s) 60)).length i)))))]) dX8_stringOf_157 rfl rfl ?_
      refine J.iinc 6 [1, 2, 3, 4, 5, 6, 0, 7] (lv' := [(0, .ref m), (1, .int (nI s)), (2, .int (nI p)), (3, .int (nI q)), (4, .int (nI (nN (rowM ml s)))), (5, .long ((Int64.ofInt (strS (ltF (rowM ml s) F) (ordK (fun y => y * q % p) (nts (rowM ml s) 60)) i)) + ((-((ltF (rowM ml s) F (rg (ordK (fun y => y * q % p) (nts (rowM ml s) 60)) i)) - (ltF (rowM ml s) F (rg (ordK (fun y => y * q % p) (nts (rowM ml s) 60)) (nx (ordK (fun y => y * q % p) (nts (rowM ml s) 60)).length i))))).toInt64))), (7, .int (nI (i + 1))), (8, .int ((ltF (rowM ml s) F (rg (ordK (fun y => y * q % p) (nts (rowM ml s) 60)) i)) - (ltF (rowM ml s) F (rg (ordK (fun y => y * q % p) (nts (rowM ml s) 60)) (nx (ordK (fun y => y * q % p) (nts (rowM ml s) 60)).length i)))))]) dX8_stringOf_159 rfl (jinc1 _) rfl rfl ?_
      refine J.goto dX8_stringOf_162 ?_
      refine J.loc [0, 1, 2, 3, 4, 5, 6] (lv' := [(0, .ref m), (1, .int (nI s)), (2, .int (nI p)), (3, .int (nI q)), (4, .int (nI (nN (rowM ml s)))), (5, .long ((Int64.ofInt (strS (ltF (rowM ml s) F) (ordK (fun y => y * q % p) (nts (rowM ml s) 60)) i)) + ((-((ltF (rowM ml s) F (rg (ordK (fun y => y * q % p) (nts (rowM ml s) 60)) i)) - (ltF (rowM ml s) F (rg (ordK (fun y => y * q % p) (nts (rowM ml s) 60)) (nx (ordK (fun y => y * q % p) (nts (rowM ml s) 60)).length i))))).toInt64))), (7, .int (nI (i + 1)))]) rfl ?_
      rw [str_stepL hb (fun y => y * q % p) (i := i) h9 (by first | rw [if_pos h8] | rw [if_neg h8])]
      exact X8_str_lp2 B (i + 1) hs hb hp hp2 hq od hO (by omega)
termination_by nN (rowM ml s) - i
decreasing_by all_goals omega
set_option maxHeartbeats 4000000 in
set_option maxRecDepth 100000 in
theorem X8_str_lp1 {l : Launch} {G : jG} {X : jX} {r : va_W} {m : Nat} {D : Nat → Nat} {fi : Int32} {as : Int64} {ns : Nat} {ii : Int32} {de : Int64} {dl dp dc : Int32} {nr : Nat} {al wa : Int32} {ml F : Nat → Int32} {s p q : Nat} (B : jB l G X 1 22 0 0 (fun v w => v = some (.long (Int64.ofInt (strV (rowM ml s) F p q))) ∧ ∃ od1, w = (m, .inr (8, [.int fi, .ref (D 0), .long as, .int (nI ns), .ref (D 1), .ref (D 2), .ref (D 3), .ref (D 4), .ref (D 5), .ref (D 6), .ref (D 7), .ref (D 8), .int ii, .long de, .int dl, .int dp, .int dc, .ref (D 9), .int (nI nr), .ref (D 10), .ref (D 11), .ref (D 12), .ref (D 13), .ref (D 14), .int al, .int wa])) :: (D 3, .inl (G.2.1.1, 720, .inl ml)) :: (D 4, .inl (G.2.1.1, 60, .inl F)) :: (D 8, .inl (G.2.1.1, 60, .inl od1)) :: r) "stringOf") (k : Nat) (od : Nat → Int32) (hs : s < 12) (hb : BD (rowM ml s) F) (hp : 1 ≤ p) (hp2 : p ≤ 600) (hq : q ≤ 60) (hk : k ≤ 60) (hO : AG od ((ordK (fun y => y * q % p) (nts (rowM ml s) k)).map nI)) : J G X mX8_stringOf ((m, .inr (8, [.int fi, .ref (D 0), .long as, .int (nI ns), .ref (D 1), .ref (D 2), .ref (D 3), .ref (D 4), .ref (D 5), .ref (D 6), .ref (D 7), .ref (D 8), .int ii, .long de, .int dl, .int dp, .int dc, .ref (D 9), .int (nI nr), .ref (D 10), .ref (D 11), .ref (D 12), .ref (D 13), .ref (D 14), .int al, .int wa])) :: (D 3, .inl (G.2.1.1, 720, .inl ml)) :: (D 4, .inl (G.2.1.1, 60, .inl F)) :: (D 8, .inl (G.2.1.1, 60, .inl od)) :: r) 0 0 6 [(0, .ref m), (1, .int (nI s)), (2, .int (nI p)), (3, .int (nI q)), (4, .int (nI ((nts (rowM ml s) k).length))), (5, .int (nI k))] [] := by
  have hn2 := nts_le (rowM ml s) k
  refine J.iload 5 dX8_stringOf_6 rfl ?_
  refine J.bipush (60 : Int32) dX8_stringOf_8 rfl ?_
  refine J.icmp_ge dX8_stringOf_10 (fun h9 => ?_) (fun h9 => ?_)
  · skip
    have h9 : 60 ≤ k := (nI_leI (a := 60) (b := k) (by omega) (by omega)).mp h9
    have e : k = 60 := by omega
    subst e
    refine J.lconst 0 dX8_stringOf_94 rfl ?_
    refine J.lstore [1, 2, 3, 4, 5, 0] (lv' := [(0, .ref m), (1, .int (nI s)), (2, .int (nI p)), (3, .int (nI q)), (4, .int (nI ((nts (rowM ml s) 60).length))), (5, .long (0 : Int64))]) dX8_stringOf_95 rfl rfl ?_
    refine J.iconst (0 : Int32) dX8_stringOf_97 rfl ?_
    refine J.istore [1, 2, 3, 4, 5, 6, 0] (lv' := [(0, .ref m), (1, .int (nI s)), (2, .int (nI p)), (3, .int (nI q)), (4, .int (nI ((nts (rowM ml s) 60).length))), (5, .long (0 : Int64)), (7, .int (0 : Int32))]) dX8_stringOf_98 rfl rfl ?_
    exact X8_str_lp2 B 0 hs hb hp hp2 hq od hO (by omega)
  · skip
    have h9 : ¬ 60 ≤ k := fun z => h9 ((nI_leI (a := 60) (b := k) (by omega) (by omega)).mpr z)
    refine J.aload_n 0 dX8_stringOf_13 rfl ?_
    refine J.iload_n 1 dX8_stringOf_14 rfl ?_
    refine J.iload 5 dX8_stringOf_15 rfl ?_
    refine J.callV 0 (st := []) B (c_X8_has l G _ (s := s) (n := k) hs (by omega)) ml_X8_88 mf_yX8_has mi_yX8_has rfl dX8_stringOf_17 rfl rfl rfl rfl (fun v_1 w_2 hp_3 => ?_)
    obtain ⟨rfl, rfl⟩ := hp_3
    show J G X mX8_stringOf _ _ _ 20 _ [.int (b01 (decide (¬ rowM ml s k = -9)))]
    refine J.if_eq dX8_stringOf_20 (fun h8 => ?_) (fun h8 => ?_)
    · skip
      have h8 : rowM ml s k = -9 := Decidable.of_not_not (of_decide_eq_false (b01_0 h8))
      refine J.iinc 5 [1, 2, 3, 4, 5, 0] (lv' := [(0, .ref m), (1, .int (nI s)), (2, .int (nI p)), (3, .int (nI q)), (4, .int (nI ((nts (rowM ml s) k).length))), (5, .int (nI (k + 1)))]) dX8_stringOf_88 rfl (jinc1 _) rfl rfl ?_
      refine J.goto dX8_stringOf_91 ?_
      rw [← nts_no h8] at hO ⊢
      exact X8_str_lp1 B (k + 1) od hs hb hp hp2 hq (by omega) hO
    · skip
      have h8 : ¬ rowM ml s k = -9 := of_decide_eq_true (b01_1 h8)
      refine J.iload 4 dX8_stringOf_23 rfl ?_
      refine J.istore [1, 2, 3, 4, 5, 6, 0] (lv' := [(0, .ref m), (1, .int (nI s)), (2, .int (nI p)), (3, .int (nI q)), (4, .int (nI ((nts (rowM ml s) k).length))), (5, .int (nI k)), (6, .int (nI ((nts (rowM ml s) k).length)))]) dX8_stringOf_25 rfl rfl ?_
      have hl : (ordK (fun y => y * q % p) (nts (rowM ml s) k)).length = (nts (rowM ml s) k).length := ordK_len _ _
      have ha := AG_insO (fun y => y * q % p) k (ordK (fun y => y * q % p) (nts (rowM ml s) k)) od hO
      rw [← ordn_yes (fun y => y * q % p) h8] at ha
      have hrec := X8_str_lp1 B (k + 1) _ hs hb hp hp2 hq (by omega) ha
      rw [nts_yes_len h8] at hrec
      have hin := X8_str_in B hs hb hp hp2 hq (by omega) hrec (ordK (fun y => y * q % p) (nts (rowM ml s) k)) od (by omega) (fun y hy => Nat.lt_of_lt_of_le (ord_lt hy) (by omega)) hO rfl
      rw [hl] at hin
      exact hin
termination_by 60 - k
decreasing_by all_goals omega
set_option maxHeartbeats 4000000 in
set_option maxRecDepth 100000 in
theorem c_X8_stringOf (l : Launch) (G : jG) (r : va_W) {m : Nat} {D : Nat → Nat} {fi : Int32} {as : Int64} {ns : Nat} {ii : Int32} {de : Int64} {dl dp dc : Int32} {nr : Nat} {al wa : Int32} {ml F : Nat → Int32} {s p q : Nat} {od : Nat → Int32} (hs : s < 12) (hb : BD (rowM ml s) F) (hp : 1 ≤ p) (hp2 : p ≤ 600) (hq : q ≤ 60) : Mt l G yX8_stringOf mX8_stringOf 1 22 0 0 [.ref m, .int (nI s), .int (nI p), .int (nI q)] ((m, .inr (8, [.int fi, .ref (D 0), .long as, .int (nI ns), .ref (D 1), .ref (D 2), .ref (D 3), .ref (D 4), .ref (D 5), .ref (D 6), .ref (D 7), .ref (D 8), .int ii, .long de, .int dl, .int dp, .int dc, .ref (D 9), .int (nI nr), .ref (D 10), .ref (D 11), .ref (D 12), .ref (D 13), .ref (D 14), .int al, .int wa])) :: (D 3, .inl (G.2.1.1, 720, .inl ml)) :: (D 4, .inl (G.2.1.1, 60, .inl F)) :: (D 8, .inl (G.2.1.1, 60, .inl od)) :: r) (fun v w => v = some (.long (Int64.ofInt (strV (rowM ml s) F p q))) ∧ ∃ od1, w = (m, .inr (8, [.int fi, .ref (D 0), .long as, .int (nI ns), .ref (D 1), .ref (D 2), .ref (D 3), .ref (D 4), .ref (D 5), .ref (D 6), .ref (D 7), .ref (D 8), .int ii, .long de, .int dl, .int dp, .int dc, .ref (D 9), .int (nI nr), .ref (D 10), .ref (D 11), .ref (D 12), .ref (D 13), .ref (D 14), .int al, .int wa])) :: (D 3, .inl (G.2.1.1, 720, .inl ml)) :: (D 4, .inl (G.2.1.1, 60, .inl F)) :: (D 8, .inl (G.2.1.1, 60, .inl od1)) :: r) := by
  refine Mt.of (by decide +kernel) rfl rfl (fun X B => ?_)
  show J G X mX8_stringOf ((m, .inr (8, [.int fi, .ref (D 0), .long as, .int (nI ns), .ref (D 1), .ref (D 2), .ref (D 3), .ref (D 4), .ref (D 5), .ref (D 6), .ref (D 7), .ref (D 8), .int ii, .long de, .int dl, .int dp, .int dc, .ref (D 9), .int (nI nr), .ref (D 10), .ref (D 11), .ref (D 12), .ref (D 13), .ref (D 14), .int al, .int wa])) :: (D 3, .inl (G.2.1.1, 720, .inl ml)) :: (D 4, .inl (G.2.1.1, 60, .inl F)) :: (D 8, .inl (G.2.1.1, 60, .inl od)) :: r) 0 0 0 [(0, .ref m), (1, .int (nI s)), (2, .int (nI p)), (3, .int (nI q))] []
  refine J.iconst (0 : Int32) dX8_stringOf_0 rfl ?_
  refine J.istore [1, 2, 3, 4, 0] (lv' := [(0, .ref m), (1, .int (nI s)), (2, .int (nI p)), (3, .int (nI q)), (4, .int (0 : Int32))]) dX8_stringOf_1 rfl rfl ?_
  refine J.iconst (0 : Int32) dX8_stringOf_3 rfl ?_
  refine J.istore [1, 2, 3, 4, 5, 0] (lv' := [(0, .ref m), (1, .int (nI s)), (2, .int (nI p)), (3, .int (nI q)), (4, .int (0 : Int32)), (5, .int (0 : Int32))]) dX8_stringOf_4 rfl rfl ?_
  exact X8_str_lp1 B 0 od hs hb hp hp2 hq (by omega) trivial
set_option maxHeartbeats 4000000 in
set_option maxRecDepth 100000 in
theorem X8_best_lp {l : Launch} {G : jG} {X : jX} {r : va_W} {m : Nat} {D : Nat → Nat} {fi : Int32} {as : Int64} {ns : Nat} {ii : Int32} {de : Int64} {dl dp dc : Int32} {nr : Nat} {al wa : Int32} {ml F : Nat → Int32} {s q a b : Nat} (B : jB l G X 2 50 0 0 (fun v w => v = some (.int (nI (lstN (fun j => strV (rowM ml s) F j q) a (b - a)))) ∧ ∃ od1, w = (m, .inr (8, [.int fi, .ref (D 0), .long as, .int (nI ns), .ref (D 1), .ref (D 2), .ref (D 3), .ref (D 4), .ref (D 5), .ref (D 6), .ref (D 7), .ref (D 8), .int ii, .long de, .int dl, .int dp, .int dc, .ref (D 9), .int (nI nr), .ref (D 10), .ref (D 11), .ref (D 12), .ref (D 13), .ref (D 14), .int al, .int wa])) :: (D 3, .inl (G.2.1.1, 720, .inl ml)) :: (D 4, .inl (G.2.1.1, 60, .inl F)) :: (D 8, .inl (G.2.1.1, 60, .inl od1)) :: r) "bestOf") (d : Nat) (od : Nat → Int32) (hs : s < 12) (hb : BD (rowM ml s) F) (ha : 1 ≤ a) (hb2 : b ≤ 600) (hq : q ≤ 60) (hd : a + d ≤ b) : J G X mX8_bestOf ((m, .inr (8, [.int fi, .ref (D 0), .long as, .int (nI ns), .ref (D 1), .ref (D 2), .ref (D 3), .ref (D 4), .ref (D 5), .ref (D 6), .ref (D 7), .ref (D 8), .int ii, .long de, .int dl, .int dp, .int dc, .ref (D 9), .int (nI nr), .ref (D 10), .ref (D 11), .ref (D 12), .ref (D 13), .ref (D 14), .int al, .int wa])) :: (D 3, .inl (G.2.1.1, 720, .inl ml)) :: (D 4, .inl (G.2.1.1, 60, .inl F)) :: (D 8, .inl (G.2.1.1, 60, .inl od)) :: r) 0 0 17 [(0, .ref m), (1, .int (nI s)), (2, .int (nI q)), (3, .int (nI a)), (4, .int (nI b)), (5, .int (nI (lstN (fun j => strV (rowM ml s) F j q) a d))), (6, .long (Int64.ofInt ((fun j => strV (rowM ml s) F j q) (lstN (fun j => strV (rowM ml s) F j q) a d)))), (8, .int (nI (a + d + 1)))] [] := by
  have hl := lstN_in (fun j => strV (rowM ml s) F j q) a d
  refine J.iload 7 dX8_bestOf_17 rfl ?_
  refine J.iload 4 dX8_bestOf_19 rfl ?_
  refine J.icmp_gt dX8_bestOf_21 (fun h9 => ?_) (fun h9 => ?_)
  · skip
    have h9 : b < (a + d + 1) := (nI_ltI (a := b) (b := (a + d + 1)) (by omega) (by omega)).mp h9
    refine J.iload 5 dX8_bestOf_74 rfl ?_
    exact J.iret B dX8_bestOf_76 rfl (⟨by rw [show b - a = d by omega], od, rfl⟩)
  · skip
    have h9 : ¬ b < (a + d + 1) := fun z => h9 ((nI_ltI (a := b) (b := (a + d + 1)) (by omega) (by omega)).mpr z)
    refine J.aload_n 0 dX8_bestOf_24 rfl ?_
    refine J.iload_n 1 dX8_bestOf_25 rfl ?_
    refine J.iload 7 dX8_bestOf_26 rfl ?_
    refine J.iload_n 2 dX8_bestOf_28 rfl ?_
    refine J.callV 0 (st := []) B (c_X8_stringOf l G _ (p := a + d + 1) (q := q) hs hb (by omega) (by omega) hq) ml_X8_133 mf_yX8_stringOf mi_yX8_stringOf rfl dX8_bestOf_29 rfl rfl rfl rfl (fun v_1 w_2 hp_3 => ?_)
    obtain ⟨rfl, od1, rfl⟩ := hp_3
    show J G X mX8_bestOf _ _ _ 32 _ [.long (Int64.ofInt (strV (rowM ml s) F (a + d + 1) q))]
    refine J.lstore [1, 2, 3, 4, 5, 6, 7, 8, 0] (lv' := [(0, .ref m), (1, .int (nI s)), (2, .int (nI q)), (3, .int (nI a)), (4, .int (nI b)), (5, .int (nI (lstN (fun j => strV (rowM ml s) F j q) a d))), (6, .long (Int64.ofInt ((fun j => strV (rowM ml s) F j q) (lstN (fun j => strV (rowM ml s) F j q) a d)))), (8, .int (nI (a + d + 1))), (9, .long (Int64.ofInt (strV (rowM ml s) F (a + d + 1) q)))]) dX8_bestOf_32 rfl rfl ?_
    refine J.lload 8 dX8_bestOf_34 rfl ?_
    refine J.lload 6 dX8_bestOf_36 rfl ?_
    refine J.lcmp dX8_bestOf_38 ?_
    refine J.if_ge dX8_bestOf_39 (fun h8 => ?_) (fun h8 => ?_)
    · skip
      have h8 := jc_ge_t h8
      rw [ofL_lt (strV_bd hb _ _) (strV_bd hb _ _)] at h8
      have h8 : (fun j => strV (rowM ml s) F j q) (lstN (fun j => strV (rowM ml s) F j q) a d) ≤ (fun j => strV (rowM ml s) F j q) (a + d + 1) := h8
      refine J.iload 5 dX8_bestOf_47 rfl ?_
      refine J.istore [1, 2, 3, 4, 5, 0, 6, 7, 8] (lv' := [(0, .ref m), (1, .int (nI s)), (2, .int (nI q)), (3, .int (nI a)), (4, .int (nI b)), (5, .int (nI (lstN (fun j => strV (rowM ml s) F j q) a d))), (6, .long (Int64.ofInt ((fun j => strV (rowM ml s) F j q) (lstN (fun j => strV (rowM ml s) F j q) a d)))), (8, .int (nI (a + d + 1))), (9, .long (Int64.ofInt (strV (rowM ml s) F (a + d + 1) q)))]) dX8_bestOf_49 rfl rfl ?_
      refine J.lload 8 dX8_bestOf_51 rfl ?_
      refine J.lload 6 dX8_bestOf_53 rfl ?_
      refine J.lcmp dX8_bestOf_55 ?_
      refine J.if_ge dX8_bestOf_56 (fun h7 => ?_) (fun z => absurd ((lg_cmp_ge _ _).mpr ((ofL_lt (strV_bd hb _ _) (strV_bd hb _ _)).mpr h8)) z)
      refine J.lload 6 dX8_bestOf_64 rfl ?_
      refine J.lstore [1, 2, 3, 4, 5, 6, 0, 7, 8] (lv' := [(0, .ref m), (1, .int (nI s)), (2, .int (nI q)), (3, .int (nI a)), (4, .int (nI b)), (5, .int (nI (lstN (fun j => strV (rowM ml s) F j q) a d))), (6, .long (Int64.ofInt ((fun j => strV (rowM ml s) F j q) (lstN (fun j => strV (rowM ml s) F j q) a d)))), (8, .int (nI (a + d + 1))), (9, .long (Int64.ofInt (strV (rowM ml s) F (a + d + 1) q)))]) dX8_bestOf_66 rfl rfl ?_
      refine J.iinc 7 [1, 2, 3, 4, 5, 6, 7, 0, 8] (lv' := [(0, .ref m), (1, .int (nI s)), (2, .int (nI q)), (3, .int (nI a)), (4, .int (nI b)), (5, .int (nI (lstN (fun j => strV (rowM ml s) F j q) a d))), (6, .long (Int64.ofInt ((fun j => strV (rowM ml s) F j q) (lstN (fun j => strV (rowM ml s) F j q) a d)))), (8, .int (nI (a + d + 1 + 1))), (9, .long (Int64.ofInt (strV (rowM ml s) F (a + d + 1) q)))]) dX8_bestOf_68 rfl (jinc1 _) rfl rfl ?_
      refine J.goto dX8_bestOf_71 ?_
      refine J.loc [0, 1, 2, 3, 4, 5, 6, 7] (lv' := [(0, .ref m), (1, .int (nI s)), (2, .int (nI q)), (3, .int (nI a)), (4, .int (nI b)), (5, .int (nI (lstN (fun j => strV (rowM ml s) F j q) a d))), (6, .long (Int64.ofInt ((fun j => strV (rowM ml s) F j q) (lstN (fun j => strV (rowM ml s) F j q) a d)))), (8, .int (nI (a + d + 1 + 1)))]) rfl ?_
      have he : lstN (fun j => strV (rowM ml s) F j q) a (d + 1) = lstN (fun j => strV (rowM ml s) F j q) a d := by
        rw [lstN_s, if_neg (by omega)]
      have hq9 := X8_best_lp B (d + 1) od1 hs hb ha hb2 hq (by omega)
      rw [he] at hq9
      exact hq9
    · skip
      have h8 := jc_ge_f h8
      rw [ofL_lt (strV_bd hb _ _) (strV_bd hb _ _)] at h8
      have h8 : ¬ (fun j => strV (rowM ml s) F j q) (lstN (fun j => strV (rowM ml s) F j q) a d) ≤ (fun j => strV (rowM ml s) F j q) (a + d + 1) := h8
      refine J.iload 7 dX8_bestOf_42 rfl ?_
      refine J.goto dX8_bestOf_44 ?_
      refine J.istore [1, 2, 3, 4, 5, 0, 6, 7, 8] (lv' := [(0, .ref m), (1, .int (nI s)), (2, .int (nI q)), (3, .int (nI a)), (4, .int (nI b)), (5, .int (nI (a + d + 1))), (6, .long (Int64.ofInt ((fun j => strV (rowM ml s) F j q) (lstN (fun j => strV (rowM ml s) F j q) a d)))), (8, .int (nI (a + d + 1))), (9, .long (Int64.ofInt (strV (rowM ml s) F (a + d + 1) q)))]) dX8_bestOf_49 rfl rfl ?_
      refine J.lload 8 dX8_bestOf_51 rfl ?_
      refine J.lload 6 dX8_bestOf_53 rfl ?_
      refine J.lcmp dX8_bestOf_55 ?_
      refine J.if_ge dX8_bestOf_56 (fun z => absurd z (fun z => h8 ((ofL_lt (strV_bd hb _ _) (strV_bd hb _ _)).mp (jc_ge_t z)))) (fun h7 => ?_)
      refine J.lload 8 dX8_bestOf_59 rfl ?_
      refine J.goto dX8_bestOf_61 ?_
      refine J.lstore [1, 2, 3, 4, 5, 6, 0, 7, 8] (lv' := [(0, .ref m), (1, .int (nI s)), (2, .int (nI q)), (3, .int (nI a)), (4, .int (nI b)), (5, .int (nI (a + d + 1))), (6, .long (Int64.ofInt (strV (rowM ml s) F (a + d + 1) q))), (8, .int (nI (a + d + 1))), (9, .long (Int64.ofInt (strV (rowM ml s) F (a + d + 1) q)))]) dX8_bestOf_66 rfl rfl ?_
      refine J.iinc 7 [1, 2, 3, 4, 5, 6, 7, 0, 8] (lv' := [(0, .ref m), (1, .int (nI s)), (2, .int (nI q)), (3, .int (nI a)), (4, .int (nI b)), (5, .int (nI (a + d + 1))), (6, .long (Int64.ofInt (strV (rowM ml s) F (a + d + 1) q))), (8, .int (nI (a + d + 1 + 1))), (9, .long (Int64.ofInt (strV (rowM ml s) F (a + d + 1) q)))]) dX8_bestOf_68 rfl (jinc1 _) rfl rfl ?_
      refine J.goto dX8_bestOf_71 ?_
      refine J.loc [0, 1, 2, 3, 4, 5, 6, 7] (lv' := [(0, .ref m), (1, .int (nI s)), (2, .int (nI q)), (3, .int (nI a)), (4, .int (nI b)), (5, .int (nI (a + d + 1))), (6, .long (Int64.ofInt (strV (rowM ml s) F (a + d + 1) q))), (8, .int (nI (a + d + 1 + 1)))]) rfl ?_
      have he : lstN (fun j => strV (rowM ml s) F j q) a (d + 1) = a + d + 1 := by
        rw [lstN_s, if_pos (by omega)]
      have hq9 := X8_best_lp B (d + 1) od1 hs hb ha hb2 hq (by omega)
      rw [he] at hq9
      exact hq9
termination_by b - (a + d)
decreasing_by all_goals omega
set_option maxHeartbeats 4000000 in
set_option maxRecDepth 100000 in
theorem c_X8_bestOf (l : Launch) (G : jG) (r : va_W) {m : Nat} {D : Nat → Nat} {fi : Int32} {as : Int64} {ns : Nat} {ii : Int32} {de : Int64} {dl dp dc : Int32} {nr : Nat} {al wa : Int32} {ml F : Nat → Int32} {s q a b : Nat} {od : Nat → Int32} (hs : s < 12) (hb : BD (rowM ml s) F) (ha : 1 ≤ a) (hb2 : b ≤ 600) (hq : q ≤ 60) (hab : a ≤ b) : Mt l G yX8_bestOf mX8_bestOf 2 50 0 0 [.ref m, .int (nI s), .int (nI q), .int (nI a), .int (nI b)] ((m, .inr (8, [.int fi, .ref (D 0), .long as, .int (nI ns), .ref (D 1), .ref (D 2), .ref (D 3), .ref (D 4), .ref (D 5), .ref (D 6), .ref (D 7), .ref (D 8), .int ii, .long de, .int dl, .int dp, .int dc, .ref (D 9), .int (nI nr), .ref (D 10), .ref (D 11), .ref (D 12), .ref (D 13), .ref (D 14), .int al, .int wa])) :: (D 3, .inl (G.2.1.1, 720, .inl ml)) :: (D 4, .inl (G.2.1.1, 60, .inl F)) :: (D 8, .inl (G.2.1.1, 60, .inl od)) :: r) (fun v w => v = some (.int (nI (lstN (fun j => strV (rowM ml s) F j q) a (b - a)))) ∧ ∃ od1, w = (m, .inr (8, [.int fi, .ref (D 0), .long as, .int (nI ns), .ref (D 1), .ref (D 2), .ref (D 3), .ref (D 4), .ref (D 5), .ref (D 6), .ref (D 7), .ref (D 8), .int ii, .long de, .int dl, .int dp, .int dc, .ref (D 9), .int (nI nr), .ref (D 10), .ref (D 11), .ref (D 12), .ref (D 13), .ref (D 14), .int al, .int wa])) :: (D 3, .inl (G.2.1.1, 720, .inl ml)) :: (D 4, .inl (G.2.1.1, 60, .inl F)) :: (D 8, .inl (G.2.1.1, 60, .inl od1)) :: r) := by
  refine Mt.of (by decide +kernel) rfl rfl (fun X B => ?_)
  show J G X mX8_bestOf ((m, .inr (8, [.int fi, .ref (D 0), .long as, .int (nI ns), .ref (D 1), .ref (D 2), .ref (D 3), .ref (D 4), .ref (D 5), .ref (D 6), .ref (D 7), .ref (D 8), .int ii, .long de, .int dl, .int dp, .int dc, .ref (D 9), .int (nI nr), .ref (D 10), .ref (D 11), .ref (D 12), .ref (D 13), .ref (D 14), .int al, .int wa])) :: (D 3, .inl (G.2.1.1, 720, .inl ml)) :: (D 4, .inl (G.2.1.1, 60, .inl F)) :: (D 8, .inl (G.2.1.1, 60, .inl od)) :: r) 0 0 0 [(0, .ref m), (1, .int (nI s)), (2, .int (nI q)), (3, .int (nI a)), (4, .int (nI b))] []
  refine J.iload_n 3 dX8_bestOf_0 rfl ?_
  refine J.istore [1, 2, 3, 4, 5, 0] (lv' := [(0, .ref m), (1, .int (nI s)), (2, .int (nI q)), (3, .int (nI a)), (4, .int (nI b)), (5, .int (nI a))]) dX8_bestOf_1 rfl rfl ?_
  refine J.aload_n 0 dX8_bestOf_3 rfl ?_
  refine J.iload_n 1 dX8_bestOf_4 rfl ?_
  refine J.iload_n 3 dX8_bestOf_5 rfl ?_
  refine J.iload_n 2 dX8_bestOf_6 rfl ?_
  refine J.callV 0 (st := []) B (c_X8_stringOf l G _ (p := a) (q := q) hs hb (by omega) (by omega) hq) ml_X8_133 mf_yX8_stringOf mi_yX8_stringOf rfl dX8_bestOf_7 rfl rfl rfl rfl (fun v_1 w_2 hp_3 => ?_)
  obtain ⟨rfl, od1, rfl⟩ := hp_3
  show J G X mX8_bestOf _ _ _ 10 _ [.long (Int64.ofInt (strV (rowM ml s) F a q))]
  refine J.lstore [1, 2, 3, 4, 5, 6, 0] (lv' := [(0, .ref m), (1, .int (nI s)), (2, .int (nI q)), (3, .int (nI a)), (4, .int (nI b)), (5, .int (nI a)), (6, .long (Int64.ofInt (strV (rowM ml s) F a q)))]) dX8_bestOf_10 rfl rfl ?_
  refine J.iload_n 3 dX8_bestOf_12 rfl ?_
  refine J.iconst (1 : Int32) dX8_bestOf_13 rfl ?_
  refine J.iadd dX8_bestOf_14 ?_
  refine J.topi (y := nI (a + 1)) (nI_add a 1) ?_
  refine J.istore [1, 2, 3, 4, 5, 6, 7, 0] (lv' := [(0, .ref m), (1, .int (nI s)), (2, .int (nI q)), (3, .int (nI a)), (4, .int (nI b)), (5, .int (nI a)), (6, .long (Int64.ofInt (strV (rowM ml s) F a q))), (8, .int (nI (a + 1)))]) dX8_bestOf_15 rfl rfl ?_
  exact X8_best_lp B 0 od1 hs hb ha hb2 hq (by omega)
set_option maxHeartbeats 4000000 in
set_option maxRecDepth 100000 in
theorem X8_dips_lp {l : Launch} {G : jG} {X : jX} {r : va_W} {m : Nat} {D : Nat → Nat} {fi : Int32} {as : Int64} {ns : Nat} {ii : Int32} {de : Int64} {dl dp dc : Int32} {nr : Nat} {al wa : Int32} {ml F : Nat → Int32} {s p d f : Nat} (B : jB l G X 1 22 0 0 (fun v w => v = some (.int (b01 (decide (0 < cI (rowM ml s) p d f ∧ cI (rowM ml s) p d f < nN (rowM ml s))))) ∧ w = (m, .inr (8, [.int fi, .ref (D 0), .long as, .int (nI ns), .ref (D 1), .ref (D 2), .ref (D 3), .ref (D 4), .ref (D 5), .ref (D 6), .ref (D 7), .ref (D 8), .int (nI (cI (rowM ml s) p d f)), .long (Int64.ofInt (dpI (rowM ml s) F p d f)), .int dl, .int dp, .int dc, .ref (D 9), .int (nI nr), .ref (D 10), .ref (D 11), .ref (D 12), .ref (D 13), .ref (D 14), .int al, .int wa])) :: (D 3, .inl (G.2.1.1, 720, .inl ml)) :: (D 4, .inl (G.2.1.1, 60, .inl F)) :: r) "dips") (k : Nat) (hs : s < 12) (hb : BD (rowM ml s) F) (hp : 1 ≤ p) (hp2 : p ≤ 600) (hf : f < p) (hd : d ≤ 600) (hk : k ≤ 60) : J G X mX8_dips ((m, .inr (8, [.int fi, .ref (D 0), .long as, .int (nI ns), .ref (D 1), .ref (D 2), .ref (D 3), .ref (D 4), .ref (D 5), .ref (D 6), .ref (D 7), .ref (D 8), .int (nI (cnt (inP p d f) (nts (rowM ml s) k))), .long de, .int dl, .int dp, .int dc, .ref (D 9), .int (nI nr), .ref (D 10), .ref (D 11), .ref (D 12), .ref (D 13), .ref (D 14), .int al, .int wa])) :: (D 3, .inl (G.2.1.1, 720, .inl ml)) :: (D 4, .inl (G.2.1.1, 60, .inl F)) :: r) 0 0 17 [(0, .ref m), (1, .int (nI s)), (2, .int (nI p)), (3, .int (nI d)), (4, .int (nI f)), (5, .int (nI ((nts (rowM ml s) k).length - cnt (inP p d f) (nts (rowM ml s) k)))), (6, .long (Int64.ofInt (smI (ltF (rowM ml s) F) (inP p d f) (nts (rowM ml s) k)))), (8, .long (Int64.ofInt (smI (ltF (rowM ml s) F) allK (nts (rowM ml s) k) - smI (ltF (rowM ml s) F) (inP p d f) (nts (rowM ml s) k)))), (10, .int (nI k))] [] := by
  have hn2 := nts_le (rowM ml s) k
  have hc2 := cnt_le (inP p d f) (nts (rowM ml s) k)
  have hm1 : k % p < p := Nat.mod_lt _ (by omega)
  have hm2 : (k % p + p - f) % p < p := Nat.mod_lt _ (by omega)
  refine J.iload 8 dX8_dips_17 rfl ?_
  refine J.bipush (60 : Int32) dX8_dips_19 rfl ?_
  refine J.icmp_ge dX8_dips_21 (fun h9 => ?_) (fun h9 => ?_)
  · skip
    have h9 : 60 ≤ k := (nI_leI (a := 60) (b := k) (by omega) (by omega)).mp h9
    have e : k = 60 := by omega
    subst e
    refine J.aload_n 0 dX8_dips_140 rfl ?_
    refine J.lload 7 dX8_dips_141 rfl ?_
    refine J.aload_n 0 dX8_dips_143 rfl ?_
    refine J.get 0 fl_X8_143 dX8_dips_144 rfl rfl ?_
    refine J.i2l dX8_dips_147 ?_
    refine J.lmul dX8_dips_148 ?_
    refine J.lload 6 dX8_dips_149 rfl ?_
    refine J.iload 5 dX8_dips_151 rfl ?_
    refine J.i2l dX8_dips_153 ?_
    refine J.lmul dX8_dips_154 ?_
    refine J.lsub dX8_dips_155 ?_
    refine J.topl (y := Int64.ofInt (dpI (rowM ml s) F p d f)) (dep_ref hb p d f) ?_
    refine J.put 0 fp_X8_146 dX8_dips_156 rfl (rfl) (rfl) rfl (ws' := (m, .inr (8, [.int fi, .ref (D 0), .long as, .int (nI ns), .ref (D 1), .ref (D 2), .ref (D 3), .ref (D 4), .ref (D 5), .ref (D 6), .ref (D 7), .ref (D 8), .int (nI (cnt (inP p d f) (nts (rowM ml s) 60))), .long (Int64.ofInt (dpI (rowM ml s) F p d f)), .int dl, .int dp, .int dc, .ref (D 9), .int (nI nr), .ref (D 10), .ref (D 11), .ref (D 12), .ref (D 13), .ref (D 14), .int al, .int wa])) :: (D 3, .inl (G.2.1.1, 720, .inl ml)) :: (D 4, .inl (G.2.1.1, 60, .inl F)) :: r) rfl ?_
    refine J.aload_n 0 dX8_dips_159 rfl ?_
    refine J.get 0 fl_X8_143 dX8_dips_160 rfl rfl ?_
    refine J.if_le dX8_dips_163 (fun h6 => ?_) (fun h6 => ?_)
    · skip
      have h6 : (cnt (inP p d f) (nts (rowM ml s) 60)) ≤ 0 := (nI_leI (a := (cnt (inP p d f) (nts (rowM ml s) 60))) (b := 0) (by omega) (by omega)).mp h6
      refine J.iconst (0 : Int32) dX8_dips_175 rfl ?_
      exact J.zret B dX8_dips_176 rfl (by decide) (⟨by rw [decide_eq_false (show ¬ (0 < cnt (inP p d f) (nts (rowM ml s) 60) ∧ cnt (inP p d f) (nts (rowM ml s) 60) < (nts (rowM ml s) 60).length) by omega)]; rfl, rfl⟩)
    · skip
      have h6 : ¬ (cnt (inP p d f) (nts (rowM ml s) 60)) ≤ 0 := fun z => h6 ((nI_leI (a := (cnt (inP p d f) (nts (rowM ml s) 60))) (b := 0) (by omega) (by omega)).mpr z)
      refine J.iload 5 dX8_dips_166 rfl ?_
      refine J.if_le dX8_dips_168 (fun h5 => ?_) (fun h5 => ?_)
      · skip
        have h5 : ((nts (rowM ml s) 60).length - cnt (inP p d f) (nts (rowM ml s) 60)) ≤ 0 := (nI_leI (a := ((nts (rowM ml s) 60).length - cnt (inP p d f) (nts (rowM ml s) 60))) (b := 0) (by omega) (by omega)).mp h5
        refine J.iconst (0 : Int32) dX8_dips_175 rfl ?_
        exact J.zret B dX8_dips_176 rfl (by decide) (⟨by rw [decide_eq_false (show ¬ (0 < cnt (inP p d f) (nts (rowM ml s) 60) ∧ cnt (inP p d f) (nts (rowM ml s) 60) < (nts (rowM ml s) 60).length) by omega)]; rfl, rfl⟩)
      · skip
        have h5 : ¬ ((nts (rowM ml s) 60).length - cnt (inP p d f) (nts (rowM ml s) 60)) ≤ 0 := fun z => h5 ((nI_leI (a := ((nts (rowM ml s) 60).length - cnt (inP p d f) (nts (rowM ml s) 60))) (b := 0) (by omega) (by omega)).mpr z)
        refine J.iconst (1 : Int32) dX8_dips_171 rfl ?_
        refine J.goto dX8_dips_172 ?_
        exact J.zret B dX8_dips_176 rfl (by decide) (⟨by rw [decide_eq_true (show 0 < cnt (inP p d f) (nts (rowM ml s) 60) ∧ cnt (inP p d f) (nts (rowM ml s) 60) < (nts (rowM ml s) 60).length from ⟨by omega, by omega⟩)]; rfl, rfl⟩)
  · skip
    have h9 : ¬ 60 ≤ k := fun z => h9 ((nI_leI (a := 60) (b := k) (by omega) (by omega)).mpr z)
    refine J.aload_n 0 dX8_dips_24 rfl ?_
    refine J.iload_n 1 dX8_dips_25 rfl ?_
    refine J.iload 8 dX8_dips_26 rfl ?_
    refine J.callV 0 (st := []) B (c_X8_has l G _ (s := s) (n := k) hs (by omega)) ml_X8_88 mf_yX8_has mi_yX8_has rfl dX8_dips_28 rfl rfl rfl rfl (fun v_1 w_2 hp_3 => ?_)
    obtain ⟨rfl, rfl⟩ := hp_3
    show J G X mX8_dips _ _ _ 31 _ [.int (b01 (decide (¬ rowM ml s k = -9)))]
    refine J.if_eq dX8_dips_31 (fun h8 => ?_) (fun h8 => ?_)
    · skip
      have h8 : rowM ml s k = -9 := Decidable.of_not_not (of_decide_eq_false (b01_0 h8))
      refine J.iinc 8 [1, 2, 3, 4, 5, 6, 7, 8, 0] (lv' := [(0, .ref m), (1, .int (nI s)), (2, .int (nI p)), (3, .int (nI d)), (4, .int (nI f)), (5, .int (nI ((nts (rowM ml s) k).length - cnt (inP p d f) (nts (rowM ml s) k)))), (6, .long (Int64.ofInt (smI (ltF (rowM ml s) F) (inP p d f) (nts (rowM ml s) k)))), (8, .long (Int64.ofInt (smI (ltF (rowM ml s) F) allK (nts (rowM ml s) k) - smI (ltF (rowM ml s) F) (inP p d f) (nts (rowM ml s) k)))), (10, .int (nI (k + 1)))]) dX8_dips_134 rfl (jinc1 _) rfl rfl ?_
      refine J.goto dX8_dips_137 ?_
      rw [← nts_no h8]
      exact X8_dips_lp (ii := ii) B (k + 1) hs hb hp hp2 hf hd (by omega)
    · skip
      have h8 : ¬ rowM ml s k = -9 := of_decide_eq_true (b01_1 h8)
      refine J.iload 8 dX8_dips_34 rfl ?_
      refine J.iload_n 2 dX8_dips_36 rfl ?_
      refine J.irem dX8_dips_37 (nI_ne0 (n := p) (by omega) (by omega)) ?_
      refine J.topi (y := nI (k % p)) (pk_rem (a := k) (d := p) (by omega) (by omega) (by omega)) ?_
      refine J.iload 4 dX8_dips_38 rfl ?_
      refine J.isub dX8_dips_40 ?_
      refine J.iload_n 2 dX8_dips_41 rfl ?_
      refine J.iadd dX8_dips_42 ?_
      refine J.topi (y := nI (k % p + p - f)) (md32 (by omega)) ?_
      refine J.iload_n 2 dX8_dips_43 rfl ?_
      refine J.irem dX8_dips_44 (nI_ne0 (n := p) (by omega) (by omega)) ?_
      refine J.topi (y := nI ((k % p + p - f) % p)) (pk_rem (a := k % p + p - f) (d := p) (by omega) (by omega) (by omega)) ?_
      refine J.iload_n 3 dX8_dips_45 rfl ?_
      refine J.icmp_ge dX8_dips_46 (fun h7 => ?_) (fun h7 => ?_)
      · skip
        have h7 : d ≤ ((k % p + p - f) % p) := (nI_leI (a := d) (b := ((k % p + p - f) % p)) (by omega) (by omega)).mp h7
        have hin : inP p d f k = false := decide_eq_false (by omega)
        refine J.iconst (0 : Int32) dX8_dips_53 rfl ?_
        refine J.istore [1, 2, 3, 4, 5, 6, 7, 8, 9, 0] (lv' := [(0, .ref m), (1, .int (nI s)), (2, .int (nI p)), (3, .int (nI d)), (4, .int (nI f)), (5, .int (nI ((nts (rowM ml s) k).length - cnt (inP p d f) (nts (rowM ml s) k)))), (6, .long (Int64.ofInt (smI (ltF (rowM ml s) F) (inP p d f) (nts (rowM ml s) k)))), (8, .long (Int64.ofInt (smI (ltF (rowM ml s) F) allK (nts (rowM ml s) k) - smI (ltF (rowM ml s) F) (inP p d f) (nts (rowM ml s) k)))), (10, .int (nI k)), (11, .int (0 : Int32))]) dX8_dips_54 rfl rfl ?_
        refine J.aload_n 0 dX8_dips_56 rfl ?_
        refine J.dup dX8_dips_57 rfl ?_
        refine J.get 0 fl_X8_143 dX8_dips_58 rfl rfl ?_
        refine J.iload 9 dX8_dips_61 rfl ?_
        refine J.if_eq dX8_dips_63 (fun _ => ?_) (fun z => absurd z (by decide))
        refine J.iconst (0 : Int32) dX8_dips_70 rfl ?_
        refine J.iadd dX8_dips_71 ?_
        refine J.topi (y := nI ((cnt (inP p d f) (nts (rowM ml s) k)) + 0)) (nI_add (cnt (inP p d f) (nts (rowM ml s) k)) 0) ?_
        refine J.put 0 fp_X8_143 dX8_dips_72 rfl (rfl) (rfl) rfl (ws' := (m, .inr (8, [.int fi, .ref (D 0), .long as, .int (nI ns), .ref (D 1), .ref (D 2), .ref (D 3), .ref (D 4), .ref (D 5), .ref (D 6), .ref (D 7), .ref (D 8), .int (nI ((cnt (inP p d f) (nts (rowM ml s) k)) + 0)), .long de, .int dl, .int dp, .int dc, .ref (D 9), .int (nI nr), .ref (D 10), .ref (D 11), .ref (D 12), .ref (D 13), .ref (D 14), .int al, .int wa])) :: (D 3, .inl (G.2.1.1, 720, .inl ml)) :: (D 4, .inl (G.2.1.1, 60, .inl F)) :: r) rfl ?_
        refine J.iload 5 dX8_dips_75 rfl ?_
        refine J.iload 9 dX8_dips_77 rfl ?_
        refine J.if_eq dX8_dips_79 (fun _ => ?_) (fun z => absurd z (by decide))
        refine J.iconst (1 : Int32) dX8_dips_86 rfl ?_
        refine J.iadd dX8_dips_87 ?_
        refine J.topi (y := nI (((nts (rowM ml s) k).length - cnt (inP p d f) (nts (rowM ml s) k)) + 1)) (nI_add ((nts (rowM ml s) k).length - cnt (inP p d f) (nts (rowM ml s) k)) 1) ?_
        refine J.istore [1, 2, 3, 4, 5, 0, 6, 7, 8, 9] (lv' := [(0, .ref m), (1, .int (nI s)), (2, .int (nI p)), (3, .int (nI d)), (4, .int (nI f)), (5, .int (nI (((nts (rowM ml s) k).length - cnt (inP p d f) (nts (rowM ml s) k)) + 1))), (6, .long (Int64.ofInt (smI (ltF (rowM ml s) F) (inP p d f) (nts (rowM ml s) k)))), (8, .long (Int64.ofInt (smI (ltF (rowM ml s) F) allK (nts (rowM ml s) k) - smI (ltF (rowM ml s) F) (inP p d f) (nts (rowM ml s) k)))), (10, .int (nI k)), (11, .int (0 : Int32))]) dX8_dips_88 rfl rfl ?_
        refine J.lload 6 dX8_dips_90 rfl ?_
        refine J.iload 9 dX8_dips_92 rfl ?_
        refine J.if_eq dX8_dips_94 (fun _ => ?_) (fun z => absurd z (by decide))
        refine J.lconst 0 dX8_dips_108 rfl ?_
        refine J.ladd dX8_dips_109 ?_
        refine J.lstore [1, 2, 3, 4, 5, 6, 0, 7, 8, 9] (lv' := [(0, .ref m), (1, .int (nI s)), (2, .int (nI p)), (3, .int (nI d)), (4, .int (nI f)), (5, .int (nI (((nts (rowM ml s) k).length - cnt (inP p d f) (nts (rowM ml s) k)) + 1))), (6, .long ((Int64.ofInt (smI (ltF (rowM ml s) F) (inP p d f) (nts (rowM ml s) k))) + (0 : Int64))), (8, .long (Int64.ofInt (smI (ltF (rowM ml s) F) allK (nts (rowM ml s) k) - smI (ltF (rowM ml s) F) (inP p d f) (nts (rowM ml s) k)))), (10, .int (nI k)), (11, .int (0 : Int32))]) dX8_dips_110 rfl rfl ?_
        refine J.lload 7 dX8_dips_112 rfl ?_
        refine J.iload 9 dX8_dips_114 rfl ?_
        refine J.if_eq dX8_dips_116 (fun _ => ?_) (fun z => absurd z (by decide))
        refine J.aload_n 0 dX8_dips_123 rfl ?_
        refine J.iload_n 1 dX8_dips_124 rfl ?_
        refine J.iload 8 dX8_dips_125 rfl ?_
        refine J.callV 0 (st := [.long (Int64.ofInt (smI (ltF (rowM ml s) F) allK (nts (rowM ml s) k) - smI (ltF (rowM ml s) F) (inP p d f) (nts (rowM ml s) k)))]) B (c_X8_lightOf l G _ (s := s) (n := k) hs (by omega)) ml_X8_91 mf_yX8_lightOf mi_yX8_lightOf rfl dX8_dips_127 rfl rfl rfl rfl (fun v_4 w_5 hp_6 => ?_)
        obtain ⟨rfl, rfl⟩ := hp_6
        show J G X mX8_dips _ _ _ 130 _ [.int (ltF (rowM ml s) F k), .long (Int64.ofInt (smI (ltF (rowM ml s) F) allK (nts (rowM ml s) k) - smI (ltF (rowM ml s) F) (inP p d f) (nts (rowM ml s) k)))]
        refine J.i2l dX8_dips_130 ?_
        refine J.ladd dX8_dips_131 ?_
        refine J.lstore [1, 2, 3, 4, 5, 6, 7, 0, 8, 9] (lv' := [(0, .ref m), (1, .int (nI s)), (2, .int (nI p)), (3, .int (nI d)), (4, .int (nI f)), (5, .int (nI (((nts (rowM ml s) k).length - cnt (inP p d f) (nts (rowM ml s) k)) + 1))), (6, .long ((Int64.ofInt (smI (ltF (rowM ml s) F) (inP p d f) (nts (rowM ml s) k))) + (0 : Int64))), (8, .long ((Int64.ofInt (smI (ltF (rowM ml s) F) allK (nts (rowM ml s) k) - smI (ltF (rowM ml s) F) (inP p d f) (nts (rowM ml s) k))) + ((ltF (rowM ml s) F k).toInt64))), (10, .int (nI k)), (11, .int (0 : Int32))]) dX8_dips_132 rfl rfl ?_
        refine J.iinc 8 [1, 2, 3, 4, 5, 6, 7, 8, 0, 9] (lv' := [(0, .ref m), (1, .int (nI s)), (2, .int (nI p)), (3, .int (nI d)), (4, .int (nI f)), (5, .int (nI (((nts (rowM ml s) k).length - cnt (inP p d f) (nts (rowM ml s) k)) + 1))), (6, .long ((Int64.ofInt (smI (ltF (rowM ml s) F) (inP p d f) (nts (rowM ml s) k))) + (0 : Int64))), (8, .long ((Int64.ofInt (smI (ltF (rowM ml s) F) allK (nts (rowM ml s) k) - smI (ltF (rowM ml s) F) (inP p d f) (nts (rowM ml s) k))) + ((ltF (rowM ml s) F k).toInt64))), (10, .int (nI (k + 1))), (11, .int (0 : Int32))]) dX8_dips_134 rfl (jinc1 _) rfl rfl ?_
        refine J.goto dX8_dips_137 ?_
        refine J.loc [0, 1, 2, 3, 4, 5, 6, 7, 8] (lv' := [(0, .ref m), (1, .int (nI s)), (2, .int (nI p)), (3, .int (nI d)), (4, .int (nI f)), (5, .int (nI (((nts (rowM ml s) k).length - cnt (inP p d f) (nts (rowM ml s) k)) + 1))), (6, .long ((Int64.ofInt (smI (ltF (rowM ml s) F) (inP p d f) (nts (rowM ml s) k))) + (0 : Int64))), (8, .long ((Int64.ofInt (smI (ltF (rowM ml s) F) allK (nts (rowM ml s) k) - smI (ltF (rowM ml s) F) (inP p d f) (nts (rowM ml s) k))) + ((ltF (rowM ml s) F k).toInt64))), (10, .int (nI (k + 1)))]) rfl ?_
        obtain ⟨q1, q2, q3, q4⟩ := dl_out (F := F) h8 hin
        rw [q1, q2, q3, q4]
        exact X8_dips_lp (ii := ii) B (k + 1) hs hb hp hp2 hf hd (by omega)
      · skip
        have h7 : ¬ d ≤ ((k % p + p - f) % p) := fun z => h7 ((nI_leI (a := d) (b := ((k % p + p - f) % p)) (by omega) (by omega)).mpr z)
        have hin : inP p d f k = true := decide_eq_true (by omega)
        refine J.iconst (1 : Int32) dX8_dips_49 rfl ?_
        refine J.goto dX8_dips_50 ?_
        refine J.istore [1, 2, 3, 4, 5, 6, 7, 8, 9, 0] (lv' := [(0, .ref m), (1, .int (nI s)), (2, .int (nI p)), (3, .int (nI d)), (4, .int (nI f)), (5, .int (nI ((nts (rowM ml s) k).length - cnt (inP p d f) (nts (rowM ml s) k)))), (6, .long (Int64.ofInt (smI (ltF (rowM ml s) F) (inP p d f) (nts (rowM ml s) k)))), (8, .long (Int64.ofInt (smI (ltF (rowM ml s) F) allK (nts (rowM ml s) k) - smI (ltF (rowM ml s) F) (inP p d f) (nts (rowM ml s) k)))), (10, .int (nI k)), (11, .int (1 : Int32))]) dX8_dips_54 rfl rfl ?_
        refine J.aload_n 0 dX8_dips_56 rfl ?_
        refine J.dup dX8_dips_57 rfl ?_
        refine J.get 0 fl_X8_143 dX8_dips_58 rfl rfl ?_
        refine J.iload 9 dX8_dips_61 rfl ?_
        refine J.if_eq dX8_dips_63 (fun z => absurd z (by decide)) (fun _ => ?_)
        refine J.iconst (1 : Int32) dX8_dips_66 rfl ?_
        refine J.goto dX8_dips_67 ?_
        refine J.iadd dX8_dips_71 ?_
        refine J.topi (y := nI ((cnt (inP p d f) (nts (rowM ml s) k)) + 1)) (nI_add (cnt (inP p d f) (nts (rowM ml s) k)) 1) ?_
        refine J.put 0 fp_X8_143 dX8_dips_72 rfl (rfl) (rfl) rfl (ws' := (m, .inr (8, [.int fi, .ref (D 0), .long as, .int (nI ns), .ref (D 1), .ref (D 2), .ref (D 3), .ref (D 4), .ref (D 5), .ref (D 6), .ref (D 7), .ref (D 8), .int (nI ((cnt (inP p d f) (nts (rowM ml s) k)) + 1)), .long de, .int dl, .int dp, .int dc, .ref (D 9), .int (nI nr), .ref (D 10), .ref (D 11), .ref (D 12), .ref (D 13), .ref (D 14), .int al, .int wa])) :: (D 3, .inl (G.2.1.1, 720, .inl ml)) :: (D 4, .inl (G.2.1.1, 60, .inl F)) :: r) rfl ?_
        refine J.iload 5 dX8_dips_75 rfl ?_
        refine J.iload 9 dX8_dips_77 rfl ?_
        refine J.if_eq dX8_dips_79 (fun z => absurd z (by decide)) (fun _ => ?_)
        refine J.iconst (0 : Int32) dX8_dips_82 rfl ?_
        refine J.goto dX8_dips_83 ?_
        refine J.iadd dX8_dips_87 ?_
        refine J.topi (y := nI (((nts (rowM ml s) k).length - cnt (inP p d f) (nts (rowM ml s) k)) + 0)) (nI_add ((nts (rowM ml s) k).length - cnt (inP p d f) (nts (rowM ml s) k)) 0) ?_
        refine J.istore [1, 2, 3, 4, 5, 0, 6, 7, 8, 9] (lv' := [(0, .ref m), (1, .int (nI s)), (2, .int (nI p)), (3, .int (nI d)), (4, .int (nI f)), (5, .int (nI (((nts (rowM ml s) k).length - cnt (inP p d f) (nts (rowM ml s) k)) + 0))), (6, .long (Int64.ofInt (smI (ltF (rowM ml s) F) (inP p d f) (nts (rowM ml s) k)))), (8, .long (Int64.ofInt (smI (ltF (rowM ml s) F) allK (nts (rowM ml s) k) - smI (ltF (rowM ml s) F) (inP p d f) (nts (rowM ml s) k)))), (10, .int (nI k)), (11, .int (1 : Int32))]) dX8_dips_88 rfl rfl ?_
        refine J.lload 6 dX8_dips_90 rfl ?_
        refine J.iload 9 dX8_dips_92 rfl ?_
        refine J.if_eq dX8_dips_94 (fun z => absurd z (by decide)) (fun _ => ?_)
        refine J.aload_n 0 dX8_dips_97 rfl ?_
        refine J.iload_n 1 dX8_dips_98 rfl ?_
        refine J.iload 8 dX8_dips_99 rfl ?_
        refine J.callV 0 (st := [.long (Int64.ofInt (smI (ltF (rowM ml s) F) (inP p d f) (nts (rowM ml s) k)))]) B (c_X8_lightOf l G _ (s := s) (n := k) hs (by omega)) ml_X8_91 mf_yX8_lightOf mi_yX8_lightOf rfl dX8_dips_101 rfl rfl rfl rfl (fun v_7 w_8 hp_9 => ?_)
        obtain ⟨rfl, rfl⟩ := hp_9
        show J G X mX8_dips _ _ _ 104 _ [.int (ltF (rowM ml s) F k), .long (Int64.ofInt (smI (ltF (rowM ml s) F) (inP p d f) (nts (rowM ml s) k)))]
        refine J.i2l dX8_dips_104 ?_
        refine J.goto dX8_dips_105 ?_
        refine J.ladd dX8_dips_109 ?_
        refine J.lstore [1, 2, 3, 4, 5, 6, 0, 7, 8, 9] (lv' := [(0, .ref m), (1, .int (nI s)), (2, .int (nI p)), (3, .int (nI d)), (4, .int (nI f)), (5, .int (nI (((nts (rowM ml s) k).length - cnt (inP p d f) (nts (rowM ml s) k)) + 0))), (6, .long ((Int64.ofInt (smI (ltF (rowM ml s) F) (inP p d f) (nts (rowM ml s) k))) + ((ltF (rowM ml s) F k).toInt64))), (8, .long (Int64.ofInt (smI (ltF (rowM ml s) F) allK (nts (rowM ml s) k) - smI (ltF (rowM ml s) F) (inP p d f) (nts (rowM ml s) k)))), (10, .int (nI k)), (11, .int (1 : Int32))]) dX8_dips_110 rfl rfl ?_
        refine J.lload 7 dX8_dips_112 rfl ?_
        refine J.iload 9 dX8_dips_114 rfl ?_
        refine J.if_eq dX8_dips_116 (fun z => absurd z (by decide)) (fun _ => ?_)
        refine J.lconst 0 dX8_dips_119 rfl ?_
        refine J.goto dX8_dips_120 ?_
        refine J.ladd dX8_dips_131 ?_
        refine J.lstore [1, 2, 3, 4, 5, 6, 7, 0, 8, 9] (lv' := [(0, .ref m), (1, .int (nI s)), (2, .int (nI p)), (3, .int (nI d)), (4, .int (nI f)), (5, .int (nI (((nts (rowM ml s) k).length - cnt (inP p d f) (nts (rowM ml s) k)) + 0))), (6, .long ((Int64.ofInt (smI (ltF (rowM ml s) F) (inP p d f) (nts (rowM ml s) k))) + ((ltF (rowM ml s) F k).toInt64))), (8, .long ((Int64.ofInt (smI (ltF (rowM ml s) F) allK (nts (rowM ml s) k) - smI (ltF (rowM ml s) F) (inP p d f) (nts (rowM ml s) k))) + (0 : Int64))), (10, .int (nI k)), (11, .int (1 : Int32))]) dX8_dips_132 rfl rfl ?_
        refine J.iinc 8 [1, 2, 3, 4, 5, 6, 7, 8, 0, 9] (lv' := [(0, .ref m), (1, .int (nI s)), (2, .int (nI p)), (3, .int (nI d)), (4, .int (nI f)), (5, .int (nI (((nts (rowM ml s) k).length - cnt (inP p d f) (nts (rowM ml s) k)) + 0))), (6, .long ((Int64.ofInt (smI (ltF (rowM ml s) F) (inP p d f) (nts (rowM ml s) k))) + ((ltF (rowM ml s) F k).toInt64))), (8, .long ((Int64.ofInt (smI (ltF (rowM ml s) F) allK (nts (rowM ml s) k) - smI (ltF (rowM ml s) F) (inP p d f) (nts (rowM ml s) k))) + (0 : Int64))), (10, .int (nI (k + 1))), (11, .int (1 : Int32))]) dX8_dips_134 rfl (jinc1 _) rfl rfl ?_
        refine J.goto dX8_dips_137 ?_
        refine J.loc [0, 1, 2, 3, 4, 5, 6, 7, 8] (lv' := [(0, .ref m), (1, .int (nI s)), (2, .int (nI p)), (3, .int (nI d)), (4, .int (nI f)), (5, .int (nI (((nts (rowM ml s) k).length - cnt (inP p d f) (nts (rowM ml s) k)) + 0))), (6, .long ((Int64.ofInt (smI (ltF (rowM ml s) F) (inP p d f) (nts (rowM ml s) k))) + ((ltF (rowM ml s) F k).toInt64))), (8, .long ((Int64.ofInt (smI (ltF (rowM ml s) F) allK (nts (rowM ml s) k) - smI (ltF (rowM ml s) F) (inP p d f) (nts (rowM ml s) k))) + (0 : Int64))), (10, .int (nI (k + 1)))]) rfl ?_
        obtain ⟨q1, q2, q3, q4⟩ := dl_in (F := F) h8 hin
        rw [q1, q2, q3, q4]
        exact X8_dips_lp (ii := ii) B (k + 1) hs hb hp hp2 hf hd (by omega)
termination_by 60 - k
decreasing_by all_goals omega
set_option maxHeartbeats 4000000 in
set_option maxRecDepth 100000 in
theorem c_X8_dips (l : Launch) (G : jG) (r : va_W) {m : Nat} {D : Nat → Nat} {fi : Int32} {as : Int64} {ns : Nat} {ii : Int32} {de : Int64} {dl dp dc : Int32} {nr : Nat} {al wa : Int32} {ml F : Nat → Int32} {s p d f : Nat} (hs : s < 12) (hb : BD (rowM ml s) F) (hp : 1 ≤ p) (hp2 : p ≤ 600) (hf : f < p) (hd : d ≤ 600) : Mt l G yX8_dips mX8_dips 1 22 0 0 [.ref m, .int (nI s), .int (nI p), .int (nI d), .int (nI f)] ((m, .inr (8, [.int fi, .ref (D 0), .long as, .int (nI ns), .ref (D 1), .ref (D 2), .ref (D 3), .ref (D 4), .ref (D 5), .ref (D 6), .ref (D 7), .ref (D 8), .int ii, .long de, .int dl, .int dp, .int dc, .ref (D 9), .int (nI nr), .ref (D 10), .ref (D 11), .ref (D 12), .ref (D 13), .ref (D 14), .int al, .int wa])) :: (D 3, .inl (G.2.1.1, 720, .inl ml)) :: (D 4, .inl (G.2.1.1, 60, .inl F)) :: r) (fun v w => v = some (.int (b01 (decide (0 < cI (rowM ml s) p d f ∧ cI (rowM ml s) p d f < nN (rowM ml s))))) ∧ w = (m, .inr (8, [.int fi, .ref (D 0), .long as, .int (nI ns), .ref (D 1), .ref (D 2), .ref (D 3), .ref (D 4), .ref (D 5), .ref (D 6), .ref (D 7), .ref (D 8), .int (nI (cI (rowM ml s) p d f)), .long (Int64.ofInt (dpI (rowM ml s) F p d f)), .int dl, .int dp, .int dc, .ref (D 9), .int (nI nr), .ref (D 10), .ref (D 11), .ref (D 12), .ref (D 13), .ref (D 14), .int al, .int wa])) :: (D 3, .inl (G.2.1.1, 720, .inl ml)) :: (D 4, .inl (G.2.1.1, 60, .inl F)) :: r) := by
  refine Mt.of (by decide +kernel) rfl rfl (fun X B => ?_)
  show J G X mX8_dips ((m, .inr (8, [.int fi, .ref (D 0), .long as, .int (nI ns), .ref (D 1), .ref (D 2), .ref (D 3), .ref (D 4), .ref (D 5), .ref (D 6), .ref (D 7), .ref (D 8), .int ii, .long de, .int dl, .int dp, .int dc, .ref (D 9), .int (nI nr), .ref (D 10), .ref (D 11), .ref (D 12), .ref (D 13), .ref (D 14), .int al, .int wa])) :: (D 3, .inl (G.2.1.1, 720, .inl ml)) :: (D 4, .inl (G.2.1.1, 60, .inl F)) :: r) 0 0 0 [(0, .ref m), (1, .int (nI s)), (2, .int (nI p)), (3, .int (nI d)), (4, .int (nI f))] []
  refine J.aload_n 0 dX8_dips_0 rfl ?_
  refine J.iconst (0 : Int32) dX8_dips_1 rfl ?_
  refine J.put 0 fp_X8_143 dX8_dips_2 rfl (rfl) (rfl) rfl (ws' := (m, .inr (8, [.int fi, .ref (D 0), .long as, .int (nI ns), .ref (D 1), .ref (D 2), .ref (D 3), .ref (D 4), .ref (D 5), .ref (D 6), .ref (D 7), .ref (D 8), .int (0 : Int32), .long de, .int dl, .int dp, .int dc, .ref (D 9), .int (nI nr), .ref (D 10), .ref (D 11), .ref (D 12), .ref (D 13), .ref (D 14), .int al, .int wa])) :: (D 3, .inl (G.2.1.1, 720, .inl ml)) :: (D 4, .inl (G.2.1.1, 60, .inl F)) :: r) rfl ?_
  refine J.iconst (0 : Int32) dX8_dips_5 rfl ?_
  refine J.istore [1, 2, 3, 4, 5, 0] (lv' := [(0, .ref m), (1, .int (nI s)), (2, .int (nI p)), (3, .int (nI d)), (4, .int (nI f)), (5, .int (0 : Int32))]) dX8_dips_6 rfl rfl ?_
  refine J.lconst 0 dX8_dips_8 rfl ?_
  refine J.lstore [1, 2, 3, 4, 5, 6, 0] (lv' := [(0, .ref m), (1, .int (nI s)), (2, .int (nI p)), (3, .int (nI d)), (4, .int (nI f)), (5, .int (0 : Int32)), (6, .long (0 : Int64))]) dX8_dips_9 rfl rfl ?_
  refine J.lconst 0 dX8_dips_11 rfl ?_
  refine J.lstore [1, 2, 3, 4, 5, 6, 7, 0] (lv' := [(0, .ref m), (1, .int (nI s)), (2, .int (nI p)), (3, .int (nI d)), (4, .int (nI f)), (5, .int (0 : Int32)), (6, .long (0 : Int64)), (8, .long (0 : Int64))]) dX8_dips_12 rfl rfl ?_
  refine J.iconst (0 : Int32) dX8_dips_14 rfl ?_
  refine J.istore [1, 2, 3, 4, 5, 6, 7, 8, 0] (lv' := [(0, .ref m), (1, .int (nI s)), (2, .int (nI p)), (3, .int (nI d)), (4, .int (nI f)), (5, .int (0 : Int32)), (6, .long (0 : Int64)), (8, .long (0 : Int64)), (10, .int (0 : Int32))]) dX8_dips_15 rfl rfl ?_
  exact X8_dips_lp (ii := 0) B 0 hs hb hp hp2 hf hd (by omega)
