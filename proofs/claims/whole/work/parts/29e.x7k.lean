set_option maxHeartbeats 4000000 in
set_option maxRecDepth 100000 in
theorem X7_dig3 {l : Launch} {G : jG} {X : jX} {r : va_W} {x : Nat} {A : Nat → Nat} {ns nr : Nat} {to : Int64} {al wa lf : Int32} {TP : List tR} {F : Nat → Int32} (B : jB l G X 1 25 0 0 (fun v w => v = some (.long (dgA (qF TP) F ns)) ∧ w = (x, .inr (7, [.ref (A 0), .int (nI ns), .ref (A 1), .int (nI nr), .ref (A 2), .ref (A 3), .ref (A 4), .ref (A 5), .ref (A 6), .ref (A 7), .ref (A 8), .ref (A 9), .long to, .int al, .int wa, .int lf, .ref (A 10)])) :: (A 0, .inl (G.2.1.2.2.1, 12, .inr (.inr (.inr (.inr (saF TP)))))) :: (A 2, .inl (G.2.1.1, 60, .inl F)) :: (stP G TP ++ r)) "digest") (k : Nat) (hlen : TP.length = ns) (hns : ns ≤ 12) (hk : k ≤ ns) : J G X mX7_digest ((x, .inr (7, [.ref (A 0), .int (nI ns), .ref (A 1), .int (nI nr), .ref (A 2), .ref (A 3), .ref (A 4), .ref (A 5), .ref (A 6), .ref (A 7), .ref (A 8), .ref (A 9), .long to, .int al, .int wa, .int lf, .ref (A 10)])) :: (A 0, .inl (G.2.1.2.2.1, 12, .inr (.inr (.inr (.inr (saF TP)))))) :: (A 2, .inl (G.2.1.1, 60, .inl F)) :: (stP G TP ++ r)) 0 0 61 [(0, .ref x), (1, .long (dgW (qF TP) (dg60 F (dgS (qF TP) ns) 60) k)), (3, .int (nI k))] [] := by
  refine J.iload_n 2 dX7_digest_61 rfl ?_
  refine J.aload_n 0 dX7_digest_62 rfl ?_
  refine J.get 0 fl_X7_73 dX7_digest_63 rfl rfl ?_
  refine J.icmp_ge dX7_digest_66 (fun h9 => ?_) (fun h9 => ?_)
  · skip
    have h9 : ns ≤ k := (nI_leI (a := ns) (b := k) (by omega) (by omega)).mp h9
    have e : k = ns := by omega
    subst e
    refine J.lload_n 1 dX7_digest_92 rfl ?_
    exact J.lret B dX7_digest_93 rfl (⟨rfl, rfl⟩)
  · skip
    have h9 : ¬ ns ≤ k := fun z => h9 ((nI_leI (a := ns) (b := k) (by omega) (by omega)).mpr z)
    have h9 : k < TP.length := by omega
    obtain ⟨q9, hq9⟩ : ∃ q, q = tD TP k := ⟨_, rfl⟩
    have hsa : saF TP k = some q9.1.1 := by rw [hq9]; exact saF_at h9
    have hqF : qF TP k = q9.2 := by rw [hq9]; rfl
    have hpe : (stP G TP ++ r).Perm (stC G q9 ++ (stP G (TP.eraseIdx k) ++ r)) := by rw [hq9]; exact stP_out h9 r
    obtain ⟨⟨s, la⟩, kd, b, L, wc⟩ := q9
    refine J.perm (ws2 := (x, .inr (7, [.ref (A 0), .int (nI ns), .ref (A 1), .int (nI nr), .ref (A 2), .ref (A 3), .ref (A 4), .ref (A 5), .ref (A 6), .ref (A 7), .ref (A 8), .ref (A 9), .long to, .int al, .int wa, .int lf, .ref (A 10)])) :: (A 0, .inl (G.2.1.2.2.1, 12, .inr (.inr (.inr (.inr (saF TP)))))) :: (A 2, .inl (G.2.1.1, 60, .inl F)) :: (s, .inr (6, [.int kd, .ref la, .int (b01 b), .int wc])) :: (la, .inl (G.2.1.1, 60, .inl L)) :: (stP G (TP.eraseIdx k) ++ r)) (List.Perm.cons _ (List.Perm.cons _ (List.Perm.cons _ (hpe)))) ?_
    refine J.ldc2 dX7_digest_69 kl_X7_263 ?_
    refine J.lload_n 1 dX7_digest_72 rfl ?_
    refine J.lmul dX7_digest_73 ?_
    refine J.aload_n 0 dX7_digest_74 rfl ?_
    refine J.get 0 fl_X7_11 dX7_digest_75 rfl rfl ?_
    refine J.iload_n 2 dX7_digest_78 rfl ?_
    refine J.aald 1 2 (k) dX7_digest_79 rfl rfl (rfl) (by omega) (by decide) (hsa) ?_
    refine J.get 3 fl_X7_241 dX7_digest_80 rfl rfl ?_
    refine J.i2l dX7_digest_83 ?_
    refine J.ladd dX7_digest_84 ?_
    refine J.lstore_n [1, 0, 2] (lv' := [(0, .ref x), (1, .long (((31 : Int64) * (dgW (qF TP) (dg60 F (dgS (qF TP) ns) 60) k)) + wc.toInt64)), (3, .int (nI k))]) dX7_digest_85 rfl rfl ?_
    refine J.iinc 2 [1, 2, 0] (lv' := [(0, .ref x), (1, .long (((31 : Int64) * (dgW (qF TP) (dg60 F (dgS (qF TP) ns) 60) k)) + wc.toInt64)), (3, .int (nI (k + 1)))]) dX7_digest_86 rfl (jinc1 _) rfl rfl ?_
    refine J.goto dX7_digest_89 ?_
    refine J.perm (ws2 := (x, .inr (7, [.ref (A 0), .int (nI ns), .ref (A 1), .int (nI nr), .ref (A 2), .ref (A 3), .ref (A 4), .ref (A 5), .ref (A 6), .ref (A 7), .ref (A 8), .ref (A 9), .long to, .int al, .int wa, .int lf, .ref (A 10)])) :: (A 0, .inl (G.2.1.2.2.1, 12, .inr (.inr (.inr (.inr (saF TP)))))) :: (A 2, .inl (G.2.1.1, 60, .inl F)) :: (stP G TP ++ r)) (List.Perm.cons _ (List.Perm.cons _ (List.Perm.cons _ (hpe.symm)))) ?_
    rw [show 31 * dgW (qF TP) (dg60 F (dgS (qF TP) ns) 60) k + wc.toInt64 = dgW (qF TP) (dg60 F (dgS (qF TP) ns) 60) (k + 1) by
      show _ = 31 * _ + ((qF TP) k).2.2.2.toInt64
      rw [hqF]]
    exact X7_dig3 B (k + 1) hlen hns (by omega)
termination_by ns - k
decreasing_by all_goals omega
set_option maxHeartbeats 4000000 in
set_option maxRecDepth 100000 in
theorem X7_dig2 {l : Launch} {G : jG} {X : jX} {r : va_W} {x : Nat} {A : Nat → Nat} {ns nr : Nat} {to : Int64} {al wa lf : Int32} {TP : List tR} {F : Nat → Int32} (B : jB l G X 1 25 0 0 (fun v w => v = some (.long (dgA (qF TP) F ns)) ∧ w = (x, .inr (7, [.ref (A 0), .int (nI ns), .ref (A 1), .int (nI nr), .ref (A 2), .ref (A 3), .ref (A 4), .ref (A 5), .ref (A 6), .ref (A 7), .ref (A 8), .ref (A 9), .long to, .int al, .int wa, .int lf, .ref (A 10)])) :: (A 0, .inl (G.2.1.2.2.1, 12, .inr (.inr (.inr (.inr (saF TP)))))) :: (A 2, .inl (G.2.1.1, 60, .inl F)) :: (stP G TP ++ r)) "digest") (k : Nat) (hlen : TP.length = ns) (hns : ns ≤ 12) (hk : k ≤ 60) : J G X mX7_digest ((x, .inr (7, [.ref (A 0), .int (nI ns), .ref (A 1), .int (nI nr), .ref (A 2), .ref (A 3), .ref (A 4), .ref (A 5), .ref (A 6), .ref (A 7), .ref (A 8), .ref (A 9), .long to, .int al, .int wa, .int lf, .ref (A 10)])) :: (A 0, .inl (G.2.1.2.2.1, 12, .inr (.inr (.inr (.inr (saF TP)))))) :: (A 2, .inl (G.2.1.1, 60, .inl F)) :: (stP G TP ++ r)) 0 0 33 [(0, .ref x), (1, .long (dg60 F (dgS (qF TP) ns) k)), (3, .int (nI k))] [] := by
  refine J.iload_n 2 dX7_digest_33 rfl ?_
  refine J.bipush (60 : Int32) dX7_digest_34 rfl ?_
  refine J.icmp_ge dX7_digest_36 (fun h9 => ?_) (fun h9 => ?_)
  · skip
    have h9 : 60 ≤ k := (nI_leI (a := 60) (b := k) (by omega) (by omega)).mp h9
    have e : k = 60 := by omega
    subst e
    refine J.iconst (0 : Int32) dX7_digest_59 rfl ?_
    refine J.istore_n [1, 2, 0] (lv' := [(0, .ref x), (1, .long (dg60 F (dgS (qF TP) ns) 60)), (3, .int (0 : Int32))]) dX7_digest_60 rfl rfl ?_
    exact X7_dig3 B 0 hlen hns (by omega)
  · skip
    have h9 : ¬ 60 ≤ k := fun z => h9 ((nI_leI (a := 60) (b := k) (by omega) (by omega)).mpr z)
    refine J.ldc2 dX7_digest_39 kl_X7_263 ?_
    refine J.lload_n 1 dX7_digest_42 rfl ?_
    refine J.lmul dX7_digest_43 ?_
    refine J.aload_n 0 dX7_digest_44 rfl ?_
    refine J.get 0 fl_X7_21 dX7_digest_45 rfl rfl ?_
    refine J.iload_n 2 dX7_digest_48 rfl ?_
    refine J.iald 2 (k) dX7_digest_49 rfl (rfl) (by omega) (by decide) ?_
    refine J.i2l dX7_digest_50 ?_
    refine J.ladd dX7_digest_51 ?_
    refine J.lstore_n [1, 0, 2] (lv' := [(0, .ref x), (1, .long (((31 : Int64) * (dg60 F (dgS (qF TP) ns) k)) + ((F k).toInt64))), (3, .int (nI k))]) dX7_digest_52 rfl rfl ?_
    refine J.iinc 2 [1, 2, 0] (lv' := [(0, .ref x), (1, .long (((31 : Int64) * (dg60 F (dgS (qF TP) ns) k)) + ((F k).toInt64))), (3, .int (nI (k + 1)))]) dX7_digest_53 rfl (jinc1 _) rfl rfl ?_
    refine J.goto dX7_digest_56 ?_
    exact X7_dig2 B (k + 1) hlen hns (by omega)
termination_by 60 - k
decreasing_by all_goals omega
set_option maxHeartbeats 4000000 in
set_option maxRecDepth 100000 in
theorem X7_dig1 {l : Launch} {G : jG} {X : jX} {r : va_W} {x : Nat} {A : Nat → Nat} {ns nr : Nat} {to : Int64} {al wa lf : Int32} {TP : List tR} {F : Nat → Int32} (B : jB l G X 1 25 0 0 (fun v w => v = some (.long (dgA (qF TP) F ns)) ∧ w = (x, .inr (7, [.ref (A 0), .int (nI ns), .ref (A 1), .int (nI nr), .ref (A 2), .ref (A 3), .ref (A 4), .ref (A 5), .ref (A 6), .ref (A 7), .ref (A 8), .ref (A 9), .long to, .int al, .int wa, .int lf, .ref (A 10)])) :: (A 0, .inl (G.2.1.2.2.1, 12, .inr (.inr (.inr (.inr (saF TP)))))) :: (A 2, .inl (G.2.1.1, 60, .inl F)) :: (stP G TP ++ r)) "digest") (k : Nat) (hlen : TP.length = ns) (hns : ns ≤ 12) (hk : k ≤ ns) : J G X mX7_digest ((x, .inr (7, [.ref (A 0), .int (nI ns), .ref (A 1), .int (nI nr), .ref (A 2), .ref (A 3), .ref (A 4), .ref (A 5), .ref (A 6), .ref (A 7), .ref (A 8), .ref (A 9), .long to, .int al, .int wa, .int lf, .ref (A 10)])) :: (A 0, .inl (G.2.1.2.2.1, 12, .inr (.inr (.inr (.inr (saF TP)))))) :: (A 2, .inl (G.2.1.1, 60, .inl F)) :: (stP G TP ++ r)) 0 0 6 [(0, .ref x), (1, .long (dgS (qF TP) k)), (3, .int (nI k))] [] := by
  refine J.iload_n 2 dX7_digest_6 rfl ?_
  refine J.aload_n 0 dX7_digest_7 rfl ?_
  refine J.get 0 fl_X7_73 dX7_digest_8 rfl rfl ?_
  refine J.icmp_ge dX7_digest_11 (fun h9 => ?_) (fun h9 => ?_)
  · skip
    have h9 : ns ≤ k := (nI_leI (a := ns) (b := k) (by omega) (by omega)).mp h9
    have e : k = ns := by omega
    subst e
    refine J.iconst (0 : Int32) dX7_digest_31 rfl ?_
    refine J.istore_n [1, 2, 0] (lv' := [(0, .ref x), (1, .long (dgS (qF TP) k)), (3, .int (0 : Int32))]) dX7_digest_32 rfl rfl ?_
    exact X7_dig2 B 0 hlen hns (by omega)
  · skip
    have h9 : ¬ ns ≤ k := fun z => h9 ((nI_leI (a := ns) (b := k) (by omega) (by omega)).mpr z)
    have h9 : k < TP.length := by omega
    obtain ⟨q9, hq9⟩ : ∃ q, q = tD TP k := ⟨_, rfl⟩
    have hsa : saF TP k = some q9.1.1 := by rw [hq9]; exact saF_at h9
    have hqF : qF TP k = q9.2 := by rw [hq9]; rfl
    have hpe : (stP G TP ++ r).Perm (stC G q9 ++ (stP G (TP.eraseIdx k) ++ r)) := by rw [hq9]; exact stP_out h9 r
    obtain ⟨⟨s, la⟩, kd, b, L, wc⟩ := q9
    refine J.perm (ws2 := (x, .inr (7, [.ref (A 0), .int (nI ns), .ref (A 1), .int (nI nr), .ref (A 2), .ref (A 3), .ref (A 4), .ref (A 5), .ref (A 6), .ref (A 7), .ref (A 8), .ref (A 9), .long to, .int al, .int wa, .int lf, .ref (A 10)])) :: (A 0, .inl (G.2.1.2.2.1, 12, .inr (.inr (.inr (.inr (saF TP)))))) :: (A 2, .inl (G.2.1.1, 60, .inl F)) :: (s, .inr (6, [.int kd, .ref la, .int (b01 b), .int wc])) :: (la, .inl (G.2.1.1, 60, .inl L)) :: (stP G (TP.eraseIdx k) ++ r)) (List.Perm.cons _ (List.Perm.cons _ (List.Perm.cons _ (hpe)))) ?_
    refine J.aload_n 0 dX7_digest_14 rfl ?_
    refine J.get 0 fl_X7_11 dX7_digest_15 rfl rfl ?_
    refine J.iload_n 2 dX7_digest_18 rfl ?_
    refine J.aald 1 2 (k) dX7_digest_19 rfl rfl (rfl) (by omega) (by decide) (hsa) ?_
    refine J.lload_n 1 dX7_digest_20 rfl ?_
    refine J.re [3, 4, 0, 1, 2] 5 (ws2 := (s, .inr (6, [.int kd, .ref la, .int (b01 b), .int wc])) :: (la, .inl (G.2.1.1, 60, .inl L)) :: (x, .inr (7, [.ref (A 0), .int (nI ns), .ref (A 1), .int (nI nr), .ref (A 2), .ref (A 3), .ref (A 4), .ref (A 5), .ref (A 6), .ref (A 7), .ref (A 8), .ref (A 9), .long to, .int al, .int wa, .int lf, .ref (A 10)])) :: (A 0, .inl (G.2.1.2.2.1, 12, .inr (.inr (.inr (.inr (saF TP)))))) :: (A 2, .inl (G.2.1.1, 60, .inl F)) :: (stP G (TP.eraseIdx k) ++ r)) rfl rfl ?_
    refine J.callV 0 (st := []) B (c_X6_digestOnto l G _ (h0 := dgS (qF TP) k)) ml_X7_259 mf_yX6_digestOnto mi_yX6_digestOnto rfl dX7_digest_21 rfl rfl rfl rfl (fun v_1 w_2 hp_3 => ?_)
    obtain ⟨rfl, rfl⟩ := hp_3
    rw [show (if b01 b = 0 then 31 * (31 * dgS (qF TP) k + kd.toInt64) - 1 else dg60 L (31 * dgS (qF TP) k + kd.toInt64) 60) = dgS (qF TP) (k + 1) by
      show _ = if ((qF TP) k).2.1 then _ else _
      rw [hqF]
      cases b <;> rfl]
    refine J.re [2, 3, 4, 0, 1] 5 (ws2 := (x, .inr (7, [.ref (A 0), .int (nI ns), .ref (A 1), .int (nI nr), .ref (A 2), .ref (A 3), .ref (A 4), .ref (A 5), .ref (A 6), .ref (A 7), .ref (A 8), .ref (A 9), .long to, .int al, .int wa, .int lf, .ref (A 10)])) :: (A 0, .inl (G.2.1.2.2.1, 12, .inr (.inr (.inr (.inr (saF TP)))))) :: (A 2, .inl (G.2.1.1, 60, .inl F)) :: (s, .inr (6, [.int kd, .ref la, .int (b01 b), .int wc])) :: (la, .inl (G.2.1.1, 60, .inl L)) :: (stP G (TP.eraseIdx k) ++ r)) rfl rfl ?_
    show J G X mX7_digest _ _ _ 24 _ [.long (dgS (qF TP) (k + 1))]
    refine J.lstore_n [1, 0, 2] (lv' := [(0, .ref x), (1, .long (dgS (qF TP) (k + 1))), (3, .int (nI k))]) dX7_digest_24 rfl rfl ?_
    refine J.iinc 2 [1, 2, 0] (lv' := [(0, .ref x), (1, .long (dgS (qF TP) (k + 1))), (3, .int (nI (k + 1)))]) dX7_digest_25 rfl (jinc1 _) rfl rfl ?_
    refine J.goto dX7_digest_28 ?_
    refine J.perm (ws2 := (x, .inr (7, [.ref (A 0), .int (nI ns), .ref (A 1), .int (nI nr), .ref (A 2), .ref (A 3), .ref (A 4), .ref (A 5), .ref (A 6), .ref (A 7), .ref (A 8), .ref (A 9), .long to, .int al, .int wa, .int lf, .ref (A 10)])) :: (A 0, .inl (G.2.1.2.2.1, 12, .inr (.inr (.inr (.inr (saF TP)))))) :: (A 2, .inl (G.2.1.1, 60, .inl F)) :: (stP G TP ++ r)) (List.Perm.cons _ (List.Perm.cons _ (List.Perm.cons _ (hpe.symm)))) ?_
    exact X7_dig1 B (k + 1) hlen hns (by omega)
termination_by ns - k
decreasing_by all_goals omega
set_option maxHeartbeats 4000000 in
set_option maxRecDepth 100000 in
theorem i_digest (l : Launch) (G : jG) (r : va_W) {x : Nat} {A : Nat → Nat} {ns nr : Nat} {to : Int64} {al wa lf : Int32} {TP : List tR} {F : Nat → Int32} (hlen : TP.length = ns) (hns : ns ≤ 12) : Mt l G yX7_digest mX7_digest 1 25 0 0 [.ref x] ((x, .inr (7, [.ref (A 0), .int (nI ns), .ref (A 1), .int (nI nr), .ref (A 2), .ref (A 3), .ref (A 4), .ref (A 5), .ref (A 6), .ref (A 7), .ref (A 8), .ref (A 9), .long to, .int al, .int wa, .int lf, .ref (A 10)])) :: (A 0, .inl (G.2.1.2.2.1, 12, .inr (.inr (.inr (.inr (saF TP)))))) :: (A 2, .inl (G.2.1.1, 60, .inl F)) :: (stP G TP ++ r)) (fun v w => v = some (.long (dgA (qF TP) F ns)) ∧ w = (x, .inr (7, [.ref (A 0), .int (nI ns), .ref (A 1), .int (nI nr), .ref (A 2), .ref (A 3), .ref (A 4), .ref (A 5), .ref (A 6), .ref (A 7), .ref (A 8), .ref (A 9), .long to, .int al, .int wa, .int lf, .ref (A 10)])) :: (A 0, .inl (G.2.1.2.2.1, 12, .inr (.inr (.inr (.inr (saF TP)))))) :: (A 2, .inl (G.2.1.1, 60, .inl F)) :: (stP G TP ++ r)) := by
  refine Mt.of (by decide +kernel) rfl rfl (fun X B => ?_)
  show J G X mX7_digest ((x, .inr (7, [.ref (A 0), .int (nI ns), .ref (A 1), .int (nI nr), .ref (A 2), .ref (A 3), .ref (A 4), .ref (A 5), .ref (A 6), .ref (A 7), .ref (A 8), .ref (A 9), .long to, .int al, .int wa, .int lf, .ref (A 10)])) :: (A 0, .inl (G.2.1.2.2.1, 12, .inr (.inr (.inr (.inr (saF TP)))))) :: (A 2, .inl (G.2.1.1, 60, .inl F)) :: (stP G TP ++ r)) 0 0 0 [(0, .ref x)] []
  refine J.ldc2 dX7_digest_0 kl_X7_257 ?_
  refine J.lstore_n [1, 0] (lv' := [(0, .ref x), (1, .long (17 : Int64))]) dX7_digest_3 rfl rfl ?_
  refine J.iconst (0 : Int32) dX7_digest_4 rfl ?_
  refine J.istore_n [1, 2, 0] (lv' := [(0, .ref x), (1, .long (17 : Int64)), (3, .int (0 : Int32))]) dX7_digest_5 rfl rfl ?_
  exact X7_dig1 B 0 hlen hns (by omega)
