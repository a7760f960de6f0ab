set_option maxHeartbeats 4000000 in
set_option maxRecDepth 100000 in
theorem c_X7_isKind (l : Launch) (G : jG) (r : va_W) {k : Int32} : Mt l G yX7_isKind mX7_isKind 0 0 0 0 [.int k] (r) (fun v w => v = some (.int (b01 (inR k 0 3))) ∧ w = r) := by
  refine Mt.of (by decide +kernel) rfl rfl (fun X B => ?_)
  show J G X mX7_isKind (r) 0 0 0 [(0, .int k)] []
  refine J.iload_n 0 dX7_isKind_0 rfl ?_
  refine J.if_lt dX7_isKind_1 (fun h_1 => ?_) (fun h_1 => ?_)
  · skip
    have h_1 : k.toInt < (0 : Int) := (fa_lt _ _).mp h_1
    refine J.iconst (0 : Int32) dX7_isKind_13 rfl ?_
    exact J.zret B dX7_isKind_14 rfl (by decide) (⟨by rw [show (inR k 0 3) = false by exact inR_f (by omega)]; rfl, rfl⟩)
  · skip
    have h_1 : ¬ k.toInt < (0 : Int) := fun z => h_1 ((fa_lt _ _).mpr z)
    refine J.iload_n 0 dX7_isKind_4 rfl ?_
    refine J.iconst (3 : Int32) dX7_isKind_5 rfl ?_
    refine J.icmp_gt dX7_isKind_6 (fun h_2 => ?_) (fun h_2 => ?_)
    · skip
      have h_2 : (3 : Int) < k.toInt := (fa_lt _ _).mp h_2
      refine J.iconst (0 : Int32) dX7_isKind_13 rfl ?_
      exact J.zret B dX7_isKind_14 rfl (by decide) (⟨by rw [show (inR k 0 3) = false by exact inR_f (by omega)]; rfl, rfl⟩)
    · skip
      have h_2 : ¬ (3 : Int) < k.toInt := fun z => h_2 ((fa_lt _ _).mpr z)
      refine J.iconst (1 : Int32) dX7_isKind_9 rfl ?_
      refine J.goto dX7_isKind_10 ?_
      exact J.zret B dX7_isKind_14 rfl (by decide) (⟨by rw [show (inR k 0 3) = true by exact inR_t (by omega)]; rfl, rfl⟩)
set_option maxHeartbeats 4000000 in
set_option maxRecDepth 100000 in
theorem c_X7_isNight (l : Launch) (G : jG) (r : va_W) {k : Int32} : Mt l G yX7_isNight mX7_isNight 0 0 0 0 [.int k] (r) (fun v w => v = some (.int (b01 (inR k 0 59))) ∧ w = r) := by
  refine Mt.of (by decide +kernel) rfl rfl (fun X B => ?_)
  show J G X mX7_isNight (r) 0 0 0 [(0, .int k)] []
  refine J.iload_n 0 dX7_isNight_0 rfl ?_
  refine J.if_lt dX7_isNight_1 (fun h_1 => ?_) (fun h_1 => ?_)
  · skip
    have h_1 : k.toInt < (0 : Int) := (fa_lt _ _).mp h_1
    refine J.iconst (0 : Int32) dX7_isNight_14 rfl ?_
    exact J.zret B dX7_isNight_15 rfl (by decide) (⟨by rw [show (inR k 0 59) = false by exact inR_f (by omega)]; rfl, rfl⟩)
  · skip
    have h_1 : ¬ k.toInt < (0 : Int) := fun z => h_1 ((fa_lt _ _).mpr z)
    refine J.iload_n 0 dX7_isNight_4 rfl ?_
    refine J.bipush (60 : Int32) dX7_isNight_5 rfl ?_
    refine J.icmp_ge dX7_isNight_7 (fun h_2 => ?_) (fun h_2 => ?_)
    · skip
      have h_2 : (60 : Int) ≤ k.toInt := (fa_le _ _).mp h_2
      refine J.iconst (0 : Int32) dX7_isNight_14 rfl ?_
      exact J.zret B dX7_isNight_15 rfl (by decide) (⟨by rw [show (inR k 0 59) = false by exact inR_f (by omega)]; rfl, rfl⟩)
    · skip
      have h_2 : ¬ (60 : Int) ≤ k.toInt := fun z => h_2 ((fa_le _ _).mpr z)
      refine J.iconst (1 : Int32) dX7_isNight_10 rfl ?_
      refine J.goto dX7_isNight_11 ?_
      exact J.zret B dX7_isNight_15 rfl (by decide) (⟨by rw [show (inR k 0 59) = true by exact inR_t (by omega)]; rfl, rfl⟩)
set_option maxHeartbeats 4000000 in
set_option maxRecDepth 100000 in
theorem c_X7_isPeriod (l : Launch) (G : jG) (r : va_W) {p q : Int32} : Mt l G yX7_isPeriod mX7_isPeriod 0 0 0 0 [.int p, .int q] (r) (fun v w => v = some (.int (b01 (inR p 1 600 && inR q 1 60))) ∧ w = r) := by
  refine Mt.of (by decide +kernel) rfl rfl (fun X B => ?_)
  show J G X mX7_isPeriod (r) 0 0 0 [(0, .int p), (1, .int q)] []
  refine J.iload_n 0 dX7_isPeriod_0 rfl ?_
  refine J.iconst (1 : Int32) dX7_isPeriod_1 rfl ?_
  refine J.icmp_lt dX7_isPeriod_2 (fun h_1 => ?_) (fun h_1 => ?_)
  · skip
    have h_1 : p.toInt < (1 : Int) := (fa_lt _ _).mp h_1
    refine J.iconst (0 : Int32) dX7_isPeriod_27 rfl ?_
    exact J.zret B dX7_isPeriod_28 rfl (by decide) (⟨by rw [show (inR p 1 600 && inR q 1 60) = false by first | (rw [inR_f (v := p) (by omega)]; rfl) | (rw [inR_f (v := q) (by omega)]; exact Bool.and_false _)]; rfl, rfl⟩)
  · skip
    have h_1 : ¬ p.toInt < (1 : Int) := fun z => h_1 ((fa_lt _ _).mpr z)
    refine J.iload_n 0 dX7_isPeriod_5 rfl ?_
    refine J.sipush (600 : Int32) dX7_isPeriod_6 rfl ?_
    refine J.icmp_gt dX7_isPeriod_9 (fun h_2 => ?_) (fun h_2 => ?_)
    · skip
      have h_2 : (600 : Int) < p.toInt := (fa_lt _ _).mp h_2
      refine J.iconst (0 : Int32) dX7_isPeriod_27 rfl ?_
      exact J.zret B dX7_isPeriod_28 rfl (by decide) (⟨by rw [show (inR p 1 600 && inR q 1 60) = false by first | (rw [inR_f (v := p) (by omega)]; rfl) | (rw [inR_f (v := q) (by omega)]; exact Bool.and_false _)]; rfl, rfl⟩)
    · skip
      have h_2 : ¬ (600 : Int) < p.toInt := fun z => h_2 ((fa_lt _ _).mpr z)
      refine J.iload_n 1 dX7_isPeriod_12 rfl ?_
      refine J.iconst (1 : Int32) dX7_isPeriod_13 rfl ?_
      refine J.icmp_lt dX7_isPeriod_14 (fun h_3 => ?_) (fun h_3 => ?_)
      · skip
        have h_3 : q.toInt < (1 : Int) := (fa_lt _ _).mp h_3
        refine J.iconst (0 : Int32) dX7_isPeriod_27 rfl ?_
        exact J.zret B dX7_isPeriod_28 rfl (by decide) (⟨by rw [show (inR p 1 600 && inR q 1 60) = false by first | (rw [inR_f (v := p) (by omega)]; rfl) | (rw [inR_f (v := q) (by omega)]; exact Bool.and_false _)]; rfl, rfl⟩)
      · skip
        have h_3 : ¬ q.toInt < (1 : Int) := fun z => h_3 ((fa_lt _ _).mpr z)
        refine J.iload_n 1 dX7_isPeriod_17 rfl ?_
        refine J.bipush (60 : Int32) dX7_isPeriod_18 rfl ?_
        refine J.icmp_gt dX7_isPeriod_20 (fun h_4 => ?_) (fun h_4 => ?_)
        · skip
          have h_4 : (60 : Int) < q.toInt := (fa_lt _ _).mp h_4
          refine J.iconst (0 : Int32) dX7_isPeriod_27 rfl ?_
          exact J.zret B dX7_isPeriod_28 rfl (by decide) (⟨by rw [show (inR p 1 600 && inR q 1 60) = false by first | (rw [inR_f (v := p) (by omega)]; rfl) | (rw [inR_f (v := q) (by omega)]; exact Bool.and_false _)]; rfl, rfl⟩)
        · skip
          have h_4 : ¬ (60 : Int) < q.toInt := fun z => h_4 ((fa_lt _ _).mpr z)
          refine J.iconst (1 : Int32) dX7_isPeriod_23 rfl ?_
          refine J.goto dX7_isPeriod_24 ?_
          exact J.zret B dX7_isPeriod_28 rfl (by decide) (⟨by rw [show (inR p 1 600 && inR q 1 60) = true by rw [inR_t (by omega), inR_t (by omega)]; rfl]; rfl, rfl⟩)
set_option maxHeartbeats 4000000 in
set_option maxRecDepth 100000 in
theorem c_X7_areNights (l : Launch) (G : jG) (r : va_W) {f n : Int32} (hn : 0 ≤ n.toInt) : Mt l G yX7_areNights mX7_areNights 0 0 0 0 [.int f, .int n] (r) (fun v w => v = some (.int (b01 (decide (0 ≤ f.toInt ∧ f.toInt + n.toInt ≤ 60)))) ∧ w = r) := by
  refine Mt.of (by decide +kernel) rfl rfl (fun X B => ?_)
  show J G X mX7_areNights (r) 0 0 0 [(0, .int f), (1, .int n)] []
  refine J.iload_n 0 dX7_areNights_0 rfl ?_
  refine J.if_lt dX7_areNights_1 (fun h_1 => ?_) (fun h_1 => ?_)
  · skip
    have h_1 : f.toInt < (0 : Int) := (fa_lt _ _).mp h_1
    refine J.iconst (0 : Int32) dX7_areNights_22 rfl ?_
    exact J.zret B dX7_areNights_23 rfl (by decide) (⟨by rw [decide_eq_false (by omega)]; rfl, rfl⟩)
  · skip
    have h_1 : ¬ f.toInt < (0 : Int) := fun z => h_1 ((fa_lt _ _).mpr z)
    refine J.iload_n 0 dX7_areNights_4 rfl ?_
    refine J.bipush (60 : Int32) dX7_areNights_5 rfl ?_
    refine J.icmp_gt dX7_areNights_7 (fun h_2 => ?_) (fun h_2 => ?_)
    · skip
      have h_2 : (60 : Int) < f.toInt := (fa_lt _ _).mp h_2
      refine J.iconst (0 : Int32) dX7_areNights_22 rfl ?_
      exact J.zret B dX7_areNights_23 rfl (by decide) (⟨by rw [decide_eq_false (by omega)]; rfl, rfl⟩)
    · skip
      have h_2 : ¬ (60 : Int) < f.toInt := fun z => h_2 ((fa_lt _ _).mpr z)
      refine J.iload_n 1 dX7_areNights_10 rfl ?_
      refine J.bipush (60 : Int32) dX7_areNights_11 rfl ?_
      refine J.iload_n 0 dX7_areNights_13 rfl ?_
      refine J.isub dX7_areNights_14 ?_
      refine J.icmp_gt dX7_areNights_15 (fun h8 => ?_) (fun h8 => ?_)
      · skip
        have hsub : ((60 : Int32) - f).toInt = 60 - f.toInt := by rw [fb_subI (by show _ ≤ (60 : Int) - _; omega) (by show (60 : Int) - _ < _; omega)]; rfl
        have h8 : 60 - f.toInt < n.toInt := by rw [fa_lt, hsub] at h8; exact h8
        refine J.iconst (0 : Int32) dX7_areNights_22 rfl ?_
        exact J.zret B dX7_areNights_23 rfl (by decide) (⟨by rw [decide_eq_false (by omega)]; rfl, rfl⟩)
      · skip
        have hsub : ((60 : Int32) - f).toInt = 60 - f.toInt := by rw [fb_subI (by show _ ≤ (60 : Int) - _; omega) (by show (60 : Int) - _ < _; omega)]; rfl
        have h8 : ¬ 60 - f.toInt < n.toInt := by rw [fa_lt, hsub] at h8; exact h8
        refine J.iconst (1 : Int32) dX7_areNights_18 rfl ?_
        refine J.goto dX7_areNights_19 ?_
        exact J.zret B dX7_areNights_23 rfl (by decide) (⟨by rw [decide_eq_true ⟨by omega, by omega⟩]; rfl, rfl⟩)
set_option maxHeartbeats 4000000 in
set_option maxRecDepth 100000 in
theorem c_X7_found (l : Launch) (G : jG) (r : va_W) {x : Nat} {A : Nat → Nat} {ns nr : Nat} {to : Int64} {al wa lf : Int32} {fc : Nat → Int32} {c : Nat} (h1 : 1 ≤ c) (h2 : c ≤ 5) : Mt l G yX7_found mX7_found 0 0 0 0 [.ref x, .int (nI c)] ((x, .inr (7, [.ref (A 0), .int (nI ns), .ref (A 1), .int (nI nr), .ref (A 2), .ref (A 3), .ref (A 4), .ref (A 5), .ref (A 6), .ref (A 7), .ref (A 8), .ref (A 9), .long to, .int al, .int wa, .int lf, .ref (A 10)])) :: (A 10, .inl (G.2.1.1, 6, .inl fc)) :: r) (fun v w => v = some (.int (-3 : Int32)) ∧ w = (x, .inr (7, [.ref (A 0), .int (nI ns), .ref (A 1), .int (nI nr), .ref (A 2), .ref (A 3), .ref (A 4), .ref (A 5), .ref (A 6), .ref (A 7), .ref (A 8), .ref (A 9), .long to, .int al, .int wa, .int (nI c), .ref (A 10)])) :: (A 10, .inl (G.2.1.1, 6, .inl (upd fc c (fc c + 1)))) :: r) := by
  refine Mt.of (by decide +kernel) rfl rfl (fun X B => ?_)
  show J G X mX7_found ((x, .inr (7, [.ref (A 0), .int (nI ns), .ref (A 1), .int (nI nr), .ref (A 2), .ref (A 3), .ref (A 4), .ref (A 5), .ref (A 6), .ref (A 7), .ref (A 8), .ref (A 9), .long to, .int al, .int wa, .int lf, .ref (A 10)])) :: (A 10, .inl (G.2.1.1, 6, .inl fc)) :: r) 0 0 0 [(0, .ref x), (1, .int (nI c))] []
  refine J.aload_n 0 dX7_found_0 rfl ?_
  refine J.iload_n 1 dX7_found_1 rfl ?_
  refine J.put 0 fp_X7_254 dX7_found_2 rfl (rfl) (rfl) rfl (ws' := (x, .inr (7, [.ref (A 0), .int (nI ns), .ref (A 1), .int (nI nr), .ref (A 2), .ref (A 3), .ref (A 4), .ref (A 5), .ref (A 6), .ref (A 7), .ref (A 8), .ref (A 9), .long to, .int al, .int wa, .int (nI c), .ref (A 10)])) :: (A 10, .inl (G.2.1.1, 6, .inl fc)) :: r) rfl ?_
  refine J.iload_n 1 dX7_found_5 rfl ?_
  refine J.iconst (1 : Int32) dX7_found_6 rfl ?_
  refine J.icmp_lt dX7_found_7 (fun h9 => ?_) (fun h9 => ?_)
  · skip
    have h9 : c < 1 := (nI_ltI (a := c) (b := 1) (by omega) (by omega)).mp h9
    omega
  · skip
    have h9 : ¬ c < 1 := fun z => h9 ((nI_ltI (a := c) (b := 1) (by omega) (by omega)).mpr z)
    refine J.iload_n 1 dX7_found_10 rfl ?_
    refine J.iconst (5 : Int32) dX7_found_11 rfl ?_
    refine J.icmp_gt dX7_found_12 (fun h8 => ?_) (fun h8 => ?_)
    · skip
      have h8 : 5 < c := (nI_ltI (a := 5) (b := c) (by omega) (by omega)).mp h8
      omega
    · skip
      have h8 : ¬ 5 < c := fun z => h8 ((nI_ltI (a := 5) (b := c) (by omega) (by omega)).mpr z)
      refine J.aload_n 0 dX7_found_15 rfl ?_
      refine J.get 0 fl_X7_66 dX7_found_16 rfl rfl ?_
      refine J.iload_n 1 dX7_found_19 rfl ?_
      refine J.dup2 dX7_found_20 rfl rfl ?_
      refine J.iald 1 (c) dX7_found_21 rfl (rfl) (by omega) (by decide) ?_
      refine J.iconst (1 : Int32) dX7_found_22 rfl ?_
      refine J.iadd dX7_found_23 ?_
      refine J.iast 1 (c) dX7_found_24 rfl (rfl) (by omega) (by decide) (ws' := (x, .inr (7, [.ref (A 0), .int (nI ns), .ref (A 1), .int (nI nr), .ref (A 2), .ref (A 3), .ref (A 4), .ref (A 5), .ref (A 6), .ref (A 7), .ref (A 8), .ref (A 9), .long to, .int al, .int wa, .int (nI c), .ref (A 10)])) :: (A 10, .inl (G.2.1.1, 6, .inl (upd fc c ((fc c) + (1 : Int32))))) :: r) rfl ?_
      refine J.bipush (-3 : Int32) dX7_found_25 rfl ?_
      exact J.iret B dX7_found_27 rfl (⟨rfl, rfl⟩)
set_option maxHeartbeats 4000000 in
set_option maxRecDepth 100000 in
theorem c_X7_tell (l : Launch) (G : jG) (r : va_W) {x : Nat} {A : Nat → Nat} {ns nr : Nat} {to : Int64} {al wa lf : Int32} {t0 : Int64} : Mt l G yX7_tell mX7_tell 0 0 0 0 [.ref x, .long t0] ((x, .inr (7, [.ref (A 0), .int (nI ns), .ref (A 1), .int (nI nr), .ref (A 2), .ref (A 3), .ref (A 4), .ref (A 5), .ref (A 6), .ref (A 7), .ref (A 8), .ref (A 9), .long to, .int al, .int wa, .int lf, .ref (A 10)])) :: r) (fun v w => v = some (.int (1 : Int32)) ∧ w = (x, .inr (7, [.ref (A 0), .int (nI ns), .ref (A 1), .int (nI nr), .ref (A 2), .ref (A 3), .ref (A 4), .ref (A 5), .ref (A 6), .ref (A 7), .ref (A 8), .ref (A 9), .long t0, .int al, .int wa, .int lf, .ref (A 10)])) :: r) := by
  refine Mt.of (by decide +kernel) rfl rfl (fun X B => ?_)
  show J G X mX7_tell ((x, .inr (7, [.ref (A 0), .int (nI ns), .ref (A 1), .int (nI nr), .ref (A 2), .ref (A 3), .ref (A 4), .ref (A 5), .ref (A 6), .ref (A 7), .ref (A 8), .ref (A 9), .long to, .int al, .int wa, .int lf, .ref (A 10)])) :: r) 0 0 0 [(0, .ref x), (1, .long t0)] []
  refine J.aload_n 0 dX7_tell_0 rfl ?_
  refine J.lload_n 1 dX7_tell_1 rfl ?_
  refine J.put 0 fp_X7_244 dX7_tell_2 rfl (rfl) (rfl) rfl (ws' := (x, .inr (7, [.ref (A 0), .int (nI ns), .ref (A 1), .int (nI nr), .ref (A 2), .ref (A 3), .ref (A 4), .ref (A 5), .ref (A 6), .ref (A 7), .ref (A 8), .ref (A 9), .long t0, .int al, .int wa, .int lf, .ref (A 10)])) :: r) rfl ?_
  refine J.iconst (1 : Int32) dX7_tell_5 rfl ?_
  exact J.iret B dX7_tell_6 rfl (⟨rfl, rfl⟩)
set_option maxHeartbeats 4000000 in
set_option maxRecDepth 100000 in
theorem c_X7_starNumbered (l : Launch) (G : jG) (r : va_W) {x : Nat} {A : Nat → Nat} {ns nr : Nat} {to : Int64} {al wa lf : Int32} {sa : Nat → Option Nat} {k s : Nat} (hk : k < ns) (hns : ns ≤ 12) (hsa : sa k = some s) : Mt l G yX7_starNumbered mX7_starNumbered 0 0 0 0 [.ref x, .int (nI k)] ((x, .inr (7, [.ref (A 0), .int (nI ns), .ref (A 1), .int (nI nr), .ref (A 2), .ref (A 3), .ref (A 4), .ref (A 5), .ref (A 6), .ref (A 7), .ref (A 8), .ref (A 9), .long to, .int al, .int wa, .int lf, .ref (A 10)])) :: (A 0, .inl (G.2.1.2.2.1, 12, .inr (.inr (.inr (.inr sa))))) :: r) (fun v w => v = some (.ref s) ∧ w = (x, .inr (7, [.ref (A 0), .int (nI ns), .ref (A 1), .int (nI nr), .ref (A 2), .ref (A 3), .ref (A 4), .ref (A 5), .ref (A 6), .ref (A 7), .ref (A 8), .ref (A 9), .long to, .int al, .int wa, .int lf, .ref (A 10)])) :: (A 0, .inl (G.2.1.2.2.1, 12, .inr (.inr (.inr (.inr sa))))) :: r) := by
  refine Mt.of (by decide +kernel) rfl rfl (fun X B => ?_)
  show J G X mX7_starNumbered ((x, .inr (7, [.ref (A 0), .int (nI ns), .ref (A 1), .int (nI nr), .ref (A 2), .ref (A 3), .ref (A 4), .ref (A 5), .ref (A 6), .ref (A 7), .ref (A 8), .ref (A 9), .long to, .int al, .int wa, .int lf, .ref (A 10)])) :: (A 0, .inl (G.2.1.2.2.1, 12, .inr (.inr (.inr (.inr sa))))) :: r) 0 0 0 [(0, .ref x), (1, .int (nI k))] []
  refine J.iload_n 1 dX7_starNumbered_0 rfl ?_
  refine J.if_lt dX7_starNumbered_1 (fun h9 => ?_) (fun h9 => ?_)
  · skip
    have h9 : k < 0 := (nI_ltI (a := k) (b := 0) (by omega) (by omega)).mp h9
    omega
  · skip
    have h9 : ¬ k < 0 := fun z => h9 ((nI_ltI (a := k) (b := 0) (by omega) (by omega)).mpr z)
    refine J.iload_n 1 dX7_starNumbered_4 rfl ?_
    refine J.aload_n 0 dX7_starNumbered_5 rfl ?_
    refine J.get 0 fl_X7_73 dX7_starNumbered_6 rfl rfl ?_
    refine J.icmp_ge dX7_starNumbered_9 (fun h8 => ?_) (fun h8 => ?_)
    · skip
      have h8 : ns ≤ k := (nI_leI (a := ns) (b := k) (by omega) (by omega)).mp h8
      omega
    · skip
      have h8 : ¬ ns ≤ k := fun z => h8 ((nI_leI (a := ns) (b := k) (by omega) (by omega)).mpr z)
      refine J.aload_n 0 dX7_starNumbered_12 rfl ?_
      refine J.get 0 fl_X7_11 dX7_starNumbered_13 rfl rfl ?_
      refine J.iload_n 1 dX7_starNumbered_16 rfl ?_
      refine J.aald 1 2 (k) dX7_starNumbered_17 rfl rfl (rfl) (by omega) (by decide) (hsa) ?_
      refine J.goto dX7_starNumbered_18 ?_
      exact J.aret B dX7_starNumbered_22 rfl (Or.inr ⟨_, rfl⟩) (⟨rfl, rfl⟩)
set_option maxHeartbeats 4000000 in
set_option maxRecDepth 100000 in
theorem c_X7_starNumbered_bad (l : Launch) (G : jG) (r : va_W) {x : Nat} {A : Nat → Nat} {ns nr : Nat} {to : Int64} {al wa lf : Int32} {sa : Nat → Option Nat} {num : Int32} (hns : ns ≤ 12) (hnum : inR num 0 ((ns : Int) - 1) = false) : Mt l G yX7_starNumbered mX7_starNumbered 0 0 0 0 [.ref x, .int num] ((x, .inr (7, [.ref (A 0), .int (nI ns), .ref (A 1), .int (nI nr), .ref (A 2), .ref (A 3), .ref (A 4), .ref (A 5), .ref (A 6), .ref (A 7), .ref (A 8), .ref (A 9), .long to, .int al, .int wa, .int lf, .ref (A 10)])) :: (A 0, .inl (G.2.1.2.2.1, 12, .inr (.inr (.inr (.inr sa))))) :: r) (fun v w => v = some (.null) ∧ w = (x, .inr (7, [.ref (A 0), .int (nI ns), .ref (A 1), .int (nI nr), .ref (A 2), .ref (A 3), .ref (A 4), .ref (A 5), .ref (A 6), .ref (A 7), .ref (A 8), .ref (A 9), .long to, .int al, .int wa, .int lf, .ref (A 10)])) :: (A 0, .inl (G.2.1.2.2.1, 12, .inr (.inr (.inr (.inr sa))))) :: r) := by
  refine Mt.of (by decide +kernel) rfl rfl (fun X B => ?_)
  show J G X mX7_starNumbered ((x, .inr (7, [.ref (A 0), .int (nI ns), .ref (A 1), .int (nI nr), .ref (A 2), .ref (A 3), .ref (A 4), .ref (A 5), .ref (A 6), .ref (A 7), .ref (A 8), .ref (A 9), .long to, .int al, .int wa, .int lf, .ref (A 10)])) :: (A 0, .inl (G.2.1.2.2.1, 12, .inr (.inr (.inr (.inr sa))))) :: r) 0 0 0 [(0, .ref x), (1, .int num)] []
  refine J.iload_n 1 dX7_starNumbered_0 rfl ?_
  refine J.if_lt dX7_starNumbered_1 (fun h9 => ?_) (fun h9 => ?_)
  · skip
    have h9 : num.toInt < (0 : Int) := (fa_lt _ _).mp h9
    refine J.aconst_null dX7_starNumbered_21 ?_
    exact J.aret B dX7_starNumbered_22 rfl (Or.inl rfl) (⟨rfl, rfl⟩)
  · skip
    have h9 : ¬ num.toInt < (0 : Int) := fun z => h9 ((fa_lt _ _).mpr z)
    refine J.iload_n 1 dX7_starNumbered_4 rfl ?_
    refine J.aload_n 0 dX7_starNumbered_5 rfl ?_
    refine J.get 0 fl_X7_73 dX7_starNumbered_6 rfl rfl ?_
    refine J.icmp_ge dX7_starNumbered_9 (fun h8 => ?_) (fun z => absurd (by
        have q := inR_no hnum
        rw [fa_le, nI_toInt (by omega)]
        omega) z)
    refine J.aconst_null dX7_starNumbered_21 ?_
    exact J.aret B dX7_starNumbered_22 rfl (Or.inl rfl) (⟨rfl, rfl⟩)
set_option maxHeartbeats 4000000 in
set_option maxRecDepth 100000 in
theorem c_X7_lookAtRow_bad (l : Launch) (G : jG) (r : va_W) {x : Nat} {A : Nat → Nat} {ns nr : Nat} {to : Int64} {al wa lf : Int32} {sa : Nat → Option Nat} {num : Int32} (hns : ns ≤ 12) (hnum : inR num 0 ((ns : Int) - 1) = false) : Mt l G yX7_lookAtRow mX7_lookAtRow 1 21 0 0 [.ref x, .int num] ((x, .inr (7, [.ref (A 0), .int (nI ns), .ref (A 1), .int (nI nr), .ref (A 2), .ref (A 3), .ref (A 4), .ref (A 5), .ref (A 6), .ref (A 7), .ref (A 8), .ref (A 9), .long to, .int al, .int wa, .int lf, .ref (A 10)])) :: (A 0, .inl (G.2.1.2.2.1, 12, .inr (.inr (.inr (.inr sa))))) :: r) (fun v w => v = some (.int (-1 : Int32)) ∧ w = (x, .inr (7, [.ref (A 0), .int (nI ns), .ref (A 1), .int (nI nr), .ref (A 2), .ref (A 3), .ref (A 4), .ref (A 5), .ref (A 6), .ref (A 7), .ref (A 8), .ref (A 9), .long to, .int al, .int wa, .int lf, .ref (A 10)])) :: (A 0, .inl (G.2.1.2.2.1, 12, .inr (.inr (.inr (.inr sa))))) :: r) := by
  refine Mt.of (by decide +kernel) rfl rfl (fun X B => ?_)
  show J G X mX7_lookAtRow ((x, .inr (7, [.ref (A 0), .int (nI ns), .ref (A 1), .int (nI nr), .ref (A 2), .ref (A 3), .ref (A 4), .ref (A 5), .ref (A 6), .ref (A 7), .ref (A 8), .ref (A 9), .long to, .int al, .int wa, .int lf, .ref (A 10)])) :: (A 0, .inl (G.2.1.2.2.1, 12, .inr (.inr (.inr (.inr sa))))) :: r) 0 0 0 [(0, .ref x), (1, .int num)] []
  refine J.aload_n 0 dX7_lookAtRow_0 rfl ?_
  refine J.iload_n 1 dX7_lookAtRow_1 rfl ?_
  refine J.callV 0 (st := []) B (c_X7_starNumbered_bad l G _ hns hnum) ml_X7_80 mf_yX7_starNumbered mi_yX7_starNumbered rfl dX7_lookAtRow_2 rfl rfl rfl rfl (fun v_1 w_2 hp_3 => ?_)
  obtain ⟨rfl, rfl⟩ := hp_3
  show J G X mX7_lookAtRow _ _ _ 5 _ [.null]
  refine J.astore_nN [1, 2, 0] (lv' := [(0, .ref x), (1, .int num), (2, .null)]) dX7_lookAtRow_5 rfl rfl ?_
  refine J.aload_nN 2 dX7_lookAtRow_6 rfl ?_
  refine J.ifnonnullN dX7_lookAtRow_7 ?_
  refine J.iconst (-1 : Int32) dX7_lookAtRow_10 rfl ?_
  exact J.iret B dX7_lookAtRow_11 rfl (⟨rfl, rfl⟩)
set_option maxHeartbeats 4000000 in
set_option maxRecDepth 100000 in
theorem c_X7_lookAtRow_no (l : Launch) (G : jG) (r : va_W) {x : Nat} {A : Nat → Nat} {ns nr : Nat} {to : Int64} {al wa lf : Int32} {sa : Nat → Option Nat} {la : Nat} {kd wc : Int32} {k s : Nat} (hk : k < ns) (hns : ns ≤ 12) (hsa : sa k = some s) {fc : Nat → Int32} : Mt l G yX7_lookAtRow mX7_lookAtRow 1 21 0 0 [.ref x, .int (nI k)] ((x, .inr (7, [.ref (A 0), .int (nI ns), .ref (A 1), .int (nI nr), .ref (A 2), .ref (A 3), .ref (A 4), .ref (A 5), .ref (A 6), .ref (A 7), .ref (A 8), .ref (A 9), .long to, .int al, .int wa, .int lf, .ref (A 10)])) :: (A 0, .inl (G.2.1.2.2.1, 12, .inr (.inr (.inr (.inr sa))))) :: (s, .inr (6, [.int kd, .ref la, .int (0 : Int32), .int wc])) :: (A 10, .inl (G.2.1.1, 6, .inl fc)) :: r) (fun v w => v = some (.int (-3 : Int32)) ∧ w = (x, .inr (7, [.ref (A 0), .int (nI ns), .ref (A 1), .int (nI nr), .ref (A 2), .ref (A 3), .ref (A 4), .ref (A 5), .ref (A 6), .ref (A 7), .ref (A 8), .ref (A 9), .long to, .int al, .int wa, .int (nI 1), .ref (A 10)])) :: (A 0, .inl (G.2.1.2.2.1, 12, .inr (.inr (.inr (.inr sa))))) :: (s, .inr (6, [.int kd, .ref la, .int (0 : Int32), .int wc])) :: (A 10, .inl (G.2.1.1, 6, .inl (upd fc 1 (fc 1 + 1)))) :: r) := by
  refine Mt.of (by decide +kernel) rfl rfl (fun X B => ?_)
  show J G X mX7_lookAtRow ((x, .inr (7, [.ref (A 0), .int (nI ns), .ref (A 1), .int (nI nr), .ref (A 2), .ref (A 3), .ref (A 4), .ref (A 5), .ref (A 6), .ref (A 7), .ref (A 8), .ref (A 9), .long to, .int al, .int wa, .int lf, .ref (A 10)])) :: (A 0, .inl (G.2.1.2.2.1, 12, .inr (.inr (.inr (.inr sa))))) :: (s, .inr (6, [.int kd, .ref la, .int (0 : Int32), .int wc])) :: (A 10, .inl (G.2.1.1, 6, .inl fc)) :: r) 0 0 0 [(0, .ref x), (1, .int (nI k))] []
  refine J.aload_n 0 dX7_lookAtRow_0 rfl ?_
  refine J.iload_n 1 dX7_lookAtRow_1 rfl ?_
  refine J.callV 0 (st := []) B (c_X7_starNumbered l G _ hk hns hsa) ml_X7_80 mf_yX7_starNumbered mi_yX7_starNumbered rfl dX7_lookAtRow_2 rfl rfl rfl rfl (fun v_1 w_2 hp_3 => ?_)
  obtain ⟨rfl, rfl⟩ := hp_3
  show J G X mX7_lookAtRow _ _ _ 5 _ [.ref s]
  refine J.astore_n [1, 2, 0] (lv' := [(0, .ref x), (1, .int (nI k)), (2, .ref s)]) dX7_lookAtRow_5 rfl rfl ?_
  refine J.aload_n 2 dX7_lookAtRow_6 rfl ?_
  refine J.ifnonnull dX7_lookAtRow_7 ?_
  refine J.aload_n 2 dX7_lookAtRow_12 rfl ?_
  refine J.get 2 fl_X7_100 dX7_lookAtRow_13 rfl rfl ?_
  refine J.if_eq dX7_lookAtRow_16 (fun _ => ?_) (fun z => absurd z (by decide))
  refine J.aload_n 0 dX7_lookAtRow_23 rfl ?_
  refine J.iconst (1 : Int32) dX7_lookAtRow_24 rfl ?_
  refine J.re [0, 3, 1, 2] 4 (ws2 := (x, .inr (7, [.ref (A 0), .int (nI ns), .ref (A 1), .int (nI nr), .ref (A 2), .ref (A 3), .ref (A 4), .ref (A 5), .ref (A 6), .ref (A 7), .ref (A 8), .ref (A 9), .long to, .int al, .int wa, .int lf, .ref (A 10)])) :: (A 10, .inl (G.2.1.1, 6, .inl fc)) :: (A 0, .inl (G.2.1.2.2.1, 12, .inr (.inr (.inr (.inr sa))))) :: (s, .inr (6, [.int kd, .ref la, .int (0 : Int32), .int wc])) :: r) rfl rfl ?_
  refine J.callV 0 (st := []) B (c_X7_found l G _ (c := 1) (by decide) (by decide)) ml_X7_87 mf_yX7_found mi_yX7_found rfl dX7_lookAtRow_25 rfl rfl rfl rfl (fun v_4 w_5 hp_6 => ?_)
  obtain ⟨rfl, rfl⟩ := hp_6
  refine J.re [0, 2, 3, 1] 4 (ws2 := (x, .inr (7, [.ref (A 0), .int (nI ns), .ref (A 1), .int (nI nr), .ref (A 2), .ref (A 3), .ref (A 4), .ref (A 5), .ref (A 6), .ref (A 7), .ref (A 8), .ref (A 9), .long to, .int al, .int wa, .int (nI 1), .ref (A 10)])) :: (A 0, .inl (G.2.1.2.2.1, 12, .inr (.inr (.inr (.inr sa))))) :: (s, .inr (6, [.int kd, .ref la, .int (0 : Int32), .int wc])) :: (A 10, .inl (G.2.1.1, 6, .inl (upd fc 1 (fc 1 + 1)))) :: r) rfl rfl ?_
  show J G X mX7_lookAtRow _ _ _ 28 _ [.int (-3 : Int32)]
  exact J.iret B dX7_lookAtRow_28 rfl (⟨rfl, rfl⟩)
set_option maxHeartbeats 4000000 in
set_option maxRecDepth 100000 in
theorem c_X7_lookAtRow (l : Launch) (G : jG) (r : va_W) {x : Nat} {A : Nat → Nat} {ns nr : Nat} {to : Int64} {al wa lf : Int32} {sa : Nat → Option Nat} {la : Nat} {kd wc : Int32} {k s : Nat} (hk : k < ns) (hns : ns ≤ 12) (hsa : sa k = some s) : Mt l G yX7_lookAtRow mX7_lookAtRow 1 21 0 0 [.ref x, .int (nI k)] ((x, .inr (7, [.ref (A 0), .int (nI ns), .ref (A 1), .int (nI nr), .ref (A 2), .ref (A 3), .ref (A 4), .ref (A 5), .ref (A 6), .ref (A 7), .ref (A 8), .ref (A 9), .long to, .int al, .int wa, .int lf, .ref (A 10)])) :: (A 0, .inl (G.2.1.2.2.1, 12, .inr (.inr (.inr (.inr sa))))) :: (s, .inr (6, [.int kd, .ref la, .int (1 : Int32), .int wc])) :: r) (fun v w => v = some (.int (0 : Int32)) ∧ w = (x, .inr (7, [.ref (A 0), .int (nI ns), .ref (A 1), .int (nI nr), .ref (A 2), .ref (A 3), .ref (A 4), .ref (A 5), .ref (A 6), .ref (A 7), .ref (A 8), .ref (A 9), .long to, .int al, .int wa, .int lf, .ref (A 10)])) :: (A 0, .inl (G.2.1.2.2.1, 12, .inr (.inr (.inr (.inr sa))))) :: (s, .inr (6, [.int kd, .ref la, .int (1 : Int32), .int wc])) :: r) := by
  refine Mt.of (by decide +kernel) rfl rfl (fun X B => ?_)
  show J G X mX7_lookAtRow ((x, .inr (7, [.ref (A 0), .int (nI ns), .ref (A 1), .int (nI nr), .ref (A 2), .ref (A 3), .ref (A 4), .ref (A 5), .ref (A 6), .ref (A 7), .ref (A 8), .ref (A 9), .long to, .int al, .int wa, .int lf, .ref (A 10)])) :: (A 0, .inl (G.2.1.2.2.1, 12, .inr (.inr (.inr (.inr sa))))) :: (s, .inr (6, [.int kd, .ref la, .int (1 : Int32), .int wc])) :: r) 0 0 0 [(0, .ref x), (1, .int (nI k))] []
  refine J.aload_n 0 dX7_lookAtRow_0 rfl ?_
  refine J.iload_n 1 dX7_lookAtRow_1 rfl ?_
  refine J.callV 0 (st := []) B (c_X7_starNumbered l G _ hk hns hsa) ml_X7_80 mf_yX7_starNumbered mi_yX7_starNumbered rfl dX7_lookAtRow_2 rfl rfl rfl rfl (fun v_1 w_2 hp_3 => ?_)
  obtain ⟨rfl, rfl⟩ := hp_3
  show J G X mX7_lookAtRow _ _ _ 5 _ [.ref s]
  refine J.astore_n [1, 2, 0] (lv' := [(0, .ref x), (1, .int (nI k)), (2, .ref s)]) dX7_lookAtRow_5 rfl rfl ?_
  refine J.aload_n 2 dX7_lookAtRow_6 rfl ?_
  refine J.ifnonnull dX7_lookAtRow_7 ?_
  refine J.aload_n 2 dX7_lookAtRow_12 rfl ?_
  refine J.get 2 fl_X7_100 dX7_lookAtRow_13 rfl rfl ?_
  refine J.if_eq dX7_lookAtRow_16 (fun z => absurd z (by decide)) (fun _ => ?_)
  refine J.iconst (0 : Int32) dX7_lookAtRow_19 rfl ?_
  refine J.goto dX7_lookAtRow_20 ?_
  exact J.iret B dX7_lookAtRow_28 rfl (⟨rfl, rfl⟩)
set_option maxHeartbeats 4000000 in
set_option maxRecDepth 100000 in
theorem c_X7_lookAtNight_bad (l : Launch) (G : jG) (r : va_W) {x : Nat} {A : Nat → Nat} {ns nr : Nat} {to : Int64} {al wa lf : Int32} {sa : Nat → Option Nat} {num : Int32} (hns : ns ≤ 12) (hnum : inR num 0 ((ns : Int) - 1) = false) {nt : Int32} : Mt l G yX7_lookAtNight mX7_lookAtNight 2 43 0 0 [.ref x, .int num, .int nt] ((x, .inr (7, [.ref (A 0), .int (nI ns), .ref (A 1), .int (nI nr), .ref (A 2), .ref (A 3), .ref (A 4), .ref (A 5), .ref (A 6), .ref (A 7), .ref (A 8), .ref (A 9), .long to, .int al, .int wa, .int lf, .ref (A 10)])) :: (A 0, .inl (G.2.1.2.2.1, 12, .inr (.inr (.inr (.inr sa))))) :: r) (fun v w => v = some (.int (-1 : Int32)) ∧ w = (x, .inr (7, [.ref (A 0), .int (nI ns), .ref (A 1), .int (nI nr), .ref (A 2), .ref (A 3), .ref (A 4), .ref (A 5), .ref (A 6), .ref (A 7), .ref (A 8), .ref (A 9), .long to, .int al, .int wa, .int lf, .ref (A 10)])) :: (A 0, .inl (G.2.1.2.2.1, 12, .inr (.inr (.inr (.inr sa))))) :: r) := by
  refine Mt.of (by decide +kernel) rfl rfl (fun X B => ?_)
  show J G X mX7_lookAtNight ((x, .inr (7, [.ref (A 0), .int (nI ns), .ref (A 1), .int (nI nr), .ref (A 2), .ref (A 3), .ref (A 4), .ref (A 5), .ref (A 6), .ref (A 7), .ref (A 8), .ref (A 9), .long to, .int al, .int wa, .int lf, .ref (A 10)])) :: (A 0, .inl (G.2.1.2.2.1, 12, .inr (.inr (.inr (.inr sa))))) :: r) 0 0 0 [(0, .ref x), (1, .int num), (2, .int nt)] []
  refine J.aload_n 0 dX7_lookAtNight_0 rfl ?_
  refine J.iload_n 1 dX7_lookAtNight_1 rfl ?_
  refine J.callV 0 (st := []) B (c_X7_lookAtRow_bad l G _ hns hnum) ml_X7_119 mf_yX7_lookAtRow mi_yX7_lookAtRow rfl dX7_lookAtNight_2 rfl rfl rfl rfl (fun v_1 w_2 hp_3 => ?_)
  obtain ⟨rfl, rfl⟩ := hp_3
  show J G X mX7_lookAtNight _ _ _ 5 _ [.int (-1 : Int32)]
  refine J.istore_n [1, 2, 3, 0] (lv' := [(0, .ref x), (1, .int num), (2, .int nt), (3, .int (-1 : Int32))]) dX7_lookAtNight_5 rfl rfl ?_
  refine J.iload_n 3 dX7_lookAtNight_6 rfl ?_
  refine J.if_ne dX7_lookAtNight_7 (fun _ => ?_) (fun z => absurd z (by decide))
  refine J.iload_n 3 dX7_lookAtNight_23 rfl ?_
  exact J.iret B dX7_lookAtNight_24 rfl (⟨rfl, rfl⟩)
set_option maxHeartbeats 4000000 in
set_option maxRecDepth 100000 in
theorem c_X7_lookAtNight_no (l : Launch) (G : jG) (r : va_W) {x : Nat} {A : Nat → Nat} {ns nr : Nat} {to : Int64} {al wa lf : Int32} {sa : Nat → Option Nat} {la : Nat} {kd wc : Int32} {k s : Nat} (hk : k < ns) (hns : ns ≤ 12) (hsa : sa k = some s) {fc : Nat → Int32} {nt : Int32} : Mt l G yX7_lookAtNight mX7_lookAtNight 2 43 0 0 [.ref x, .int (nI k), .int nt] ((x, .inr (7, [.ref (A 0), .int (nI ns), .ref (A 1), .int (nI nr), .ref (A 2), .ref (A 3), .ref (A 4), .ref (A 5), .ref (A 6), .ref (A 7), .ref (A 8), .ref (A 9), .long to, .int al, .int wa, .int lf, .ref (A 10)])) :: (A 0, .inl (G.2.1.2.2.1, 12, .inr (.inr (.inr (.inr sa))))) :: (s, .inr (6, [.int kd, .ref la, .int (0 : Int32), .int wc])) :: (A 10, .inl (G.2.1.1, 6, .inl fc)) :: r) (fun v w => v = some (.int (-3 : Int32)) ∧ w = (x, .inr (7, [.ref (A 0), .int (nI ns), .ref (A 1), .int (nI nr), .ref (A 2), .ref (A 3), .ref (A 4), .ref (A 5), .ref (A 6), .ref (A 7), .ref (A 8), .ref (A 9), .long to, .int al, .int wa, .int (nI 1), .ref (A 10)])) :: (A 0, .inl (G.2.1.2.2.1, 12, .inr (.inr (.inr (.inr sa))))) :: (s, .inr (6, [.int kd, .ref la, .int (0 : Int32), .int wc])) :: (A 10, .inl (G.2.1.1, 6, .inl (upd fc 1 (fc 1 + 1)))) :: r) := by
  refine Mt.of (by decide +kernel) rfl rfl (fun X B => ?_)
  show J G X mX7_lookAtNight ((x, .inr (7, [.ref (A 0), .int (nI ns), .ref (A 1), .int (nI nr), .ref (A 2), .ref (A 3), .ref (A 4), .ref (A 5), .ref (A 6), .ref (A 7), .ref (A 8), .ref (A 9), .long to, .int al, .int wa, .int lf, .ref (A 10)])) :: (A 0, .inl (G.2.1.2.2.1, 12, .inr (.inr (.inr (.inr sa))))) :: (s, .inr (6, [.int kd, .ref la, .int (0 : Int32), .int wc])) :: (A 10, .inl (G.2.1.1, 6, .inl fc)) :: r) 0 0 0 [(0, .ref x), (1, .int (nI k)), (2, .int nt)] []
  refine J.aload_n 0 dX7_lookAtNight_0 rfl ?_
  refine J.iload_n 1 dX7_lookAtNight_1 rfl ?_
  refine J.callV 0 (st := []) B (c_X7_lookAtRow_no l G _ hk hns hsa) ml_X7_119 mf_yX7_lookAtRow mi_yX7_lookAtRow rfl dX7_lookAtNight_2 rfl rfl rfl rfl (fun v_1 w_2 hp_3 => ?_)
  obtain ⟨rfl, rfl⟩ := hp_3
  show J G X mX7_lookAtNight _ _ _ 5 _ [.int (-3 : Int32)]
  refine J.istore_n [1, 2, 3, 0] (lv' := [(0, .ref x), (1, .int (nI k)), (2, .int nt), (3, .int (-3 : Int32))]) dX7_lookAtNight_5 rfl rfl ?_
  refine J.iload_n 3 dX7_lookAtNight_6 rfl ?_
  refine J.if_ne dX7_lookAtNight_7 (fun _ => ?_) (fun z => absurd z (by decide))
  refine J.iload_n 3 dX7_lookAtNight_23 rfl ?_
  exact J.iret B dX7_lookAtNight_24 rfl (⟨rfl, rfl⟩)
set_option maxHeartbeats 4000000 in
set_option maxRecDepth 100000 in
theorem c_X7_lookAtNight_by (l : Launch) (G : jG) (r : va_W) {x : Nat} {A : Nat → Nat} {ns nr : Nat} {to : Int64} {al wa lf : Int32} {sa : Nat → Option Nat} {la : Nat} {kd wc : Int32} {k s : Nat} (hk : k < ns) (hns : ns ≤ 12) (hsa : sa k = some s) {fc : Nat → Int32} {nt : Int32} (hnt : inR nt 0 59 = false) : Mt l G yX7_lookAtNight mX7_lookAtNight 2 43 0 0 [.ref x, .int (nI k), .int nt] ((x, .inr (7, [.ref (A 0), .int (nI ns), .ref (A 1), .int (nI nr), .ref (A 2), .ref (A 3), .ref (A 4), .ref (A 5), .ref (A 6), .ref (A 7), .ref (A 8), .ref (A 9), .long to, .int al, .int wa, .int lf, .ref (A 10)])) :: (A 0, .inl (G.2.1.2.2.1, 12, .inr (.inr (.inr (.inr sa))))) :: (s, .inr (6, [.int kd, .ref la, .int (1 : Int32), .int wc])) :: (A 10, .inl (G.2.1.1, 6, .inl fc)) :: r) (fun v w => v = some (.int (-3 : Int32)) ∧ w = (x, .inr (7, [.ref (A 0), .int (nI ns), .ref (A 1), .int (nI nr), .ref (A 2), .ref (A 3), .ref (A 4), .ref (A 5), .ref (A 6), .ref (A 7), .ref (A 8), .ref (A 9), .long to, .int al, .int wa, .int (nI 2), .ref (A 10)])) :: (A 0, .inl (G.2.1.2.2.1, 12, .inr (.inr (.inr (.inr sa))))) :: (s, .inr (6, [.int kd, .ref la, .int (1 : Int32), .int wc])) :: (A 10, .inl (G.2.1.1, 6, .inl (upd fc 2 (fc 2 + 1)))) :: r) := by
  refine Mt.of (by decide +kernel) rfl rfl (fun X B => ?_)
  show J G X mX7_lookAtNight ((x, .inr (7, [.ref (A 0), .int (nI ns), .ref (A 1), .int (nI nr), .ref (A 2), .ref (A 3), .ref (A 4), .ref (A 5), .ref (A 6), .ref (A 7), .ref (A 8), .ref (A 9), .long to, .int al, .int wa, .int lf, .ref (A 10)])) :: (A 0, .inl (G.2.1.2.2.1, 12, .inr (.inr (.inr (.inr sa))))) :: (s, .inr (6, [.int kd, .ref la, .int (1 : Int32), .int wc])) :: (A 10, .inl (G.2.1.1, 6, .inl fc)) :: r) 0 0 0 [(0, .ref x), (1, .int (nI k)), (2, .int nt)] []
  refine J.aload_n 0 dX7_lookAtNight_0 rfl ?_
  refine J.iload_n 1 dX7_lookAtNight_1 rfl ?_
  refine J.callV 0 (st := []) B (c_X7_lookAtRow l G _ hk hns hsa) ml_X7_119 mf_yX7_lookAtRow mi_yX7_lookAtRow rfl dX7_lookAtNight_2 rfl rfl rfl rfl (fun v_1 w_2 hp_3 => ?_)
  obtain ⟨rfl, rfl⟩ := hp_3
  show J G X mX7_lookAtNight _ _ _ 5 _ [.int (0 : Int32)]
  refine J.istore_n [1, 2, 3, 0] (lv' := [(0, .ref x), (1, .int (nI k)), (2, .int nt), (3, .int (0 : Int32))]) dX7_lookAtNight_5 rfl rfl ?_
  refine J.iload_n 3 dX7_lookAtNight_6 rfl ?_
  refine J.if_ne dX7_lookAtNight_7 (fun z => absurd z (by decide)) (fun _ => ?_)
  refine J.iload_n 2 dX7_lookAtNight_10 rfl ?_
  refine J.callS (st := []) B (c_X7_isNight l G _ (k := nt)) ml_X7_132 mf_yX7_isNight mS_yX7_isNight dX7_lookAtNight_11 rfl rfl rfl (fun v_4 w_5 hp_6 => ?_)
  obtain ⟨rfl, rfl⟩ := hp_6
  show J G X mX7_lookAtNight _ _ _ 14 _ [.int (b01 (inR nt 0 59))]
  refine J.if_ne dX7_lookAtNight_14 (fun z => absurd (by rw [hnt]; rfl) z) (fun h9 => ?_)
  refine J.aload_n 0 dX7_lookAtNight_17 rfl ?_
  refine J.iconst (2 : Int32) dX7_lookAtNight_18 rfl ?_
  refine J.re [0, 3, 1, 2] 4 (ws2 := (x, .inr (7, [.ref (A 0), .int (nI ns), .ref (A 1), .int (nI nr), .ref (A 2), .ref (A 3), .ref (A 4), .ref (A 5), .ref (A 6), .ref (A 7), .ref (A 8), .ref (A 9), .long to, .int al, .int wa, .int lf, .ref (A 10)])) :: (A 10, .inl (G.2.1.1, 6, .inl fc)) :: (A 0, .inl (G.2.1.2.2.1, 12, .inr (.inr (.inr (.inr sa))))) :: (s, .inr (6, [.int kd, .ref la, .int (1 : Int32), .int wc])) :: r) rfl rfl ?_
  refine J.callV 0 (st := []) B (c_X7_found l G _ (c := 2) (by decide) (by decide)) ml_X7_87 mf_yX7_found mi_yX7_found rfl dX7_lookAtNight_19 rfl rfl rfl rfl (fun v_7 w_8 hp_9 => ?_)
  obtain ⟨rfl, rfl⟩ := hp_9
  refine J.re [0, 2, 3, 1] 4 (ws2 := (x, .inr (7, [.ref (A 0), .int (nI ns), .ref (A 1), .int (nI nr), .ref (A 2), .ref (A 3), .ref (A 4), .ref (A 5), .ref (A 6), .ref (A 7), .ref (A 8), .ref (A 9), .long to, .int al, .int wa, .int (nI 2), .ref (A 10)])) :: (A 0, .inl (G.2.1.2.2.1, 12, .inr (.inr (.inr (.inr sa))))) :: (s, .inr (6, [.int kd, .ref la, .int (1 : Int32), .int wc])) :: (A 10, .inl (G.2.1.1, 6, .inl (upd fc 2 (fc 2 + 1)))) :: r) rfl rfl ?_
  show J G X mX7_lookAtNight _ _ _ 22 _ [.int (-3 : Int32)]
  exact J.iret B dX7_lookAtNight_22 rfl (⟨rfl, rfl⟩)
set_option maxHeartbeats 4000000 in
set_option maxRecDepth 100000 in
theorem c_X7_lookAtNight (l : Launch) (G : jG) (r : va_W) {x : Nat} {A : Nat → Nat} {ns nr : Nat} {to : Int64} {al wa lf : Int32} {sa : Nat → Option Nat} {la : Nat} {kd wc : Int32} {k s : Nat} (hk : k < ns) (hns : ns ≤ 12) (hsa : sa k = some s) {nt : Int32} (hnt : inR nt 0 59 = true) : Mt l G yX7_lookAtNight mX7_lookAtNight 2 43 0 0 [.ref x, .int (nI k), .int nt] ((x, .inr (7, [.ref (A 0), .int (nI ns), .ref (A 1), .int (nI nr), .ref (A 2), .ref (A 3), .ref (A 4), .ref (A 5), .ref (A 6), .ref (A 7), .ref (A 8), .ref (A 9), .long to, .int al, .int wa, .int lf, .ref (A 10)])) :: (A 0, .inl (G.2.1.2.2.1, 12, .inr (.inr (.inr (.inr sa))))) :: (s, .inr (6, [.int kd, .ref la, .int (1 : Int32), .int wc])) :: r) (fun v w => v = some (.int (0 : Int32)) ∧ w = (x, .inr (7, [.ref (A 0), .int (nI ns), .ref (A 1), .int (nI nr), .ref (A 2), .ref (A 3), .ref (A 4), .ref (A 5), .ref (A 6), .ref (A 7), .ref (A 8), .ref (A 9), .long to, .int al, .int wa, .int lf, .ref (A 10)])) :: (A 0, .inl (G.2.1.2.2.1, 12, .inr (.inr (.inr (.inr sa))))) :: (s, .inr (6, [.int kd, .ref la, .int (1 : Int32), .int wc])) :: r) := by
  refine Mt.of (by decide +kernel) rfl rfl (fun X B => ?_)
  show J G X mX7_lookAtNight ((x, .inr (7, [.ref (A 0), .int (nI ns), .ref (A 1), .int (nI nr), .ref (A 2), .ref (A 3), .ref (A 4), .ref (A 5), .ref (A 6), .ref (A 7), .ref (A 8), .ref (A 9), .long to, .int al, .int wa, .int lf, .ref (A 10)])) :: (A 0, .inl (G.2.1.2.2.1, 12, .inr (.inr (.inr (.inr sa))))) :: (s, .inr (6, [.int kd, .ref la, .int (1 : Int32), .int wc])) :: r) 0 0 0 [(0, .ref x), (1, .int (nI k)), (2, .int nt)] []
  refine J.aload_n 0 dX7_lookAtNight_0 rfl ?_
  refine J.iload_n 1 dX7_lookAtNight_1 rfl ?_
  refine J.callV 0 (st := []) B (c_X7_lookAtRow l G _ hk hns hsa) ml_X7_119 mf_yX7_lookAtRow mi_yX7_lookAtRow rfl dX7_lookAtNight_2 rfl rfl rfl rfl (fun v_1 w_2 hp_3 => ?_)
  obtain ⟨rfl, rfl⟩ := hp_3
  show J G X mX7_lookAtNight _ _ _ 5 _ [.int (0 : Int32)]
  refine J.istore_n [1, 2, 3, 0] (lv' := [(0, .ref x), (1, .int (nI k)), (2, .int nt), (3, .int (0 : Int32))]) dX7_lookAtNight_5 rfl rfl ?_
  refine J.iload_n 3 dX7_lookAtNight_6 rfl ?_
  refine J.if_ne dX7_lookAtNight_7 (fun z => absurd z (by decide)) (fun _ => ?_)
  refine J.iload_n 2 dX7_lookAtNight_10 rfl ?_
  refine J.callS (st := []) B (c_X7_isNight l G _ (k := nt)) ml_X7_132 mf_yX7_isNight mS_yX7_isNight dX7_lookAtNight_11 rfl rfl rfl (fun v_4 w_5 hp_6 => ?_)
  obtain ⟨rfl, rfl⟩ := hp_6
  show J G X mX7_lookAtNight _ _ _ 14 _ [.int (b01 (inR nt 0 59))]
  refine J.if_ne dX7_lookAtNight_14 (fun h9 => ?_) (fun z => absurd z (by rw [hnt]; decide))
  refine J.iload_n 3 dX7_lookAtNight_23 rfl ?_
  exact J.iret B dX7_lookAtNight_24 rfl (⟨rfl, rfl⟩)
