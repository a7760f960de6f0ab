def rowM (ml : Nat → Int32) (s : Nat) : Nat → Int32 := fun j => ml (60 * s + j)
theorem lits_yes {L F : Nat → Int32} {k : Nat} (h : ¬ L k = -9) : lits L F (k + 1) = lits L F k ++ [ltF L F k] := by
  unfold lits
  rw [nts_yes h, List.map_append]
  rfl
theorem lits_no {L F : Nat → Int32} {k : Nat} (h : L k = -9) : lits L F (k + 1) = lits L F k := by
  unfold lits
  rw [nts_no h]
theorem blt_yes {L F : Nat → Int32} {k : Nat} (h : ¬ L k = -9) : bsz (lits L F (k + 1)) = insR (ltF L F k) (bsz (lits L F k)) := by rw [lits_yes h, bsz_snoc]
theorem blt_len (L F : Nat → Int32) (k : Nat) : (bsz (lits L F k)).length = (nts L k).length := by rw [bsz_len, lits_len]
theorem swl_yes {L F : Nat → Int32} {k : Nat} (h : ¬ L k = -9) : swF (lits L F (k + 1)) = swS (swF (lits L F k)) (ltF L F k) := by rw [lits_yes h, swF_snoc]
theorem swl_no {L F : Nat → Int32} {k : Nat} (h : L k = -9) : swF (lits L F (k + 1)) = swF (lits L F k) := by rw [lits_no h]
theorem swl_n (L F : Nat → Int32) (k : Nat) : (swF (lits L F k)).2.2 = (nts L k).length := by rw [(swF_inv _).1, lits_len]
theorem swl_nn {L F : Nat → Int32} {k : Nat} {a b : Int32} {n : Nat} (h : swF (lits L F k) = (a, b, n)) : n = (nts L k).length := by
  have := swl_n L F k
  rw [h] at this
  exact this
/-- what RULES ask for -/
def msV (L F : Nat → Int32) : Nat → Int32
  | 0 => midV (lits L F 60)
  | 1 => swg (lits L F 60)
  | 2 => nI (nN L)
  | _ => nI (lowF (ltF L F) (midV (lits L F 60) - 100) (nts L 60)).1.length
abbrev rR : Type := Nat × Int32 × Int32 × Int32
def fitR (ms : Nat → Int32) (q : rR) : Bool := decide (q.2.1 ≤ ms q.1 ∧ ms q.1 ≤ q.2.2.1)
def clsR (ms : Nat → Int32) : List rR → Int32
  | [] => -9
  | q :: qs => if fitR ms q then q.2.2.2 else clsR ms qs
theorem inR_i32 {v lo hi : Int32} : inR v lo.toInt hi.toInt = decide (lo ≤ v ∧ v ≤ hi) := by
  unfold inR
  rw [decide_eq_decide, fa_le, fa_le]
theorem ns1 {n : Nat} (h : n ≤ 12) : (nI n - 1).toInt = (n : Int) - 1 := pk_sub_toInt (a := n) (b := 1) (by omega) (by omega)
/-- the reference's row of NIGHTS by PHASE -/
def insO (key : Nat → Nat) (k : Nat) (f : Nat → Int32) : List Nat → Nat → Int32
  | [] => upd f 0 (nI k)
  | x :: xs => if key x ≤ key k then upd f (xs.length + 1) (nI k) else insO key k (upd f (xs.length + 1) (f xs.length)) xs
theorem insO_hi (key : Nat → Nat) (k : Nat) : ∀ (xs : List Nat) (f : Nat → Int32) (j : Nat), xs.length < j → insO key k f xs j = f j
  | [], f, j, h => pk_un (by rw [List.length_nil] at h; omega)
  | x :: xs, f, j, h => by
    rw [List.length_cons] at h
    unfold insO
    split
    · exact pk_un (by omega)
    · rw [insO_hi key k xs _ j (by omega), pk_un (by omega)]
theorem AG_insO (key : Nat → Nat) (k : Nat) : ∀ (xs : List Nat) (f : Nat → Int32), AG f (xs.map nI) → AG (insO key k f xs) ((insK key k xs).map nI)
  | [], f, _ => ⟨pk_us (f := f) (k := 0) (x := nI k), trivial⟩
  | x :: xs, f, h => by
    have l1 : (xs.map nI).length = xs.length := List.length_map ..
    have e1 : f xs.length = nI x := AG_hd h
    unfold insO insK
    split
    · refine ⟨?_, ?_, ?_⟩
      · show upd f _ _ (x :: xs |>.map nI).length = _
        rw [List.length_map, List.length_cons]; exact pk_us
      · rw [l1, pk_un (by omega)]; exact e1
      · exact AG_hi (fun j hj => pk_un (by rw [l1] at hj; omega)) h.2
    · refine ⟨?_, AG_insO key k xs _ (AG_hi (fun j hj => pk_un (by rw [l1] at hj; omega)) h.2)⟩
      rw [List.length_map, insK_len, insO_hi key k xs _ _ (by omega), pk_us]
      exact e1
theorem ordn_yes {L : Nat → Int32} {k : Nat} (key : Nat → Nat) (h : ¬ L k = -9) : ordK key (nts L (k + 1)) = insK key k (ordK key (nts L k)) := by rw [nts_yes h, ordK_snoc]
theorem nx_mod {n i : Nat} (h : i < n) : (i + 1) % n = nx n i := by
  unfold nx
  split
  · exact Nat.mod_eq_of_lt (by assumption)
  · rw [show i + 1 = n by omega, Nat.mod_self]
/-- a step of the sum, in longs -/
theorem str_stepL {L F : Nat → Int32} (hb : BD L F) (key : Nat → Nat) {i : Nat} (hi : i < nN L) {z : Int32} (hz : z = (if 0 ≤ ltF L F (rg (ordK key (nts L 60)) i) - ltF L F (rg (ordK key (nts L 60)) (nx (ordK key (nts L 60)).length i)) then ltF L F (rg (ordK key (nts L 60)) i) - ltF L F (rg (ordK key (nts L 60)) (nx (ordK key (nts L 60)).length i)) else -(ltF L F (rg (ordK key (nts L 60)) i) - ltF L F (rg (ordK key (nts L 60)) (nx (ordK key (nts L 60)).length i))))) :
    Int64.ofInt (strS (ltF L F) (ordK key (nts L 60)) i) + z.toInt64 = Int64.ofInt (strS (ltF L F) (ordK key (nts L 60)) (i + 1)) := by
  have h1 := str_stepI hb key hi rfl rfl
  rw [← hz] at h1
  have s0 := strS_bd hb key i (by omega)
  have s1 := strS_bd hb key (i + 1) (by omega)
  have t0 := strT_bd hb key hi
  have hn := nN_le L
  have r := fb_rng z
  have e : z = Int32.ofInt (strT (ltF L F) (ordK key (nts L 60)) i) := by
    have h2 : Int32.ofInt (strS (ltF L F) (ordK key (nts L 60)) (i + 1)) = Int32.ofInt (strS (ltF L F) (ordK key (nts L 60)) i) + Int32.ofInt (strT (ltF L F) (ordK key (nts L 60)) i) := (ofI_add _ _).symm
    rw [h2] at h1
    generalize Int32.ofInt (strS (ltF L F) (ordK key (nts L 60)) i) = a at h1
    generalize Int32.ofInt (strT (ltF L F) (ordK key (nts L 60)) i) = b at h1
    rw [← Int32.add_sub_cancel z a, Int32.add_comm z a, h1, Int32.add_comm a b, Int32.add_sub_cancel]
  rw [e, wide_ofI (by omega) (by omega), ← Int64.ofInt_add]
  rfl
theorem sw_step {a b v x y : Int32} {n : Nat} (hx : ((n = 0 ∨ v < a) ∧ x = v) ∨ (¬ (n = 0 ∨ v < a) ∧ x = a)) (hy : ((n = 0 ∨ b < v) ∧ y = v) ∨ (¬ (n = 0 ∨ b < v) ∧ y = b)) : swS (a, b, n) v = (x, y, n + 1) := by
  unfold swS
  dsimp only
  rcases hx with ⟨h1, rfl⟩ | ⟨h1, rfl⟩ <;> rcases hy with ⟨h2, rfl⟩ | ⟨h2, rfl⟩
  · rw [if_pos h1, if_pos h2]
  · rw [if_pos h1, if_neg h2]
  · rw [if_neg h1, if_pos h2]
  · rw [if_neg h1, if_neg h2]
theorem cnt_yes {L : Nat → Int32} {k : Nat} {P : Nat → Bool} (h : ¬ L k = -9) : cnt P (nts L (k + 1)) = cnt P (nts L k) + (if P k then 1 else 0) := by rw [nts_yes h, cnt_snoc]
theorem smI_yes {L : Nat → Int32} {k : Nat} {P : Nat → Bool} {lt : Nat → Int32} (h : ¬ L k = -9) : smI lt P (nts L (k + 1)) = smI lt P (nts L k) + (if P k then (lt k).toInt else 0) := by rw [nts_yes h, smI_snoc]
theorem w64 (x : Int32) : x.toInt64 = Int64.ofInt x.toInt := i64_eq (Int32.toInt_toInt64 x)
theorem l_add (a : Int) (x : Int32) : Int64.ofInt a + x.toInt64 = Int64.ofInt (a + x.toInt) := by rw [w64, Int64.ofInt_add]
theorem low_yes {L : Nat → Int32} {k : Nat} {lt : Nat → Int32} {due : Int32} (h : ¬ L k = -9) : lowF lt due (nts L (k + 1)) = lowG lt due (lowF lt due (nts L k)) k := by rw [nts_yes h, lowF_snoc]
theorem low_no {L : Nat → Int32} {k : Nat} {lt : Nat → Int32} {due : Int32} (h : L k = -9) : lowF lt due (nts L (k + 1)) = lowF lt due (nts L k) := by rw [nts_no h]
theorem low_len {L : Nat → Int32} {k : Nat} {lt : Nat → Int32} {due : Int32} {rl : List Nat} {run : Bool} (h : lowF lt due (nts L k) = (rl, run)) : rl.length ≤ k := by
  have h1 := lowF_le lt due (nts L k)
  rw [h] at h1
  exact Nat.le_trans h1 (nts_le L k)
theorem lowG_mem {lt : Nat → Int32} {due : Int32} {s : List Nat × Bool} {k y : Nat} (h : y ∈ (lowG lt due s k).1) : y = k ∨ y ∈ s.1 := by
  unfold lowG at h
  split at h
  · split at h
    · dsimp only at h
      split at h
      · rcases List.mem_cons.mp h with h | h
        · exact Or.inl h
        · exact Or.inr (List.mem_cons_of_mem _ h)
      · exact Or.inr h
    · rcases List.mem_cons.mp h with h | h
      · exact Or.inl h
      · exact Or.inr h
  · exact Or.inr h
theorem lowF_fold_mem {lt : Nat → Int32} {due : Int32} {y : Nat} : ∀ (ks : List Nat) (s : List Nat × Bool), y ∈ (ks.foldl (lowG lt due) s).1 → y ∈ s.1 ∨ y ∈ ks
  | [], s, h => Or.inl h
  | k :: ks, s, h => by
    rw [List.foldl_cons] at h
    rcases lowF_fold_mem ks _ h with h | h
    · rcases lowG_mem h with rfl | h
      · exact Or.inr List.mem_cons_self
      · exact Or.inl h
    · exact Or.inr (List.mem_cons_of_mem _ h)
theorem lowF_mem {lt : Nat → Int32} {due : Int32} {ks : List Nat} {y : Nat} (h : y ∈ (lowF lt due ks).1) : y ∈ ks := by
  rcases lowF_fold_mem ks _ h with h | h
  · exact absurd h List.not_mem_nil
  · exact h
theorem low_lt {L : Nat → Int32} {k : Nat} {lt : Nat → Int32} {due : Int32} {rl : List Nat} {run : Bool} {y : Nat} (h : lowF lt due (nts L k) = (rl, run)) (hy : y ∈ rl) : y < k := by
  have : y ∈ (lowF lt due (nts L k)).1 := by rw [h]; exact hy
  exact (mem_nts.mp (lowF_mem this)).1
theorem ord_lt {L : Nat → Int32} {k : Nat} {key : Nat → Nat} {y : Nat} (hy : y ∈ ordK key (nts L k)) : y < k := (mem_nts.mp (ordK_mem hy)).1
/-- DEPTH, as the reference reckons it -/
theorem dep_ref {L F : Nat → Int32} (hb : BD L F) (p d f : Nat) : Int64.ofInt (tI L F - sI L F p d f) * (nI (cI L p d f)).toInt64 - Int64.ofInt (sI L F p d f) * (nI (nN L - cI L p d f)).toInt64 = Int64.ofInt (dpI L F p d f) := by
  have h3 := cI_le L p d f
  have h4 := nN_le L
  unfold dpI
  rw [w64, w64, nI_toInt (by omega), nI_toInt (by omega), ← Int64.ofInt_mul, ← Int64.ofInt_mul, ← Int64.ofInt_sub]
  congr 2
  congr 1
  omega
theorem md32 {x f p : Nat} (hf : f ≤ x + p) : nI x - nI f + nI p = nI (x + p - f) := by
  rw [nI_ofI x, nI_ofI f, nI_ofI p, ← Int32.ofInt_sub, ← Int32.ofInt_add, nI_ofI]
  congr 1
  omega
/-- the reference's clock -/
theorem tu_ref {k c p q : Nat} (hk : k < 60) (hc : c < 60) (hq : q ≤ 60) (hp1 : 1 ≤ p) (hp : p ≤ 600) :
    ((2 : Int64) * (nI k - nI c).toInt64 * (nI q).toInt64 + (nI p).toInt64 + 20000 * (nI p).toInt64) / (2 * (nI p).toInt64) - 10000 = Int64.ofInt (tuI k c p q) := by
  have b := tu_arg (k := k) (c := c) p hk hc hq hp
  have e0 : (nI k - nI c).toInt = (k : Int) - c := pk_sub_toInt (by omega) (by omega)
  have e1 : (2 : Int64) * (nI k - nI c).toInt64 * (nI q).toInt64 + (nI p).toInt64 + 20000 * (nI p).toInt64 = Int64.ofInt (2 * ((k : Int) - c) * q + p + 20000 * p) := by
    rw [w64, w64, w64, e0, nI_toInt (by omega), nI_toInt (by omega), show (2 : Int64) = Int64.ofInt 2 from rfl, show (20000 : Int64) = Int64.ofInt 20000 from rfl, ← Int64.ofInt_mul, ← Int64.ofInt_mul, ← Int64.ofInt_mul, ← Int64.ofInt_add, ← Int64.ofInt_add]
  have e2 : (2 : Int64) * (nI p).toInt64 = Int64.ofInt (2 * (p : Int)) := by
    rw [w64, nI_toInt (by omega), show (2 : Int64) = Int64.ofInt 2 from rfl, ← Int64.ofInt_mul]
  have t := tu_bd hk hc hq hp1 hp
  rw [e1, e2]
  apply i64_eq
  have hne : Int64.ofInt (2 * (p : Int)) ≠ -1 := by
    intro z
    have := congrArg Int64.toInt z
    rw [i64_ofI (by omega) (by omega)] at this
    have h9 : (-1 : Int64).toInt = -1 := rfl
    rw [h9] at this
    omega
  have e3 : (Int64.ofInt (2 * ((k : Int) - c) * q + p + 20000 * p) / Int64.ofInt (2 * (p : Int))).toInt = tuI k c p q + 10000 := by
    rw [Int64.toInt_div_of_ne_right _ _ hne, i64_ofI (by omega) (by omega), i64_ofI (by omega) (by omega), Int.tdiv_eq_ediv_of_nonneg (by omega)]
    unfold tuI
    rw [show 2 * ((k : Int) - c) * q + p + 20000 * p = (2 * ((k : Int) - c) * q + p) + 10000 * (2 * (p : Int)) by omega, Int.add_mul_ediv_right _ _ (by omega)]
  rw [fb_subL (by rw [e3]; show _ ≤ _ - (10000 : Int); omega) (by rw [e3]; show _ - (10000 : Int) < _; omega), e3]
  show _ - (10000 : Int) = _
  omega
theorem la_ref {k c p q : Nat} (hk : k < 60) (hc : c < 60) (hq : q ≤ 60) (hp : p ≤ 600) : (nI q).toInt64 * (nI k - nI c).toInt64 - Int64.ofInt (tuI k c p q) * (nI p).toInt64 = Int64.ofInt (laI k c p q) := by
  have e0 : (nI k - nI c).toInt = (k : Int) - c := pk_sub_toInt (by omega) (by omega)
  rw [w64, w64, w64, e0, nI_toInt (by omega), nI_toInt (by omega), ← Int64.ofInt_mul, ← Int64.ofInt_mul, ← Int64.ofInt_sub]
  rfl
