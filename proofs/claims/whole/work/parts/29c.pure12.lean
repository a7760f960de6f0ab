/-! over all STARS -/
def qF (TP : List tR) : Nat → sR := fun k => (tD TP k).2
def rwN (q : Nat → sR) : Nat → Nat
  | 0 => 0
  | k + 1 => rwN q k + (if (q k).2.1 then 1 else 0)
def lgN (q : Nat → sR) : Nat → Nat
  | 0 => 0
  | k + 1 => lgN q k + nN (q k).2.2.1
def dgS (q : Nat → sR) : Nat → Int64
  | 0 => 17
  | k + 1 => if (q k).2.1 then dg60 (q k).2.2.1 (31 * dgS q k + (q k).1.toInt64) 60 else 31 * (31 * dgS q k + (q k).1.toInt64) - 1
def dgW (q : Nat → sR) (h : Int64) : Nat → Int64
  | 0 => h
  | k + 1 => 31 * dgW q h k + (q k).2.2.2.toInt64
def dgA (q : Nat → sR) (F : Nat → Int32) (n : Nat) : Int64 := dgW q (dg60 F (dgS q n) 60) n
theorem rwN_le (q : Nat → sR) : ∀ k, rwN q k ≤ k
  | 0 => Nat.le_refl _
  | k + 1 => by
    have := rwN_le q k
    unfold rwN
    split <;> omega
theorem lgN_le (q : Nat → sR) : ∀ k, lgN q k ≤ 60 * k
  | 0 => Nat.le_refl _
  | k + 1 => by
    have := lgN_le q k
    have h2 := nN_le (q k).2.2.1
    unfold lgN
    omega
theorem pool_swap {os P r : va_W} : (os ++ (P ++ r)).Perm (P ++ (os ++ r)) := by
  rw [← List.append_assoc, ← List.append_assoc]
  exact List.Perm.append_right r List.perm_append_comm
/-- LEVELLING -/
def lvQ (q : Nat → sR) (k : Nat) : Int32 := midV (rws (q k).2.2.1 60)
def dfL (q : Nat → sR) (nt : Nat) : Nat → List Int32
  | 0 => []
  | k + 1 => if (q k).1 = 1 ∧ ¬ (q k).2.2.1 nt = -9 then dfL q nt k ++ [(q k).2.2.1 nt - lvQ q k] else dfL q nt k
theorem dfL_le (q : Nat → sR) (nt : Nat) : ∀ k, (dfL q nt k).length ≤ k
  | 0 => Nat.le_refl _
  | k + 1 => by
    have := dfL_le q nt k
    unfold dfL
    split
    · rw [List.length_append, List.length_singleton]; omega
    · omega
theorem dfL_yes {q : Nat → sR} {nt k : Nat} (h1 : (q k).1 = 1) (h2 : ¬ (q k).2.2.1 nt = -9) : dfL q nt (k + 1) = dfL q nt k ++ [(q k).2.2.1 nt - lvQ q k] := if_pos ⟨h1, h2⟩
theorem dfL_no {q : Nat → sR} {nt k : Nat} (h : ¬ ((q k).1 = 1 ∧ ¬ (q k).2.2.1 nt = -9)) : dfL q nt (k + 1) = dfL q nt k := if_neg h
def fLv (q : Nat → sR) (n nt : Nat) : Int32 := midV (dfL q nt n)
def unE (f : Nat → Int32) : Nat → Nat
  | 0 => 0
  | k + 1 => unE f k + (if f k = 0 then 0 else 1)
theorem unE_le (f : Nat → Int32) : ∀ k, unE f k ≤ k
  | 0 => Nat.le_refl _
  | k + 1 => by
    have := unE_le f k
    unfold unE
    split <;> omega
/-- the first n of a row taken from another -/
def fiF (f g : Nat → Int32) (n : Nat) : Nat → Int32 := fun j => if j < n then g j else f j
theorem fiF_0 (f g : Nat → Int32) : fiF f g 0 = f := by
  funext j
  simp [fiF]
theorem fiF_s (f g : Nat → Int32) (n : Nat) : upd (fiF f g n) n (g n) = fiF f g (n + 1) := by
  funext j
  unfold upd fiF
  by_cases h : j = n
  · subst h; simp
  · rw [if_neg h]
    by_cases h2 : j < n
    · rw [if_pos h2, if_pos (by omega)]
    · rw [if_neg h2, if_neg (by omega)]
theorem fiF_in {f g : Nat → Int32} {n j : Nat} (h : j < n) : fiF f g n j = g j := if_pos h
theorem ofK1 (kd : Int32) : ofK kd 1 = decide (kd = 1) := by
  unfold ofK
  rw [decide_eq_decide]
  constructor
  · rintro (h | h | ⟨h, -⟩)
    · exact absurd h (by decide)
    · exact h.symm
    · exact absurd h (by decide)
  · intro h
    exact Or.inr (Or.inl h.symm)
theorem bdf_yes {q : Nat → sR} {nt k : Nat} (h1 : (q k).1 = 1) (h2 : ¬ (q k).2.2.1 nt = -9) : bsz (dfL q nt (k + 1)) = insR ((q k).2.2.1 nt - lvQ q k) (bsz (dfL q nt k)) ∧ (dfL q nt (k + 1)).length = (dfL q nt k).length + 1 := by
  rw [dfL_yes h1 h2, bsz_snoc, List.length_append, List.length_singleton]
  exact ⟨rfl, rfl⟩
