/-! over all STARS -/
def qF (TP : List tR) : Nat → sR := fun k => (tD TP k).2
def rwN (q : Nat → sR) : Nat → Nat
  | 0 => 0
  | k + 1 => rwN q k + (if (q k).2.1 then 1 else 0)
def lgN (q : Nat → sR) : Nat → Nat
  | 0 => 0
  | k + 1 => lgN q k + nN (q k).2.2.1
def dgS (q : Nat → sR) : Nat → Int64
  | 0 => 17
  | k + 1 => if (q k).2.1 then dg60 (q k).2.2.1 (31 * dgS q k + (q k).1.toInt64) 60 else 31 * (31 * dgS q k + (q k).1.toInt64) - 1
def dgW (q : Nat → sR) (h : Int64) : Nat → Int64
  | 0 => h
  | k + 1 => 31 * dgW q h k + (q k).2.2.2.toInt64
def dgA (q : Nat → sR) (F : Nat → Int32) (n : Nat) : Int64 := dgW q (dg60 F (dgS q n) 60) n
theorem rwN_le (q : Nat → sR) : ∀ k, rwN q k ≤ k
  | 0 => Nat.le_refl _
  | k + 1 => by
    have := rwN_le q k
    unfold rwN
    split <;> omega
theorem lgN_le (q : Nat → sR) : ∀ k, lgN q k ≤ 60 * k
  | 0 => Nat.le_refl _
  | k + 1 => by
    have := lgN_le q k
    have h2 := nN_le (q k).2.2.1
    unfold lgN
    omega
theorem pool_swap {os P r : va_W} : (os ++ (P ++ r)).Perm (P ++ (os ++ r)) := by
  rw [← List.append_assoc, ← List.append_assoc]
  exact List.Perm.append_right r List.perm_append_comm
