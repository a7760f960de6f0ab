theorem sm64_take {L F t u : Nat → Int32} (hc : CV L F t u) : ∀ i, i ≤ nN L → sm64 u i = Int64.ofInt (smI (ltF L F) allK ((nts L 60).take i))
  | 0, _ => rfl
  | i + 1, h => by
    show sm64 u i + (u i).toInt64 = _
    have hi : i < (nts L 60).length := h
    rw [sm64_take hc i (by omega), (hc i hi).2, take_getD (d := 0) hi, smI_snoc, show allK (List.getD (nts L 60) i 0) = true from rfl, if_pos rfl, l_add]
theorem sm64_all {L F t u : Nat → Int32} (hc : CV L F t u) : sm64 u (nN L) = Int64.ofInt (tI L F) := by
  rw [sm64_take hc _ (Nat.le_refl _), List.take_length]
def mnV (L F : Nat → Int32) : Int64 := Int64.ofInt (tI L F) / (nI (nN L)).toInt64
/-- how many fit AS WELL, among d from a on -/
def awN (g : Nat → Int) (h bst a : Nat) : Nat → Nat
  | 0 => 0
  | d + 1 => awN g h bst a d + if a + d ≠ bst ∧ 100 * g (a + d) ≤ (100 + (h : Int)) * g bst then 1 else 0
theorem awN_s (g : Nat → Int) (h bst a d : Nat) : awN g h bst a (d + 1) = awN g h bst a d + if a + d ≠ bst ∧ 100 * g (a + d) ≤ (100 + (h : Int)) * g bst then 1 else 0 := rfl
theorem awN_le (g : Nat → Int) (h bst a : Nat) : ∀ d, awN g h bst a d ≤ d
  | 0 => Nat.le_refl _
  | d + 1 => by
    have := awN_le g h bst a d
    rw [awN_s]
    split <;> omega
theorem aw_lim {h : Nat} {y : Int} (hh : h ≤ 100) (hy : 0 ≤ y ∧ y ≤ 2400000) : (100 : Int64) + (nI h).toInt64 = Int64.ofInt (100 + (h : Int)) ∧ 0 ≤ (100 + (h : Int)) * y ∧ (100 + (h : Int)) * y ≤ 480000000 := by
  refine ⟨?_, Int.mul_nonneg (by omega) hy.1, ?_⟩
  · rw [w64, nI_toInt (by omega), show (100 : Int64) = Int64.ofInt 100 from rfl, ← Int64.ofInt_add]
  · have e1 : (100 + (h : Int)) * y ≤ 200 * y := Int.mul_le_mul_of_nonneg_right (by omega) hy.1
    omega
theorem aw_le {h : Nat} {x y : Int} (hh : h ≤ 100) (hx : 0 ≤ x ∧ x ≤ 2400000) (hy : 0 ≤ y ∧ y ≤ 2400000) : ((100 : Int64) * Int64.ofInt x ≤ (100 + (nI h).toInt64) * Int64.ofInt y) ↔ 100 * x ≤ (100 + (h : Int)) * y := by
  obtain ⟨e1, e2, e3⟩ := aw_lim (h := h) hh hy
  rw [e1, show (100 : Int64) = Int64.ofInt 100 from rfl, ← Int64.ofInt_mul, ← Int64.ofInt_mul, fa_le64, i64_ofI (by omega) (by omega), i64_ofI (by omega) (by omega)]
/-- PHASE less f, modulo p, as the class reckons it -/
theorem fm_cls {k p f : Nat} (hp : 1 ≤ p) (hp2 : p ≤ 600) (hf : f < p) : Int32.ofInt ((nI (k * 1 % p) - nI f).toInt % (nI p).toInt) = nI ((k % p + p - f) % p) := by
  have hm : k % p < p := Nat.mod_lt _ (by omega)
  have h2 := md hm hf
  rw [Nat.mul_one, pk_sub_toInt (by omega) (by omega), nI_toInt (by omega), nI_ofI]
  congr 1
  rw [h2]
  split
  · rw [Int.emod_eq_of_lt (by omega) (by omega)]; omega
  · rw [← Int.add_emod_right, Int.emod_eq_of_lt (by omega) (by omega)]; omega
theorem dq_in {L F : Nat → Int32} {i p d f : Nat} (h : i < nN L) (hin : inP p d f (ntN L i) = true) : Int64.ofInt (smI (ltF L F) (inP p d f) ((nts L 60).take i)) + (ltF L F (ntN L i)).toInt64 = Int64.ofInt (smI (ltF L F) (inP p d f) ((nts L 60).take (i + 1))) := by
  rw [l_add, take_getD (d := 0) h, smI_snoc, show inP p d f (List.getD (nts L 60) i 0) = true from hin, if_pos rfl]
theorem dc_in {L : Nat → Int32} {i p d f : Nat} (h : i < nN L) (hin : inP p d f (ntN L i) = true) : cnt (inP p d f) ((nts L 60).take i) + 1 = cnt (inP p d f) ((nts L 60).take (i + 1)) := by
  rw [take_getD (d := 0) h, cnt_snoc, show inP p d f (List.getD (nts L 60) i 0) = true from hin, if_pos rfl]
theorem dq_out {L F : Nat → Int32} {i p d f : Nat} (h : i < nN L) (hin : inP p d f (ntN L i) = false) : smI (ltF L F) (inP p d f) ((nts L 60).take (i + 1)) = smI (ltF L F) (inP p d f) ((nts L 60).take i) := by
  rw [take_getD (d := 0) h, smI_snoc, show inP p d f (List.getD (nts L 60) i 0) = false from hin, if_neg (by decide), Int.add_zero]
theorem dc_out {L : Nat → Int32} {i p d f : Nat} (h : i < nN L) (hin : inP p d f (ntN L i) = false) : cnt (inP p d f) ((nts L 60).take (i + 1)) = cnt (inP p d f) ((nts L 60).take i) := by
  rw [take_getD (d := 0) h, cnt_snoc, show inP p d f (List.getD (nts L 60) i 0) = false from hin, if_neg (by decide), Nat.add_zero]
