theorem dl_in {L F : Nat → Int32} {k p d f : Nat} (h : ¬ L k = -9) (hin : inP p d f k = true) :
    nI ((nts L k).length - cnt (inP p d f) (nts L k) + 0) = nI ((nts L (k + 1)).length - cnt (inP p d f) (nts L (k + 1))) ∧ Int64.ofInt (smI (ltF L F) (inP p d f) (nts L k)) + (ltF L F k).toInt64 = Int64.ofInt (smI (ltF L F) (inP p d f) (nts L (k + 1))) ∧
    Int64.ofInt (smI (ltF L F) allK (nts L k) - smI (ltF L F) (inP p d f) (nts L k)) + 0 = Int64.ofInt (smI (ltF L F) allK (nts L (k + 1)) - smI (ltF L F) (inP p d f) (nts L (k + 1))) ∧ nI (cnt (inP p d f) (nts L k) + 1) = nI (cnt (inP p d f) (nts L (k + 1))) := by
  rw [cnt_yes h, smI_yes h, smI_yes h, nts_yes_len h, hin, if_pos rfl, if_pos rfl, show allK k = true from rfl, if_pos rfl, l_add]
  refine ⟨by congr 1; omega, rfl, ?_, rfl⟩
  rw [show (0 : Int64) = Int64.ofInt 0 from rfl, ← Int64.ofInt_add]
  congr 1
  omega
theorem dl_out {L F : Nat → Int32} {k p d f : Nat} (h : ¬ L k = -9) (hin : inP p d f k = false) :
    nI ((nts L k).length - cnt (inP p d f) (nts L k) + 1) = nI ((nts L (k + 1)).length - cnt (inP p d f) (nts L (k + 1))) ∧ Int64.ofInt (smI (ltF L F) (inP p d f) (nts L k)) + 0 = Int64.ofInt (smI (ltF L F) (inP p d f) (nts L (k + 1))) ∧
    Int64.ofInt (smI (ltF L F) allK (nts L k) - smI (ltF L F) (inP p d f) (nts L k)) + (ltF L F k).toInt64 = Int64.ofInt (smI (ltF L F) allK (nts L (k + 1)) - smI (ltF L F) (inP p d f) (nts L (k + 1))) ∧ nI (cnt (inP p d f) (nts L k) + 0) = nI (cnt (inP p d f) (nts L (k + 1))) := by
  have hc := cnt_le (inP p d f) (nts L k)
  rw [cnt_yes h, smI_yes h, smI_yes h, nts_yes_len h, hin, if_neg (by decide), if_neg (by decide), show allK k = true from rfl, if_pos rfl, l_add]
  refine ⟨by congr 1; omega, ?_, by congr 1; omega, rfl⟩
  rw [show (0 : Int64) = Int64.ofInt 0 from rfl, ← Int64.ofInt_add]
def rD (RL : List rR) (i : Nat) : rR := RL.getD i (0, 0, 0, 0)
def RLok (RL : List rR) (wh lo hi cl : Nat → Int32) : Prop := ∀ i, i < RL.length → wh i = nI (rD RL i).1 ∧ lo i = (rD RL i).2.1 ∧ hi i = (rD RL i).2.2.1 ∧ cl i = (rD RL i).2.2.2 ∧ (rD RL i).1 < 4
theorem drop_rD {RL : List rR} {i : Nat} (h : i < RL.length) : RL.drop i = rD RL i :: RL.drop (i + 1) := by
  rw [List.drop_eq_getElem_cons h, rD, List.getD_eq_getElem?_getD, List.getElem?_eq_getElem h]
  rfl
theorem clsR_yes {ms : Nat → Int32} {q : rR} {qs : List rR} (h : fitR ms q = true) : clsR ms (q :: qs) = q.2.2.2 := if_pos h
theorem clsR_no {ms : Nat → Int32} {q : rR} {qs : List rR} (h : fitR ms q = false) : clsR ms (q :: qs) = clsR ms qs := if_neg (by rw [h]; decide)
theorem fitR_in (ms : Nat → Int32) (q : rR) : inR (ms q.1) q.2.1.toInt q.2.2.1.toInt = fitR ms q := inR_i32
theorem ofL_lt {x y : Int} (hx : 0 ≤ x ∧ x ≤ 2400000) (hy : 0 ≤ y ∧ y ≤ 2400000) : (Int64.ofInt y ≤ Int64.ofInt x) ↔ y ≤ x := by
  rw [fa_le64, i64_ofI (by omega) (by omega), i64_ofI (by omega) (by omega)]
