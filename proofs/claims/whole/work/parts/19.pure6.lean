/-! ranges -/
def inR (v : Int32) (lo hi : Int) : Bool := decide (lo ≤ v.toInt ∧ v.toInt ≤ hi)
theorem inR_t {v : Int32} {lo hi : Int} (h : lo ≤ v.toInt ∧ v.toInt ≤ hi) : inR v lo hi = true := decide_eq_true h
theorem inR_f {v : Int32} {lo hi : Int} (h : ¬ (lo ≤ v.toInt ∧ v.toInt ≤ hi)) : inR v lo hi = false := decide_eq_false h
theorem inR_of {v : Int32} {lo hi : Int} (h : inR v lo hi = true) : lo ≤ v.toInt ∧ v.toInt ≤ hi := of_decide_eq_true h
theorem inR_no {v : Int32} {lo hi : Int} (h : inR v lo hi = false) : ¬ (lo ≤ v.toInt ∧ v.toInt ≤ hi) := of_decide_eq_false h
theorem ix_of {v : Int32} {n : Nat} (h : 0 ≤ v.toInt ∧ v.toInt ≤ (n : Int)) : ∃ j : Nat, j ≤ n ∧ v = nI j := by
  obtain ⟨j, hj, e⟩ := nI_of (x := v) (by rw [fa_lt]; show ¬ v.toInt < 0; omega)
  refine ⟨j, ?_, e⟩
  rw [e, nI_toInt hj] at h
  omega
theorem nI_inR {j : Nat} {lo hi : Int} (hj : j < 2 ^ 31) : inR (nI j) lo hi = decide (lo ≤ (j : Int) ∧ (j : Int) ≤ hi) := by
  unfold inR
  rw [nI_toInt hj]
theorem b01_t : b01 true = 1 := rfl
theorem b01_f : b01 false = 0 := rfl
theorem vp_b01 (b : Bool) : vp_nar .boolean (b01 b) = b01 b := by cases b <;> rfl
