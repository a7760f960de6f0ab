theorem fb_rng (x : Int32) : -2147483648 ≤ x.toInt ∧ x.toInt < 2147483648 := by
  have h1 := Int32.le_toInt x
  have h2 := Int32.toInt_lt x
  omega
theorem fb_bmod {z : Int} (h1 : -2147483648 ≤ z) (h2 : z < 2147483648) : z.bmod (2 ^ 32) = z := by
  rw [Int.bmod_eq_of_le (by omega) (by omega)]
theorem fb_addI {x y : Int32} (h1 : -2147483648 ≤ x.toInt + y.toInt) (h2 : x.toInt + y.toInt < 2147483648) : (x + y).toInt = x.toInt + y.toInt := by
  rw [Int32.toInt_add, fb_bmod h1 h2]
theorem fb_subI {x y : Int32} (h1 : -2147483648 ≤ x.toInt - y.toInt) (h2 : x.toInt - y.toInt < 2147483648) : (x - y).toInt = x.toInt - y.toInt := by
  rw [Int32.toInt_sub, fb_bmod h1 h2]
theorem fb_mulI {x y : Int32} (h1 : -2147483648 ≤ x.toInt * y.toInt) (h2 : x.toInt * y.toInt < 2147483648) : (x * y).toInt = x.toInt * y.toInt := by
  rw [Int32.toInt_mul, fb_bmod h1 h2]
theorem fb_negI {x : Int32} (h : x.toInt ≠ -2147483648) : (-x).toInt = -x.toInt := by
  have := fb_rng x
  rw [Int32.toInt_neg, fb_bmod (by omega) (by omega)]
theorem fb_ofI {z : Int} (h1 : -2147483648 ≤ z) (h2 : z < 2147483648) : (Int32.ofInt z).toInt = z := by
  rw [Int32.toInt_ofInt, fb_bmod h1 h2]
theorem fb_asI (x : Int32) : Int32.ofInt x.toInt = x := Int32.ofInt_toInt x
theorem fb_rngL (x : Int64) : -9223372036854775808 ≤ x.toInt ∧ x.toInt < 9223372036854775808 := by
  have h1 := Int64.le_toInt x
  have h2 := Int64.toInt_lt x
  omega
theorem fb_bmodL {z : Int} (h1 : -9223372036854775808 ≤ z) (h2 : z < 9223372036854775808) : z.bmod (2 ^ 64) = z := by
  rw [Int.bmod_eq_of_le (by omega) (by omega)]
theorem fb_addL {x y : Int64} (h1 : -9223372036854775808 ≤ x.toInt + y.toInt) (h2 : x.toInt + y.toInt < 9223372036854775808) : (x + y).toInt = x.toInt + y.toInt := by
  rw [Int64.toInt_add, fb_bmodL h1 h2]
theorem fb_subL {x y : Int64} (h1 : -9223372036854775808 ≤ x.toInt - y.toInt) (h2 : x.toInt - y.toInt < 9223372036854775808) : (x - y).toInt = x.toInt - y.toInt := by
  rw [Int64.toInt_sub, fb_bmodL h1 h2]
theorem fb_mulL {x y : Int64} (h1 : -9223372036854775808 ≤ x.toInt * y.toInt) (h2 : x.toInt * y.toInt < 9223372036854775808) : (x * y).toInt = x.toInt * y.toInt := by
  rw [Int64.toInt_mul, fb_bmodL h1 h2]
theorem fa_lt (a b : Int32) : a < b ↔ a.toInt < b.toInt := Int32.lt_iff_toInt_lt
theorem fa_le (a b : Int32) : a ≤ b ↔ a.toInt ≤ b.toInt := Int32.le_iff_toInt_le
theorem fa_eq (a b : Int32) : a = b ↔ a.toInt = b.toInt := Int32.toInt_inj.symm
theorem fa_lt64 (a b : Int64) : a < b ↔ a.toInt < b.toInt := Int64.lt_iff_toInt_lt
theorem fa_le64 (a b : Int64) : a ≤ b ↔ a.toInt ≤ b.toInt := Int64.le_iff_toInt_le
theorem fa_eq64 (a b : Int64) : a = b ↔ a.toInt = b.toInt := Int64.toInt_inj.symm
/-- a comparison of two ints taken as longs -/
theorem fa_wide_lt (a b : Int32) : a.toInt64 < b.toInt64 ↔ a < b := by rw [fa_lt64, fa_lt, Int32.toInt_toInt64, Int32.toInt_toInt64]
theorem fa_wide_le (a b : Int32) : a.toInt64 ≤ b.toInt64 ↔ a ≤ b := by rw [fa_le64, fa_le, Int32.toInt_toInt64, Int32.toInt_toInt64]
theorem fa_wide_eq (a b : Int32) : a.toInt64 = b.toInt64 ↔ a = b := by rw [fa_eq64, fa_eq, Int32.toInt_toInt64, Int32.toInt_toInt64]

theorem xor_neg (x y : Int32) (hy : 0 < y) : 0 ≤ x ^^^ y ↔ 0 ≤ x := by
  have key : ∀ z : Int32, (0 ≤ z ↔ z.toBitVec.msb = false) := by
    intro z
    rw [fa_le, BitVec.msb_eq_toInt]
    show (0 : Int) ≤ z.toInt ↔ _
    rw [decide_eq_false_iff_not]
    show (0 : Int) ≤ z.toInt ↔ ¬ z.toInt < 0
    omega
  have hy2 : y.toBitVec.msb = false := (key y).mp (by rw [fa_le]; rw [fa_lt] at hy; omega)
  rw [key, key, Int32.toBitVec_xor, BitVec.msb_xor, hy2]
  simp
theorem irem_toInt (x y : Int32) : (x - x / y * y).toInt = x.toInt.tmod y.toInt := rem_toInt x y
theorem fmod_a {x y : Int32} (hy : 0 < y) (h : 0 ≤ x ^^^ y) : x - x / y * y = Int32.ofInt (x.toInt % y.toInt) := by
  rw [xor_neg x y hy, fa_le] at h
  rw [fa_lt] at hy
  have h0 : (0 : Int32).toInt = 0 := rfl
  rw [h0] at h hy
  have e := irem_toInt x y
  rw [Int.tmod_eq_emod_of_nonneg h] at e
  rw [← e, fb_asI]
theorem fmod_b {x y : Int32} (hy : 0 < y) (h : ¬ 0 ≤ x ^^^ y) (hz : x - x / y * y = 0) : x - x / y * y = Int32.ofInt (x.toInt % y.toInt) := by
  have e := irem_toInt x y
  rw [hz] at e ⊢
  have h0 : (0 : Int32).toInt = 0 := rfl
  rw [h0] at e
  have h1 : x.toInt % y.toInt = 0 := Int.emod_eq_zero_of_dvd (Int.dvd_of_tmod_eq_zero e.symm)
  rw [h1]
  rfl
theorem fmod_c {x y : Int32} (hy : 0 < y) (h : ¬ 0 ≤ x ^^^ y) (hz : ¬ x - x / y * y = 0) : x - x / y * y + y = Int32.ofInt (x.toInt % y.toInt) := by
  rw [xor_neg x y hy, fa_le] at h
  rw [fa_lt] at hy
  have h0 : (0 : Int32).toInt = 0 := rfl
  rw [h0] at h hy
  have e := irem_toInt x y
  have hz2 : ¬ x.toInt.tmod y.toInt = 0 := fun z => hz (Int32.toInt_inj.mp (by rw [e, z]; rfl))
  have r1 := fb_rng y
  have r2 := fb_rng x
  have b1 := Int.emod_nonneg x.toInt (show y.toInt ≠ 0 by omega)
  have b2 := Int.emod_lt_of_pos x.toInt hy
  have e2 : x.toInt.tmod y.toInt + y.toInt = x.toInt % y.toInt := by
    have m1 : x.toInt.tmod y.toInt = -((-x.toInt) % y.toInt) := by
      rw [show x.toInt = -(-x.toInt) by omega, Int.neg_tmod, Int.tmod_eq_emod_of_nonneg (by omega)]
      simp
    rw [m1] at hz2 ⊢
    have c1 := Int.emod_nonneg (-x.toInt) (show y.toInt ≠ 0 by omega)
    have c2 := Int.emod_lt_of_pos (-x.toInt) hy
    have d1 := Int.mul_ediv_add_emod x.toInt y.toInt
    have d2 := Int.mul_ediv_add_emod (-x.toInt) y.toInt
    have d3 : y.toInt * (x.toInt / y.toInt + -x.toInt / y.toInt) = -(x.toInt % y.toInt + -x.toInt % y.toInt) := by
      rw [Int.mul_add]; omega
    generalize x.toInt % y.toInt = a at *
    generalize -x.toInt % y.toInt = b at *
    generalize x.toInt / y.toInt + -x.toInt / y.toInt = q at *
    have : q = -1 := by
      rcases Int.lt_trichotomy q (-1) with h3 | h3 | h3
      · have := Int.mul_le_mul_of_nonneg_left (show q ≤ -2 by omega) (Int.le_of_lt hy)
        omega
      · exact h3
      · have := Int.mul_le_mul_of_nonneg_left (show 0 ≤ q by omega) (Int.le_of_lt hy)
        omega
    subst this
    omega
  apply Int32.toInt_inj.mp
  rw [fb_addI (by rw [e]; omega) (by rw [e]; omega), e, e2, fb_ofI (by omega) (by omega)]
theorem idiv_toInt {x y : Int32} (hy : 0 < y) : (x / y).toInt = x.toInt.tdiv y.toInt := by
  apply Int32.toInt_div_of_ne_right
  intro z
  subst z
  exact absurd hy (by decide)
theorem fdiv_a {x y : Int32} (hy : 0 < y) (h : 0 ≤ x ^^^ y) : x / y = Int32.ofInt (x.toInt / y.toInt) := by
  rw [xor_neg x y hy, fa_le] at h
  have e := idiv_toInt (x := x) hy
  have h0 : (0 : Int32).toInt = 0 := rfl
  rw [h0] at h
  rw [Int.tdiv_eq_ediv_of_nonneg h] at e
  rw [← e, fb_asI]
theorem tdiv_neg_ediv {a b : Int} (ha : a < 0) (hb : 0 < b) : (a.tdiv b * b = a → a.tdiv b = a / b) ∧ (¬ a.tdiv b * b = a → a.tdiv b - 1 = a / b) := by
  have m1 : a.tdiv b = -((-a) / b) := by
    rw [show a.tdiv b = (-(-a)).tdiv b by rw [Int.neg_neg], Int.neg_tdiv, Int.tdiv_eq_ediv_of_nonneg (by omega)]
  rw [m1]
  have c1 := Int.emod_nonneg (-a) (show b ≠ 0 by omega)
  have c2 := Int.emod_lt_of_pos (-a) hb
  have e1 := Int.emod_nonneg a (show b ≠ 0 by omega)
  have e2 := Int.emod_lt_of_pos a hb
  have d1 := Int.mul_ediv_add_emod a b
  have d2 := Int.mul_ediv_add_emod (-a) b
  have d3 : b * (a / b + -a / b) = -(a % b + -a % b) := by rw [Int.mul_add]; omega
  have d4 : -(-a / b) * b = -(b * (-a / b)) := by rw [Int.neg_mul, Int.mul_comm]
  rw [d4]
  generalize a % b = u at *
  generalize -a % b = v at *
  generalize hq : a / b + -a / b = q at *
  have hq2 : q = 0 ∨ q = -1 := by
    rcases Int.lt_trichotomy q (-1) with h3 | h3 | h3
    · have := Int.mul_le_mul_of_nonneg_left (show q ≤ -2 by omega) (Int.le_of_lt hb)
      omega
    · exact Or.inr h3
    · rcases Int.lt_trichotomy q 0 with h4 | h4 | h4
      · omega
      · exact Or.inl h4
      · have := Int.mul_le_mul_of_nonneg_left (show 1 ≤ q by omega) (Int.le_of_lt hb)
        omega
  constructor
  · intro h
    rcases hq2 with rfl | rfl <;> omega
  · intro h
    rcases hq2 with rfl | rfl <;> omega
theorem fdiv_rng {x y : Int32} (hy : 0 < y) (h : ¬ 0 ≤ x ^^^ y) : (0 : Int) < y.toInt ∧ x.toInt < 0 ∧ (x / y).toInt = x.toInt.tdiv y.toInt ∧ x.toInt ≤ x.toInt.tdiv y.toInt ∧ x.toInt.tdiv y.toInt ≤ 0 := by
  rw [xor_neg x y hy, fa_le] at h
  have e := idiv_toInt (x := x) hy
  rw [fa_lt] at hy
  have h0 : (0 : Int32).toInt = 0 := rfl
  rw [h0] at h hy
  have m1 : x.toInt.tdiv y.toInt = -((-x.toInt) / y.toInt) := by
    rw [show x.toInt.tdiv y.toInt = (-(-x.toInt)).tdiv y.toInt by rw [Int.neg_neg], Int.neg_tdiv, Int.tdiv_eq_ediv_of_nonneg (by omega)]
  have c1 := Int.ediv_nonneg (show 0 ≤ -x.toInt by omega) (Int.le_of_lt hy)
  have c2 : -x.toInt / y.toInt ≤ -x.toInt := Int.ediv_le_self _ (by omega)
  refine ⟨hy, by omega, e, ?_, ?_⟩ <;> rw [m1] <;> omega
theorem fdiv_mul {x y : Int32} (hy : 0 < y) (h : ¬ 0 ≤ x ^^^ y) : (x / y * y).toInt = x.toInt.tdiv y.toInt * y.toInt := by
  obtain ⟨h1, h2, h3, h4, h5⟩ := fdiv_rng hy h
  have r := fb_rng x
  have m1 : x.toInt.tdiv y.toInt * y.toInt = -((-x.toInt) / y.toInt * y.toInt) := by
    rw [show x.toInt.tdiv y.toInt = (-(-x.toInt)).tdiv y.toInt by rw [Int.neg_neg], Int.neg_tdiv, Int.tdiv_eq_ediv_of_nonneg (by omega), Int.neg_mul]
  have m2 := Int.mul_ediv_add_emod (-x.toInt) y.toInt
  have m3 := Int.emod_nonneg (-x.toInt) (show y.toInt ≠ 0 by omega)
  have m4 := Int.mul_nonneg (Int.ediv_nonneg (show 0 ≤ -x.toInt by omega) (Int.le_of_lt h1)) (Int.le_of_lt h1)
  have m5 : y.toInt * (-x.toInt / y.toInt) = -x.toInt / y.toInt * y.toInt := Int.mul_comm _ _
  rw [fb_mulI (by rw [h3, m1]; omega) (by rw [h3, m1]; omega), h3]
theorem fdiv_b {x y : Int32} (hy : 0 < y) (h : ¬ 0 ≤ x ^^^ y) (hz : x / y * y = x) : x / y = Int32.ofInt (x.toInt / y.toInt) := by
  obtain ⟨h1, h2, h3, h4, h5⟩ := fdiv_rng hy h
  have e := fdiv_mul hy h
  rw [hz] at e
  rw [← (tdiv_neg_ediv h2 h1).1 e.symm, ← h3, fb_asI]
theorem fdiv_c {x y : Int32} (hy : 0 < y) (h : ¬ 0 ≤ x ^^^ y) (hz : ¬ x / y * y = x) : x / y - 1 = Int32.ofInt (x.toInt / y.toInt) := by
  obtain ⟨h1, h2, h3, h4, h5⟩ := fdiv_rng hy h
  have e := fdiv_mul hy h
  have r := fb_rng x
  have hz2 : ¬ x.toInt.tdiv y.toInt * y.toInt = x.toInt := fun z => hz (Int32.toInt_inj.mp (by rw [e, z]))
  have e2 := (tdiv_neg_ediv h2 h1).2 hz2
  have r2 := fb_rng (x / y)
  apply Int32.toInt_inj.mp
  have h9 : x.toInt < x.toInt.tdiv y.toInt := by
    rcases Int.lt_or_eq_of_le h4 with q | q
    · exact q
    · exfalso
      rw [← q] at hz2 e
      rcases Int.lt_trichotomy y.toInt 1 with w | w | w
      · omega
      · rw [w] at hz2; omega
      · have h7 := fb_rng (x / y * y)
        have h8 : x.toInt * y.toInt ≤ x.toInt * 2 := Int.mul_le_mul_of_nonpos_left (by omega) (by omega)
        have m1 : x.toInt.tdiv y.toInt = -((-x.toInt) / y.toInt) := by
          rw [show x.toInt.tdiv y.toInt = (-(-x.toInt)).tdiv y.toInt by rw [Int.neg_neg], Int.neg_tdiv, Int.tdiv_eq_ediv_of_nonneg (by omega)]
        have m2 := Int.mul_ediv_add_emod (-x.toInt) y.toInt
        have m3 := Int.emod_nonneg (-x.toInt) (show y.toInt ≠ 0 by omega)
        rw [show -x.toInt / y.toInt = -x.toInt by omega] at m2
        rw [Int.mul_neg, Int.mul_comm] at m2
        omega
  rw [fb_subI (by rw [h3]; show _ ≤ _ - (1 : Int); omega) (by rw [h3]; show _ - (1 : Int) < _; omega), h3, show (1 : Int32).toInt = 1 from rfl, e2, fb_ofI (by omega) (by omega)]
theorem nar_b01 (b : Bool) : narrow .boolean (.int (b01 b)) = .int (b01 b) := by cases b <;> rfl
theorem fit_b01 (b : Bool) : fits .boolean (.int (b01 b)) = true := by cases b <;> rfl
theorem AGm_push {T : Nat → Int32} {rl : List Nat} {k : Nat} (h : AG T (rl.map nI)) : AG (upd T rl.length (nI k)) ((k :: rl).map nI) := by
  refine ⟨?_, AG_hi (fun j hj => ?_) h⟩
  · show upd T rl.length (nI k) (rl.map nI).length = nI k
    rw [List.length_map]
    exact pk_us
  · show upd T rl.length (nI k) j = T j
    rw [List.length_map] at hj
    exact pk_un (by omega)
theorem take_lowF {L : Nat → Int32} {i : Nat} (h : i < nN L) (lt : Nat → Int32) (due : Int32) : lowF lt due ((nts L 60).take (i + 1)) = lowG lt due (lowF lt due ((nts L 60).take i)) (ntN L i) := by
  rw [take_getD (d := 0) h, lowF_snoc]
theorem lowG_no {lt : Nat → Int32} {due : Int32} {s : List Nat × Bool} {k : Nat} (h : due < lt k) : lowG lt due s k = (s.1, false) := by
  unfold lowG
  rw [if_neg (Int32.not_le.mpr h)]
theorem lowG_new {lt : Nat → Int32} {due : Int32} {rl : List Nat} {k : Nat} (h : ¬ due < lt k) : lowG lt due (rl, false) k = (k :: rl, true) := by
  unfold lowG
  rw [if_pos (Int32.not_lt.mp h)]
  cases rl <;> rfl
theorem lowG_keep {lt : Nat → Int32} {due : Int32} {x : Nat} {xs : List Nat} {k : Nat} (h : ¬ due < lt k) (h7 : lt x ≤ lt k) : lowG lt due (x :: xs, true) k = (x :: xs, true) := by
  unfold lowG
  rw [if_pos (Int32.not_lt.mp h)]
  dsimp only
  rw [if_neg (Int32.not_lt.mpr h7)]
theorem lowG_less {lt : Nat → Int32} {due : Int32} {x : Nat} {xs : List Nat} {k : Nat} (h : ¬ due < lt k) (h7 : ¬ lt x ≤ lt k) : lowG lt due (x :: xs, true) k = (k :: xs, true) := by
  unfold lowG
  rw [if_pos (Int32.not_lt.mp h)]
  dsimp only
  rw [if_pos (Int32.not_le.mp h7)]
theorem lowF_take_len {L : Nat → Int32} {lt : Nat → Int32} {due : Int32} {i : Nat} {rl : List Nat} {run : Bool} (h : lowF lt due ((nts L 60).take i) = (rl, run)) : rl.length ≤ i := by
  have h1 := lowF_le lt due ((nts L 60).take i)
  rw [h] at h1
  exact Nat.le_trans h1 (List.length_take_le ..)
