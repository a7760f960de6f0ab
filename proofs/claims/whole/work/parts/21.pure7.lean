theorem snoc_ind {α : Type} {P : List α → Prop} (h0 : P []) (hs : ∀ vs v, P vs → P (vs ++ [v])) : ∀ vs, P vs := by
  have key : ∀ n (vs : List α), vs.length = n → P vs := by
    intro n
    induction n with
    | zero => intro vs h; rw [List.length_eq_zero_iff.mp h]; exact h0
    | succ n ih =>
      intro vs h
      rcases List.eq_nil_or_concat vs with e | ⟨ws, v, e⟩
      · rw [e] at h; exact absurd h (by simp)
      · rw [List.concat_eq_append] at e
        subst e
        refine hs ws v (ih ws ?_)
        rw [List.length_append, List.length_singleton] at h
        omega
  exact fun vs => key _ vs rfl
theorem insR_head (v : Int32) : ∀ (l : List Int32) (m : Int32), l.head? = some m → (insR v l).head? = some (if m < v then v else m)
  | [], m, h => by cases h
  | x :: xs, m, h => by
    have e : x = m := by simpa using h
    subst e
    unfold insR
    by_cases h1 : x ≤ v
    · rw [if_pos h1]
      by_cases h2 : x < v
      · rw [if_pos h2]; rfl
      · rw [if_neg h2]
        have : x = v := by rw [fa_eq]; rw [fa_le] at h1; rw [fa_lt] at h2; omega
        rw [this]; rfl
    · rw [if_neg h1, if_neg (fun z => h1 (by rw [fa_le]; rw [fa_lt] at z; omega))]
      rfl
theorem insR_ne (v : Int32) : ∀ l, insR v l ≠ []
  | [] => by simp [insR]
  | x :: xs => by unfold insR; split <;> simp
theorem insR_last (v : Int32) : ∀ (l : List Int32) (m : Int32), l.getLast? = some m → (∀ x ∈ l, m ≤ x) → (insR v l).getLast? = some (if v < m then v else m)
  | [], m, h, _ => by cases h
  | [x], m, h, _ => by
    have e : x = m := by simpa using h
    subst e
    unfold insR
    by_cases h1 : x ≤ v
    · rw [if_pos h1, if_neg (Int32.not_lt.mpr h1)]; rfl
    · rw [if_neg h1, if_pos (Int32.not_le.mp h1)]; rfl
  | x :: y :: ys, m, h, hb => by
    have h' : (y :: ys).getLast? = some m := by rw [List.getLast?_cons_cons] at h; exact h
    unfold insR
    by_cases h1 : x ≤ v
    · rw [if_pos h1]
      have h2 := hb x List.mem_cons_self
      rw [if_neg (fun z => by rw [fa_lt] at z; rw [fa_le] at h1 h2; omega)]
      rw [List.getLast?_cons_cons, List.getLast?_cons_cons]
      exact h'
    · rw [if_neg h1]
      have ih := insR_last v (y :: ys) m h' (fun z hz => hb z (List.mem_cons_of_mem _ hz))
      rw [List.getLast?_cons, ih]
      rfl
theorem insR_mem {v y : Int32} : ∀ {l : List Int32}, y ∈ insR v l → y = v ∨ y ∈ l
  | [], h => Or.inl (by simpa [insR] using h)
  | x :: xs, h => by
    unfold insR at h
    split at h
    · simpa using h
    · rcases List.mem_cons.mp h with rfl | h
      · exact Or.inr List.mem_cons_self
      · rcases insR_mem h with h | h
        · exact Or.inl h
        · exact Or.inr (List.mem_cons_of_mem _ h)
theorem swF_inv : ∀ vs : List Int32, (swF vs).2.2 = vs.length ∧ (vs ≠ [] → (bsz vs).head? = some (swF vs).2.1 ∧ (bsz vs).getLast? = some (swF vs).1 ∧ ∀ x ∈ bsz vs, (swF vs).1 ≤ x) := by
  apply snoc_ind
  · exact ⟨rfl, fun h => absurd rfl h⟩
  · intro vs v ih
    rw [swF_snoc, bsz_snoc]
    refine ⟨?_, fun _ => ?_⟩
    · show (swF vs).2.2 + 1 = _
      rw [ih.1, List.length_append, List.length_singleton]
    · by_cases h0 : vs = []
      · subst h0
        refine ⟨rfl, rfl, fun x hx => ?_⟩
        have : x = v := by simpa [bsz, insR] using hx
        subst this
        show x ≤ x
        rw [fa_le]; omega
      · have hl : ¬ (swF vs).2.2 = 0 := by rw [ih.1]; exact fun z => h0 (List.length_eq_zero_iff.mp z)
        obtain ⟨i1, i2, i3⟩ := ih.2 h0
        have e1 : (swS (swF vs) v).1 = if v < (swF vs).1 then v else (swF vs).1 := by
          show (if (swF vs).2.2 = 0 ∨ v < (swF vs).1 then v else (swF vs).1) = _
          by_cases h2 : v < (swF vs).1
          · rw [if_pos (Or.inr h2), if_pos h2]
          · rw [if_neg (fun z => z.elim hl h2), if_neg h2]
        have e2 : (swS (swF vs) v).2.1 = if (swF vs).2.1 < v then v else (swF vs).2.1 := by
          show (if (swF vs).2.2 = 0 ∨ (swF vs).2.1 < v then v else (swF vs).2.1) = _
          by_cases h2 : (swF vs).2.1 < v
          · rw [if_pos (Or.inr h2), if_pos h2]
          · rw [if_neg (fun z => z.elim hl h2), if_neg h2]
        rw [e1, e2]
        refine ⟨insR_head v _ _ i1, insR_last v _ _ i2 i3, fun x hx => ?_⟩
        rcases insR_mem hx with rfl | hx
        · split
          · rw [fa_le]; omega
          · rename_i h2; exact Int32.not_lt.mp h2
        · have := i3 x hx
          split
          · rename_i h2; rw [fa_le] at this ⊢; rw [fa_lt] at h2; omega
          · exact this
theorem swg_of {f : Nat → Int32} {vs : List Int32} (h : AG f (bsz vs)) : (if vs.length = 0 then 0 else f (vs.length - 1) - f 0) = swg vs := by
  by_cases h0 : vs.length = 0
  · rw [if_pos h0, List.length_eq_zero_iff.mp h0]; rfl
  · rw [if_neg h0]
    obtain ⟨i1, i2, -⟩ := (swF_inv vs).2 (fun z => h0 (by rw [z]; rfl))
    have l1 := bsz_len vs
    have a1 := AG_get (d := 0) (i := vs.length - 1) h (by rw [l1]; omega)
    have a2 := AG_get (d := 0) (i := 0) h (by rw [l1]; omega)
    rw [a1, a2, l1, show vs.length - 1 - (vs.length - 1) = 0 by omega, Nat.sub_zero]
    unfold swg
    have b1 : (bsz vs).getD 0 0 = (swF vs).2.1 := by
      rw [List.getD_eq_getElem?_getD, ← List.head?_eq_getElem?, i1]; rfl
    have b2 : (bsz vs).getD (vs.length - 1) 0 = (swF vs).1 := by
      rw [List.getD_eq_getElem?_getD, ← l1, ← List.getLast?_eq_getElem?, i2]; rfl
    rw [b1, b2]
theorem take_lits {L F : Nat → Int32} {i : Nat} (h : i < nN L) : bsz ((lits L F 60).take (i + 1)) = insR (ltF L F (ntN L i)) (bsz ((lits L F 60).take i)) := by
  have hl : i < (lits L F 60).length := by rw [lits_len]; exact h
  rw [take_getD (d := ltF L F 0) hl, bsz_snoc]
  congr 1
  unfold lits
  rw [List.getD_eq_getElem?_getD, List.getElem?_map, List.getElem?_eq_getElem h]
  unfold ntN
  rw [List.getD_eq_getElem?_getD, List.getElem?_eq_getElem h]
  rfl
theorem take_lits_len {L F : Nat → Int32} {i : Nat} (h : i ≤ nN L) : (bsz ((lits L F 60).take i)).length = i := by
  rw [bsz_len, List.length_take, lits_len]
  exact Nat.min_eq_left h
theorem AG_put {f : Nat → Int32} {l : List Int32} {n : Nat} (v : Int32) (h : AG f l) (hn : l.length = n) : AG (insA f v n) (insR v l) := hn ▸ AG_ins v l f h
theorem lits_l60 (L F : Nat → Int32) : (lits L F 60).length = nN L := lits_len L F 60
/-- lights without FOOTINGS -/
def rws (L : Nat → Int32) (k : Nat) : List Int32 := (nts L k).map L
theorem rws_len (L : Nat → Int32) (k : Nat) : (rws L k).length = (nts L k).length := List.length_map ..
theorem rws_yes {L : Nat → Int32} {k : Nat} (h : ¬ L k = -9) : rws L (k + 1) = rws L k ++ [L k] := by
  unfold rws
  rw [nts_yes h, List.map_append]
  rfl
theorem rws_no {L : Nat → Int32} {k : Nat} (h : L k = -9) : rws L (k + 1) = rws L k := by
  unfold rws
  rw [nts_no h]
theorem brw_yes {L : Nat → Int32} {k : Nat} (h : ¬ L k = -9) : bsz (rws L (k + 1)) = insR (L k) (bsz (rws L k)) := by rw [rws_yes h, bsz_snoc]
theorem brw_len (L : Nat → Int32) (k : Nat) : (bsz (rws L k)).length = (nts L k).length := by rw [bsz_len, rws_len]
/-! clocks -/
def tuI (k c p q : Nat) : Int := (2 * ((k : Int) - c) * q + p) / (2 * (p : Int))
def laI (k c p q : Nat) : Int := (q : Int) * ((k : Int) - c) - tuI k c p q * p
theorem nI_ofI (n : Nat) : nI n = Int32.ofInt (n : Int) := (Int32.ofInt_eq_ofNat).symm
theorem prod_bd {a b : Int} {m n : Int} (h1 : -m ≤ a) (h2 : a ≤ m) (h3 : 0 ≤ b) (h4 : b ≤ n) (hm : 0 ≤ m) : -(m * n) ≤ a * b ∧ a * b ≤ m * n := by
  have e1 : a * b ≤ m * b := Int.mul_le_mul_of_nonneg_right h2 h3
  have e2 : (-m) * b ≤ a * b := Int.mul_le_mul_of_nonneg_right h1 h3
  have e3 : m * b ≤ m * n := Int.mul_le_mul_of_nonneg_left h4 hm
  rw [Int.neg_mul] at e2
  omega
theorem tu_arg {k c q : Nat} (p : Nat) (hk : k < 60) (hc : c < 60) (hq : q ≤ 60) (hp : p ≤ 600) : -8000 ≤ 2 * ((k : Int) - c) * q + p ∧ 2 * ((k : Int) - c) * q + p ≤ 8000 := by
  have := prod_bd (a := 2 * ((k : Int) - c)) (b := q) (m := 118) (n := 60) (by omega) (by omega) (by omega) (by omega) (by omega)
  omega
theorem tu_cls {k c p q : Nat} (hk : k < 60) (hc : c < 60) (hq : q ≤ 60) (hp : p ≤ 600) : Int32.ofInt ((2 * (nI k - nI c) * nI q + nI p).toInt / (2 * nI p).toInt) = Int32.ofInt (tuI k c p q) := by
  have e1 : 2 * (nI k - nI c) * nI q + nI p = Int32.ofInt (2 * ((k : Int) - c) * q + p) := by
    rw [nI_ofI, nI_ofI, nI_ofI, nI_ofI, show (2 : Int32) = Int32.ofInt 2 from rfl, ← Int32.ofInt_sub, ← Int32.ofInt_mul, ← Int32.ofInt_mul, ← Int32.ofInt_add]
  have e2 : 2 * nI p = Int32.ofInt (2 * (p : Int)) := by rw [nI_ofI, show (2 : Int32) = Int32.ofInt 2 from rfl, ← Int32.ofInt_mul]
  have b := tu_arg (k := k) (c := c) p hk hc hq hp
  rw [e1, e2, fb_ofI (by omega) (by omega), fb_ofI (by omega) (by omega)]
  rfl
theorem la_cls (k c p q : Nat) : nI q * (nI k - nI c) - Int32.ofInt (tuI k c p q) * nI p = Int32.ofInt (laI k c p q) := by
  unfold laI
  rw [nI_ofI, nI_ofI, nI_ofI, nI_ofI, Int32.ofInt_sub, Int32.ofInt_mul, Int32.ofInt_mul, Int32.ofInt_sub]
theorem tu_bd {k c p q : Nat} (hk : k < 60) (hc : c < 60) (hq : q ≤ 60) (hp1 : 1 ≤ p) (hp : p ≤ 600) : -8000 ≤ tuI k c p q ∧ tuI k c p q ≤ 8000 := by
  have b := tu_arg (k := k) (c := c) p hk hc hq hp
  unfold tuI
  generalize 2 * ((k : Int) - c) * q + p = z at *
  constructor
  · exact Int.le_trans (by omega) (Int.le_trans (Int.le_ediv_of_mul_le (a := -8000) (c := 2 * (p : Int)) (by omega) (by omega)) (Int.le_refl _))
  · exact Int.ediv_le_of_le_mul (by omega) (by omega)
theorem la_bd {k c p q : Nat} (hp1 : 1 ≤ p) (hp : p ≤ 600) : -600 ≤ laI k c p q ∧ laI k c p q ≤ 600 := by
  have d1 := Int.mul_ediv_add_emod (2 * ((k : Int) - c) * q + p) (2 * (p : Int))
  have d2 := Int.emod_nonneg (2 * ((k : Int) - c) * q + p) (show 2 * (p : Int) ≠ 0 by omega)
  have d3 := Int.emod_lt_of_pos (2 * ((k : Int) - c) * q + p) (show 0 < 2 * (p : Int) by omega)
  unfold laI tuI
  have m1 : 2 * ((q : Int) * ((k : Int) - c)) = 2 * ((k : Int) - c) * q := by rw [Int.mul_comm (q : Int), ← Int.mul_assoc]
  have m2 : 2 * ((2 * ((k : Int) - c) * q + p) / (2 * (p : Int)) * p) = 2 * (p : Int) * ((2 * ((k : Int) - c) * q + p) / (2 * (p : Int))) := by
    rw [← Int.mul_assoc, Int.mul_comm 2 _, Int.mul_assoc, Int.mul_comm]
  generalize (2 * ((k : Int) - c) * q + p) / (2 * (p : Int)) * p = t at *
  generalize (q : Int) * ((k : Int) - c) = u at *
  omega
theorem wide_ofI {z : Int} (h1 : -2147483648 ≤ z) (h2 : z < 2147483648) : (Int32.ofInt z).toInt64 = Int64.ofInt z := by
  apply i64_eq
  rw [Int32.toInt_toInt64, fb_ofI h1 h2]
