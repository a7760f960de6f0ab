/-! DIPS -/
def cnt (P : Nat → Bool) (ks : List Nat) : Nat := (ks.filter P).length
def smI (lt : Nat → Int32) (P : Nat → Bool) (ks : List Nat) : Int := ((ks.filter P).map (fun k => (lt k).toInt)).sum
theorem cnt_snoc (P : Nat → Bool) (ks : List Nat) (k : Nat) : cnt P (ks ++ [k]) = cnt P ks + (if P k then 1 else 0) := by
  unfold cnt
  rw [List.filter_append, List.length_append]
  by_cases h : P k <;> simp [h]
theorem smI_snoc (lt : Nat → Int32) (P : Nat → Bool) (ks : List Nat) (k : Nat) : smI lt P (ks ++ [k]) = smI lt P ks + (if P k then (lt k).toInt else 0) := by
  unfold smI
  rw [List.filter_append, List.map_append, List.sum_append]
  by_cases h : P k <;> simp [h]
theorem cnt_le (P : Nat → Bool) (ks : List Nat) : cnt P ks ≤ ks.length := List.length_filter_le ..
theorem smI_cons (lt : Nat → Int32) (P : Nat → Bool) (k : Nat) (ks : List Nat) : smI lt P (k :: ks) = (if P k then (lt k).toInt else 0) + smI lt P ks := by
  unfold smI
  by_cases h : P k <;> simp [h]
theorem cnt_cons (P : Nat → Bool) (k : Nat) (ks : List Nat) : cnt P (k :: ks) = (if P k then 1 else 0) + cnt P ks := by
  unfold cnt
  by_cases h : P k
  · simp [h]; omega
  · simp [h]
theorem smI_bd {lt : Nat → Int32} (P : Nat → Bool) : ∀ {ks : List Nat}, (∀ k ∈ ks, -20000 ≤ (lt k).toInt ∧ (lt k).toInt ≤ 20000) → -(20000 * (ks.length : Int)) ≤ smI lt P ks ∧ smI lt P ks ≤ 20000 * (ks.length : Int)
  | [], _ => ⟨Int.le_refl _, Int.le_refl _⟩
  | k :: ks, h => by
    have h1 := smI_bd P (fun j hj => h j (List.mem_cons_of_mem _ hj))
    have h2 := h k List.mem_cons_self
    rw [smI_cons, List.length_cons]
    split <;> constructor <;> push_cast <;> omega
theorem cnt_cong {P Q : Nat → Bool} {ks : List Nat} (h : ∀ k ∈ ks, P k = Q k) : cnt P ks = cnt Q ks := by
  unfold cnt
  rw [List.filter_congr h]
theorem smI_cong {lt : Nat → Int32} {P Q : Nat → Bool} {ks : List Nat} (h : ∀ k ∈ ks, P k = Q k) : smI lt P ks = smI lt Q ks := by
  unfold smI
  rw [List.filter_congr h]
theorem cnt_or {P Q R : Nat → Bool} : ∀ {ks : List Nat}, (∀ k ∈ ks, P k = (Q k || R k) ∧ (Q k && R k) = false) → cnt P ks = cnt Q ks + cnt R ks
  | [], _ => rfl
  | k :: ks, h => by
    have h1 := cnt_or (fun j hj => h j (List.mem_cons_of_mem _ hj))
    have h2 := h k List.mem_cons_self
    rw [cnt_cons, cnt_cons, cnt_cons, h1, h2.1]
    have h3 := h2.2
    cases hq : Q k <;> cases hr : R k <;> simp [hq, hr] at h3 ⊢ <;> omega
theorem smI_or {lt : Nat → Int32} {P Q R : Nat → Bool} : ∀ {ks : List Nat}, (∀ k ∈ ks, P k = (Q k || R k) ∧ (Q k && R k) = false) → smI lt P ks = smI lt Q ks + smI lt R ks
  | [], _ => rfl
  | k :: ks, h => by
    have h1 := smI_or (lt := lt) (fun j hj => h j (List.mem_cons_of_mem _ hj))
    have h2 := h k List.mem_cons_self
    rw [smI_cons, smI_cons, smI_cons, h1, h2.1]
    have h3 := h2.2
    cases hq : Q k <;> cases hr : R k <;> simp [hq, hr] at h3 ⊢ <;> omega
def allK : Nat → Bool := fun _ => true
theorem cnt_all (ks : List Nat) : cnt allK ks = ks.length := by
  unfold cnt allK
  simp
/-- IN a DIP of length l from PHASE f on -/
def inP (p l f : Nat) (k : Nat) : Bool := decide ((k % p + p - f) % p < l)
def atP (p j : Nat) (k : Nat) : Bool := decide (k % p = j)
theorem inP_0 (p f k : Nat) : inP p 0 f k = false := by simp [inP]
theorem md {p f x : Nat} (hx : x < p) (hf : f < p) : (x + p - f) % p = if f ≤ x then x - f else x + p - f := by
  split
  · rw [show x + p - f = (x - f) + p by omega, Nat.add_mod_right, Nat.mod_eq_of_lt (by omega)]
  · rw [Nat.mod_eq_of_lt (by omega)]
theorem inP_s {p l f : Nat} (hl : l + 1 < p) (hf : f < p) (k : Nat) : inP p (l + 1) f k = (inP p l f k || atP p (if f + l < p then f + l else f + l - p) k) ∧ (inP p l f k && atP p (if f + l < p then f + l else f + l - p) k) = false := by
  have hx : k % p < p := Nat.mod_lt _ (by omega)
  unfold inP atP
  rw [md hx hf]
  generalize k % p = x at hx ⊢
  constructor
  · rw [← Bool.decide_or, decide_eq_decide]
    constructor
    · intro h
      split at h <;> split <;> (try split) <;> omega
    · intro h
      split at h <;> split at h <;> (try split) <;> omega
  · rw [← Bool.decide_and, decide_eq_false_iff_not]
    intro h
    split at h <;> split at h <;> omega
/-- how many are IN, their sum; DEPTH -/
abbrev cI (L : Nat → Int32) (p l f : Nat) : Nat := cnt (inP p l f) (nts L 60)
abbrev sI (L F : Nat → Int32) (p l f : Nat) : Int := smI (ltF L F) (inP p l f) (nts L 60)
abbrev tI (L F : Nat → Int32) : Int := smI (ltF L F) allK (nts L 60)
def dpI (L F : Nat → Int32) (p l f : Nat) : Int := (tI L F - sI L F p l f) * (cI L p l f : Int) - sI L F p l f * ((nN L : Int) - (cI L p l f : Int))
theorem cI_le (L : Nat → Int32) (p l f : Nat) : cI L p l f ≤ nN L := cnt_le _ _
theorem cI_s {L : Nat → Int32} {p l f : Nat} (hl : l + 1 < p) (hf : f < p) : cI L p (l + 1) f = cI L p l f + cnt (atP p (if f + l < p then f + l else f + l - p)) (nts L 60) := cnt_or (fun k _ => inP_s hl hf k)
theorem sI_s {L F : Nat → Int32} {p l f : Nat} (hl : l + 1 < p) (hf : f < p) : sI L F p (l + 1) f = sI L F p l f + smI (ltF L F) (atP p (if f + l < p then f + l else f + l - p)) (nts L 60) := smI_or (fun k _ => inP_s hl hf k)
theorem cI_0 (L : Nat → Int32) (p f : Nat) : cI L p 0 f = 0 := by
  unfold cI cnt
  rw [List.filter_eq_nil_iff.mpr (fun k _ => by rw [inP_0]; decide)]
  rfl
theorem sI_0 (L F : Nat → Int32) (p f : Nat) : sI L F p 0 f = 0 := by
  unfold sI smI
  rw [List.filter_eq_nil_iff.mpr (fun k _ => by rw [inP_0]; decide)]
  rfl
theorem BD_mem {L F : Nat → Int32} (hb : BD L F) : ∀ k ∈ nts L 60, -20000 ≤ (ltF L F k).toInt ∧ (ltF L F k).toInt ≤ 20000 := fun k hk => hb k (mem_nts.mp hk).1 (mem_nts.mp hk).2
theorem smI_rng {L F : Nat → Int32} (hb : BD L F) (P : Nat → Bool) : -1200000 ≤ smI (ltF L F) P (nts L 60) ∧ smI (ltF L F) P (nts L 60) ≤ 1200000 := by
  have h1 := smI_bd P (BD_mem hb)
  have h2 : (nts L 60).length ≤ 60 := nN_le L
  omega
theorem take_bd {L F : Nat → Int32} (hb : BD L F) (P : Nat → Bool) (i : Nat) : -1200000 ≤ smI (ltF L F) P ((nts L 60).take i) ∧ smI (ltF L F) P ((nts L 60).take i) ≤ 1200000 := by
  have h1 := smI_bd P (lt := ltF L F) (ks := (nts L 60).take i) (fun k hk => BD_mem hb k (List.mem_of_mem_take hk))
  have h2 : (nts L 60).length ≤ 60 := nN_le L
  have h3 : ((nts L 60).take i).length ≤ (nts L 60).length := by rw [List.length_take]; omega
  omega
/-- the search: found at all, the greatest, length, PHASE, how many -/
abbrev dpT : Type := Bool × Int × Nat × Nat × Nat
def dpG (L F : Nat → Int32) (p l : Nat) (s : dpT) (f : Nat) : dpT := if 0 < cI L p l f ∧ cI L p l f < nN L ∧ (s.1 = false ∨ s.2.1 < dpI L F p l f) then (true, dpI L F p l f, l, f, cI L p l f) else s
def dpN (L F : Nat → Int32) (p l : Nat) (s : dpT) (m : Nat) : dpT := (List.range m).foldl (dpG L F p l) s
def dpO (L F : Nat → Int32) (p : Nat) (m : Nat) : dpT := (List.range m).foldl (fun s i => dpN L F p (i + 1) s p) (false, 0, 0, 0, 0)
theorem dpN_s (L F : Nat → Int32) (p l : Nat) (s : dpT) (m : Nat) : dpN L F p l s (m + 1) = dpG L F p l (dpN L F p l s m) m := by
  unfold dpN
  rw [List.range_succ, List.foldl_append]
  rfl
theorem dpO_s (L F : Nat → Int32) (p m : Nat) : dpO L F p (m + 1) = dpN L F p (m + 1) (dpO L F p m) p := by
  unfold dpO
  rw [List.range_succ, List.foldl_append]
  rfl
theorem dpI_bd {L F : Nat → Int32} (hb : BD L F) (p l f : Nat) : -1000000000 ≤ dpI L F p l f ∧ dpI L F p l f ≤ 1000000000 := by
  have h1 := smI_rng hb allK
  have h2 := smI_rng hb (inP p l f)
  have h3 := cI_le L p l f
  have h4 := nN_le L
  unfold dpI tI sI
  generalize smI (ltF L F) allK (nts L 60) = a at *
  generalize smI (ltF L F) (inP p l f) (nts L 60) = b at *
  generalize hc : (cI L p l f : Int) = c at *
  generalize hd : (nN L : Int) - c = d at *
  have c0 : 0 ≤ c ∧ c ≤ 60 := by omega
  have d0 : 0 ≤ d ∧ d ≤ 60 := by omega
  have e1 : (a - b) * c ≤ 2400000 * 60 := Int.le_trans (Int.mul_le_mul_of_nonneg_right (by omega) c0.1) (Int.mul_le_mul_of_nonneg_left c0.2 (by omega))
  have e2 : -(2400000 * 60) ≤ (a - b) * c := by
    have q1 : (-2400000) * c ≤ (a - b) * c := Int.mul_le_mul_of_nonneg_right (by omega) c0.1
    omega
  have e3 : b * d ≤ 1200000 * 60 := Int.le_trans (Int.mul_le_mul_of_nonneg_right (by omega) d0.1) (Int.mul_le_mul_of_nonneg_left d0.2 (by omega))
  have e4 : -(1200000 * 60) ≤ b * d := by
    have q1 : (-1200000) * d ≤ b * d := Int.mul_le_mul_of_nonneg_right (by omega) d0.1
    omega
  omega
theorem i64_ofI {z : Int} (h1 : -9223372036854775808 ≤ z) (h2 : z < 9223372036854775808) : (Int64.ofInt z).toInt = z := by
  rw [Int64.toInt_ofInt]
  exact fb_bmodL h1 h2
theorem i64_eq {x : Int64} {z : Int} (h : x.toInt = z) : x = Int64.ofInt z := by rw [← h, Int64.ofInt_toInt]
/-- DEPTH, as the class reckons it -/
theorem dep_cls {L F : Nat → Int32} (hb : BD L F) (p l f : Nat) : (Int32.ofInt (tI L F) - Int32.ofInt (sI L F p l f)).toInt64 * (nI (cI L p l f)).toInt64 - (Int32.ofInt (sI L F p l f)).toInt64 * (nI (nN L) - nI (cI L p l f)).toInt64 = Int64.ofInt (dpI L F p l f) := by
  have h1 := smI_rng hb allK
  have h2 := smI_rng hb (inP p l f)
  have h3 := cI_le L p l f
  have h4 := nN_le L
  have hd := dpI_bd hb p l f
  have t1 : (Int32.ofInt (tI L F)).toInt = tI L F := fb_ofI (by unfold tI; omega) (by unfold tI; omega)
  have t2 : (Int32.ofInt (sI L F p l f)).toInt = sI L F p l f := fb_ofI (by unfold sI; omega) (by unfold sI; omega)
  have t3 : (nI (cI L p l f)).toInt = (cI L p l f : Int) := nI_toInt (by omega)
  have t4 : (nI (nN L)).toInt = (nN L : Int) := nI_toInt (by omega)
  have t5 : (nI (nN L) - nI (cI L p l f)).toInt = (nN L : Int) - (cI L p l f : Int) := by rw [fb_subI (by rw [t3, t4]; omega) (by rw [t3, t4]; omega), t3, t4]
  have t6 : (Int32.ofInt (tI L F) - Int32.ofInt (sI L F p l f)).toInt = tI L F - sI L F p l f := by rw [fb_subI (by rw [t1, t2]; unfold tI sI; omega) (by rw [t1, t2]; unfold tI sI; omega), t1, t2]
  apply i64_eq
  unfold dpI at hd ⊢
  have k1 : ((Int32.ofInt (tI L F) - Int32.ofInt (sI L F p l f)).toInt64 * (nI (cI L p l f)).toInt64).toInt = (tI L F - sI L F p l f) * (cI L p l f : Int) := by
    have b0 : 0 ≤ (cI L p l f : Int) ∧ (cI L p l f : Int) ≤ 60 := by omega
    have e1 : (tI L F - sI L F p l f) * (cI L p l f : Int) ≤ 2400000 * 60 := Int.le_trans (Int.mul_le_mul_of_nonneg_right (by unfold tI sI; omega) b0.1) (Int.mul_le_mul_of_nonneg_left b0.2 (by omega))
    have e2 : (-2400000) * (cI L p l f : Int) ≤ (tI L F - sI L F p l f) * (cI L p l f : Int) := Int.mul_le_mul_of_nonneg_right (by unfold tI sI; omega) b0.1
    rw [fb_mulL (by rw [Int32.toInt_toInt64, Int32.toInt_toInt64, t6, t3]; omega) (by rw [Int32.toInt_toInt64, Int32.toInt_toInt64, t6, t3]; omega), Int32.toInt_toInt64, Int32.toInt_toInt64, t6, t3]
  have k2 : ((Int32.ofInt (sI L F p l f)).toInt64 * (nI (nN L) - nI (cI L p l f)).toInt64).toInt = sI L F p l f * ((nN L : Int) - (cI L p l f : Int)) := by
    have b0 : 0 ≤ (nN L : Int) - (cI L p l f : Int) ∧ (nN L : Int) - (cI L p l f : Int) ≤ 60 := by omega
    have e1 : sI L F p l f * ((nN L : Int) - (cI L p l f : Int)) ≤ 1200000 * 60 := Int.le_trans (Int.mul_le_mul_of_nonneg_right (by unfold sI; omega) b0.1) (Int.mul_le_mul_of_nonneg_left b0.2 (by omega))
    have e2 : (-1200000) * ((nN L : Int) - (cI L p l f : Int)) ≤ sI L F p l f * ((nN L : Int) - (cI L p l f : Int)) := Int.mul_le_mul_of_nonneg_right (by unfold sI; omega) b0.1
    rw [fb_mulL (by rw [Int32.toInt_toInt64, Int32.toInt_toInt64, t2, t5]; omega) (by rw [Int32.toInt_toInt64, Int32.toInt_toInt64, t2, t5]; omega), Int32.toInt_toInt64, Int32.toInt_toInt64, t2, t5]
  rw [fb_subL (by rw [k1, k2]; omega) (by rw [k1, k2]; omega), k1, k2]
theorem dep_le {x y : Int} (hx : -1000000000 ≤ x ∧ x ≤ 1000000000) (hy : -1000000000 ≤ y ∧ y ≤ 1000000000) : (Int64.ofInt x ≤ Int64.ofInt y) ↔ x ≤ y := by
  rw [fa_le64, i64_ofI (by omega) (by omega), i64_ofI (by omega) (by omega)]
theorem dep_lt {x y : Int} (hx : -1000000000 ≤ x ∧ x ≤ 1000000000) (hy : -1000000000 ≤ y ∧ y ≤ 1000000000) : (Int64.ofInt x < Int64.ofInt y) ↔ x < y := by
  rw [fa_lt64, i64_ofI (by omega) (by omega), i64_ofI (by omega) (by omega)]
def dgb (s : dpT) : Prop := -1000000000 ≤ s.2.1 ∧ s.2.1 ≤ 1000000000
theorem dpG_bd {L F : Nat → Int32} (hb : BD L F) {p l : Nat} {s : dpT} (hs : dgb s) (f : Nat) : dgb (dpG L F p l s f) := by
  unfold dpG
  split
  · exact dpI_bd hb p l f
  · exact hs
theorem dpN_bd {L F : Nat → Int32} (hb : BD L F) {p l : Nat} {s : dpT} (hs : dgb s) : ∀ m, dgb (dpN L F p l s m)
  | 0 => hs
  | m + 1 => by rw [dpN_s]; exact dpG_bd hb (dpN_bd hb hs m) m
theorem dpO_bd {L F : Nat → Int32} (hb : BD L F) {p : Nat} : ∀ m, dgb (dpO L F p m)
  | 0 => by unfold dgb dpO; simp
  | m + 1 => by rw [dpO_s]; exact dpN_bd hb (dpO_bd hb m) p
/-- a field that the search may have set -/
def dpV (b : Bool) (x : Nat) (o : Int32) : Int32 := if b then nI x else o
def SC (L F : Nat → Int32) (p : Nat) (ks : List Nat) (S C : Nat → Int32) : Prop := ∀ j, j < 600 → S j = Int32.ofInt (smI (ltF L F) (atP p j) ks) ∧ C j = nI (cnt (atP p j) ks)
theorem ofI_add (a b : Int) : Int32.ofInt a + Int32.ofInt b = Int32.ofInt (a + b) := (Int32.ofInt_add a b).symm
theorem SC_0 {L F S C : Nat → Int32} {p : Nat} : SC L F p [] (flA S 0 600) (flA C 0 600) := fun j hj => ⟨by rw [flA_in hj]; rfl, by rw [flA_in hj]; rfl⟩
theorem SC_s {L F S C : Nat → Int32} {p i : Nat} (h : SC L F p ((nts L 60).take i) S C) (hi : i < nN L) (hp : 1 ≤ p) (hp2 : p ≤ 600) :
    SC L F p ((nts L 60).take (i + 1)) (upd S (ntN L i * 1 % p) (S (ntN L i * 1 % p) + ltF L F (ntN L i))) (upd C (ntN L i * 1 % p) (C (ntN L i * 1 % p) + 1)) := by
  intro j hj
  rw [take_getD (d := 0) hi, smI_snoc, cnt_snoc, Nat.mul_one]
  have hm : ntN L i % p < 600 := Nat.lt_of_lt_of_le (Nat.mod_lt _ (by omega)) hp2
  by_cases e : j = ntN L i % p
  · subst e
    rw [pk_us, pk_us, (h _ hm).1, (h _ hm).2, show atP p (ntN L i % p) (List.getD (nts L 60) i 0) = true from decide_eq_true rfl, if_pos rfl, if_pos rfl]
    refine ⟨?_, nI_1 _⟩
    rw [← ofI_add, fb_asI]
  · rw [pk_un e, pk_un e, show atP p j (List.getD (nts L 60) i 0) = false from decide_eq_false (fun z => e z.symm), if_neg (by decide), if_neg (by decide)]
    have := h j hj
    rw [Int.add_zero, Nat.add_zero]
    exact this
theorem all_s {L F : Nat → Int32} {i : Nat} (hi : i < nN L) : Int32.ofInt (smI (ltF L F) allK ((nts L 60).take i)) + ltF L F (ntN L i) = Int32.ofInt (smI (ltF L F) allK ((nts L 60).take (i + 1))) := by
  rw [take_getD (d := 0) hi, smI_snoc, show allK (List.getD (nts L 60) i 0) = true from rfl, if_pos rfl, ← ofI_add, fb_asI]
/-- what is IN, while level m + 1 is being reckoned up to PHASE f -/
def SIC (L F : Nat → Int32) (p m f : Nat) (S C : Nat → Int32) : Prop := ∀ j, j < p → S j = Int32.ofInt (sI L F p (if j < f then m + 1 else m) j) ∧ C j = nI (cI L p (if j < f then m + 1 else m) j)
theorem SIC_0 {L F S C : Nat → Int32} {p : Nat} (hp : p ≤ 600) : SIC L F p 0 0 (flA S 0 600) (flA C 0 600) := by
  intro j hj
  rw [if_neg (by omega), flA_in (by omega), flA_in (by omega), sI_0, cI_0]
  exact ⟨rfl, rfl⟩
theorem SIC_up {L F S C : Nat → Int32} {p m : Nat} (h : SIC L F p m p S C) : SIC L F p (m + 1) 0 S C := by
  intro j hj
  have := h j hj
  rw [if_pos hj] at this
  rw [if_neg (by omega)]
  exact this
theorem SIC_s {L F S C S0 C0 : Nat → Int32} {p m f ph : Nat} (h : SIC L F p m f S C) (h0 : SC L F p (nts L 60) S0 C0) (hf : f < p) (hm : m + 1 < p) (hp : p ≤ 600) (hph : ph = if f + m < p then f + m else f + m - p) :
    SIC L F p m (f + 1) (upd S f (S f + S0 ph)) (upd C f (C f + C0 ph)) := by
  intro j hj
  by_cases e : j = f
  · subst e
    have h1 := h j hj
    have hq : ph < 600 := by rw [hph]; split <;> omega
    rw [if_neg (by omega)] at h1
    rw [pk_us, pk_us, if_pos (by omega), h1.1, h1.2, (h0 ph hq).1, (h0 ph hq).2, sI_s hm hf, cI_s hm hf, ← hph, nI_add]
    exact ⟨ofI_add _ _, rfl⟩
  · have h1 := h j hj
    rw [pk_un e, pk_un e]
    by_cases e2 : j < f
    · rw [if_pos e2] at h1; rw [if_pos (by omega)]; exact h1
    · rw [if_neg e2] at h1; rw [if_neg (by omega)]; exact h1
theorem SIC_at {L F S C : Nat → Int32} {p m f : Nat} (h : SIC L F p m (f + 1) S C) (hf : f < p) : S f = Int32.ofInt (sI L F p (m + 1) f) ∧ C f = nI (cI L p (m + 1) f) := by
  have := h f hf
  rw [if_pos (by omega)] at this
  exact this
theorem b01_0 {b : Bool} (h : b01 b = 0) : b = false := by cases b <;> first | rfl | exact absurd h (by decide)
theorem b01_1 {b : Bool} (h : ¬ b01 b = 0) : b = true := by cases b <;> first | rfl | exact absurd rfl h
theorem min_nI {a b : Nat} (ha : a < 2 ^ 31) (hb : b < 2 ^ 31) : (if nI b < nI a then nI b else nI a) = nI (min a b) := by
  by_cases h : b < a
  · rw [if_pos ((nI_ltI hb ha).mpr h), Nat.min_eq_right (by omega)]
  · rw [if_neg (fun z => h ((nI_ltI hb ha).mp z)), Nat.min_eq_left (by omega)]
