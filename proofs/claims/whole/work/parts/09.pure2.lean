/-! NIGHTS with a light, one behind the other -/
def nts (L : Nat → Int32) (k : Nat) : List Nat := (List.range k).filter (fun j => decide (L j ≠ -9))
theorem nts_0 (L : Nat → Int32) : nts L 0 = [] := rfl
theorem nts_yes {L : Nat → Int32} {k : Nat} (h : ¬ L k = -9) : nts L (k + 1) = nts L k ++ [k] := by
  unfold nts
  rw [List.range_succ, List.filter_append]
  simp [h]
theorem nts_no {L : Nat → Int32} {k : Nat} (h : L k = -9) : nts L (k + 1) = nts L k := by
  unfold nts
  rw [List.range_succ, List.filter_append]
  simp [h]
theorem nts_le (L : Nat → Int32) (k : Nat) : (nts L k).length ≤ k := by
  have := List.length_filter_le (fun j => decide (L j ≠ -9)) (List.range k)
  rw [List.length_range] at this
  exact this
theorem mem_nts {L : Nat → Int32} {k j : Nat} : j ∈ nts L k ↔ j < k ∧ ¬ L j = -9 := by
  unfold nts
  simp [List.mem_filter, List.mem_range]
theorem nts_none {L : Nat → Int32} (k : Nat) (h : ∀ j, j < k → L j = -9) : nts L k = [] := by
  unfold nts
  rw [List.filter_eq_nil_iff]
  intro j hj
  simp [h j (List.mem_range.mp hj)]
theorem nts_cong {L M : Nat → Int32} {k : Nat} (h : ∀ j, j < k → L j = M j) : nts L k = nts M k := by
  unfold nts
  apply List.filter_congr
  intro j hj
  rw [h j (List.mem_range.mp hj)]
abbrev ntN (L : Nat → Int32) (i : Nat) : Nat := (nts L 60).getD i 0
abbrev nN (L : Nat → Int32) : Nat := (nts L 60).length
theorem nN_le (L : Nat → Int32) : nN L ≤ 60 := nts_le L 60
theorem take_getD {α : Type} {l : List α} {d : α} {i : Nat} (h : i < l.length) : l.take (i + 1) = l.take i ++ [l.getD i d] := by
  rw [List.take_add_one, List.getD_eq_getElem?_getD, List.getElem?_eq_getElem h]
  rfl
theorem ntN_lt {L : Nat → Int32} {i : Nat} (h : i < nN L) : ntN L i < 60 ∧ ¬ L (ntN L i) = -9 := by
  apply mem_nts.mp
  unfold ntN
  rw [List.getD_eq_getElem?_getD, List.getElem?_eq_getElem h]
  exact List.getElem_mem h
theorem getD_app_l {α : Type} {l m : List α} {d : α} {i : Nat} (h : i < l.length) : (l ++ m).getD i d = l.getD i d := by
  rw [List.getD_eq_getElem?_getD, List.getD_eq_getElem?_getD, List.getElem?_append_left h]
theorem getD_app_r {α : Type} {l : List α} {x d : α} : (l ++ [x]).getD l.length d = x := by
  rw [List.getD_eq_getElem?_getD, List.getElem?_append_right (Nat.le_refl _)]
  simp
/-- LIGHT -/
abbrev ltF (L F : Nat → Int32) (k : Nat) : Int32 := L k - F k
/-- a curve that has been gathered up to NIGHT k -/
def CVk (L F : Nat → Int32) (k : Nat) (t u : Nat → Int32) : Prop := ∀ i, i < (nts L k).length → t i = nI ((nts L k).getD i 0) ∧ u i = ltF L F ((nts L k).getD i 0)
theorem CVk_0 {L F t u : Nat → Int32} : CVk L F 0 t u := fun i h => absurd h (Nat.not_lt_zero i)
theorem CVk_no {L F t u : Nat → Int32} {k : Nat} (h : L k = -9) (hc : CVk L F k t u) : CVk L F (k + 1) t u := by
  unfold CVk
  rw [nts_no h]
  exact hc
theorem CVk_yes {L F t u : Nat → Int32} {k : Nat} (h : ¬ L k = -9) (hc : CVk L F k t u) : CVk L F (k + 1) (upd t (nts L k).length (nI k)) (upd u (nts L k).length (L k - F k)) := by
  unfold CVk
  rw [nts_yes h]
  intro i hi
  rw [List.length_append, List.length_singleton] at hi
  rcases Nat.lt_or_ge i (nts L k).length with h1 | h1
  · rw [pk_un (by omega), pk_un (by omega), getD_app_l h1]
    exact hc i h1
  · have e : i = (nts L k).length := by omega
    subst e
    rw [pk_us, pk_us, getD_app_r]
    exact ⟨rfl, rfl⟩
abbrev CV (L F t u : Nat → Int32) : Prop := CVk L F 60 t u
/-- a row of which the first places, from the last one back, are a list's -/
def AG {α : Type} (f : Nat → α) : List α → Prop
  | [] => True
  | x :: xs => f xs.length = x ∧ AG f xs
theorem AG_hi {α : Type} {f g : Nat → α} : ∀ {l : List α}, (∀ j, j < l.length → g j = f j) → AG f l → AG g l
  | [], _, _ => trivial
  | x :: xs, h, hf => ⟨(h _ (Nat.lt_succ_self _)).trans hf.1, AG_hi (fun j hj => h j (Nat.lt_succ_of_lt hj)) hf.2⟩
theorem AG_get {α : Type} {f : Nat → α} {d : α} : ∀ {l : List α} {i : Nat}, AG f l → i < l.length → f i = l.getD (l.length - 1 - i) d
  | [], i, _, h => absurd h (Nat.not_lt_zero i)
  | x :: xs, i, hf, h => by
    rcases Nat.lt_or_ge i xs.length with h1 | h1
    · rw [AG_get hf.2 h1, List.length_cons, show xs.length + 1 - 1 - i = (xs.length - 1 - i) + 1 by omega, List.getD_cons_succ]
    · have e : i = xs.length := by rw [List.length_cons] at h; omega
      subst e
      rw [List.length_cons, show xs.length + 1 - 1 - xs.length = 0 by omega]
      exact hf.1
def insR (v : Int32) : List Int32 → List Int32
  | [] => [v]
  | x :: xs => if x ≤ v then v :: x :: xs else x :: insR v xs
theorem insR_len (v : Int32) : ∀ l, (insR v l).length = l.length + 1
  | [] => rfl
  | x :: xs => by
    unfold insR
    split
    · rfl
    · rw [List.length_cons, insR_len v xs, List.length_cons]
theorem insA_hi (v : Int32) : ∀ (p : Nat) (f : Nat → Int32) (j : Nat), p < j → insA f v p j = f j
  | 0, f, j, h => by unfold insA; exact pk_un (by omega)
  | p + 1, f, j, h => by
    unfold insA
    split
    · exact pk_un (by omega)
    · rw [insA_hi v p _ j (by omega), pk_un (by omega)]
theorem AG_ins (v : Int32) : ∀ (l : List Int32) (f : Nat → Int32), AG f l → AG (insA f v l.length) (insR v l)
  | [], f, _ => ⟨by unfold insA; exact pk_us, trivial⟩
  | x :: xs, f, h => by
    unfold insR
    rw [List.length_cons]
    unfold insA
    rw [h.1]
    split
    · refine ⟨pk_us, ?_, ?_⟩
      · rw [pk_un (by omega)]; exact h.1
      · exact AG_hi (fun j hj => pk_un (by omega)) h.2
    · refine ⟨?_, AG_ins v xs _ (AG_hi (fun j hj => pk_un (by omega)) h.2)⟩
      rw [insR_len, insA_hi v _ _ _ (Nat.lt_succ_self _)]
      exact pk_us
/-- numbers by size, the greatest first -/
def bsz (vs : List Int32) : List Int32 := vs.foldl (fun a v => insR v a) []
theorem bsz_snoc (vs : List Int32) (v : Int32) : bsz (vs ++ [v]) = insR v (bsz vs) := by
  unfold bsz
  rw [List.foldl_append]
  rfl
theorem insR_fold_len : ∀ (vs a : List Int32), (vs.foldl (fun a v => insR v a) a).length = a.length + vs.length
  | [], a => rfl
  | v :: vs, a => by
    rw [List.foldl_cons, insR_fold_len vs, insR_len, List.length_cons]
    omega
theorem bsz_len (vs : List Int32) : (bsz vs).length = vs.length := by
  have := insR_fold_len vs []
  rw [List.length_nil, Nat.zero_add] at this
  exact this
/-- that at place n / 2 -/
def midV (vs : List Int32) : Int32 := if vs.length = 0 then 0 else (bsz vs).getD (vs.length - 1 - vs.length / 2) 0
theorem midV_of {f : Nat → Int32} {vs : List Int32} (h : AG f (bsz vs)) : (if vs.length = 0 then 0 else f (vs.length / 2)) = midV vs := by
  unfold midV
  split
  · rfl
  · rename_i h0
    have h1 := AG_get (d := 0) (i := vs.length / 2) h (by rw [bsz_len]; omega)
    rw [h1, bsz_len]
/-- the LIGHTS of a row -/
def lits (L F : Nat → Int32) (k : Nat) : List Int32 := (nts L k).map (ltF L F)
theorem lits_len (L F : Nat → Int32) (k : Nat) : (lits L F k).length = (nts L k).length := List.length_map ..
/-- the greatest and the least -/
def swS (s : Int32 × Int32 × Nat) (v : Int32) : Int32 × Int32 × Nat := (if s.2.2 = 0 ∨ v < s.1 then v else s.1, if s.2.2 = 0 ∨ s.2.1 < v then v else s.2.1, s.2.2 + 1)
def swF (vs : List Int32) : Int32 × Int32 × Nat := vs.foldl swS (0, 0, 0)
def swg (vs : List Int32) : Int32 := (swF vs).2.1 - (swF vs).1
theorem swF_snoc (vs : List Int32) (v : Int32) : swF (vs ++ [v]) = swS (swF vs) v := by
  unfold swF
  rw [List.foldl_append]
  rfl
/-- LOWS: their TIMES, the last one first; whether one goes on -/
def lowG (lt : Nat → Int32) (due : Int32) (s : List Nat × Bool) (k : Nat) : List Nat × Bool :=
  if lt k ≤ due then (match s with | (x :: xs, true) => (if lt k < lt x then k :: xs else x :: xs, true) | (xs, _) => (k :: xs, true)) else (s.1, false)
def lowF (lt : Nat → Int32) (due : Int32) (ks : List Nat) : List Nat × Bool := ks.foldl (lowG lt due) ([], false)
theorem lowF_snoc (lt : Nat → Int32) (due : Int32) (ks : List Nat) (k : Nat) : lowF lt due (ks ++ [k]) = lowG lt due (lowF lt due ks) k := by
  unfold lowF
  rw [List.foldl_append]
  rfl
theorem lowG_len (lt : Nat → Int32) (due : Int32) (s : List Nat × Bool) (k : Nat) : (lowG lt due s k).1.length ≤ s.1.length + 1 := by
  unfold lowG
  split
  · split
    · dsimp only; split <;> simp
    · simp
  · simp
theorem lowF_len (lt : Nat → Int32) (due : Int32) : ∀ (ks : List Nat) (s : List Nat × Bool), (ks.foldl (lowG lt due) s).1.length ≤ s.1.length + ks.length
  | [], s => Nat.le_refl _
  | k :: ks, s => by
    have h1 := lowF_len lt due ks (lowG lt due s k)
    have h2 := lowG_len lt due s k
    rw [List.foldl_cons, List.length_cons]
    omega
theorem lowF_le (lt : Nat → Int32) (due : Int32) (ks : List Nat) : (lowF lt due ks).1.length ≤ ks.length := by
  have := lowF_len lt due ks ([], false)
  rw [List.length_nil, Nat.zero_add] at this
  exact this
/-- a row with its first n places filled -/
def flA (f : Nat → Int32) (v : Int32) (n : Nat) : Nat → Int32 := fun j => if j < n then v else f j
theorem flA_0 (f : Nat → Int32) (v : Int32) : flA f v 0 = f := by
  funext j
  simp [flA]
theorem flA_s (f : Nat → Int32) (v : Int32) (n : Nat) : upd (flA f v n) n v = flA f v (n + 1) := by
  funext j
  unfold upd flA
  by_cases h : j = n
  · subst h; simp
  · rw [if_neg h]
    by_cases h2 : j < n
    · rw [if_pos h2, if_pos (by omega)]
    · rw [if_neg h2, if_neg (by omega)]
theorem flA_in {f : Nat → Int32} {v : Int32} {n j : Nat} (h : j < n) : flA f v n j = v := if_pos h
theorem nts_yes_len {L : Nat → Int32} {k : Nat} (h : ¬ L k = -9) : (nts L (k + 1)).length = (nts L k).length + 1 := by
  rw [nts_yes h, List.length_append, List.length_singleton]
def sm64 (u : Nat → Int32) : Nat → Int64
  | 0 => 0
  | k + 1 => sm64 u k + (u k).toInt64
def dg60 (L : Nat → Int32) (h : Int64) : Nat → Int64
  | 0 => h
  | k + 1 => 31 * dg60 L h k + (L k).toInt64
def ofK (kd a : Int32) : Bool := decide (a = 0 ∨ a = kd ∨ a = 2 ∧ kd = 3)
def b01 (b : Bool) : Int32 := if b then 1 else 0
theorem b01_z (b : Bool) : b01 b = 0 ∨ b01 b = 1 := by cases b <;> simp [b01]
theorem nI64_ne0 {n : Nat} (h0 : 0 < n) (h : n < 2 ^ 31) : ¬ (nI n).toInt64 = 0 := by
  rw [nI_l h]
  exact fun z => absurd ((lN_eq (a := n) (b := 0) h (by omega)).mp z) (by omega)
