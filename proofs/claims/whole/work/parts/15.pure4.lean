/-! THE STRING -/
def insK (key : Nat → Nat) (k : Nat) : List Nat → List Nat
  | [] => [k]
  | x :: xs => if key x ≤ key k then k :: x :: xs else x :: insK key k xs
theorem insK_len (key : Nat → Nat) (k : Nat) : ∀ l, (insK key k l).length = l.length + 1
  | [] => rfl
  | x :: xs => by
    unfold insK
    split
    · rfl
    · rw [List.length_cons, insK_len key k xs, List.length_cons]
theorem insK_mem {key : Nat → Nat} {k y : Nat} : ∀ {l : List Nat}, y ∈ insK key k l → y = k ∨ y ∈ l
  | [], h => Or.inl (by simpa [insK] using h)
  | x :: xs, h => by
    unfold insK at h
    split at h
    · simpa using h
    · rcases List.mem_cons.mp h with rfl | h
      · exact Or.inr List.mem_cons_self
      · rcases insK_mem h with h | h
        · exact Or.inl h
        · exact Or.inr (List.mem_cons_of_mem _ h)
def ordK (key : Nat → Nat) (ks : List Nat) : List Nat := ks.foldl (fun rl k => insK key k rl) []
theorem ordK_snoc (key : Nat → Nat) (ks : List Nat) (k : Nat) : ordK key (ks ++ [k]) = insK key k (ordK key ks) := by
  unfold ordK
  rw [List.foldl_append]
  rfl
theorem ordK_fold_len (key : Nat → Nat) : ∀ (ks a : List Nat), (ks.foldl (fun rl k => insK key k rl) a).length = a.length + ks.length
  | [], a => rfl
  | k :: ks, a => by
    rw [List.foldl_cons, ordK_fold_len key ks, insK_len, List.length_cons]
    omega
theorem ordK_len (key : Nat → Nat) (ks : List Nat) : (ordK key ks).length = ks.length := by
  have := ordK_fold_len key ks []
  rw [List.length_nil, Nat.zero_add] at this
  exact this
theorem ordK_fold_mem (key : Nat → Nat) {y : Nat} : ∀ (ks a : List Nat), y ∈ ks.foldl (fun rl k => insK key k rl) a → y ∈ a ∨ y ∈ ks
  | [], a, h => Or.inl h
  | k :: ks, a, h => by
    rw [List.foldl_cons] at h
    rcases ordK_fold_mem key ks _ h with h | h
    · rcases insK_mem h with rfl | h
      · exact Or.inr List.mem_cons_self
      · exact Or.inl h
    · exact Or.inr (List.mem_cons_of_mem _ h)
theorem ordK_mem {key : Nat → Nat} {ks : List Nat} {y : Nat} (h : y ∈ ordK key ks) : y ∈ ks := by
  rcases ordK_fold_mem key ks [] h with h | h
  · exact absurd h List.not_mem_nil
  · exact h
theorem take_ordK {L : Nat → Int32} {i : Nat} (h : i < nN L) (key : Nat → Nat) : ordK key ((nts L 60).take (i + 1)) = insK key (ntN L i) (ordK key ((nts L 60).take i)) := by
  rw [take_getD (d := 0) h, ordK_snoc]
theorem take_ordK_len {L : Nat → Int32} {i : Nat} (h : i ≤ nN L) (key : Nat → Nat) : (ordK key ((nts L 60).take i)).length = i := by
  rw [ordK_len, List.length_take]
  exact Nat.min_eq_left h
/-- put into two rows, by the first one's numbers -/
def insF (key : Nat → Nat) (k : Nat) (v w : Int32) (P Q : Nat → Int32) : List Nat → (Nat → Int32) × (Nat → Int32)
  | [] => (upd P 0 v, upd Q 0 w)
  | x :: xs => if key x ≤ key k then (upd P (xs.length + 1) v, upd Q (xs.length + 1) w) else insF key k v w (upd P (xs.length + 1) (P xs.length)) (upd Q (xs.length + 1) (Q xs.length)) xs
theorem insF_hi (key : Nat → Nat) (k : Nat) (v w : Int32) : ∀ (xs : List Nat) (P Q : Nat → Int32) (j : Nat), xs.length < j → (insF key k v w P Q xs).1 j = P j ∧ (insF key k v w P Q xs).2 j = Q j
  | [], P, Q, j, h => ⟨pk_un (by rw [List.length_nil] at h; omega), pk_un (by rw [List.length_nil] at h; omega)⟩
  | x :: xs, P, Q, j, h => by
    rw [List.length_cons] at h
    unfold insF
    split
    · exact ⟨pk_un (by omega), pk_un (by omega)⟩
    · obtain ⟨h1, h2⟩ := insF_hi key k v w xs (upd P (xs.length + 1) (P xs.length)) (upd Q (xs.length + 1) (Q xs.length)) j (by omega)
      rw [h1, h2]
      exact ⟨pk_un (by omega), pk_un (by omega)⟩
theorem AG_insF (key : Nat → Nat) (k : Nat) (φ ψ : Nat → Int32) : ∀ (xs : List Nat) (P Q : Nat → Int32), AG P (xs.map φ) → AG Q (xs.map ψ) →
    AG (insF key k (φ k) (ψ k) P Q xs).1 ((insK key k xs).map φ) ∧ AG (insF key k (φ k) (ψ k) P Q xs).2 ((insK key k xs).map ψ)
  | [], P, Q, _, _ => ⟨⟨pk_us (f := P) (k := 0) (x := φ k), trivial⟩, ⟨pk_us (f := Q) (k := 0) (x := ψ k), trivial⟩⟩
  | x :: xs, P, Q, h1, h2 => by
    have l1 : (xs.map φ).length = xs.length := List.length_map ..
    have l2 : (xs.map ψ).length = xs.length := List.length_map ..
    have e1 : P xs.length = φ x := by have := h1.1; rw [l1] at this; exact this
    have e2 : Q xs.length = ψ x := by have := h2.1; rw [l2] at this; exact this
    unfold insF insK
    split
    · refine ⟨⟨?_, ?_, ?_⟩, ⟨?_, ?_, ?_⟩⟩
      · show upd P _ _ (x :: xs |>.map φ).length = _
        rw [List.length_map, List.length_cons]; exact pk_us
      · rw [l1]; dsimp only; rw [pk_un (by omega)]; exact e1
      · exact AG_hi (fun j hj => pk_un (by rw [l1] at hj; omega)) h1.2
      · show upd Q _ _ (x :: xs |>.map ψ).length = _
        rw [List.length_map, List.length_cons]; exact pk_us
      · rw [l2]; dsimp only; rw [pk_un (by omega)]; exact e2
      · exact AG_hi (fun j hj => pk_un (by rw [l2] at hj; omega)) h2.2
    · have ih := AG_insF key k φ ψ xs (upd P (xs.length + 1) (P xs.length)) (upd Q (xs.length + 1) (Q xs.length)) (AG_hi (fun j hj => pk_un (by rw [l1] at hj; omega)) h1.2) (AG_hi (fun j hj => pk_un (by rw [l2] at hj; omega)) h2.2)
      have hh := insF_hi key k (φ k) (ψ k) xs (upd P (xs.length + 1) (P xs.length)) (upd Q (xs.length + 1) (Q xs.length)) (xs.length + 1) (by omega)
      refine ⟨⟨?_, ih.1⟩, ⟨?_, ih.2⟩⟩
      · rw [List.length_map, insK_len, hh.1, pk_us]; exact e1
      · rw [List.length_map, insK_len, hh.2, pk_us]; exact e2
/-- place i of a ring that is held from its last one back -/
def rg (rl : List Nat) (i : Nat) : Nat := rl.getD (rl.length - 1 - i) 0
def nx (n i : Nat) : Nat := if i + 1 < n then i + 1 else 0
theorem AG_rg {f : Nat → Int32} {rl : List Nat} {φ : Nat → Int32} {i : Nat} (h : AG f (rl.map φ)) (hi : i < rl.length) : f i = φ (rg rl i) := by
  have h1 := AG_get (d := φ 0) (i := i) h (by rw [List.length_map]; exact hi)
  rw [h1, List.length_map, rg, List.getD_eq_getElem?_getD, List.getD_eq_getElem?_getD, List.getElem?_map, List.getElem?_eq_getElem (by omega)]
  rfl
theorem rg_mem {rl : List Nat} {i : Nat} (h : i < rl.length) : rg rl i ∈ rl := by
  unfold rg
  rw [List.getD_eq_getElem?_getD, List.getElem?_eq_getElem (by omega)]
  exact List.getElem_mem _
def strT (lt : Nat → Int32) (rl : List Nat) (i : Nat) : Int := (((lt (rg rl i)).toInt - (lt (rg rl (nx rl.length i))).toInt).natAbs : Int)
def strS (lt : Nat → Int32) (rl : List Nat) : Nat → Int
  | 0 => 0
  | i + 1 => strS lt rl i + strT lt rl i
/-- how great LIGHTS are -/
def BD (L F : Nat → Int32) : Prop := ∀ k, k < 60 → ¬ L k = -9 → -20000 ≤ (ltF L F k).toInt ∧ (ltF L F k).toInt ≤ 20000
theorem strT_bd {L F : Nat → Int32} (hb : BD L F) (key : Nat → Nat) {i : Nat} (hi : i < nN L) : 0 ≤ strT (ltF L F) (ordK key (nts L 60)) i ∧ strT (ltF L F) (ordK key (nts L 60)) i ≤ 40000 := by
  have hl : (ordK key (nts L 60)).length = nN L := ordK_len key (nts L 60)
  have m1 := mem_nts.mp (ordK_mem (rg_mem (rl := ordK key (nts L 60)) (i := i) (by rw [hl]; exact hi)))
  have m2 := mem_nts.mp (ordK_mem (rg_mem (rl := ordK key (nts L 60)) (i := nx (ordK key (nts L 60)).length i) (by unfold nx; split <;> omega)))
  have b1 := hb _ m1.1 m1.2
  have b2 := hb _ m2.1 m2.2
  unfold strT
  omega
theorem strS_bd {L F : Nat → Int32} (hb : BD L F) (key : Nat → Nat) : ∀ i, i ≤ nN L → 0 ≤ strS (ltF L F) (ordK key (nts L 60)) i ∧ strS (ltF L F) (ordK key (nts L 60)) i ≤ 40000 * i
  | 0, _ => ⟨Int.le_refl _, Int.le_refl _⟩
  | i + 1, h => by
    have h1 := strS_bd hb key i (by omega)
    have h2 := strT_bd hb key (i := i) (by omega)
    unfold strS
    omega
def strV (L F : Nat → Int32) (p q : Nat) : Int := strS (ltF L F) (ordK (fun k => k * q % p) (nts L 60)) (nN L)
theorem strV_bd {L F : Nat → Int32} (hb : BD L F) (p q : Nat) : 0 ≤ strV L F p q ∧ strV L F p q ≤ 2400000 := by
  have h1 := strS_bd hb (fun k => k * q % p) (nN L) (Nat.le_refl _)
  have h2 := nN_le L
  unfold strV
  omega
theorem sub_bd {x y : Int32} (hx : -20000 ≤ x.toInt ∧ x.toInt ≤ 20000) (hy : -20000 ≤ y.toInt ∧ y.toInt ≤ 20000) : (x - y).toInt = x.toInt - y.toInt := fb_subI (by omega) (by omega)
/-- how a step of the sum goes, in ints -/
theorem str_stepI {L F : Nat → Int32} (hb : BD L F) (key : Nat → Nat) {i : Nat} (hi : i < nN L) {x y : Int32} (hx : x = ltF L F (rg (ordK key (nts L 60)) i)) (hy : y = ltF L F (rg (ordK key (nts L 60)) (nx (ordK key (nts L 60)).length i))) :
    Int32.ofInt (strS (ltF L F) (ordK key (nts L 60)) i) + (if 0 ≤ x - y then x - y else -(x - y)) = Int32.ofInt (strS (ltF L F) (ordK key (nts L 60)) (i + 1)) := by
  have hl : (ordK key (nts L 60)).length = nN L := ordK_len key (nts L 60)
  have m1 := mem_nts.mp (ordK_mem (rg_mem (rl := ordK key (nts L 60)) (i := i) (by rw [hl]; exact hi)))
  have m2 := mem_nts.mp (ordK_mem (rg_mem (rl := ordK key (nts L 60)) (i := nx (ordK key (nts L 60)).length i) (by unfold nx; split <;> omega)))
  have b1 := hb _ m1.1 m1.2
  have b2 := hb _ m2.1 m2.2
  rw [← hx] at b1
  rw [← hy] at b2
  have hs := sub_bd b1 b2
  have s0 := strS_bd hb key i (by omega)
  have hn := nN_le L
  have e : (if 0 ≤ x - y then x - y else -(x - y)).toInt = strT (ltF L F) (ordK key (nts L 60)) i := by
    unfold strT
    rw [← hx, ← hy]
    split
    · rename_i h
      rw [fa_le, hs] at h
      have : (0 : Int32).toInt = 0 := rfl
      rw [hs]
      omega
    · rename_i h
      rw [fa_le, hs] at h
      have : (0 : Int32).toInt = 0 := rfl
      rw [fb_negI (by rw [hs]; omega), hs]
      omega
  have t0 := strT_bd hb key hi
  apply Int32.toInt_inj.mp
  have e1 : (Int32.ofInt (strS (ltF L F) (ordK key (nts L 60)) i)).toInt = strS (ltF L F) (ordK key (nts L 60)) i := fb_ofI (by omega) (by omega)
  rw [fb_addI (by rw [e1, e]; omega) (by rw [e1, e]; omega), e1, e]
  show _ = (Int32.ofInt (strS (ltF L F) (ordK key (nts L 60)) i + strT (ltF L F) (ordK key (nts L 60)) i)).toInt
  rw [fb_ofI (by omega) (by omega)]
theorem nI_keyle {a b : Nat} (p : Nat) (ha : a < 600) (hb : b < 600) : (nI a ≤ nI b) ↔ a ≤ b := nI_leI (by omega) (by omega)
theorem AG_hd {P : Nat → Int32} {x : Nat} {xs : List Nat} {φ : Nat → Int32} (h : AG P ((x :: xs).map φ)) : P xs.length = φ x := by
  have := h.1
  rw [List.length_map] at this
  exact this
theorem AG_tl {P P' : Nat → Int32} {x : Nat} {xs : List Nat} {φ : Nat → Int32} (h : AG P ((x :: xs).map φ)) (hh : ∀ j, j < xs.length → P' j = P j) : AG P' (xs.map φ) := AG_hi (fun j hj => hh j (by rw [List.length_map] at hj; exact hj)) h.2
theorem key_lt {p q : Nat} (hp : 1 ≤ p) (hp2 : p ≤ 600) (y : Nat) : y * q % p < 600 := Nat.lt_of_lt_of_le (Nat.mod_lt _ (by omega)) hp2
/-- the first of the least, from a on, d places more -/
def lstN (g : Nat → Int) (a : Nat) : Nat → Nat
  | 0 => a
  | d + 1 => if g (a + d + 1) < g (lstN g a d) then a + d + 1 else lstN g a d
theorem lstN_in (g : Nat → Int) (a : Nat) : ∀ d, a ≤ lstN g a d ∧ lstN g a d ≤ a + d
  | 0 => ⟨Nat.le_refl _, Nat.le_refl _⟩
  | d + 1 => by
    have := lstN_in g a d
    unfold lstN
    split <;> omega
theorem ofI_lt {x y : Int} (hx : 0 ≤ x ∧ x ≤ 2400000) (hy : 0 ≤ y ∧ y ≤ 2400000) : (Int32.ofInt y ≤ Int32.ofInt x) ↔ y ≤ x := by
  rw [fa_le, fb_ofI (by omega) (by omega), fb_ofI (by omega) (by omega)]
theorem lstN_s (g : Nat → Int) (a d : Nat) : lstN g a (d + 1) = if g (a + d + 1) < g (lstN g a d) then a + d + 1 else lstN g a d := rfl
