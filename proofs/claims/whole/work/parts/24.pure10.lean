/-! the pool of STARS, the pool of RULES -/
abbrev sR : Type := Int32 × Bool × (Nat → Int32) × Int32
abbrev tR : Type := (Nat × Nat) × sR
def stC (G : jG) (q : tR) : va_W := [(q.1.1, .inr (6, [.int q.2.1, .ref q.1.2, .int (b01 q.2.2.1), .int q.2.2.2.2])), (q.1.2, .inl (G.2.1.1, 60, .inl q.2.2.2.1))]
def stP (G : jG) (TP : List tR) : va_W := TP.flatMap (stC G)
def tD (TP : List tR) (k : Nat) : tR := TP.getD k ((0, 0), 0, false, fun _ => 0, 0)
def saF (TP : List tR) : Nat → Option Nat := fun k => (TP[k]?).map (fun q => q.1.1)
theorem tD_get {TP : List tR} {k : Nat} (h : k < TP.length) : TP[k]? = some (tD TP k) := by
  rw [tD, List.getD_eq_getElem?_getD, List.getElem?_eq_getElem h]
  rfl
theorem saF_at {TP : List tR} {k : Nat} (h : k < TP.length) : saF TP k = some (tD TP k).1.1 := by
  unfold saF
  rw [tD_get h]
  rfl
theorem erase_perm {α : Type} {l : List α} {k : Nat} {x : α} (h : l[k]? = some x) : l.Perm (x :: l.eraseIdx k) := by
  obtain ⟨hk, e⟩ := List.getElem?_eq_some_iff.mp h
  rw [List.eraseIdx_eq_take_drop_succ, ← e]
  have h1 : l = l.take k ++ l[k] :: l.drop (k + 1) := by rw [← List.drop_eq_getElem_cons hk, List.take_append_drop]
  exact (List.Perm.of_eq h1).trans List.perm_middle
theorem stP_perm {G : jG} {a b : List tR} (h : a.Perm b) : (stP G a).Perm (stP G b) := List.Perm.flatMap_right (stC G) h
theorem stP_out {G : jG} {TP : List tR} {k : Nat} (h : k < TP.length) (r : va_W) : (stP G TP ++ r).Perm (stC G (tD TP k) ++ (stP G (TP.eraseIdx k) ++ r)) := by
  rw [← List.append_assoc]
  exact List.Perm.append_right r (stP_perm (erase_perm (tD_get h)))
theorem stP_in {G : jG} {TP : List tR} {k : Nat} (h : k < TP.length) (q : tR) (r : va_W) : (stC G q ++ (stP G (TP.eraseIdx k) ++ r)).Perm (stP G (TP.set k q) ++ r) := by
  rw [← List.append_assoc]
  refine List.Perm.append_right r (stP_perm (a := q :: TP.eraseIdx k) ?_)
  have h1 : (TP.set k q)[k]? = some q := by rw [List.getElem?_set_self h]
  have h2 := erase_perm h1
  rw [List.eraseIdx_set_eq] at h2
  exact h2.symm
theorem stP_snoc {G : jG} (TP : List tR) (q : tR) (r : va_W) : (stC G q ++ (stP G TP ++ r)).Perm (stP G (TP ++ [q]) ++ r) := by
  rw [← List.append_assoc]
  refine List.Perm.append_right r ?_
  unfold stP
  rw [List.flatMap_append]
  simp only [List.flatMap_cons, List.flatMap_nil, List.append_nil]
  exact List.perm_append_comm
theorem saF_snoc (TP : List tR) (q : tR) : va_up (saF TP) TP.length (some q.1.1) = saF (TP ++ [q]) := by
  funext j
  unfold va_up saF
  by_cases h : j = TP.length
  · subst h
    rw [if_pos rfl, List.getElem?_append_right (Nat.le_refl _)]
    simp
  · rw [if_neg h]
    by_cases h2 : j < TP.length
    · rw [List.getElem?_append_left h2]
    · rw [List.getElem?_eq_none (by omega), List.getElem?_eq_none (by rw [List.length_append, List.length_singleton]; omega)]
theorem saF_set {TP : List tR} {k : Nat} {q : tR} (h : k < TP.length) (hq : q.1.1 = (tD TP k).1.1) : saF (TP.set k q) = saF TP := by
  funext j
  unfold saF
  by_cases e : k = j
  · subst e
    rw [List.getElem?_set_self h, tD_get h]
    exact congrArg some hq
  · rw [List.getElem?_set_ne e]
abbrev uR : Type := Nat × rR
def ruC (q : uR) : Nat × va_E := (q.1, .inr (5, [.int (nI q.2.1), .int q.2.2.1, .int q.2.2.2.1, .int q.2.2.2.2]))
def ruP (RP : List uR) : va_W := RP.map ruC
def uD (RP : List uR) (k : Nat) : uR := RP.getD k (0, 0, 0, 0, 0)
def raF (RP : List uR) : Nat → Option Nat := fun k => (RP[k]?).map (fun q => q.1)
theorem uD_get {RP : List uR} {k : Nat} (h : k < RP.length) : RP[k]? = some (uD RP k) := by
  rw [uD, List.getD_eq_getElem?_getD, List.getElem?_eq_getElem h]
  rfl
theorem raF_at {RP : List uR} {k : Nat} (h : k < RP.length) : raF RP k = some (uD RP k).1 := by
  unfold raF
  rw [uD_get h]
  rfl
theorem ruP_out {RP : List uR} {k : Nat} (h : k < RP.length) (r : va_W) : (ruP RP ++ r).Perm (ruC (uD RP k) :: (ruP (RP.eraseIdx k) ++ r)) := by
  exact List.Perm.append_right r ((erase_perm (uD_get h)).map ruC)
theorem ruP_snoc (RP : List uR) (q : uR) (r : va_W) : (ruC q :: (ruP RP ++ r)).Perm (ruP (RP ++ [q]) ++ r) := by
  have : (ruP (RP ++ [q])) = ruP RP ++ [ruC q] := by unfold ruP; rw [List.map_append]; rfl
  rw [this]
  exact List.Perm.append_right r (List.perm_append_comm (l₁ := [ruC q]))
theorem raF_snoc (RP : List uR) (q : uR) : va_up (raF RP) RP.length (some q.1) = raF (RP ++ [q]) := by
  funext j
  unfold va_up raF
  by_cases h : j = RP.length
  · subst h
    rw [if_pos rfl, List.getElem?_append_right (Nat.le_refl _)]
    simp
  · rw [if_neg h]
    by_cases h2 : j < RP.length
    · rw [List.getElem?_append_left h2]
    · rw [List.getElem?_eq_none (by omega), List.getElem?_eq_none (by rw [List.length_append, List.length_singleton]; omega)]
theorem dropM {RP : List uR} {i : Nat} (h : i < RP.length) : (RP.map Prod.snd).drop i = (uD RP i).2 :: (RP.map Prod.snd).drop (i + 1) := by
  rw [← List.map_drop, ← List.map_drop, List.drop_eq_getElem_cons h, List.map_cons, uD, List.getD_eq_getElem?_getD, List.getElem?_eq_getElem h]
  rfl
