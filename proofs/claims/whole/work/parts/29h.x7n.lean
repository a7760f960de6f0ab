/-- a world that holds what another holds -/
def wle (G : jG) (a b : va_W) : Prop := ∀ H, jH G a H → jH G b H
theorem wle.rf {G : jG} {a : va_W} : wle G a a := fun _ h => h
theorem wle.tr {G : jG} {a b c : va_W} (h : wle G a b) (h2 : wle G b c) : wle G a c := fun H z => h2 H (h H z)
theorem wle.pm {G : jG} {a b : va_W} (h : a.Perm b) : wle G a b := fun _ z => jH.perm h z
/-- a contract for another world, another end -/
theorem Mt.conv {l : Launch} {G : jG} {y : MethodName} {μ : jM} {fr lo mc ms : Nat} {av : List Value} {ws ws1 : va_W} {post post1 : Option Value → va_W → Prop} (h : Mt l G y μ fr lo mc ms av ws1 post1) (hp : wle G ws ws1) (hq : ∀ v w1, post1 v w1 → ∃ w, post v w ∧ wle G w1 w) : Mt l G y μ fr lo mc ms av ws post := by
  intro p e h1 h2 h3 s m args below h4 h5 h6 h7
  obtain ⟨n, o, a1, a2, a3, ⟨⟨v, w1, b1, b2, b3⟩, b4⟩, b5⟩ := h p e h1 h2 h3 s m args below h4 h5 ⟨h6.1, hp _ h6.2.1, h6.2.2⟩ h7
  obtain ⟨w, c1, c2⟩ := hq v w1 b2
  exact ⟨n, o, a1, a2, a3, ⟨⟨v, w, b1, c1, c2 _ b3⟩, b4⟩, b5⟩
theorem Mt.post {l : Launch} {G : jG} {y : MethodName} {μ : jM} {fr lo mc ms : Nat} {av : List Value} {ws : va_W} {post post1 : Option Value → va_W → Prop} (h : Mt l G y μ fr lo mc ms av ws post1) (hq : ∀ v w, post1 v w → post v w) : Mt l G y μ fr lo mc ms av ws post := h.conv wle.rf (fun v w z => ⟨w, hq v w z, wle.rf⟩)
/-! WATCHING -/
def wcV (L F : Nat → Int32) (rl : List rR) : Int32 := if nN L = 0 then -9 else clsR (msV L F) rl
def wcF (q : Nat → sR) (F : Nat → Int32) (rl : List rR) (k : Nat) : Int32 := wcV (q k).2.2.1 F rl
def waN (q : Nat → sR) (c : Nat → Int32) : Nat → Nat
  | 0 => 0
  | k + 1 => waN q c k + (if c k = (q k).2.2.2 then 0 else 1)
def waB (q : Nat → sR) (c : Nat → Int32) : Nat → Int32
  | 0 => 0
  | k + 1 => if c k = (q k).2.2.2 then waB q c k else waB q c k ||| ((1 : Int32) <<< (nI k &&& 31))
theorem waN_le (q : Nat → sR) (c : Nat → Int32) : ∀ k, waN q c k ≤ k
  | 0 => Nat.le_refl _
  | k + 1 => by
    have := waN_le q c k
    unfold waN
    split <;> omega
def setW (q : tR) (c : Int32) : tR := (q.1, q.2.1, q.2.2.1, q.2.2.2.1, c)
def tpW (c : Nat → Int32) (TP : List tR) : Nat → List tR
  | 0 => TP
  | k + 1 => (tpW c TP k).set k (setW (tD TP k) (c k))
theorem tpW_len (c : Nat → Int32) (TP : List tR) : ∀ k, (tpW c TP k).length = TP.length
  | 0 => rfl
  | k + 1 => by
    unfold tpW
    rw [List.length_set, tpW_len c TP k]
theorem tD_set_ne {TP : List tR} {k j : Nat} {q : tR} (h : ¬ k = j) : tD (TP.set k q) j = tD TP j := by
  unfold tD
  rw [List.getD_eq_getElem?_getD, List.getD_eq_getElem?_getD, List.getElem?_set_ne h]
theorem tD_set_self {TP : List tR} {k : Nat} {q : tR} (h : k < TP.length) : tD (TP.set k q) k = q := by
  unfold tD
  rw [List.getD_eq_getElem?_getD, List.getElem?_set_self h]
  rfl
theorem tpW_ge (c : Nat → Int32) (TP : List tR) : ∀ k j, k ≤ j → tD (tpW c TP k) j = tD TP j
  | 0, _, _ => rfl
  | k + 1, j, h => by
    unfold tpW
    rw [tD_set_ne (by omega), tpW_ge c TP k j (by omega)]
theorem tpW_lt (c : Nat → Int32) (TP : List tR) : ∀ k j, j < k → k ≤ TP.length → tD (tpW c TP k) j = setW (tD TP j) (c j)
  | 0, _, h, _ => absurd h (by omega)
  | k + 1, j, h, h2 => by
    unfold tpW
    by_cases e : k = j
    · subst e
      rw [tD_set_self (by rw [tpW_len]; omega)]
    · rw [tD_set_ne e, tpW_lt c TP k j (by omega) (by omega)]
theorem saF_tpW (c : Nat → Int32) (TP : List tR) : ∀ k, k ≤ TP.length → saF (tpW c TP k) = saF TP
  | 0, _ => rfl
  | k + 1, h => by
    unfold tpW
    rw [saF_set (by rw [tpW_len]; omega) (by rw [tpW_ge c TP k k (Nat.le_refl _)]; rfl), saF_tpW c TP k (by omega)]
set_option maxHeartbeats 4000000 in
set_option maxRecDepth 100000 in
theorem c_X7_cocW (l : Launch) (G : jG) (r : va_W) {x : Nat} {A : Nat → Nat} {ns nr : Nat} {to : Int64} {al wa lf : Int32} {L F : Nat → Int32} {t u : Nat → Int32} {RP : List uR} {zs zl : Int32} {nu lti : Nat → Int32} {ms : Nat → Int32} (hc : CV L F t u) (hlenr : RP.length = nr) (hnr : nr ≤ 10) (hok : ∀ j, j < RP.length → (uD RP j).2.1 < 4) : Mt l G yX7_classOfCurve mX7_classOfCurve 3 64 0 0 [.ref x] ((x, .inr (7, [.ref (A 0), .int (nI ns), .ref (A 1), .int (nI nr), .ref (A 2), .ref (A 3), .ref (A 4), .ref (A 5), .ref (A 6), .ref (A 7), .ref (A 8), .ref (A 9), .long to, .int al, .int wa, .int lf, .ref (A 10)])) :: (A 3, .inr (1, [.ref (A 11), .ref (A 12), .int (nI (nN L))])) :: (A 11, .inl (G.2.1.1, 60, .inl t)) :: (A 12, .inl (G.2.1.1, 60, .inl u)) :: (A 4, .inr (0, [.ref (A 13), .int zs])) :: (A 13, .inl (G.2.1.1, 60, .inl nu)) :: (A 6, .inr (4, [.ref (A 17), .int zl])) :: (A 17, .inl (G.2.1.1, 60, .inl lti)) :: (A 8, .inl (G.2.1.1, 4, .inl ms)) :: (A 1, .inl (G.2.1.2.2.2, 10, .inr (.inr (.inr (.inr (raF RP)))))) :: (ruP RP ++ r)) (fun v w => ∃ zs1 nu1 zl1 lt1 ms1, v = some (.int (wcV L F (RP.map Prod.snd))) ∧ w = (x, .inr (7, [.ref (A 0), .int (nI ns), .ref (A 1), .int (nI nr), .ref (A 2), .ref (A 3), .ref (A 4), .ref (A 5), .ref (A 6), .ref (A 7), .ref (A 8), .ref (A 9), .long to, .int al, .int wa, .int lf, .ref (A 10)])) :: (A 3, .inr (1, [.ref (A 11), .ref (A 12), .int (nI (nN L))])) :: (A 11, .inl (G.2.1.1, 60, .inl t)) :: (A 12, .inl (G.2.1.1, 60, .inl u)) :: (A 4, .inr (0, [.ref (A 13), .int zs1])) :: (A 13, .inl (G.2.1.1, 60, .inl nu1)) :: (A 6, .inr (4, [.ref (A 17), .int zl1])) :: (A 17, .inl (G.2.1.1, 60, .inl lt1)) :: (A 8, .inl (G.2.1.1, 4, .inl ms1)) :: (A 1, .inl (G.2.1.2.2.2, 10, .inr (.inr (.inr (.inr (raF RP)))))) :: (ruP RP ++ r)) := by
  by_cases hL : nN L = 0
  · refine (c_X7_classOfCurve0 l G _ (L := L) hL).post (fun v w h => ?_)
    obtain ⟨rfl, rfl⟩ := h
    exact ⟨zs, nu, zl, lti, ms, by unfold wcV; rw [if_pos hL], rfl⟩
  · refine (c_X7_classOfCurve l G _ hc (by omega) hlenr hnr hok).post (fun v w h => ?_)
    obtain ⟨nu1, lt1, ms1, rfl, rfl⟩ := h
    exact ⟨_, nu1, _, lt1, ms1, by unfold wcV; rw [if_neg hL], rfl⟩
set_option maxHeartbeats 4000000 in
set_option maxRecDepth 100000 in
theorem i_classOf_bad (l : Launch) (G : jG) (r : va_W) {x : Nat} {A : Nat → Nat} {ns nr : Nat} {to : Int64} {al wa lf : Int32} {sa : Nat → Option Nat} {num : Int32} (hns : ns ≤ 12) (hnum : inR num 0 ((ns : Int) - 1) = false) : Mt l G yX7_classOf mX7_classOf 4 87 0 0 [.ref x, .int num] ((x, .inr (7, [.ref (A 0), .int (nI ns), .ref (A 1), .int (nI nr), .ref (A 2), .ref (A 3), .ref (A 4), .ref (A 5), .ref (A 6), .ref (A 7), .ref (A 8), .ref (A 9), .long to, .int al, .int wa, .int lf, .ref (A 10)])) :: (A 0, .inl (G.2.1.2.2.1, 12, .inr (.inr (.inr (.inr sa))))) :: r) (fun v w => v = some (.int (-1 : Int32)) ∧ w = (x, .inr (7, [.ref (A 0), .int (nI ns), .ref (A 1), .int (nI nr), .ref (A 2), .ref (A 3), .ref (A 4), .ref (A 5), .ref (A 6), .ref (A 7), .ref (A 8), .ref (A 9), .long to, .int al, .int wa, .int lf, .ref (A 10)])) :: (A 0, .inl (G.2.1.2.2.1, 12, .inr (.inr (.inr (.inr sa))))) :: r) := by
  refine Mt.of (by decide +kernel) rfl rfl (fun X B => ?_)
  show J G X mX7_classOf ((x, .inr (7, [.ref (A 0), .int (nI ns), .ref (A 1), .int (nI nr), .ref (A 2), .ref (A 3), .ref (A 4), .ref (A 5), .ref (A 6), .ref (A 7), .ref (A 8), .ref (A 9), .long to, .int al, .int wa, .int lf, .ref (A 10)])) :: (A 0, .inl (G.2.1.2.2.1, 12, .inr (.inr (.inr (.inr sa))))) :: r) 0 0 0 [(0, .ref x), (1, .int num)] []
  refine J.aload_n 0 dX7_classOf_0 rfl ?_
  refine J.iload_n 1 dX7_classOf_1 rfl ?_
  refine J.callV 0 (st := []) B (c_X7_gatherLights_bad l G _ hns hnum) ml_X7_142 mf_yX7_gatherLights mi_yX7_gatherLights rfl dX7_classOf_2 rfl rfl rfl rfl (fun v_1 w_2 hp_3 => ?_)
  obtain ⟨rfl, rfl⟩ := hp_3
  show J G X mX7_classOf _ _ _ 5 _ [.int (-1 : Int32)]
  refine J.istore_n [1, 2, 0] (lv' := [(0, .ref x), (1, .int num), (2, .int (-1 : Int32))]) dX7_classOf_5 rfl rfl ?_
  refine J.iload_n 2 dX7_classOf_6 rfl ?_
  refine J.if_ne dX7_classOf_7 (fun _ => ?_) (fun z => absurd z (by decide))
  refine J.iload_n 2 dX7_classOf_17 rfl ?_
  exact J.iret B dX7_classOf_18 rfl (⟨rfl, rfl⟩)
set_option maxHeartbeats 4000000 in
set_option maxRecDepth 100000 in
theorem i_classOf_no (l : Launch) (G : jG) (r : va_W) {x : Nat} {A : Nat → Nat} {ns nr : Nat} {to : Int64} {al wa lf : Int32} {sa : Nat → Option Nat} {la : Nat} {kd wc : Int32} {k s : Nat} (hk : k < ns) (hns : ns ≤ 12) (hsa : sa k = some s) {fc : Nat → Int32} : Mt l G yX7_classOf mX7_classOf 4 87 0 0 [.ref x, .int (nI k)] ((x, .inr (7, [.ref (A 0), .int (nI ns), .ref (A 1), .int (nI nr), .ref (A 2), .ref (A 3), .ref (A 4), .ref (A 5), .ref (A 6), .ref (A 7), .ref (A 8), .ref (A 9), .long to, .int al, .int wa, .int lf, .ref (A 10)])) :: (A 0, .inl (G.2.1.2.2.1, 12, .inr (.inr (.inr (.inr sa))))) :: (s, .inr (6, [.int kd, .ref la, .int (0 : Int32), .int wc])) :: (A 10, .inl (G.2.1.1, 6, .inl fc)) :: r) (fun v w => v = some (.int (-3 : Int32)) ∧ w = (x, .inr (7, [.ref (A 0), .int (nI ns), .ref (A 1), .int (nI nr), .ref (A 2), .ref (A 3), .ref (A 4), .ref (A 5), .ref (A 6), .ref (A 7), .ref (A 8), .ref (A 9), .long to, .int al, .int wa, .int (nI 1), .ref (A 10)])) :: (A 0, .inl (G.2.1.2.2.1, 12, .inr (.inr (.inr (.inr sa))))) :: (s, .inr (6, [.int kd, .ref la, .int (0 : Int32), .int wc])) :: (A 10, .inl (G.2.1.1, 6, .inl (upd fc 1 (fc 1 + 1)))) :: r) := by
  refine Mt.of (by decide +kernel) rfl rfl (fun X B => ?_)
  show J G X mX7_classOf ((x, .inr (7, [.ref (A 0), .int (nI ns), .ref (A 1), .int (nI nr), .ref (A 2), .ref (A 3), .ref (A 4), .ref (A 5), .ref (A 6), .ref (A 7), .ref (A 8), .ref (A 9), .long to, .int al, .int wa, .int lf, .ref (A 10)])) :: (A 0, .inl (G.2.1.2.2.1, 12, .inr (.inr (.inr (.inr sa))))) :: (s, .inr (6, [.int kd, .ref la, .int (0 : Int32), .int wc])) :: (A 10, .inl (G.2.1.1, 6, .inl fc)) :: r) 0 0 0 [(0, .ref x), (1, .int (nI k))] []
  refine J.aload_n 0 dX7_classOf_0 rfl ?_
  refine J.iload_n 1 dX7_classOf_1 rfl ?_
  refine J.callV 0 (st := []) B (c_X7_gatherLights_no l G _ hk hns hsa) ml_X7_142 mf_yX7_gatherLights mi_yX7_gatherLights rfl dX7_classOf_2 rfl rfl rfl rfl (fun v_1 w_2 hp_3 => ?_)
  obtain ⟨rfl, rfl⟩ := hp_3
  show J G X mX7_classOf _ _ _ 5 _ [.int (-3 : Int32)]
  refine J.istore_n [1, 2, 0] (lv' := [(0, .ref x), (1, .int (nI k)), (2, .int (-3 : Int32))]) dX7_classOf_5 rfl rfl ?_
  refine J.iload_n 2 dX7_classOf_6 rfl ?_
  refine J.if_ne dX7_classOf_7 (fun _ => ?_) (fun z => absurd z (by decide))
  refine J.iload_n 2 dX7_classOf_17 rfl ?_
  exact J.iret B dX7_classOf_18 rfl (⟨rfl, rfl⟩)
set_option maxHeartbeats 4000000 in
set_option maxRecDepth 100000 in
theorem i_classOf_nought (l : Launch) (G : jG) (r : va_W) {x : Nat} {A : Nat → Nat} {ns nr : Nat} {to : Int64} {al wa lf : Int32} {sa : Nat → Option Nat} {la : Nat} {kd wc : Int32} {k s : Nat} (hk : k < ns) (hns : ns ≤ 12) (hsa : sa k = some s) {L F : Nat → Int32} {cz : Int32} {t u : Nat → Int32} {fc : Nat → Int32} (hL : nN L = 0) : Mt l G yX7_classOf mX7_classOf 4 87 0 0 [.ref x, .int (nI k)] ((x, .inr (7, [.ref (A 0), .int (nI ns), .ref (A 1), .int (nI nr), .ref (A 2), .ref (A 3), .ref (A 4), .ref (A 5), .ref (A 6), .ref (A 7), .ref (A 8), .ref (A 9), .long to, .int al, .int wa, .int lf, .ref (A 10)])) :: (A 0, .inl (G.2.1.2.2.1, 12, .inr (.inr (.inr (.inr sa))))) :: (s, .inr (6, [.int kd, .ref la, .int (1 : Int32), .int wc])) :: (la, .inl (G.2.1.1, 60, .inl L)) :: (A 2, .inl (G.2.1.1, 60, .inl F)) :: (A 3, .inr (1, [.ref (A 11), .ref (A 12), .int cz])) :: (A 11, .inl (G.2.1.1, 60, .inl t)) :: (A 12, .inl (G.2.1.1, 60, .inl u)) :: (A 10, .inl (G.2.1.1, 6, .inl fc)) :: r) (fun v w => ∃ t1 u1, v = some (.int (-3)) ∧ w = (x, .inr (7, [.ref (A 0), .int (nI ns), .ref (A 1), .int (nI nr), .ref (A 2), .ref (A 3), .ref (A 4), .ref (A 5), .ref (A 6), .ref (A 7), .ref (A 8), .ref (A 9), .long to, .int al, .int wa, .int (nI 4), .ref (A 10)])) :: (A 0, .inl (G.2.1.2.2.1, 12, .inr (.inr (.inr (.inr sa))))) :: (s, .inr (6, [.int kd, .ref la, .int (1 : Int32), .int wc])) :: (la, .inl (G.2.1.1, 60, .inl L)) :: (A 2, .inl (G.2.1.1, 60, .inl F)) :: (A 3, .inr (1, [.ref (A 11), .ref (A 12), .int (nI (nN L))])) :: (A 11, .inl (G.2.1.1, 60, .inl t1)) :: (A 12, .inl (G.2.1.1, 60, .inl u1)) :: (A 10, .inl (G.2.1.1, 6, .inl (upd fc 4 (fc 4 + 1)))) :: r) := by
  refine Mt.of (by decide +kernel) rfl rfl (fun X B => ?_)
  show J G X mX7_classOf ((x, .inr (7, [.ref (A 0), .int (nI ns), .ref (A 1), .int (nI nr), .ref (A 2), .ref (A 3), .ref (A 4), .ref (A 5), .ref (A 6), .ref (A 7), .ref (A 8), .ref (A 9), .long to, .int al, .int wa, .int lf, .ref (A 10)])) :: (A 0, .inl (G.2.1.2.2.1, 12, .inr (.inr (.inr (.inr sa))))) :: (s, .inr (6, [.int kd, .ref la, .int (1 : Int32), .int wc])) :: (la, .inl (G.2.1.1, 60, .inl L)) :: (A 2, .inl (G.2.1.1, 60, .inl F)) :: (A 3, .inr (1, [.ref (A 11), .ref (A 12), .int cz])) :: (A 11, .inl (G.2.1.1, 60, .inl t)) :: (A 12, .inl (G.2.1.1, 60, .inl u)) :: (A 10, .inl (G.2.1.1, 6, .inl fc)) :: r) 0 0 0 [(0, .ref x), (1, .int (nI k))] []
  refine J.aload_n 0 dX7_classOf_0 rfl ?_
  refine J.iload_n 1 dX7_classOf_1 rfl ?_
  refine J.callV 0 (st := []) B (c_X7_gatherLights_nought l G _ hk hns hsa hL) ml_X7_142 mf_yX7_gatherLights mi_yX7_gatherLights rfl dX7_classOf_2 rfl rfl rfl rfl (fun v_1 w_2 hp_3 => ?_)
  obtain ⟨t1, u1, rfl, rfl⟩ := hp_3
  show J G X mX7_classOf _ _ _ 5 _ [.int (-3 : Int32)]
  refine J.istore_n [1, 2, 0] (lv' := [(0, .ref x), (1, .int (nI k)), (2, .int (-3 : Int32))]) dX7_classOf_5 rfl rfl ?_
  refine J.iload_n 2 dX7_classOf_6 rfl ?_
  refine J.if_ne dX7_classOf_7 (fun _ => ?_) (fun z => absurd z (by decide))
  refine J.iload_n 2 dX7_classOf_17 rfl ?_
  exact J.iret B dX7_classOf_18 rfl (⟨t1, u1, rfl, rfl⟩)
set_option maxHeartbeats 4000000 in
set_option maxRecDepth 100000 in
theorem i_classOf (l : Launch) (G : jG) (r : va_W) {x : Nat} {A : Nat → Nat} {ns nr : Nat} {to : Int64} {al wa lf : Int32} {sa : Nat → Option Nat} {la : Nat} {kd wc : Int32} {k s : Nat} (hk : k < ns) (hns : ns ≤ 12) (hsa : sa k = some s) {L F : Nat → Int32} {cz : Int32} {t u : Nat → Int32} {zs zl : Int32} {nu lti : Nat → Int32} {ms : Nat → Int32} {RP : List uR} (hL : 0 < nN L) (hlenr : RP.length = nr) (hnr : nr ≤ 10) (hok : ∀ j, j < RP.length → (uD RP j).2.1 < 4) : Mt l G yX7_classOf mX7_classOf 4 87 0 0 [.ref x, .int (nI k)] ((x, .inr (7, [.ref (A 0), .int (nI ns), .ref (A 1), .int (nI nr), .ref (A 2), .ref (A 3), .ref (A 4), .ref (A 5), .ref (A 6), .ref (A 7), .ref (A 8), .ref (A 9), .long to, .int al, .int wa, .int lf, .ref (A 10)])) :: (A 0, .inl (G.2.1.2.2.1, 12, .inr (.inr (.inr (.inr sa))))) :: (s, .inr (6, [.int kd, .ref la, .int (1 : Int32), .int wc])) :: (la, .inl (G.2.1.1, 60, .inl L)) :: (A 2, .inl (G.2.1.1, 60, .inl F)) :: (A 3, .inr (1, [.ref (A 11), .ref (A 12), .int cz])) :: (A 11, .inl (G.2.1.1, 60, .inl t)) :: (A 12, .inl (G.2.1.1, 60, .inl u)) :: (A 4, .inr (0, [.ref (A 13), .int zs])) :: (A 13, .inl (G.2.1.1, 60, .inl nu)) :: (A 6, .inr (4, [.ref (A 17), .int zl])) :: (A 17, .inl (G.2.1.1, 60, .inl lti)) :: (A 8, .inl (G.2.1.1, 4, .inl ms)) :: (A 1, .inl (G.2.1.2.2.2, 10, .inr (.inr (.inr (.inr (raF RP)))))) :: (ruP RP ++ r)) (fun v w => ∃ t1 u1 zs2 nu2 zl2 lt2 ms2, v = some (.int (wcV L F (RP.map Prod.snd))) ∧ w = (x, .inr (7, [.ref (A 0), .int (nI ns), .ref (A 1), .int (nI nr), .ref (A 2), .ref (A 3), .ref (A 4), .ref (A 5), .ref (A 6), .ref (A 7), .ref (A 8), .ref (A 9), .long to, .int al, .int wa, .int lf, .ref (A 10)])) :: (A 0, .inl (G.2.1.2.2.1, 12, .inr (.inr (.inr (.inr sa))))) :: (s, .inr (6, [.int kd, .ref la, .int (1 : Int32), .int wc])) :: (la, .inl (G.2.1.1, 60, .inl L)) :: (A 2, .inl (G.2.1.1, 60, .inl F)) :: (A 3, .inr (1, [.ref (A 11), .ref (A 12), .int (nI (nN L))])) :: (A 11, .inl (G.2.1.1, 60, .inl t1)) :: (A 12, .inl (G.2.1.1, 60, .inl u1)) :: (A 4, .inr (0, [.ref (A 13), .int zs2])) :: (A 13, .inl (G.2.1.1, 60, .inl nu2)) :: (A 6, .inr (4, [.ref (A 17), .int zl2])) :: (A 17, .inl (G.2.1.1, 60, .inl lt2)) :: (A 8, .inl (G.2.1.1, 4, .inl ms2)) :: (A 1, .inl (G.2.1.2.2.2, 10, .inr (.inr (.inr (.inr (raF RP)))))) :: (ruP RP ++ r)) := by
  refine Mt.of (by decide +kernel) rfl rfl (fun X B => ?_)
  show J G X mX7_classOf ((x, .inr (7, [.ref (A 0), .int (nI ns), .ref (A 1), .int (nI nr), .ref (A 2), .ref (A 3), .ref (A 4), .ref (A 5), .ref (A 6), .ref (A 7), .ref (A 8), .ref (A 9), .long to, .int al, .int wa, .int lf, .ref (A 10)])) :: (A 0, .inl (G.2.1.2.2.1, 12, .inr (.inr (.inr (.inr sa))))) :: (s, .inr (6, [.int kd, .ref la, .int (1 : Int32), .int wc])) :: (la, .inl (G.2.1.1, 60, .inl L)) :: (A 2, .inl (G.2.1.1, 60, .inl F)) :: (A 3, .inr (1, [.ref (A 11), .ref (A 12), .int cz])) :: (A 11, .inl (G.2.1.1, 60, .inl t)) :: (A 12, .inl (G.2.1.1, 60, .inl u)) :: (A 4, .inr (0, [.ref (A 13), .int zs])) :: (A 13, .inl (G.2.1.1, 60, .inl nu)) :: (A 6, .inr (4, [.ref (A 17), .int zl])) :: (A 17, .inl (G.2.1.1, 60, .inl lti)) :: (A 8, .inl (G.2.1.1, 4, .inl ms)) :: (A 1, .inl (G.2.1.2.2.2, 10, .inr (.inr (.inr (.inr (raF RP)))))) :: (ruP RP ++ r)) 0 0 0 [(0, .ref x), (1, .int (nI k))] []
  refine J.aload_n 0 dX7_classOf_0 rfl ?_
  refine J.iload_n 1 dX7_classOf_1 rfl ?_
  refine J.callV 0 (st := []) B (c_X7_gatherLights l G _ hk hns hsa hL) ml_X7_142 mf_yX7_gatherLights mi_yX7_gatherLights rfl dX7_classOf_2 rfl rfl rfl rfl (fun v_1 w_2 hp_3 => ?_)
  obtain ⟨t1, u1, hcv, rfl, rfl⟩ := hp_3
  show J G X mX7_classOf _ _ _ 5 _ [.int (0 : Int32)]
  refine J.istore_n [1, 2, 0] (lv' := [(0, .ref x), (1, .int (nI k)), (2, .int (0 : Int32))]) dX7_classOf_5 rfl rfl ?_
  refine J.iload_n 2 dX7_classOf_6 rfl ?_
  refine J.if_ne dX7_classOf_7 (fun z => absurd z (by decide)) (fun _ => ?_)
  refine J.aload_n 0 dX7_classOf_10 rfl ?_
  refine J.re [0, 5, 6, 7, 8, 9, 10, 11, 12, 13, 1, 2, 3, 4] 14 (ws2 := (x, .inr (7, [.ref (A 0), .int (nI ns), .ref (A 1), .int (nI nr), .ref (A 2), .ref (A 3), .ref (A 4), .ref (A 5), .ref (A 6), .ref (A 7), .ref (A 8), .ref (A 9), .long to, .int al, .int wa, .int lf, .ref (A 10)])) :: (A 3, .inr (1, [.ref (A 11), .ref (A 12), .int (nI (nN L))])) :: (A 11, .inl (G.2.1.1, 60, .inl t1)) :: (A 12, .inl (G.2.1.1, 60, .inl u1)) :: (A 4, .inr (0, [.ref (A 13), .int zs])) :: (A 13, .inl (G.2.1.1, 60, .inl nu)) :: (A 6, .inr (4, [.ref (A 17), .int zl])) :: (A 17, .inl (G.2.1.1, 60, .inl lti)) :: (A 8, .inl (G.2.1.1, 4, .inl ms)) :: (A 1, .inl (G.2.1.2.2.2, 10, .inr (.inr (.inr (.inr (raF RP)))))) :: (A 0, .inl (G.2.1.2.2.1, 12, .inr (.inr (.inr (.inr sa))))) :: (s, .inr (6, [.int kd, .ref la, .int (1 : Int32), .int wc])) :: (la, .inl (G.2.1.1, 60, .inl L)) :: (A 2, .inl (G.2.1.1, 60, .inl F)) :: (ruP RP ++ r)) rfl rfl ?_
  refine J.perm (ws2 := (x, .inr (7, [.ref (A 0), .int (nI ns), .ref (A 1), .int (nI nr), .ref (A 2), .ref (A 3), .ref (A 4), .ref (A 5), .ref (A 6), .ref (A 7), .ref (A 8), .ref (A 9), .long to, .int al, .int wa, .int lf, .ref (A 10)])) :: (A 3, .inr (1, [.ref (A 11), .ref (A 12), .int (nI (nN L))])) :: (A 11, .inl (G.2.1.1, 60, .inl t1)) :: (A 12, .inl (G.2.1.1, 60, .inl u1)) :: (A 4, .inr (0, [.ref (A 13), .int zs])) :: (A 13, .inl (G.2.1.1, 60, .inl nu)) :: (A 6, .inr (4, [.ref (A 17), .int zl])) :: (A 17, .inl (G.2.1.1, 60, .inl lti)) :: (A 8, .inl (G.2.1.1, 4, .inl ms)) :: (A 1, .inl (G.2.1.2.2.2, 10, .inr (.inr (.inr (.inr (raF RP)))))) :: (ruP RP ++ ((A 0, .inl (G.2.1.2.2.1, 12, .inr (.inr (.inr (.inr sa))))) :: (s, .inr (6, [.int kd, .ref la, .int (1 : Int32), .int wc])) :: (la, .inl (G.2.1.1, 60, .inl L)) :: (A 2, .inl (G.2.1.1, 60, .inl F)) :: r))) (List.Perm.cons _ (List.Perm.cons _ (List.Perm.cons _ (List.Perm.cons _ (List.Perm.cons _ (List.Perm.cons _ (List.Perm.cons _ (List.Perm.cons _ (List.Perm.cons _ (List.Perm.cons _ (pool_swap (os := ((A 0, .inl (G.2.1.2.2.1, 12, .inr (.inr (.inr (.inr sa))))) :: (s, .inr (6, [.int kd, .ref la, .int (1 : Int32), .int wc])) :: (la, .inl (G.2.1.1, 60, .inl L)) :: (A 2, .inl (G.2.1.1, 60, .inl F)) :: []))))))))))))) ?_
  refine J.callV 0 (st := []) B (c_X7_cocW l G _ hcv hlenr hnr hok) ml_X7_228 mf_yX7_classOfCurve mi_yX7_classOfCurve rfl dX7_classOf_11 rfl rfl rfl rfl (fun v9 w9 hp9 => ?_)
  obtain ⟨zs2, nu2, zl2, lt2, ms2, rfl, rfl⟩ := hp9
  refine J.perm (ws2 := (x, .inr (7, [.ref (A 0), .int (nI ns), .ref (A 1), .int (nI nr), .ref (A 2), .ref (A 3), .ref (A 4), .ref (A 5), .ref (A 6), .ref (A 7), .ref (A 8), .ref (A 9), .long to, .int al, .int wa, .int lf, .ref (A 10)])) :: (A 3, .inr (1, [.ref (A 11), .ref (A 12), .int (nI (nN L))])) :: (A 11, .inl (G.2.1.1, 60, .inl t1)) :: (A 12, .inl (G.2.1.1, 60, .inl u1)) :: (A 4, .inr (0, [.ref (A 13), .int zs2])) :: (A 13, .inl (G.2.1.1, 60, .inl nu2)) :: (A 6, .inr (4, [.ref (A 17), .int zl2])) :: (A 17, .inl (G.2.1.1, 60, .inl lt2)) :: (A 8, .inl (G.2.1.1, 4, .inl ms2)) :: (A 1, .inl (G.2.1.2.2.2, 10, .inr (.inr (.inr (.inr (raF RP)))))) :: (A 0, .inl (G.2.1.2.2.1, 12, .inr (.inr (.inr (.inr sa))))) :: (s, .inr (6, [.int kd, .ref la, .int (1 : Int32), .int wc])) :: (la, .inl (G.2.1.1, 60, .inl L)) :: (A 2, .inl (G.2.1.1, 60, .inl F)) :: (ruP RP ++ r)) (List.Perm.cons _ (List.Perm.cons _ (List.Perm.cons _ (List.Perm.cons _ (List.Perm.cons _ (List.Perm.cons _ (List.Perm.cons _ (List.Perm.cons _ (List.Perm.cons _ (List.Perm.cons _ ((pool_swap (os := ((A 0, .inl (G.2.1.2.2.1, 12, .inr (.inr (.inr (.inr sa))))) :: (s, .inr (6, [.int kd, .ref la, .int (1 : Int32), .int wc])) :: (la, .inl (G.2.1.1, 60, .inl L)) :: (A 2, .inl (G.2.1.1, 60, .inl F)) :: []))).symm))))))))))) ?_
  refine J.re [0, 10, 11, 12, 13, 1, 2, 3, 4, 5, 6, 7, 8, 9] 14 (ws2 := (x, .inr (7, [.ref (A 0), .int (nI ns), .ref (A 1), .int (nI nr), .ref (A 2), .ref (A 3), .ref (A 4), .ref (A 5), .ref (A 6), .ref (A 7), .ref (A 8), .ref (A 9), .long to, .int al, .int wa, .int lf, .ref (A 10)])) :: (A 0, .inl (G.2.1.2.2.1, 12, .inr (.inr (.inr (.inr sa))))) :: (s, .inr (6, [.int kd, .ref la, .int (1 : Int32), .int wc])) :: (la, .inl (G.2.1.1, 60, .inl L)) :: (A 2, .inl (G.2.1.1, 60, .inl F)) :: (A 3, .inr (1, [.ref (A 11), .ref (A 12), .int (nI (nN L))])) :: (A 11, .inl (G.2.1.1, 60, .inl t1)) :: (A 12, .inl (G.2.1.1, 60, .inl u1)) :: (A 4, .inr (0, [.ref (A 13), .int zs2])) :: (A 13, .inl (G.2.1.1, 60, .inl nu2)) :: (A 6, .inr (4, [.ref (A 17), .int zl2])) :: (A 17, .inl (G.2.1.1, 60, .inl lt2)) :: (A 8, .inl (G.2.1.1, 4, .inl ms2)) :: (A 1, .inl (G.2.1.2.2.2, 10, .inr (.inr (.inr (.inr (raF RP)))))) :: (ruP RP ++ r)) rfl rfl ?_
  show J G X mX7_classOf _ _ _ 14 _ [.int (wcV L F (RP.map Prod.snd))]
  refine J.goto dX7_classOf_14 ?_
  exact J.iret B dX7_classOf_18 rfl (⟨t1, u1, zs2, nu2, zl2, lt2, ms2, rfl, rfl⟩)
set_option maxHeartbeats 4000000 in
set_option maxRecDepth 100000 in
theorem X7_wa_lp {l : Launch} {G : jG} {X : jX} {r : va_W} {x : Nat} {A : Nat → Nat} {ns nr : Nat} {to : Int64} {al wa lf : Int32} {TP : List tR} {RP : List uR} {F : Nat → Int32} (B : jB l G X 4 85 0 0 (fun v w => ∃ cz1 t1 u1 zs1 nu1 zl1 lt1 ms1, v = some (.int (nI (waN (qF TP) (wcF (qF TP) F (RP.map Prod.snd)) ns))) ∧ w = (x, .inr (7, [.ref (A 0), .int (nI ns), .ref (A 1), .int (nI nr), .ref (A 2), .ref (A 3), .ref (A 4), .ref (A 5), .ref (A 6), .ref (A 7), .ref (A 8), .ref (A 9), .long to, .int (waB (qF TP) (wcF (qF TP) F (RP.map Prod.snd)) ns), .int (wa + (1 : Int32)), .int lf, .ref (A 10)])) :: (A 0, .inl (G.2.1.2.2.1, 12, .inr (.inr (.inr (.inr (saF TP)))))) :: (A 2, .inl (G.2.1.1, 60, .inl F)) :: (A 3, .inr (1, [.ref (A 11), .ref (A 12), .int cz1])) :: (A 11, .inl (G.2.1.1, 60, .inl t1)) :: (A 12, .inl (G.2.1.1, 60, .inl u1)) :: (A 4, .inr (0, [.ref (A 13), .int zs1])) :: (A 13, .inl (G.2.1.1, 60, .inl nu1)) :: (A 6, .inr (4, [.ref (A 17), .int zl1])) :: (A 17, .inl (G.2.1.1, 60, .inl lt1)) :: (A 8, .inl (G.2.1.1, 4, .inl ms1)) :: (A 1, .inl (G.2.1.2.2.2, 10, .inr (.inr (.inr (.inr (raF RP)))))) :: (stP G (tpW (wcF (qF TP) F (RP.map Prod.snd)) TP ns) ++ (ruP RP ++ r))) "watch") (k : Nat) (cz : Int32) (t u : Nat → Int32) (zs : Int32) (nu : Nat → Int32) (zl : Int32) (lti ms : Nat → Int32) (hlen : TP.length = ns) (hns : ns ≤ 12) (hlenr : RP.length = nr) (hnr : nr ≤ 10) (hok : ∀ j, j < RP.length → (uD RP j).2.1 < 4) (hk : k ≤ ns) : J G X mX7_watch ((x, .inr (7, [.ref (A 0), .int (nI ns), .ref (A 1), .int (nI nr), .ref (A 2), .ref (A 3), .ref (A 4), .ref (A 5), .ref (A 6), .ref (A 7), .ref (A 8), .ref (A 9), .long to, .int (waB (qF TP) (wcF (qF TP) F (RP.map Prod.snd)) k), .int (wa + (1 : Int32)), .int lf, .ref (A 10)])) :: (A 0, .inl (G.2.1.2.2.1, 12, .inr (.inr (.inr (.inr (saF TP)))))) :: (A 2, .inl (G.2.1.1, 60, .inl F)) :: (A 3, .inr (1, [.ref (A 11), .ref (A 12), .int cz])) :: (A 11, .inl (G.2.1.1, 60, .inl t)) :: (A 12, .inl (G.2.1.1, 60, .inl u)) :: (A 4, .inr (0, [.ref (A 13), .int zs])) :: (A 13, .inl (G.2.1.1, 60, .inl nu)) :: (A 6, .inr (4, [.ref (A 17), .int zl])) :: (A 17, .inl (G.2.1.1, 60, .inl lti)) :: (A 8, .inl (G.2.1.1, 4, .inl ms)) :: (A 1, .inl (G.2.1.2.2.2, 10, .inr (.inr (.inr (.inr (raF RP)))))) :: (stP G (tpW (wcF (qF TP) F (RP.map Prod.snd)) TP k) ++ (ruP RP ++ r))) 0 0 19 [(0, .ref x), (1, .int (nI (waN (qF TP) (wcF (qF TP) F (RP.map Prod.snd)) k))), (2, .int (nI k))] [] := by
  have hle := waN_le (qF TP) (wcF (qF TP) F (RP.map Prod.snd)) k
  refine J.iload_n 2 dX7_watch_19 rfl ?_
  refine J.aload_n 0 dX7_watch_20 rfl ?_
  refine J.get 0 fl_X7_73 dX7_watch_21 rfl rfl ?_
  refine J.icmp_ge dX7_watch_24 (fun h9 => ?_) (fun h9 => ?_)
  · skip
    have h9 : ns ≤ k := (nI_leI (a := ns) (b := k) (by omega) (by omega)).mp h9
    have e : k = ns := by omega
    subst e
    refine J.iload_n 1 dX7_watch_93 rfl ?_
    exact J.iret B dX7_watch_94 rfl (⟨cz, t, u, zs, nu, zl, lti, ms, rfl, rfl⟩)
  · skip
    have h9 : ¬ ns ≤ k := fun z => h9 ((nI_leI (a := ns) (b := k) (by omega) (by omega)).mpr z)
    have h9 : k < TP.length := by omega
    have hT : k < (tpW (wcF (qF TP) F (RP.map Prod.snd)) TP k).length := by rw [tpW_len]; omega
    obtain ⟨q9, hq9⟩ : ∃ q, q = tD (tpW (wcF (qF TP) F (RP.map Prod.snd)) TP k) k := ⟨_, rfl⟩
    have hq8 : q9 = tD TP k := by rw [hq9]; exact tpW_ge _ _ _ _ (Nat.le_refl _)
    have hsa : saF TP k = some q9.1.1 := by rw [hq8]; exact saF_at h9
    have hqF : qF TP k = q9.2 := by rw [hq8]; rfl
    have hpe : (stP G (tpW (wcF (qF TP) F (RP.map Prod.snd)) TP k) ++ (ruP RP ++ r)).Perm (stC G q9 ++ (stP G ((tpW (wcF (qF TP) F (RP.map Prod.snd)) TP k).eraseIdx k) ++ (ruP RP ++ r))) := by rw [hq9]; exact stP_out hT _
    obtain ⟨⟨s, la⟩, kd, b, L, wc⟩ := q9
    have hcF : (wcF (qF TP) F (RP.map Prod.snd)) k = wcV L F (RP.map Prod.snd) := by show wcV (qF TP k).2.2.1 F _ = _; rw [hqF]
    refine J.perm (ws2 := (x, .inr (7, [.ref (A 0), .int (nI ns), .ref (A 1), .int (nI nr), .ref (A 2), .ref (A 3), .ref (A 4), .ref (A 5), .ref (A 6), .ref (A 7), .ref (A 8), .ref (A 9), .long to, .int (waB (qF TP) (wcF (qF TP) F (RP.map Prod.snd)) k), .int (wa + (1 : Int32)), .int lf, .ref (A 10)])) :: (A 0, .inl (G.2.1.2.2.1, 12, .inr (.inr (.inr (.inr (saF TP)))))) :: (A 2, .inl (G.2.1.1, 60, .inl F)) :: (A 3, .inr (1, [.ref (A 11), .ref (A 12), .int cz])) :: (A 11, .inl (G.2.1.1, 60, .inl t)) :: (A 12, .inl (G.2.1.1, 60, .inl u)) :: (A 4, .inr (0, [.ref (A 13), .int zs])) :: (A 13, .inl (G.2.1.1, 60, .inl nu)) :: (A 6, .inr (4, [.ref (A 17), .int zl])) :: (A 17, .inl (G.2.1.1, 60, .inl lti)) :: (A 8, .inl (G.2.1.1, 4, .inl ms)) :: (A 1, .inl (G.2.1.2.2.2, 10, .inr (.inr (.inr (.inr (raF RP)))))) :: (s, .inr (6, [.int kd, .ref la, .int (b01 b), .int wc])) :: (la, .inl (G.2.1.1, 60, .inl L)) :: (stP G ((tpW (wcF (qF TP) F (RP.map Prod.snd)) TP k).eraseIdx k) ++ (ruP RP ++ r))) (List.Perm.cons _ (List.Perm.cons _ (List.Perm.cons _ (List.Perm.cons _ (List.Perm.cons _ (List.Perm.cons _ (List.Perm.cons _ (List.Perm.cons _ (List.Perm.cons _ (List.Perm.cons _ (List.Perm.cons _ (List.Perm.cons _ (hpe))))))))))))) ?_
    refine J.aload_n 0 dX7_watch_27 rfl ?_
    refine J.get 0 fl_X7_28 dX7_watch_28 rfl rfl ?_
    refine J.aload_n 0 dX7_watch_31 rfl ?_
    refine J.get 0 fl_X7_11 dX7_watch_32 rfl rfl ?_
    refine J.iload_n 2 dX7_watch_35 rfl ?_
    refine J.aald 1 2 (k) dX7_watch_36 rfl rfl (rfl) (by omega) (by decide) (hsa) ?_
    refine J.aload_n 0 dX7_watch_37 rfl ?_
    refine J.get 0 fl_X7_21 dX7_watch_38 rfl rfl ?_
    refine J.re [3, 4, 5, 12, 13, 2, 0, 1, 6, 7, 8, 9, 10, 11] 14 (ws2 := (A 3, .inr (1, [.ref (A 11), .ref (A 12), .int cz])) :: (A 11, .inl (G.2.1.1, 60, .inl t)) :: (A 12, .inl (G.2.1.1, 60, .inl u)) :: (s, .inr (6, [.int kd, .ref la, .int (b01 b), .int wc])) :: (la, .inl (G.2.1.1, 60, .inl L)) :: (A 2, .inl (G.2.1.1, 60, .inl F)) :: (x, .inr (7, [.ref (A 0), .int (nI ns), .ref (A 1), .int (nI nr), .ref (A 2), .ref (A 3), .ref (A 4), .ref (A 5), .ref (A 6), .ref (A 7), .ref (A 8), .ref (A 9), .long to, .int (waB (qF TP) (wcF (qF TP) F (RP.map Prod.snd)) k), .int (wa + (1 : Int32)), .int lf, .ref (A 10)])) :: (A 0, .inl (G.2.1.2.2.1, 12, .inr (.inr (.inr (.inr (saF TP)))))) :: (A 4, .inr (0, [.ref (A 13), .int zs])) :: (A 13, .inl (G.2.1.1, 60, .inl nu)) :: (A 6, .inr (4, [.ref (A 17), .int zl])) :: (A 17, .inl (G.2.1.1, 60, .inl lti)) :: (A 8, .inl (G.2.1.1, 4, .inl ms)) :: (A 1, .inl (G.2.1.2.2.2, 10, .inr (.inr (.inr (.inr (raF RP)))))) :: (stP G ((tpW (wcF (qF TP) F (RP.map Prod.snd)) TP k).eraseIdx k) ++ (ruP RP ++ r))) rfl rfl ?_
    refine J.callV 0 (st := []) B (c_X1_gather l G _) ml_X7_237 mf_yX1_gather mi_yX1_gather rfl dX7_watch_41 rfl rfl rfl rfl (fun v_1 w_2 hp_3 => ?_)
    obtain ⟨t1, u1, hcv, rfl, rfl⟩ := hp_3
    refine J.re [6, 7, 5, 0, 1, 2, 8, 9, 10, 11, 12, 13, 3, 4] 14 (ws2 := (x, .inr (7, [.ref (A 0), .int (nI ns), .ref (A 1), .int (nI nr), .ref (A 2), .ref (A 3), .ref (A 4), .ref (A 5), .ref (A 6), .ref (A 7), .ref (A 8), .ref (A 9), .long to, .int (waB (qF TP) (wcF (qF TP) F (RP.map Prod.snd)) k), .int (wa + (1 : Int32)), .int lf, .ref (A 10)])) :: (A 0, .inl (G.2.1.2.2.1, 12, .inr (.inr (.inr (.inr (saF TP)))))) :: (A 2, .inl (G.2.1.1, 60, .inl F)) :: (A 3, .inr (1, [.ref (A 11), .ref (A 12), .int (nI (nN L))])) :: (A 11, .inl (G.2.1.1, 60, .inl t1)) :: (A 12, .inl (G.2.1.1, 60, .inl u1)) :: (A 4, .inr (0, [.ref (A 13), .int zs])) :: (A 13, .inl (G.2.1.1, 60, .inl nu)) :: (A 6, .inr (4, [.ref (A 17), .int zl])) :: (A 17, .inl (G.2.1.1, 60, .inl lti)) :: (A 8, .inl (G.2.1.1, 4, .inl ms)) :: (A 1, .inl (G.2.1.2.2.2, 10, .inr (.inr (.inr (.inr (raF RP)))))) :: (s, .inr (6, [.int kd, .ref la, .int (b01 b), .int wc])) :: (la, .inl (G.2.1.1, 60, .inl L)) :: (stP G ((tpW (wcF (qF TP) F (RP.map Prod.snd)) TP k).eraseIdx k) ++ (ruP RP ++ r))) rfl rfl ?_
    show J G X mX7_watch _ _ _ 44 _ []
    refine J.aload_n 0 dX7_watch_44 rfl ?_
    refine J.re [0, 3, 4, 5, 6, 7, 8, 9, 10, 11, 1, 2, 12, 13] 14 (ws2 := (x, .inr (7, [.ref (A 0), .int (nI ns), .ref (A 1), .int (nI nr), .ref (A 2), .ref (A 3), .ref (A 4), .ref (A 5), .ref (A 6), .ref (A 7), .ref (A 8), .ref (A 9), .long to, .int (waB (qF TP) (wcF (qF TP) F (RP.map Prod.snd)) k), .int (wa + (1 : Int32)), .int lf, .ref (A 10)])) :: (A 3, .inr (1, [.ref (A 11), .ref (A 12), .int (nI (nN L))])) :: (A 11, .inl (G.2.1.1, 60, .inl t1)) :: (A 12, .inl (G.2.1.1, 60, .inl u1)) :: (A 4, .inr (0, [.ref (A 13), .int zs])) :: (A 13, .inl (G.2.1.1, 60, .inl nu)) :: (A 6, .inr (4, [.ref (A 17), .int zl])) :: (A 17, .inl (G.2.1.1, 60, .inl lti)) :: (A 8, .inl (G.2.1.1, 4, .inl ms)) :: (A 1, .inl (G.2.1.2.2.2, 10, .inr (.inr (.inr (.inr (raF RP)))))) :: (A 0, .inl (G.2.1.2.2.1, 12, .inr (.inr (.inr (.inr (saF TP)))))) :: (A 2, .inl (G.2.1.1, 60, .inl F)) :: (s, .inr (6, [.int kd, .ref la, .int (b01 b), .int wc])) :: (la, .inl (G.2.1.1, 60, .inl L)) :: (stP G ((tpW (wcF (qF TP) F (RP.map Prod.snd)) TP k).eraseIdx k) ++ (ruP RP ++ r))) rfl rfl ?_
    refine J.perm (ws2 := (x, .inr (7, [.ref (A 0), .int (nI ns), .ref (A 1), .int (nI nr), .ref (A 2), .ref (A 3), .ref (A 4), .ref (A 5), .ref (A 6), .ref (A 7), .ref (A 8), .ref (A 9), .long to, .int (waB (qF TP) (wcF (qF TP) F (RP.map Prod.snd)) k), .int (wa + (1 : Int32)), .int lf, .ref (A 10)])) :: (A 3, .inr (1, [.ref (A 11), .ref (A 12), .int (nI (nN L))])) :: (A 11, .inl (G.2.1.1, 60, .inl t1)) :: (A 12, .inl (G.2.1.1, 60, .inl u1)) :: (A 4, .inr (0, [.ref (A 13), .int zs])) :: (A 13, .inl (G.2.1.1, 60, .inl nu)) :: (A 6, .inr (4, [.ref (A 17), .int zl])) :: (A 17, .inl (G.2.1.1, 60, .inl lti)) :: (A 8, .inl (G.2.1.1, 4, .inl ms)) :: (A 1, .inl (G.2.1.2.2.2, 10, .inr (.inr (.inr (.inr (raF RP)))))) :: (ruP RP ++ ((A 0, .inl (G.2.1.2.2.1, 12, .inr (.inr (.inr (.inr (saF TP)))))) :: (A 2, .inl (G.2.1.1, 60, .inl F)) :: (s, .inr (6, [.int kd, .ref la, .int (b01 b), .int wc])) :: (la, .inl (G.2.1.1, 60, .inl L)) :: (stP G ((tpW (wcF (qF TP) F (RP.map Prod.snd)) TP k).eraseIdx k) ++ r)))) (List.Perm.cons _ (List.Perm.cons _ (List.Perm.cons _ (List.Perm.cons _ (List.Perm.cons _ (List.Perm.cons _ (List.Perm.cons _ (List.Perm.cons _ (List.Perm.cons _ (List.Perm.cons _ (pool_swap (os := ((A 0, .inl (G.2.1.2.2.1, 12, .inr (.inr (.inr (.inr (saF TP)))))) :: (A 2, .inl (G.2.1.1, 60, .inl F)) :: (s, .inr (6, [.int kd, .ref la, .int (b01 b), .int wc])) :: (la, .inl (G.2.1.1, 60, .inl L)) :: stP G ((tpW (wcF (qF TP) F (RP.map Prod.snd)) TP k).eraseIdx k)))))))))))))) ?_
    refine J.callV 0 (st := []) B (c_X7_cocW l G _ hcv hlenr hnr hok) ml_X7_228 mf_yX7_classOfCurve mi_yX7_classOfCurve rfl dX7_watch_45 rfl rfl rfl rfl (fun v9 w9 hp9 => ?_)
    obtain ⟨zs2, nu2, zl2, lt2, ms2, rfl, rfl⟩ := hp9
    refine J.perm (ws2 := (x, .inr (7, [.ref (A 0), .int (nI ns), .ref (A 1), .int (nI nr), .ref (A 2), .ref (A 3), .ref (A 4), .ref (A 5), .ref (A 6), .ref (A 7), .ref (A 8), .ref (A 9), .long to, .int (waB (qF TP) (wcF (qF TP) F (RP.map Prod.snd)) k), .int (wa + (1 : Int32)), .int lf, .ref (A 10)])) :: (A 3, .inr (1, [.ref (A 11), .ref (A 12), .int (nI (nN L))])) :: (A 11, .inl (G.2.1.1, 60, .inl t1)) :: (A 12, .inl (G.2.1.1, 60, .inl u1)) :: (A 4, .inr (0, [.ref (A 13), .int zs2])) :: (A 13, .inl (G.2.1.1, 60, .inl nu2)) :: (A 6, .inr (4, [.ref (A 17), .int zl2])) :: (A 17, .inl (G.2.1.1, 60, .inl lt2)) :: (A 8, .inl (G.2.1.1, 4, .inl ms2)) :: (A 1, .inl (G.2.1.2.2.2, 10, .inr (.inr (.inr (.inr (raF RP)))))) :: (A 0, .inl (G.2.1.2.2.1, 12, .inr (.inr (.inr (.inr (saF TP)))))) :: (A 2, .inl (G.2.1.1, 60, .inl F)) :: (s, .inr (6, [.int kd, .ref la, .int (b01 b), .int wc])) :: (la, .inl (G.2.1.1, 60, .inl L)) :: (stP G ((tpW (wcF (qF TP) F (RP.map Prod.snd)) TP k).eraseIdx k) ++ (ruP RP ++ r))) (List.Perm.cons _ (List.Perm.cons _ (List.Perm.cons _ (List.Perm.cons _ (List.Perm.cons _ (List.Perm.cons _ (List.Perm.cons _ (List.Perm.cons _ (List.Perm.cons _ (List.Perm.cons _ ((pool_swap (os := ((A 0, .inl (G.2.1.2.2.1, 12, .inr (.inr (.inr (.inr (saF TP)))))) :: (A 2, .inl (G.2.1.1, 60, .inl F)) :: (s, .inr (6, [.int kd, .ref la, .int (b01 b), .int wc])) :: (la, .inl (G.2.1.1, 60, .inl L)) :: stP G ((tpW (wcF (qF TP) F (RP.map Prod.snd)) TP k).eraseIdx k)))).symm))))))))))) ?_
    refine J.re [0, 10, 11, 1, 2, 3, 4, 5, 6, 7, 8, 9, 12, 13] 14 (ws2 := (x, .inr (7, [.ref (A 0), .int (nI ns), .ref (A 1), .int (nI nr), .ref (A 2), .ref (A 3), .ref (A 4), .ref (A 5), .ref (A 6), .ref (A 7), .ref (A 8), .ref (A 9), .long to, .int (waB (qF TP) (wcF (qF TP) F (RP.map Prod.snd)) k), .int (wa + (1 : Int32)), .int lf, .ref (A 10)])) :: (A 0, .inl (G.2.1.2.2.1, 12, .inr (.inr (.inr (.inr (saF TP)))))) :: (A 2, .inl (G.2.1.1, 60, .inl F)) :: (A 3, .inr (1, [.ref (A 11), .ref (A 12), .int (nI (nN L))])) :: (A 11, .inl (G.2.1.1, 60, .inl t1)) :: (A 12, .inl (G.2.1.1, 60, .inl u1)) :: (A 4, .inr (0, [.ref (A 13), .int zs2])) :: (A 13, .inl (G.2.1.1, 60, .inl nu2)) :: (A 6, .inr (4, [.ref (A 17), .int zl2])) :: (A 17, .inl (G.2.1.1, 60, .inl lt2)) :: (A 8, .inl (G.2.1.1, 4, .inl ms2)) :: (A 1, .inl (G.2.1.2.2.2, 10, .inr (.inr (.inr (.inr (raF RP)))))) :: (s, .inr (6, [.int kd, .ref la, .int (b01 b), .int wc])) :: (la, .inl (G.2.1.1, 60, .inl L)) :: (stP G ((tpW (wcF (qF TP) F (RP.map Prod.snd)) TP k).eraseIdx k) ++ (ruP RP ++ r))) rfl rfl ?_
    show J G X mX7_watch _ _ _ 48 _ [.int (wcV L F (RP.map Prod.snd))]
    refine J.istore_n [1, 2, 3, 0] (lv' := [(0, .ref x), (1, .int (nI (waN (qF TP) (wcF (qF TP) F (RP.map Prod.snd)) k))), (2, .int (nI k)), (3, .int (wcV L F (RP.map Prod.snd)))]) dX7_watch_48 rfl rfl ?_
    refine J.iload_n 3 dX7_watch_49 rfl ?_
    refine J.aload_n 0 dX7_watch_50 rfl ?_
    refine J.get 0 fl_X7_11 dX7_watch_51 rfl rfl ?_
    refine J.iload_n 2 dX7_watch_54 rfl ?_
    refine J.aald 1 2 (k) dX7_watch_55 rfl rfl (rfl) (by omega) (by decide) (hsa) ?_
    refine J.get 12 fl_X7_241 dX7_watch_56 rfl rfl ?_
    refine J.icmp_eq dX7_watch_59 (fun h8 => ?_) (fun h8 => ?_)
    · skip
      refine J.iinc 2 [1, 2, 0, 3] (lv' := [(0, .ref x), (1, .int (nI (waN (qF TP) (wcF (qF TP) F (RP.map Prod.snd)) k))), (2, .int (nI (k + 1))), (3, .int (wcV L F (RP.map Prod.snd)))]) dX7_watch_87 rfl (jinc1 _) rfl rfl ?_
      refine J.goto dX7_watch_90 ?_
      refine J.loc [0, 1, 2] (lv' := [(0, .ref x), (1, .int (nI (waN (qF TP) (wcF (qF TP) F (RP.map Prod.snd)) k))), (2, .int (nI (k + 1)))]) rfl ?_
      have hin : (stC G ((s, la), kd, b, L, (wcF (qF TP) F (RP.map Prod.snd)) k) ++ (stP G ((tpW (wcF (qF TP) F (RP.map Prod.snd)) TP k).eraseIdx k) ++ (ruP RP ++ r))).Perm (stP G (tpW (wcF (qF TP) F (RP.map Prod.snd)) TP (k + 1)) ++ (ruP RP ++ r)) := by
        have hz := stP_in (G := G) hT ((s, la), kd, b, L, (wcF (qF TP) F (RP.map Prod.snd)) k) (ruP RP ++ r)
        rw [show (tpW (wcF (qF TP) F (RP.map Prod.snd)) TP k).set k ((s, la), kd, b, L, (wcF (qF TP) F (RP.map Prod.snd)) k) = tpW (wcF (qF TP) F (RP.map Prod.snd)) TP (k + 1) by show _ = (tpW (wcF (qF TP) F (RP.map Prod.snd)) TP k).set k (setW (tD TP k) ((wcF (qF TP) F (RP.map Prod.snd)) k)); rw [← hq8]; rfl] at hz
        exact hz
      rw [hcF, h8] at hin
      refine J.perm (ws2 := (x, .inr (7, [.ref (A 0), .int (nI ns), .ref (A 1), .int (nI nr), .ref (A 2), .ref (A 3), .ref (A 4), .ref (A 5), .ref (A 6), .ref (A 7), .ref (A 8), .ref (A 9), .long to, .int (waB (qF TP) (wcF (qF TP) F (RP.map Prod.snd)) k), .int (wa + (1 : Int32)), .int lf, .ref (A 10)])) :: (A 0, .inl (G.2.1.2.2.1, 12, .inr (.inr (.inr (.inr (saF TP)))))) :: (A 2, .inl (G.2.1.1, 60, .inl F)) :: (A 3, .inr (1, [.ref (A 11), .ref (A 12), .int (nI (nN L))])) :: (A 11, .inl (G.2.1.1, 60, .inl t1)) :: (A 12, .inl (G.2.1.1, 60, .inl u1)) :: (A 4, .inr (0, [.ref (A 13), .int zs2])) :: (A 13, .inl (G.2.1.1, 60, .inl nu2)) :: (A 6, .inr (4, [.ref (A 17), .int zl2])) :: (A 17, .inl (G.2.1.1, 60, .inl lt2)) :: (A 8, .inl (G.2.1.1, 4, .inl ms2)) :: (A 1, .inl (G.2.1.2.2.2, 10, .inr (.inr (.inr (.inr (raF RP)))))) :: (stP G (tpW (wcF (qF TP) F (RP.map Prod.snd)) TP (k + 1)) ++ (ruP RP ++ r))) (List.Perm.cons _ (List.Perm.cons _ (List.Perm.cons _ (List.Perm.cons _ (List.Perm.cons _ (List.Perm.cons _ (List.Perm.cons _ (List.Perm.cons _ (List.Perm.cons _ (List.Perm.cons _ (List.Perm.cons _ (List.Perm.cons _ (hin))))))))))))) ?_
      have h7 : ((wcF (qF TP) F (RP.map Prod.snd)) k = ((qF TP) k).2.2.2) := by rw [hcF, hqF]; exact h8
      have he1 : waN (qF TP) (wcF (qF TP) F (RP.map Prod.snd)) (k + 1) = waN (qF TP) (wcF (qF TP) F (RP.map Prod.snd)) k := by
        show waN (qF TP) (wcF (qF TP) F (RP.map Prod.snd)) k + _ = _
        rw [if_pos h7]
        rfl
      have he2 : waB (qF TP) (wcF (qF TP) F (RP.map Prod.snd)) (k + 1) = waB (qF TP) (wcF (qF TP) F (RP.map Prod.snd)) k := if_pos h7
      have hq7 := X7_wa_lp (wa := wa) (al := al) B (k + 1) (nI (nN L)) t1 u1 zs2 nu2 zl2 lt2 ms2 hlen hns hlenr hnr hok (by omega)
      rw [he1, he2] at hq7
      exact hq7
    · skip
      refine J.aload_n 0 dX7_watch_62 rfl ?_
      refine J.get 0 fl_X7_11 dX7_watch_63 rfl rfl ?_
      refine J.iload_n 2 dX7_watch_66 rfl ?_
      refine J.aald 1 2 (k) dX7_watch_67 rfl rfl (rfl) (by omega) (by decide) (hsa) ?_
      refine J.iload_n 3 dX7_watch_68 rfl ?_
      refine J.put 12 fp_X7_241 dX7_watch_69 rfl (rfl) (rfl) rfl (ws' := (x, .inr (7, [.ref (A 0), .int (nI ns), .ref (A 1), .int (nI nr), .ref (A 2), .ref (A 3), .ref (A 4), .ref (A 5), .ref (A 6), .ref (A 7), .ref (A 8), .ref (A 9), .long to, .int (waB (qF TP) (wcF (qF TP) F (RP.map Prod.snd)) k), .int (wa + (1 : Int32)), .int lf, .ref (A 10)])) :: (A 0, .inl (G.2.1.2.2.1, 12, .inr (.inr (.inr (.inr (saF TP)))))) :: (A 2, .inl (G.2.1.1, 60, .inl F)) :: (A 3, .inr (1, [.ref (A 11), .ref (A 12), .int (nI (nN L))])) :: (A 11, .inl (G.2.1.1, 60, .inl t1)) :: (A 12, .inl (G.2.1.1, 60, .inl u1)) :: (A 4, .inr (0, [.ref (A 13), .int zs2])) :: (A 13, .inl (G.2.1.1, 60, .inl nu2)) :: (A 6, .inr (4, [.ref (A 17), .int zl2])) :: (A 17, .inl (G.2.1.1, 60, .inl lt2)) :: (A 8, .inl (G.2.1.1, 4, .inl ms2)) :: (A 1, .inl (G.2.1.2.2.2, 10, .inr (.inr (.inr (.inr (raF RP)))))) :: (s, .inr (6, [.int kd, .ref la, .int (b01 b), .int (wcV L F (RP.map Prod.snd))])) :: (la, .inl (G.2.1.1, 60, .inl L)) :: (stP G ((tpW (wcF (qF TP) F (RP.map Prod.snd)) TP k).eraseIdx k) ++ (ruP RP ++ r))) rfl ?_
      refine J.aload_n 0 dX7_watch_72 rfl ?_
      refine J.dup dX7_watch_73 rfl ?_
      refine J.get 0 fl_X7_234 dX7_watch_74 rfl rfl ?_
      refine J.iconst (1 : Int32) dX7_watch_77 rfl ?_
      refine J.iload_n 2 dX7_watch_78 rfl ?_
      refine J.ishl dX7_watch_79 ?_
      refine J.ior dX7_watch_80 ?_
      refine J.put 0 fp_X7_234 dX7_watch_81 rfl (rfl) (rfl) rfl (ws' := (x, .inr (7, [.ref (A 0), .int (nI ns), .ref (A 1), .int (nI nr), .ref (A 2), .ref (A 3), .ref (A 4), .ref (A 5), .ref (A 6), .ref (A 7), .ref (A 8), .ref (A 9), .long to, .int ((waB (qF TP) (wcF (qF TP) F (RP.map Prod.snd)) k) ||| ((1 : Int32) <<< ((nI k) &&& 31))), .int (wa + (1 : Int32)), .int lf, .ref (A 10)])) :: (A 0, .inl (G.2.1.2.2.1, 12, .inr (.inr (.inr (.inr (saF TP)))))) :: (A 2, .inl (G.2.1.1, 60, .inl F)) :: (A 3, .inr (1, [.ref (A 11), .ref (A 12), .int (nI (nN L))])) :: (A 11, .inl (G.2.1.1, 60, .inl t1)) :: (A 12, .inl (G.2.1.1, 60, .inl u1)) :: (A 4, .inr (0, [.ref (A 13), .int zs2])) :: (A 13, .inl (G.2.1.1, 60, .inl nu2)) :: (A 6, .inr (4, [.ref (A 17), .int zl2])) :: (A 17, .inl (G.2.1.1, 60, .inl lt2)) :: (A 8, .inl (G.2.1.1, 4, .inl ms2)) :: (A 1, .inl (G.2.1.2.2.2, 10, .inr (.inr (.inr (.inr (raF RP)))))) :: (s, .inr (6, [.int kd, .ref la, .int (b01 b), .int (wcV L F (RP.map Prod.snd))])) :: (la, .inl (G.2.1.1, 60, .inl L)) :: (stP G ((tpW (wcF (qF TP) F (RP.map Prod.snd)) TP k).eraseIdx k) ++ (ruP RP ++ r))) rfl ?_
      refine J.iinc 1 [1, 0, 2, 3] (lv' := [(0, .ref x), (1, .int (nI (waN (qF TP) (wcF (qF TP) F (RP.map Prod.snd)) k + 1))), (2, .int (nI k)), (3, .int (wcV L F (RP.map Prod.snd)))]) dX7_watch_84 rfl (jinc1 _) rfl rfl ?_
      refine J.iinc 2 [1, 2, 0, 3] (lv' := [(0, .ref x), (1, .int (nI (waN (qF TP) (wcF (qF TP) F (RP.map Prod.snd)) k + 1))), (2, .int (nI (k + 1))), (3, .int (wcV L F (RP.map Prod.snd)))]) dX7_watch_87 rfl (jinc1 _) rfl rfl ?_
      refine J.goto dX7_watch_90 ?_
      refine J.loc [0, 1, 2] (lv' := [(0, .ref x), (1, .int (nI (waN (qF TP) (wcF (qF TP) F (RP.map Prod.snd)) k + 1))), (2, .int (nI (k + 1)))]) rfl ?_
      have hin : (stC G ((s, la), kd, b, L, (wcF (qF TP) F (RP.map Prod.snd)) k) ++ (stP G ((tpW (wcF (qF TP) F (RP.map Prod.snd)) TP k).eraseIdx k) ++ (ruP RP ++ r))).Perm (stP G (tpW (wcF (qF TP) F (RP.map Prod.snd)) TP (k + 1)) ++ (ruP RP ++ r)) := by
        have hz := stP_in (G := G) hT ((s, la), kd, b, L, (wcF (qF TP) F (RP.map Prod.snd)) k) (ruP RP ++ r)
        rw [show (tpW (wcF (qF TP) F (RP.map Prod.snd)) TP k).set k ((s, la), kd, b, L, (wcF (qF TP) F (RP.map Prod.snd)) k) = tpW (wcF (qF TP) F (RP.map Prod.snd)) TP (k + 1) by show _ = (tpW (wcF (qF TP) F (RP.map Prod.snd)) TP k).set k (setW (tD TP k) ((wcF (qF TP) F (RP.map Prod.snd)) k)); rw [← hq8]; rfl] at hz
        exact hz
      rw [hcF] at hin
      refine J.perm (ws2 := (x, .inr (7, [.ref (A 0), .int (nI ns), .ref (A 1), .int (nI nr), .ref (A 2), .ref (A 3), .ref (A 4), .ref (A 5), .ref (A 6), .ref (A 7), .ref (A 8), .ref (A 9), .long to, .int ((waB (qF TP) (wcF (qF TP) F (RP.map Prod.snd)) k) ||| ((1 : Int32) <<< ((nI k) &&& 31))), .int (wa + (1 : Int32)), .int lf, .ref (A 10)])) :: (A 0, .inl (G.2.1.2.2.1, 12, .inr (.inr (.inr (.inr (saF TP)))))) :: (A 2, .inl (G.2.1.1, 60, .inl F)) :: (A 3, .inr (1, [.ref (A 11), .ref (A 12), .int (nI (nN L))])) :: (A 11, .inl (G.2.1.1, 60, .inl t1)) :: (A 12, .inl (G.2.1.1, 60, .inl u1)) :: (A 4, .inr (0, [.ref (A 13), .int zs2])) :: (A 13, .inl (G.2.1.1, 60, .inl nu2)) :: (A 6, .inr (4, [.ref (A 17), .int zl2])) :: (A 17, .inl (G.2.1.1, 60, .inl lt2)) :: (A 8, .inl (G.2.1.1, 4, .inl ms2)) :: (A 1, .inl (G.2.1.2.2.2, 10, .inr (.inr (.inr (.inr (raF RP)))))) :: (stP G (tpW (wcF (qF TP) F (RP.map Prod.snd)) TP (k + 1)) ++ (ruP RP ++ r))) (List.Perm.cons _ (List.Perm.cons _ (List.Perm.cons _ (List.Perm.cons _ (List.Perm.cons _ (List.Perm.cons _ (List.Perm.cons _ (List.Perm.cons _ (List.Perm.cons _ (List.Perm.cons _ (List.Perm.cons _ (List.Perm.cons _ (hin))))))))))))) ?_
      have h7 : ¬ ((wcF (qF TP) F (RP.map Prod.snd)) k = ((qF TP) k).2.2.2) := by rw [hcF, hqF]; exact h8
      have he1 : waN (qF TP) (wcF (qF TP) F (RP.map Prod.snd)) (k + 1) = waN (qF TP) (wcF (qF TP) F (RP.map Prod.snd)) k + 1 := by
        show waN (qF TP) (wcF (qF TP) F (RP.map Prod.snd)) k + _ = _
        rw [if_neg h7]
      have he2 : waB (qF TP) (wcF (qF TP) F (RP.map Prod.snd)) (k + 1) = waB (qF TP) (wcF (qF TP) F (RP.map Prod.snd)) k ||| ((1 : Int32) <<< (nI k &&& 31)) := if_neg h7
      have hq7 := X7_wa_lp (wa := wa) (al := al) B (k + 1) (nI (nN L)) t1 u1 zs2 nu2 zl2 lt2 ms2 hlen hns hlenr hnr hok (by omega)
      rw [he1, he2] at hq7
      exact hq7
termination_by ns - k
decreasing_by all_goals omega
set_option maxHeartbeats 4000000 in
set_option maxRecDepth 100000 in
theorem i_watch (l : Launch) (G : jG) (r : va_W) {x : Nat} {A : Nat → Nat} {ns nr : Nat} {to : Int64} {al wa lf : Int32} {TP : List tR} {RP : List uR} {F : Nat → Int32} {cz : Int32} {t u : Nat → Int32} {zs zl : Int32} {nu lti : Nat → Int32} {ms : Nat → Int32} (hlen : TP.length = ns) (hns : ns ≤ 12) (hlenr : RP.length = nr) (hnr : nr ≤ 10) (hok : ∀ j, j < RP.length → (uD RP j).2.1 < 4) : Mt l G yX7_watch mX7_watch 4 85 0 0 [.ref x] ((x, .inr (7, [.ref (A 0), .int (nI ns), .ref (A 1), .int (nI nr), .ref (A 2), .ref (A 3), .ref (A 4), .ref (A 5), .ref (A 6), .ref (A 7), .ref (A 8), .ref (A 9), .long to, .int al, .int wa, .int lf, .ref (A 10)])) :: (A 0, .inl (G.2.1.2.2.1, 12, .inr (.inr (.inr (.inr (saF TP)))))) :: (A 2, .inl (G.2.1.1, 60, .inl F)) :: (A 3, .inr (1, [.ref (A 11), .ref (A 12), .int cz])) :: (A 11, .inl (G.2.1.1, 60, .inl t)) :: (A 12, .inl (G.2.1.1, 60, .inl u)) :: (A 4, .inr (0, [.ref (A 13), .int zs])) :: (A 13, .inl (G.2.1.1, 60, .inl nu)) :: (A 6, .inr (4, [.ref (A 17), .int zl])) :: (A 17, .inl (G.2.1.1, 60, .inl lti)) :: (A 8, .inl (G.2.1.1, 4, .inl ms)) :: (A 1, .inl (G.2.1.2.2.2, 10, .inr (.inr (.inr (.inr (raF RP)))))) :: (stP G TP ++ (ruP RP ++ r))) (fun v w => ∃ cz1 t1 u1 zs1 nu1 zl1 lt1 ms1, v = some (.int (nI (waN (qF TP) (wcF (qF TP) F (RP.map Prod.snd)) ns))) ∧ w = (x, .inr (7, [.ref (A 0), .int (nI ns), .ref (A 1), .int (nI nr), .ref (A 2), .ref (A 3), .ref (A 4), .ref (A 5), .ref (A 6), .ref (A 7), .ref (A 8), .ref (A 9), .long to, .int (waB (qF TP) (wcF (qF TP) F (RP.map Prod.snd)) ns), .int (wa + (1 : Int32)), .int lf, .ref (A 10)])) :: (A 0, .inl (G.2.1.2.2.1, 12, .inr (.inr (.inr (.inr (saF TP)))))) :: (A 2, .inl (G.2.1.1, 60, .inl F)) :: (A 3, .inr (1, [.ref (A 11), .ref (A 12), .int cz1])) :: (A 11, .inl (G.2.1.1, 60, .inl t1)) :: (A 12, .inl (G.2.1.1, 60, .inl u1)) :: (A 4, .inr (0, [.ref (A 13), .int zs1])) :: (A 13, .inl (G.2.1.1, 60, .inl nu1)) :: (A 6, .inr (4, [.ref (A 17), .int zl1])) :: (A 17, .inl (G.2.1.1, 60, .inl lt1)) :: (A 8, .inl (G.2.1.1, 4, .inl ms1)) :: (A 1, .inl (G.2.1.2.2.2, 10, .inr (.inr (.inr (.inr (raF RP)))))) :: (stP G (tpW (wcF (qF TP) F (RP.map Prod.snd)) TP ns) ++ (ruP RP ++ r))) := by
  refine Mt.of (by decide +kernel) rfl rfl (fun X B => ?_)
  show J G X mX7_watch ((x, .inr (7, [.ref (A 0), .int (nI ns), .ref (A 1), .int (nI nr), .ref (A 2), .ref (A 3), .ref (A 4), .ref (A 5), .ref (A 6), .ref (A 7), .ref (A 8), .ref (A 9), .long to, .int al, .int wa, .int lf, .ref (A 10)])) :: (A 0, .inl (G.2.1.2.2.1, 12, .inr (.inr (.inr (.inr (saF TP)))))) :: (A 2, .inl (G.2.1.1, 60, .inl F)) :: (A 3, .inr (1, [.ref (A 11), .ref (A 12), .int cz])) :: (A 11, .inl (G.2.1.1, 60, .inl t)) :: (A 12, .inl (G.2.1.1, 60, .inl u)) :: (A 4, .inr (0, [.ref (A 13), .int zs])) :: (A 13, .inl (G.2.1.1, 60, .inl nu)) :: (A 6, .inr (4, [.ref (A 17), .int zl])) :: (A 17, .inl (G.2.1.1, 60, .inl lti)) :: (A 8, .inl (G.2.1.1, 4, .inl ms)) :: (A 1, .inl (G.2.1.2.2.2, 10, .inr (.inr (.inr (.inr (raF RP)))))) :: (stP G TP ++ (ruP RP ++ r))) 0 0 0 [(0, .ref x)] []
  refine J.aload_n 0 dX7_watch_0 rfl ?_
  refine J.dup dX7_watch_1 rfl ?_
  refine J.get 0 fl_X7_231 dX7_watch_2 rfl rfl ?_
  refine J.iconst (1 : Int32) dX7_watch_5 rfl ?_
  refine J.iadd dX7_watch_6 ?_
  refine J.put 0 fp_X7_231 dX7_watch_7 rfl (rfl) (rfl) rfl (ws' := (x, .inr (7, [.ref (A 0), .int (nI ns), .ref (A 1), .int (nI nr), .ref (A 2), .ref (A 3), .ref (A 4), .ref (A 5), .ref (A 6), .ref (A 7), .ref (A 8), .ref (A 9), .long to, .int al, .int (wa + (1 : Int32)), .int lf, .ref (A 10)])) :: (A 0, .inl (G.2.1.2.2.1, 12, .inr (.inr (.inr (.inr (saF TP)))))) :: (A 2, .inl (G.2.1.1, 60, .inl F)) :: (A 3, .inr (1, [.ref (A 11), .ref (A 12), .int cz])) :: (A 11, .inl (G.2.1.1, 60, .inl t)) :: (A 12, .inl (G.2.1.1, 60, .inl u)) :: (A 4, .inr (0, [.ref (A 13), .int zs])) :: (A 13, .inl (G.2.1.1, 60, .inl nu)) :: (A 6, .inr (4, [.ref (A 17), .int zl])) :: (A 17, .inl (G.2.1.1, 60, .inl lti)) :: (A 8, .inl (G.2.1.1, 4, .inl ms)) :: (A 1, .inl (G.2.1.2.2.2, 10, .inr (.inr (.inr (.inr (raF RP)))))) :: (stP G TP ++ (ruP RP ++ r))) rfl ?_
  refine J.aload_n 0 dX7_watch_10 rfl ?_
  refine J.iconst (0 : Int32) dX7_watch_11 rfl ?_
  refine J.put 0 fp_X7_234 dX7_watch_12 rfl (rfl) (rfl) rfl (ws' := (x, .inr (7, [.ref (A 0), .int (nI ns), .ref (A 1), .int (nI nr), .ref (A 2), .ref (A 3), .ref (A 4), .ref (A 5), .ref (A 6), .ref (A 7), .ref (A 8), .ref (A 9), .long to, .int (0 : Int32), .int (wa + (1 : Int32)), .int lf, .ref (A 10)])) :: (A 0, .inl (G.2.1.2.2.1, 12, .inr (.inr (.inr (.inr (saF TP)))))) :: (A 2, .inl (G.2.1.1, 60, .inl F)) :: (A 3, .inr (1, [.ref (A 11), .ref (A 12), .int cz])) :: (A 11, .inl (G.2.1.1, 60, .inl t)) :: (A 12, .inl (G.2.1.1, 60, .inl u)) :: (A 4, .inr (0, [.ref (A 13), .int zs])) :: (A 13, .inl (G.2.1.1, 60, .inl nu)) :: (A 6, .inr (4, [.ref (A 17), .int zl])) :: (A 17, .inl (G.2.1.1, 60, .inl lti)) :: (A 8, .inl (G.2.1.1, 4, .inl ms)) :: (A 1, .inl (G.2.1.2.2.2, 10, .inr (.inr (.inr (.inr (raF RP)))))) :: (stP G TP ++ (ruP RP ++ r))) rfl ?_
  refine J.iconst (0 : Int32) dX7_watch_15 rfl ?_
  refine J.istore_n [1, 0] (lv' := [(0, .ref x), (1, .int (0 : Int32))]) dX7_watch_16 rfl rfl ?_
  refine J.iconst (0 : Int32) dX7_watch_17 rfl ?_
  refine J.istore_n [1, 2, 0] (lv' := [(0, .ref x), (1, .int (0 : Int32)), (2, .int (0 : Int32))]) dX7_watch_18 rfl rfl ?_
  exact X7_wa_lp (al := al) B 0 cz t u zs nu zl lti ms hlen hns hlenr hnr hok (by omega)
set_option maxHeartbeats 4000000 in
set_option maxRecDepth 100000 in
theorem i_count1 (l : Launch) (G : jG) (r : va_W) {x : Nat} {A : Nat → Nat} {ns nr : Nat} {to : Int64} {al wa lf : Int32} {TP : List tR} (hlen : TP.length = ns) (hns : ns ≤ 12) : Mt l G yX7_count mX7_count 1 23 0 0 [.ref x, .int (1 : Int32)] ((x, .inr (7, [.ref (A 0), .int (nI ns), .ref (A 1), .int (nI nr), .ref (A 2), .ref (A 3), .ref (A 4), .ref (A 5), .ref (A 6), .ref (A 7), .ref (A 8), .ref (A 9), .long to, .int al, .int wa, .int lf, .ref (A 10)])) :: (A 0, .inl (G.2.1.2.2.1, 12, .inr (.inr (.inr (.inr (saF TP)))))) :: (stP G TP ++ r)) (fun v w => v = some (.int (nI (rwN (qF TP) ns))) ∧ w = (x, .inr (7, [.ref (A 0), .int (nI ns), .ref (A 1), .int (nI nr), .ref (A 2), .ref (A 3), .ref (A 4), .ref (A 5), .ref (A 6), .ref (A 7), .ref (A 8), .ref (A 9), .long to, .int al, .int wa, .int lf, .ref (A 10)])) :: (A 0, .inl (G.2.1.2.2.1, 12, .inr (.inr (.inr (.inr (saF TP)))))) :: (stP G TP ++ r)) := by
  refine Mt.of (by decide +kernel) rfl rfl (fun X B => ?_)
  show J G X mX7_count ((x, .inr (7, [.ref (A 0), .int (nI ns), .ref (A 1), .int (nI nr), .ref (A 2), .ref (A 3), .ref (A 4), .ref (A 5), .ref (A 6), .ref (A 7), .ref (A 8), .ref (A 9), .long to, .int al, .int wa, .int lf, .ref (A 10)])) :: (A 0, .inl (G.2.1.2.2.1, 12, .inr (.inr (.inr (.inr (saF TP)))))) :: (stP G TP ++ r)) 0 0 0 [(0, .ref x), (1, .int (1 : Int32))] []
  refine J.iload_n 1 dX7_count_0 rfl ?_
  refine J.tableIn dX7_count_1 (by decide) (by decide) (off := 40) rfl (tgt := 41) rfl ?_
  refine J.aload_n 0 dX7_count_41 rfl ?_
  refine J.callV 0 (st := []) B (c_X7_countOfRows l G _ hlen hns) ml_X7_248 mf_yX7_countOfRows mi_yX7_countOfRows rfl dX7_count_42 rfl rfl rfl rfl (fun v9 w9 hp9 => ?_)
  obtain ⟨rfl, rfl⟩ := hp9
  show J G X mX7_count _ _ _ 45 _ [.int (nI (rwN (qF TP) ns))]
  exact J.iret B dX7_count_45 rfl (⟨rfl, rfl⟩)
set_option maxHeartbeats 4000000 in
set_option maxRecDepth 100000 in
theorem i_count2 (l : Launch) (G : jG) (r : va_W) {x : Nat} {A : Nat → Nat} {ns nr : Nat} {to : Int64} {al wa lf : Int32} {TP : List tR} (hlen : TP.length = ns) (hns : ns ≤ 12) : Mt l G yX7_count mX7_count 1 23 0 0 [.ref x, .int (2 : Int32)] ((x, .inr (7, [.ref (A 0), .int (nI ns), .ref (A 1), .int (nI nr), .ref (A 2), .ref (A 3), .ref (A 4), .ref (A 5), .ref (A 6), .ref (A 7), .ref (A 8), .ref (A 9), .long to, .int al, .int wa, .int lf, .ref (A 10)])) :: (A 0, .inl (G.2.1.2.2.1, 12, .inr (.inr (.inr (.inr (saF TP)))))) :: (stP G TP ++ r)) (fun v w => v = some (.int (nI (lgN (qF TP) ns))) ∧ w = (x, .inr (7, [.ref (A 0), .int (nI ns), .ref (A 1), .int (nI nr), .ref (A 2), .ref (A 3), .ref (A 4), .ref (A 5), .ref (A 6), .ref (A 7), .ref (A 8), .ref (A 9), .long to, .int al, .int wa, .int lf, .ref (A 10)])) :: (A 0, .inl (G.2.1.2.2.1, 12, .inr (.inr (.inr (.inr (saF TP)))))) :: (stP G TP ++ r)) := by
  refine Mt.of (by decide +kernel) rfl rfl (fun X B => ?_)
  show J G X mX7_count ((x, .inr (7, [.ref (A 0), .int (nI ns), .ref (A 1), .int (nI nr), .ref (A 2), .ref (A 3), .ref (A 4), .ref (A 5), .ref (A 6), .ref (A 7), .ref (A 8), .ref (A 9), .long to, .int al, .int wa, .int lf, .ref (A 10)])) :: (A 0, .inl (G.2.1.2.2.1, 12, .inr (.inr (.inr (.inr (saF TP)))))) :: (stP G TP ++ r)) 0 0 0 [(0, .ref x), (1, .int (2 : Int32))] []
  refine J.iload_n 1 dX7_count_0 rfl ?_
  refine J.tableIn dX7_count_1 (by decide) (by decide) (off := 45) rfl (tgt := 46) rfl ?_
  refine J.aload_n 0 dX7_count_46 rfl ?_
  refine J.callV 0 (st := []) B (c_X7_countOfLights l G _ hlen hns) ml_X7_251 mf_yX7_countOfLights mi_yX7_countOfLights rfl dX7_count_47 rfl rfl rfl rfl (fun v9 w9 hp9 => ?_)
  obtain ⟨rfl, rfl⟩ := hp9
  show J G X mX7_count _ _ _ 50 _ [.int (nI (lgN (qF TP) ns))]
  exact J.iret B dX7_count_50 rfl (⟨rfl, rfl⟩)
