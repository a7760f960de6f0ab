def WC (G : jG) (A D : Nat → Nat) (x m : Nat) (ns nr : Nat) (sa ra : Nat → Option Nat) (kk rr ml F cls wh rlo rhi rcl : Nat → Int32) (fc : Nat → Int32) (to : Int64) (al wa lf dl dp dc : Int32) (cz : Int32) (t u : Nat → Int32) (zs : Int32) (nu fp fl fs : Nat → Int32) (zl : Int32) (lti : Nat → Int32) (da dn : Int32) (d1 d2 d3 d4 ms sl : Nat → Int32) (ii : Int32) (de : Int64) (mv so rw0 od mlt : Nat → Int32) : va_W := [(x, .inr (7, [.ref (A 0), .int (nI ns), .ref (A 1), .int (nI nr), .ref (A 2), .ref (A 3), .ref (A 4), .ref (A 5), .ref (A 6), .ref (A 7), .ref (A 8), .ref (A 9), .long to, .int al, .int wa, .int lf, .ref (A 10)])),
  (A 0, .inl (G.2.1.2.2.1, 12, .inr (.inr (.inr (.inr sa))))),
  (A 2, .inl (G.2.1.1, 60, .inl F)),
  (A 3, .inr (1, [.ref (A 11), .ref (A 12), .int cz])),
  (A 11, .inl (G.2.1.1, 60, .inl t)),
  (A 12, .inl (G.2.1.1, 60, .inl u)),
  (A 4, .inr (0, [.ref (A 13), .int zs])),
  (A 13, .inl (G.2.1.1, 60, .inl nu)),
  (A 5, .inr (3, [.ref (A 14), .ref (A 15), .ref (A 16)])),
  (A 14, .inl (G.2.1.1, 60, .inl fp)),
  (A 15, .inl (G.2.1.1, 60, .inl fl)),
  (A 16, .inl (G.2.1.1, 601, .inl fs)),
  (A 6, .inr (4, [.ref (A 17), .int zl])),
  (A 17, .inl (G.2.1.1, 60, .inl lti)),
  (A 7, .inr (2, [.ref (A 18), .ref (A 19), .ref (A 20), .ref (A 21), .int da, .int dn, .int dl, .int dp, .int dc])),
  (A 18, .inl (G.2.1.1, 600, .inl d1)),
  (A 19, .inl (G.2.1.1, 600, .inl d2)),
  (A 20, .inl (G.2.1.1, 600, .inl d3)),
  (A 21, .inl (G.2.1.1, 600, .inl d4)),
  (A 8, .inl (G.2.1.1, 4, .inl ms)),
  (A 9, .inl (G.2.1.1, 12, .inl sl)),
  (A 10, .inl (G.2.1.1, 6, .inl fc)),
  (A 1, .inl (G.2.1.2.2.2, 10, .inr (.inr (.inr (.inr ra))))),
  (m, .inr (8, [.int lf, .ref (D 0), .long to, .int (nI ns), .ref (D 1), .ref (D 2), .ref (D 3), .ref (D 4), .ref (D 5), .ref (D 6), .ref (D 7), .ref (D 8), .int ii, .long de, .int dl, .int dp, .int dc, .ref (D 9), .int (nI nr), .ref (D 10), .ref (D 11), .ref (D 12), .ref (D 13), .ref (D 14), .int al, .int wa])),
  (D 0, .inl (G.2.1.1, 6, .inl fc)),
  (D 1, .inl (G.2.1.1, 12, .inl kk)),
  (D 2, .inl (G.2.1.2.1, 12, .inl rr)),
  (D 3, .inl (G.2.1.1, 720, .inl ml)),
  (D 4, .inl (G.2.1.1, 60, .inl F)),
  (D 5, .inl (G.2.1.1, 60, .inl mv)),
  (D 6, .inl (G.2.1.1, 60, .inl so)),
  (D 7, .inl (G.2.1.1, 12, .inl rw0)),
  (D 8, .inl (G.2.1.1, 60, .inl od)),
  (D 9, .inl (G.2.1.1, 60, .inl mlt)),
  (D 10, .inl (G.2.1.1, 10, .inl wh)),
  (D 11, .inl (G.2.1.1, 10, .inl rlo)),
  (D 12, .inl (G.2.1.1, 10, .inl rhi)),
  (D 13, .inl (G.2.1.1, 10, .inl rcl)),
  (D 14, .inl (G.2.1.1, 12, .inl cls))]
def WL (G : jG) (A D : Nat → Nat) (x m : Nat) (ns nr : Nat) (TP : List tR) (RP : List uR) (sa ra : Nat → Option Nat) (kk rr ml F cls wh rlo rhi rcl : Nat → Int32) (fc : Nat → Int32) (to : Int64) (al wa lf dl dp dc : Int32) (cz : Int32) (t u : Nat → Int32) (zs : Int32) (nu fp fl fs : Nat → Int32) (zl : Int32) (lti : Nat → Int32) (da dn : Int32) (d1 d2 d3 d4 ms sl : Nat → Int32) (ii : Int32) (de : Int64) (mv so rw0 od mlt : Nat → Int32) (r : va_W) : va_W := WC G A D x m ns nr sa ra kk rr ml F cls wh rlo rhi rcl fc to al wa lf dl dp dc cz t u zs nu fp fl fs zl lti da dn d1 d2 d3 d4 ms sl ii de mv so rw0 od mlt ++ (stP G TP ++ (ruP RP ++ r))
def lwK (G : jG) (X : jX) (bs : Nat) (A D : Nat → Nat) (x m : Nat) (ix : Nat) (r : va_W) : Prop := ∀ {ns nr : Nat} {TP : List tR} {RP : List uR} {sa ra : Nat → Option Nat} {kk rr ml F cls wh rlo rhi rcl : Nat → Int32} {fc : Nat → Int32} {to : Int64} {al wa lf dl dp dc : Int32} {cz : Int32} {t u : Nat → Int32} {zs : Int32} {nu fp fl fs : Nat → Int32} {zl : Int32} {lti : Nat → Int32} {da dn : Int32} {d1 d2 d3 d4 ms sl : Nat → Int32} {ii : Int32} {de : Int64} {mv so rw0 od mlt : Nat → Int32}, lwW ns nr TP RP sa ra kk rr ml F cls wh rlo rhi rcl → J G X mL (WL G A D x m ns nr TP RP sa ra kk rr ml F cls wh rlo rhi rcl fc to al wa lf dl dp dc cz t u zs nu fp fl fs zl lti da dn d1 d2 d3 d4 ms sl ii de mv so rw0 od mlt r) (39 + 2 * ns + nr) (4641 + 64 * ns + 4 * nr) 1421 [(0, .ref bs), (1, .ref x), (2, .ref m), (3, .int (nI ix))] []
theorem pool_swap3 {os P Q r : va_W} : (os ++ (P ++ (Q ++ r))).Perm (Q ++ (os ++ (P ++ r))) := by
  have h := pool_swap (os := os ++ P) (P := Q) (r := r)
  rw [List.append_assoc, List.append_assoc] at h
  exact h
theorem stP_out2 {G : jG} {TP : List tR} {a b : tR} {rem : List tR} (h : TP.Perm (a :: b :: rem)) (R : va_W) : (stP G TP ++ R).Perm (stC G a ++ (stC G b ++ (stP G rem ++ R))) := by
  have h1 := List.Perm.append_right R (stP_perm (G := G) h)
  have e : stP G (a :: b :: rem) ++ R = stC G a ++ (stC G b ++ (stP G rem ++ R)) := by
    unfold stP
    rw [List.flatMap_cons, List.flatMap_cons, List.append_assoc, List.append_assoc]
  rw [← e]
  exact h1
theorem stP_two {TP : List tR} {k k2 : Nat} (h : k < TP.length) (h2 : k2 < TP.length) (hne : ¬ k = k2) : ∃ rem : List tR, TP.Perm (tD TP k :: tD TP k2 :: rem) ∧ ∀ q : tR, (TP.set k2 q).Perm (tD TP k :: q :: rem) := by
  have e1 : (TP.eraseIdx k2)[if k < k2 then k else k - 1]? = some (tD TP k) := by
    rw [List.getElem?_eraseIdx]
    by_cases z : k < k2
    · rw [if_pos z, if_pos z]
      exact tD_get h
    · rw [if_neg z, if_neg (by omega), show k - 1 + 1 = k by omega]
      exact tD_get h
  have e2 := erase_perm e1
  refine ⟨_, ((erase_perm (tD_get h2)).trans (List.Perm.cons _ e2)).trans (List.Perm.swap _ _ _), fun q => ?_⟩
  have e3 : (TP.set k2 q)[k2]? = some q := by rw [List.getElem?_set_self h2]
  have e4 := erase_perm e3
  rw [List.eraseIdx_set_eq] at e4
  exact (e4.trans (List.Perm.cons _ e2)).trans (List.Perm.swap _ _ _)
section LI2
variable {ns nr : Nat} {TP : List tR} {RP : List uR} {sa ra : Nat → Option Nat} {kk rr ml F cls wh rlo rhi rcl : Nat → Int32} {k : Nat}
theorem tD_any (hq : qF TP = mqF ns kk rr ml cls) (hk : k < ns) : ∃ s la b L, tD TP k = ((s, la), kk k, b, L, cls k) := by
  have h : (tD TP k).2 = mqF ns kk rr ml cls k := congrFun hq k
  have h1 : (tD TP k).2.1 = kk k := by
    rw [h]
    exact mq_k hk
  have h2 : (tD TP k).2.2.2.2 = cls k := by
    rw [h]
    exact mq_c hk
  exact ⟨(tD TP k).1.1, (tD TP k).1.2, (tD TP k).2.2.1, (tD TP k).2.2.2.1, Prod.ext rfl (Prod.ext h1 (Prod.ext rfl (Prod.ext rfl h2)))⟩
theorem mq_sim {rr' ml' : Nat → Int32} {j : Nat} (hj : j < ns) (hr : rr' j = rr j) (hm : ∀ x, x < 60 → rowM ml j x = rowM ml' j x) : sqS (mqF ns kk rr ml cls j) (mqF ns kk rr' ml' cls j) := by
  by_cases h : rr j = 0
  · rw [mq_no hj h, mq_no hj (by rw [hr]; exact h)]
    exact sqS.rf _
  · rw [mq_yes hj h, mq_yes hj (by rw [hr]; exact h)]
    exact ⟨rfl, rfl, hm, rfl⟩
theorem lw_set {s la : Nat} {b : Bool} {L' rr' ml' : Nat → Int32} (h : lwI ns nr TP RP kk rr ml F cls wh rlo rhi rcl) (hk : k < ns) (had : (tD TP k).1 = (s, la)) (hk' : sqS (kk k, b, L', cls k) (mqF ns kk rr' ml' cls k)) (ho : ∀ j, j < ns → ¬ j = k → sqS (mqF ns kk rr ml cls j) (mqF ns kk rr' ml' cls j)) (hr' : ∀ j, ns ≤ j → rr' j = rr j) (hm' : ∀ j, j < 720 → lgB (ml' j)) : lwW ns nr (TP.set k ((s, la), kk k, b, L', cls k)) RP (saF TP) (raF RP) kk rr' ml' F cls wh rlo rhi rcl := by
  obtain ⟨h1, h2, h3, h4, h5, h6, h7, h8, h9⟩ := h
  refine ⟨by rw [List.length_set]; exact h1, h2, h3, h4, h5, saF_set (by omega) (by rw [had]), rfl, fun j hj => ?_, fun j a b => ⟨by rw [hr' j a]; exact (h7 j a b).1, (h7 j a b).2⟩, hm', h9⟩
  by_cases e : k = j
  · subst e
    unfold qF
    rw [tD_set_self (by omega)]
    exact hk'
  · have e2 : qF (TP.set k ((s, la), kk k, b, L', cls k)) j = qF TP j := by
      unfold qF
      rw [tD_set_ne e]
    rw [e2, h6]
    exact ho j hj (fun z => e z.symm)
theorem iw_row {s la : Nat} {L : Nat → Int32} (h : lwI ns nr TP RP kk rr ml F cls wh rlo rhi rcl) (hk : k < ns) (had : (tD TP k).1 = (s, la)) : lwW ns nr (TP.set k ((s, la), kk k, true, flA L (-9) 60, cls k)) RP (saF TP) (raF RP) kk (upd rr k 1) (flM ml k 60) F cls wh rlo rhi rcl := by
  have h8 := h.2.2.2.2.2.2.2.1
  refine lw_set h hk had ?_ (fun j hj e => mq_sim hj (pk_un e) (fun x hx => ?_)) (fun j hj => pk_un (by omega)) (fun j hj => ?_)
  · rw [mq_yes hk (by rw [pk_us]; decide)]
    refine ⟨rfl, rfl, fun j hj => ?_, rfl⟩
    show flA L (-9) 60 j = flM ml k 60 (60 * k + j)
    unfold flM
    rw [flA_in hj, if_pos (by omega)]
  · show ml (60 * j + x) = flM ml k 60 (60 * j + x)
    unfold flM
    rw [if_neg (by omega)]
  · unfold flM
    split
    · exact Or.inl rfl
    · exact h8 j hj
theorem iw_tear {s la : Nat} {L : Nat → Int32} (h : lwI ns nr TP RP kk rr ml F cls wh rlo rhi rcl) (hk : k < ns) (had : (tD TP k).1 = (s, la)) : lwW ns nr (TP.set k ((s, la), kk k, false, flA L (-9) 60, cls k)) RP (saF TP) (raF RP) kk (upd rr k 0) ml F cls wh rlo rhi rcl := by
  refine lw_set h hk had ?_ (fun j hj e => mq_sim hj (pk_un e) (fun x hx => rfl)) (fun j hj => pk_un (by omega)) h.2.2.2.2.2.2.2.1
  rw [mq_no hk pk_us]
  exact ⟨rfl, rfl, fun j hj => flA_in hj, rfl⟩
theorem iw_lay {s la nt : Nat} {v0 : Int32} (h : lwI ns nr TP RP kk rr ml F cls wh rlo rhi rcl) (hk : k < ns) (had : (tD TP k).1 = (s, la)) (hr : ¬ rr k = 0) (hn0 : nt < 60) (hv : v0 = -9 ∨ inR v0 0 10000 = true) : lwW ns nr (TP.set k ((s, la), kk k, true, upd (rowM ml k) nt v0, cls k)) RP (saF TP) (raF RP) kk rr (upd ml (60 * k + nt) v0) F cls wh rlo rhi rcl := by
  have h8 := h.2.2.2.2.2.2.2.1
  refine lw_set h hk had ?_ (fun j hj e => mq_sim hj rfl (fun x hx => ?_)) (fun j hj => rfl) (fun j hj => ?_)
  · rw [mq_yes hk hr]
    refine ⟨rfl, rfl, fun j hj => ?_, rfl⟩
    show upd (rowM ml k) nt v0 j = upd ml (60 * k + nt) v0 (60 * k + j)
    by_cases e : j = nt
    · subst e
      rw [pk_us, pk_us]
    · rw [pk_un e, pk_un (by omega)]
      rfl
  · show ml (60 * j + x) = upd ml (60 * k + nt) v0 (60 * j + x)
    rw [pk_un (by omega)]
  · by_cases e : j = 60 * k + nt
    · subst e
      rw [pk_us]
      exact hv.imp id inR_of
    · rw [pk_un e]
      exact h8 j hj
theorem iw_copy {k2 s la i j n : Nat} (h : lwI ns nr TP RP kk rr ml F cls wh rlo rhi rcl) (hk : k < ns) (hk2 : k2 < ns) (had : (tD TP k2).1 = (s, la)) (hr2 : ¬ rr k2 = 0) (h1 : i + n ≤ 60) (h2 : j + n ≤ 60) : lwW ns nr (TP.set k2 ((s, la), kk k2, true, va_cpy (rowM ml k) (rowM ml k2) i j n, cls k2)) RP (saF TP) (raF RP) kk rr (va_cpy ml ml (60 * k + i) (60 * k2 + j) n) F cls wh rlo rhi rcl := by
  have h8 := h.2.2.2.2.2.2.2.1
  have hns := h.2.1
  refine lw_set h hk2 had ?_ (fun y hy e => mq_sim hy rfl (fun x hx => ?_)) (fun j hj => rfl) (fun y hy => ?_)
  · rw [mq_yes hk2 hr2]
    refine ⟨rfl, rfl, fun x hx => ?_, rfl⟩
    show va_cpy (rowM ml k) (rowM ml k2) i j n x = va_cpy ml ml (60 * k + i) (60 * k2 + j) n (60 * k2 + x)
    unfold va_cpy
    by_cases e : j ≤ x ∧ x < j + n
    · rw [if_pos e, if_pos (by omega)]
      show ml (60 * k + (i + (x - j))) = _
      congr 1
      omega
    · rw [if_neg e, if_neg (by omega)]
      rfl
  · show ml (60 * y + x) = va_cpy ml ml (60 * k + i) (60 * k2 + j) n (60 * y + x)
    unfold va_cpy
    rw [if_neg (by omega)]
  · unfold va_cpy
    split
    · exact h8 _ (by omega)
    · exact h8 y hy
theorem tD_app_lt {t : tR} (h : k < TP.length) : tD (TP ++ [t]) k = tD TP k := by
  unfold tD
  rw [List.getD_eq_getElem?_getD, List.getD_eq_getElem?_getD, List.getElem?_append_left h]
theorem tD_app_eq {t : tR} : tD (TP ++ [t]) TP.length = t := by
  unfold tD
  rw [List.getD_eq_getElem?_getD, List.getElem?_append_right (Nat.le_refl _), Nat.sub_self]
  rfl
theorem iw_star {q q2 : Nat} {a : Int32} (h : lwI ns nr TP RP kk rr ml F cls wh rlo rhi rcl) (hn : ns < 12) : lwW (ns + 1) nr (TP ++ [((q, q2), a, false, flA (fun _ => 0) (-9) 60, -9)]) RP (va_up (saF TP) ns (some q)) (raF RP) (upd kk ns a) rr ml F cls wh rlo rhi rcl := by
  obtain ⟨h1, h2, h3, h4, h5, h6, h7, h8, h9⟩ := h
  subst h1
  refine ⟨by rw [List.length_append]; rfl, by omega, h3, h4, h5, (saF_snoc TP _).symm, rfl, fun k hk => ?_, fun k a b => h7 k (by omega) b, h8, h9⟩
  by_cases e : k = TP.length
  · subst e
    have h10 := h7 TP.length (Nat.le_refl _) (by omega)
    unfold qF
    rw [tD_app_eq, mq_no (by omega) h10.1, pk_us, h10.2]
    exact ⟨rfl, rfl, fun j hj => show flA (fun _ => 0) (-9) 60 j = -9 from flA_in hj, rfl⟩
  · have e2 : qF (TP ++ [((q, q2), a, false, flA (fun _ => 0) (-9) 60, -9)]) k = qF TP k := by
      unfold qF
      rw [tD_app_lt (by omega)]
    rw [e2, h6]
    by_cases e3 : rr k = 0
    · rw [mq_no (by omega) e3, mq_no (by omega) e3, pk_un e]
      exact sqS.rf _
    · rw [mq_yes (by omega) e3, mq_yes (by omega) e3, pk_un e]
      exact sqS.rf _
theorem iw_rule {q w : Nat} {lo hi c : Int32} (h : lwI ns nr TP RP kk rr ml F cls wh rlo rhi rcl) (hn : nr < 10) (hw : w < 4) : lwW ns (nr + 1) TP (RP ++ [(q, w, lo, hi, c)]) (saF TP) (va_up (raF RP) nr (some q)) kk rr ml F cls (upd wh nr (nI w)) (upd rlo nr lo) (upd rhi nr hi) (upd rcl nr c) := by
  obtain ⟨h1, h2, h3, h4, h5, h6, h7, h8, h9⟩ := h
  subst h3
  refine ⟨h1, h2, by rw [List.length_append]; rfl, by omega, fun i hil => ?_, rfl, (raF_snoc RP _).symm, fun k hk => by rw [h6]; exact sqS.rf _, h7, h8, h9⟩
  rw [List.length_map, List.length_append] at hil
  have hil : i < RP.length + 1 := hil
  by_cases e : i = RP.length
  · subst e
    have e2 : rD ((RP ++ [(q, w, lo, hi, c)]).map Prod.snd) RP.length = (w, lo, hi, c) := by
      unfold rD
      rw [List.getD_eq_getElem?_getD, List.getElem?_map, List.getElem?_append_right (Nat.le_refl _), Nat.sub_self]
      rfl
    rw [e2, pk_us, pk_us, pk_us, pk_us]
    exact ⟨rfl, rfl, rfl, rfl, hw⟩
  · have e2 : rD ((RP ++ [(q, w, lo, hi, c)]).map Prod.snd) i = rD (RP.map Prod.snd) i := by
      unfold rD
      rw [List.getD_eq_getElem?_getD, List.getD_eq_getElem?_getD, List.getElem?_map, List.getElem?_map, List.getElem?_append_left (by omega)]
    rw [e2, pk_un e, pk_un e, pk_un e, pk_un e]
    exact h5 i (by rw [List.length_map]; omega)
theorem lw_F {F' : Nat → Int32} (h : lwI ns nr TP RP kk rr ml F cls wh rlo rhi rcl) (hF : ∀ j, j < 60 → -10000 ≤ (F' j).toInt ∧ (F' j).toInt ≤ 10000) : lwW ns nr TP RP (saF TP) (raF RP) kk rr ml F' cls wh rlo rhi rcl := by
  obtain ⟨h1, h2, h3, h4, h5, h6, h7, h8, h9⟩ := h
  exact ⟨h1, h2, h3, h4, h5, rfl, rfl, fun k hk => by rw [h6]; exact sqS.rf _, h7, h8, hF⟩
theorem iw_foot {nt : Nat} {v0 : Int32} (h : lwI ns nr TP RP kk rr ml F cls wh rlo rhi rcl) (hv : inR v0 (-10000) 10000 = true) : lwW ns nr TP RP (saF TP) (raF RP) kk rr ml (upd F nt v0) cls wh rlo rhi rcl := by
  have h9 := h.2.2.2.2.2.2.2.2
  refine lw_F h (fun j hj => ?_)
  by_cases e : j = nt
  · subst e
    rw [pk_us]
    exact inR_of hv
  · rw [pk_un e]
    exact h9 j hj
theorem bsz_mem {y : Int32} : ∀ (vs a : List Int32), y ∈ vs.foldl (fun a v => insR v a) a → y ∈ vs ∨ y ∈ a
  | [], _, h => Or.inr h
  | v :: vs, a, h => by
    rw [List.foldl_cons] at h
    rcases bsz_mem vs _ h with h | h
    · exact Or.inl (List.mem_cons_of_mem _ h)
    · rcases insR_mem h with h | h
      · exact Or.inl (h ▸ List.mem_cons_self)
      · exact Or.inr h
theorem midV_bd {vs : List Int32} {lo hi : Int} (h0 : lo ≤ 0) (h1 : 0 ≤ hi) (h : ∀ v ∈ vs, lo ≤ v.toInt ∧ v.toInt ≤ hi) : lo ≤ (midV vs).toInt ∧ (midV vs).toInt ≤ hi := by
  unfold midV
  split
  · exact ⟨h0, h1⟩
  · rename_i hne
    have hlt : vs.length - 1 - vs.length / 2 < (bsz vs).length := by
      rw [bsz_len]
      omega
    rw [List.getD_eq_getElem?_getD, List.getElem?_eq_getElem hlt]
    refine h _ ?_
    rcases bsz_mem vs [] (List.getElem_mem hlt) with h | h
    · exact h
    · cases h
theorem lv_bd {q : Nat → sR} (hq : ∀ k, k < ns → ∀ j, j < 60 → lgB ((q k).2.2.1 j)) (hk : k < ns) : 0 ≤ (lvQ q k).toInt ∧ (lvQ q k).toInt ≤ 10000 := by
  refine midV_bd (Int.le_refl _) (by decide) (fun v hv => ?_)
  obtain ⟨j, hj, rfl⟩ := List.mem_map.mp hv
  have h1 := mem_nts.mp hj
  exact (hq k hk j h1.1).resolve_left h1.2
theorem df_bd {q : Nat → sR} (hq : ∀ k, k < ns → ∀ j, j < 60 → lgB ((q k).2.2.1 j)) {nt : Nat} (hnt : nt < 60) : ∀ n, n ≤ ns → ∀ v ∈ dfL q nt n, -10000 ≤ v.toInt ∧ v.toInt ≤ 10000
  | 0, _, v, h => by cases h
  | n + 1, hn, v, h => by
    unfold dfL at h
    split at h
    · rename_i hc
      rcases List.mem_append.mp h with h | h
      · exact df_bd hq hnt n (by omega) v h
      · rw [List.mem_singleton.mp h]
        have h1 := (hq n (by omega) nt hnt).resolve_left hc.2
        have h2 := lv_bd hq (k := n) (by omega)
        rw [sub_bd (by omega) (by omega)]
        omega
    · exact df_bd hq hnt n (by omega) v h
theorem iw_level (h : lwI ns nr TP RP kk rr ml F cls wh rlo rhi rcl) : lwW ns nr TP RP (saF TP) (raF RP) kk rr ml (fiF F (fLv (mqF ns kk rr ml cls) ns) 60) cls wh rlo rhi rcl := by
  have h8 := h.2.2.2.2.2.2.2.1
  have hns := h.2.1
  refine lw_F h (fun j hj => ?_)
  rw [fiF_in hj]
  refine midV_bd (by decide) (by decide) (df_bd (ns := ns) (fun k hk y hy => ?_) hj ns (Nat.le_refl _))
  by_cases hr : rr k = 0
  · rw [mq_no hk hr]
    exact Or.inl rfl
  · rw [mq_yes hk hr]
    exact h8 _ (by omega)
theorem iw_watch {c : Nat → Int32} (h : lwI ns nr TP RP kk rr ml F cls wh rlo rhi rcl) : lwW ns nr (tpW c TP ns) RP (saF TP) (raF RP) kk rr ml F (fiF cls c ns) wh rlo rhi rcl := by
  obtain ⟨h1, h2, h3, h4, h5, h6, h7, h8, h9⟩ := h
  refine ⟨by rw [tpW_len]; exact h1, h2, h3, h4, h5, saF_tpW _ _ _ (by omega), rfl, fun k hk => ?_, fun k a b => ⟨(h7 k a b).1, by rw [fiF_ge (by omega)]; exact (h7 k a b).2⟩, h8, h9⟩
  have e1 : qF (tpW c TP ns) k = ((qF TP k).1, (qF TP k).2.1, (qF TP k).2.2.1, c k) := by
    unfold qF
    rw [tpW_lt c TP ns k hk (by omega)]
    rfl
  rw [e1, h6]
  by_cases hr : rr k = 0
  · rw [mq_no hk hr, mq_no hk hr, fiF_in hk]
    exact sqS.rf _
  · rw [mq_yes hk hr, mq_yes hk hr, fiF_in hk]
    exact sqS.rf _
end LI2
