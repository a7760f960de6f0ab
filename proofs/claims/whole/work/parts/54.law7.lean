/-! THE CLAIM OUT OF ONE WALK OF THE LAW'S BODY. Your part is whole_start (and what it stands on); all else here is the same for every law, but numbers. -/
def R_law : String := "ChangingStarsLaw"
def lw_P (b : Addr) (xs : List Int32) (args : Array Value) (s : State) : Prop := args = #[.ref b] ∧ s.IntsAt b xs ∧ xs.length ≤ 3584 ∧ (Jvm.Cond.and given_1 narrow_1).before args s = true
def lw_Q (_ : Array Value) (s : State) (o : Outcome) (t : State) : Prop := o = .returned (some (.int 1)) ∧ Framed s o t [] 600000 7302250
def lw_Z (below : List Frame) (a : Array Value) (s : State) : State → Prop := fun t => ∃ o, t.status = .running ∧ Ended t below o ∧ lw_Q a s o t
/-- the law's own end, with 1 on the stack, nothing written that was there before, its room as the claim has it -/
theorem lw_ret {p : Program} {l : Launch} {e : Env} {s : State} {m : MethodId} {below : List Frame} {meth : Method} {c : Code} {b : Nat} (hx : p.tables.exec = Jvm.exec) (hb : c.code = code) (hr : meth.sig.returnType = ret) (hlocks : meth.locks = false) {pc : Nat} {H : Heap} {ls : Array Slot} (hdg : decode code pc = .ok (.ireturn, 1)) : W p l e room_1 s m #[Value.ref b] below meth c H [] 600000 7302250 (lw_Z below #[Value.ref b] s) (F0 m pc ls [.int 1]) := by
  intro T hT X
  obtain ⟨fs, hret, hrun, hended, hW, hframe⟩ := X.leave (v := some (.int 1)) (hlocks := hlocks) (fun h => by rw [hr] at h; cases h)
  have hmeth' : T.vm.method? m = some meth := X.method'
  refine ⟨T.setFrames fs, ?_, .returned (some (.int 1)), hrun, hended, rfl, ⟨_, rfl⟩, hW, hframe⟩
  jvm_step X.here [X.here.top, hx, hb, hdg, hmeth', hr, ret, narrow_b1]
  (try refine ⟨rfl, ?_⟩); (try refine ⟨rfl, ?_⟩)
  first | (intro acts; rw [hret _ acts rfl rfl rfl]) | rw [hret _ _ rfl rfl rfl]
  exact Steps.refl _
/-- what holds at the law's entry: the machine, the code, the tables' words (any of lw_tbl by 'hts w (by decide +kernel)'), the script of L ints xs at the cell b, what the Statement gives of the start (any of its parts by flat_of_before) -/
def lw_At (p : Program) (s : State) (m : MethodId) (meth : Method) (c : Code) (b L : Nat) (xs : Nat → Int32) : Prop :=
  p.tables.exec = Jvm.exec ∧ c.code = code ∧ meth.sig.returnType = ret ∧ c.maxLocals = 4 ∧ s.vm.findClass R_law = some m.cls ∧ (∀ w ∈ lw_tbl, w.before #[Value.ref b] s = true) ∧ va_X b L xs s s.heap ∧ b < s.heap.size ∧ meth.locks = false ∧ (Jvm.Cond.and given_1 narrow_1).before #[Value.ref b] s = true
theorem law_end {G : jG} {p : Program} {l : Launch} {e : Env} {s : State} {m : MethodId} {below : List Frame} {meth : Method} {c : Code} {b : Nat} (hz : G.2.2 = s.heap.size) (ws : va_W) (k n : Nat) (lv : List (Nat × Value)) (hk : k ≤ 600000) (hn : n ≤ 7302250) : J G (p, l, e, room_1, s, m, #[Value.ref b], below, meth, c, lw_Z below #[Value.ref b] s) mL ws k n 1428 lv [.int 1] := by
  intro C H locs ls hW hS hl
  refine va_forget (fun q hq => ?_) (W.widen hk hn (lw_ret C.1 C.2.1 C.2.2.2.2.2.2.1 C.2.2.2.2.2.2.2.1 dL_law_1428.1))
  have h := hS.2.2 q hq
  unfold jA at h
  omega
set_option maxHeartbeats 4000000 in
set_option maxRecDepth 100000 in
theorem law_loop {l : Launch} {G : jG} {X : jX} {bs N : Nat} {xs : Nat → Int32} {A D : Nat → Nat} {x m : Nat} {ns nr : Nat} {TP : List tR} {RP : List uR} {kk rr ml F cls wh rlo rhi rcl : Nat → Int32} {fc : Nat → Int32} {to : Int64} {al wa lf dl dp dc : Int32} {cz : Int32} {t u : Nat → Int32} {zs : Int32} {nu fp fl fs : Nat → Int32} {zl : Int32} {lti : Nat → Int32} {da dn : Int32} {d1 d2 d3 d4 ms sl : Nat → Int32} {ii : Int32} {de : Int64} {mv so rw0 od mlt : Nat → Int32} {r : va_W} (B : jB0 l X 9 334 600000 7302250) (S : jS G X bs N xs) (hN : N ≤ 3584) (hE : ∀ (ws : va_W) (k n : Nat) (lv : List (Nat × Value)), k ≤ 600000 → n ≤ 7302250 → J G X mL ws k n 1428 lv [.int 1]) (ix : Nat) (hi0 : ix ≤ N) (hI : lwI ns nr TP RP kk rr ml F cls wh rlo rhi rcl) : J G X mL (WL G A D x m ns nr TP RP (saF TP) (raF RP) kk rr ml F cls wh rlo rhi rcl fc to al wa lf dl dp dc cz t u zs nu fp fl fs zl lti da dn d1 d2 d3 d4 ms sl ii de mv so rw0 od mlt r) (39 + 2 * ns + nr) (4641 + 64 * ns + 4 * nr) 18 [(0, .ref bs), (1, .ref x), (2, .ref m), (3, .int (nI ix))] [] := by
  have hns := hI.2.1
  have hnr := hI.2.2.2.1
  have e7 : (nI N - 7).toInt = (N : Int) - 7 := pk_sub_toInt (a := N) (b := 7) (by omega) (by omega)
  have ei : (nI ix).toInt = (ix : Int) := nI_toInt (by omega)
  refine J.iload_n 3 dL_law_18 rfl ?_
  refine J.aload_n 0 dL_law_19 rfl ?_
  refine J.slen S dL_law_20 ?_
  refine J.bipush (7 : Int32) dL_law_21 rfl ?_
  refine J.isub dL_law_23 ?_
  refine J.icmp_gt dL_law_24 (fun h => ?_) (fun h => ?_)
  · refine J.iconst (1 : Int32) dL_law_1427 rfl ?_
    exact hE _ _ _ _ (by omega) (by omega)
  · rw [fa_lt, e7, ei] at h
    have hix : ix + 7 ≤ N := by omega
    have hK : lwK G X bs A D x m ix r := by
      intro ns nr TP RP sa ra kk rr ml F cls wh rlo rhi rcl fc to al wa lf dl dp dc cz t u zs nu fp fl fs zl lti da dn d1 d2 d3 d4 ms sl ii de mv so rw0 od mlt hW
      refine J.iinc 3 [1, 2, 3, 0] (lv' := [(0, .ref bs), (1, .ref x), (2, .ref m), (3, .int (nI (ix + 7)))]) dL_law_1421 rfl (jincn _ _) rfl rfl ?_
      refine J.goto dL_law_1424 ?_
      have hI2 := hW.i
      obtain ⟨h1, -, -, -, -, rfl, rfl, h6, -⟩ := id hW
      refine J.norm (q := mqF ns kk rr ml cls) (fun j hj => h6 j (by omega)) ?_
      have h9 := law_loop (r := r) (A := A) (D := D) (x := x) (m := m) (fc := fc) (to := to) (al := al) (wa := wa) (lf := lf) (dl := dl) (dp := dp) (dc := dc) (cz := cz) (t := t) (u := u) (zs := zs) (nu := nu) (fp := fp) (fl := fl) (fs := fs) (zl := zl) (lti := lti) (da := da) (dn := dn) (d1 := d1) (d2 := d2) (d3 := d3) (d4 := d4) (ms := ms) (sl := sl) (ii := ii) (de := de) (mv := mv) (so := so) (rw0 := rw0) (od := od) (mlt := mlt) B S hN hE (ix + 7) (by omega) hI2
      rw [saF_tpN] at h9
      exact h9
    refine J.aload_n 0 dL_law_27 rfl ?_
    refine J.iload_n 3 dL_law_28 rfl ?_
    refine J.sld S dL_law_29 rfl (by omega) (by omega) rfl ?_
    refine J.bipush (63 : Int32) dL_law_30 rfl ?_
    refine J.iand dL_law_32 ?_
    by_cases hw : inR (xs ix &&& 63) 0 34 = true
    · obtain ⟨j, hj, j8, j9⟩ := inR_nat hw (by decide)
      refine J.topi (y := nI j) hj ?_
      clear hj j8
      match j, j9 with
      | 0, _ =>
        refine J.tableIn dL_law_33 (by decide) (by decide) (off := 155) rfl (tgt := 188) rfl ?_
        exact lw_star B S (by omega) hix rfl hI hK
      | 1, _ =>
        refine J.tableIn dL_law_33 (by decide) (by decide) (off := 178) rfl (tgt := 211) rfl ?_
        exact lw_is B S (by omega) hix rfl rfl hI hK
      | 2, _ =>
        refine J.tableIn dL_law_33 (by decide) (by decide) (off := 211) rfl (tgt := 244) rfl ?_
        exact lw_mark B S (by omega) hix rfl rfl hI hK
      | 3, _ =>
        refine J.tableIn dL_law_33 (by decide) (by decide) (off := 244) rfl (tgt := 277) rfl ?_
        exact lw_row B S (by omega) hix rfl hI hK
      | 4, _ =>
        refine J.tableIn dL_law_33 (by decide) (by decide) (off := 267) rfl (tgt := 300) rfl ?_
        exact lw_lay B S (by omega) hix rfl rfl rfl hI hK
      | 5, _ =>
        refine J.tableIn dL_law_33 (by decide) (by decide) (off := 310) rfl (tgt := 343) rfl ?_
        exact lw_at B S (by omega) hix rfl rfl hI hK
      | 6, _ =>
        refine J.tableIn dL_law_33 (by decide) (by decide) (off := 343) rfl (tgt := 376) rfl ?_
        exact lw_light B S (by omega) hix rfl rfl hI hK
      | 7, _ =>
        refine J.tableIn dL_law_33 (by decide) (by decide) (off := 376) rfl (tgt := 409) rfl ?_
        exact lw_tear B S (by omega) hix rfl hI hK
      | 8, _ =>
        refine J.tableIn dL_law_33 (by decide) (by decide) (off := 399) rfl (tgt := 432) rfl ?_
        exact lw_copy B S (by omega) hix rfl rfl rfl rfl rfl hI hK
      | 9, _ =>
        refine J.tableIn dL_law_33 (by decide) (by decide) (off := 462) rfl (tgt := 495) rfl ?_
        exact lw_foot B S (by omega) hix rfl rfl hI hK
      | 10, _ =>
        refine J.tableIn dL_law_33 (by decide) (by decide) (off := 495) rfl (tgt := 528) rfl ?_
        exact lw_footing B S (by omega) hix rfl hI hK
      | 11, _ =>
        refine J.tableIn dL_law_33 (by decide) (by decide) (off := 518) rfl (tgt := 551) rfl ?_
        exact lw_level B S (by omega) hix  hI hK
      | 12, _ =>
        refine J.tableIn dL_law_33 (by decide) (by decide) (off := 531) rfl (tgt := 564) rfl ?_
        exact lw_levelOf B S (by omega) hix rfl hI hK
      | 13, _ =>
        refine J.tableIn dL_law_33 (by decide) (by decide) (off := 554) rfl (tgt := 587) rfl ?_
        exact lw_mean B S (by omega) hix rfl hI hK
      | 14, _ =>
        refine J.tableIn dL_law_33 (by decide) (by decide) (off := 577) rfl (tgt := 610) rfl ?_
        exact lw_phase B S (by omega) hix rfl rfl rfl hI hK
      | 15, _ =>
        refine J.tableIn dL_law_33 (by decide) (by decide) (off := 620) rfl (tgt := 653) rfl ?_
        exact lw_string B S (by omega) hix rfl rfl rfl hI hK
      | 16, _ =>
        refine J.tableIn dL_law_33 (by decide) (by decide) (off := 663) rfl (tgt := 696) rfl ?_
        exact lw_period B S (by omega) hix rfl rfl rfl rfl hI hK
      | 17, _ =>
        refine J.tableIn dL_law_33 (by decide) (by decide) (off := 716) rfl (tgt := 749) rfl ?_
        exact lw_asWell B S (by omega) hix rfl rfl rfl rfl rfl hI hK
      | 18, _ =>
        refine J.tableIn dL_law_33 (by decide) (by decide) (off := 779) rfl (tgt := 812) rfl ?_
        exact lw_depth B S (by omega) hix rfl rfl rfl rfl hI hK
      | 19, _ =>
        refine J.tableIn dL_law_33 (by decide) (by decide) (off := 832) rfl (tgt := 865) rfl ?_
        exact lw_dip B S (by omega) hix rfl rfl rfl hI hK
      | 20, _ =>
        refine J.tableIn dL_law_33 (by decide) (by decide) (off := 875) rfl (tgt := 908) rfl ?_
        exact lw_dipOf B S (by omega) hix rfl hI hK
      | 21, _ =>
        refine J.tableIn dL_law_33 (by decide) (by decide) (off := 898) rfl (tgt := 931) rfl ?_
        exact lw_lows B S (by omega) hix rfl rfl hI hK
      | 22, _ =>
        refine J.tableIn dL_law_33 (by decide) (by decide) (off := 931) rfl (tgt := 964) rfl ?_
        exact lw_low B S (by omega) hix rfl rfl rfl hI hK
      | 23, _ =>
        refine J.tableIn dL_law_33 (by decide) (by decide) (off := 974) rfl (tgt := 1007) rfl ?_
        exact lw_turn B S (by omega) hix rfl rfl rfl rfl rfl rfl hI hK
      | 24, _ =>
        refine J.tableIn dL_law_33 (by decide) (by decide) (off := 1049) rfl (tgt := 1082) rfl ?_
        exact lw_late B S (by omega) hix rfl rfl rfl rfl rfl rfl hI hK
      | 25, _ =>
        refine J.tableIn dL_law_33 (by decide) (by decide) (off := 1124) rfl (tgt := 1157) rfl ?_
        exact lw_bent B S (by omega) hix rfl rfl rfl rfl rfl rfl hI hK
      | 26, _ =>
        refine J.tableIn dL_law_33 (by decide) (by decide) (off := 1199) rfl (tgt := 1232) rfl ?_
        exact lw_rule B S (by omega) hix rfl rfl rfl rfl hI hK
      | 27, _ =>
        refine J.tableIn dL_law_33 (by decide) (by decide) (off := 1252) rfl (tgt := 1285) rfl ?_
        exact lw_classOf B S (by omega) hix rfl hI hK
      | 28, _ =>
        refine J.tableIn dL_law_33 (by decide) (by decide) (off := 1275) rfl (tgt := 1308) rfl ?_
        exact lw_watch B S (by omega) hix  hI hK
      | 29, _ =>
        refine J.tableIn dL_law_33 (by decide) (by decide) (off := 1288) rfl (tgt := 1321) rfl ?_
        exact lw_alarms B S (by omega) hix  hI hK
      | 30, _ =>
        refine J.tableIn dL_law_33 (by decide) (by decide) (off := 1301) rfl (tgt := 1334) rfl ?_
        exact lw_asked B S (by omega) hix  hI hK
      | 31, _ =>
        refine J.tableIn dL_law_33 (by decide) (by decide) (off := 1315) rfl (tgt := 1348) rfl ?_
        exact lw_count B S (by omega) hix rfl hI hK
      | 32, _ =>
        refine J.tableIn dL_law_33 (by decide) (by decide) (off := 1338) rfl (tgt := 1371) rfl ?_
        exact lw_finding B S (by omega) hix  hI hK
      | 33, _ =>
        refine J.tableIn dL_law_33 (by decide) (by decide) (off := 1351) rfl (tgt := 1384) rfl ?_
        exact lw_findings B S (by omega) hix rfl hI hK
      | 34, _ =>
        refine J.tableIn dL_law_33 (by decide) (by decide) (off := 1374) rfl (tgt := 1407) rfl ?_
        exact lw_digest B S (by omega) hix  hI hK
      | j + 35, h9 => exact absurd h9 (by omega)
    · have hw := inR_no (Bool.eq_false_iff.mpr hw)
      refine J.tableOut dL_law_33 (by omega) (tgt := 1421) rfl ?_
      exact hK hI.w
termination_by N - ix
decreasing_by all_goals omega
set_option maxHeartbeats 4000000 in
set_option maxRecDepth 100000 in
theorem law_inv0 : lwI 0 0 [] [] (fun _ => 0) (fun _ => 0) (fun _ => 0) (fun _ => 0) (flA (fun _ => 0) (-9) 12) (fun _ => 0) (fun _ => 0) (fun _ => 0) (fun _ => 0) := by
  refine ⟨rfl, by decide, rfl, by decide, fun i hi => absurd hi (Nat.not_lt_zero _), ?_, fun k _ hk => ⟨rfl, flA_in hk⟩, fun j _ => Or.inr (show (0 : Int) ≤ (0 : Int32).toInt ∧ (0 : Int32).toInt ≤ 10000 by decide), fun j _ => (show (-10000 : Int) ≤ (0 : Int32).toInt ∧ (0 : Int32).toInt ≤ 10000 by decide)⟩
  funext k
  unfold mqF
  rw [if_neg (Nat.not_lt_zero _)]
  rfl
set_option maxHeartbeats 4000000 in
set_option maxRecDepth 100000 in
theorem law_walk {l : Launch} {G : jG} {X : jX} {bs N : Nat} {xs : Nat → Int32} (B : jB0 l X 9 334 600000 7302250) (S : jS G X bs N xs) (hN : N ≤ 3584) (hE : ∀ (ws : va_W) (k n : Nat) (lv : List (Nat × Value)), k ≤ 600000 → n ≤ 7302250 → J G X mL ws k n 1428 lv [.int 1]) : J G X mL [] 0 0 0 [(0, .ref bs)] [] := by
  refine J.new0 B (fs := [.null, .int (0 : Int32), .null, .int (0 : Int32), .null, .null, .null, .null, .null, .null, .null, .null, .long (0 : Int64), .int (0 : Int32), .int (0 : Int32), .int (0 : Int32), .null]) dL_law_0 clX7 tyX7_ok ck_L_7 wn_X7 wi_X7 df_X7 rfl rfl (fun x => ?_)
  refine J.dup dL_law_3 rfl ?_
  refine J.callI0 (st := [.ref x]) B (c_X7_init l G _) ml_L_9 mf_yX7_init mI_yX7_init rfl dL_law_4 rfl rfl rfl (by decide) (by decide) (fun v w hp => ?_)
  obtain ⟨A, rfl, rfl⟩ := hp
  show J G X mL _ _ _ 7 _ [.ref x]
  refine J.astore_n [1, 0] (lv' := [(0, .ref bs), (1, .ref x)]) dL_law_7 rfl rfl ?_
  refine J.new0 B (fs := [.int (0 : Int32), .null, .long (0 : Int64), .int (0 : Int32), .null, .null, .null, .null, .null, .null, .null, .null, .int (0 : Int32), .long (0 : Int64), .int (0 : Int32), .int (0 : Int32), .int (0 : Int32), .null, .int (0 : Int32), .null, .null, .null, .null, .null, .int (0 : Int32), .int (0 : Int32)]) dL_law_8 clX8 tyX8_ok ck_L_10 wn_X8 wi_X8 df_X8 rfl rfl (fun m => ?_)
  refine J.dup dL_law_11 rfl ?_
  refine J.callI0 (st := [.ref m]) B (c_X8_init l G _) ml_L_12 mf_yX8_init mI_yX8_init rfl dL_law_12 rfl rfl rfl (by decide) (by decide) (fun v w hp => ?_)
  obtain ⟨D, rfl, rfl⟩ := hp
  show J G X mL _ _ _ 15 _ [.ref m]
  refine J.astore_n [1, 2, 0] (lv' := [(0, .ref bs), (1, .ref x), (2, .ref m)]) dL_law_15 rfl rfl ?_
  refine J.iconst (0 : Int32) dL_law_16 rfl ?_
  refine J.istore_n [1, 2, 3, 0] (lv' := [(0, .ref bs), (1, .ref x), (2, .ref m), (3, .int (nI 0))]) dL_law_17 rfl rfl ?_
  refine J.re [38, 37, 35, 34, 33, 32, 31, 30, 29, 28, 27, 26, 25, 24, 23, 22, 21, 20, 19, 18, 17, 16, 36, 15, 14, 13, 12, 11, 10, 9, 8, 7, 6, 5, 4, 3, 2, 1, 0] 39 (ws2 := WL G A D x m 0 0 [] [] (saF []) (raF []) (fun _ => 0) (fun _ => 0) (fun _ => 0) (fun _ => 0) (flA (fun _ => 0) (-9) 12) (fun _ => 0) (fun _ => 0) (fun _ => 0) (fun _ => 0) (fun _ => 0) (0 : Int64) (0 : Int32) (0 : Int32) (0 : Int32) (-9 : Int32) (-9 : Int32) (-9 : Int32) (0 : Int32) (fun _ => 0) (fun _ => 0) (0 : Int32) (fun _ => 0) (fun _ => 0) (fun _ => 0) (fun _ => 0) (0 : Int32) (fun _ => 0) (0 : Int32) (0 : Int32) (fun _ => 0) (fun _ => 0) (fun _ => 0) (fun _ => 0) (fun _ => 0) (fun _ => 0) (0 : Int32) (0 : Int64) (fun _ => 0) (fun _ => 0) (fun _ => 0) (fun _ => 0) (fun _ => 0) []) rfl rfl ?_
  exact J.wideL (by decide) (by decide) (law_loop (r := []) B S hN hE 0 (Nat.zero_le _) law_inv0)
theorem wo_6 : Cond.arrayOver (.object RX6) ∈ lw_tbl := List.mem_of_getElem? (i := 83) (by decide +kernel)
theorem wo_5 : Cond.arrayOver (.object RX5) ∈ lw_tbl := List.mem_of_getElem? (i := 85) (by decide +kernel)
theorem law_G {s : State} {args : Array Value} (hts : ∀ w ∈ lw_tbl, w.before args s = true) : ∃ G : jG, G.2.2 = s.heap.size ∧ jK G s := by
  have hg : ∀ w ∈ gt, w.before args s = true := fun w hw => hts w (List.mem_filter.mp hw).1
  obtain ⟨c0, i0, k0⟩ := u_known hg clX0.2.1 (hg _ wn_X0)
  obtain ⟨c1, i1, k1⟩ := u_known hg clX1.2.1 (hg _ wn_X1)
  obtain ⟨c2, i2, k2⟩ := u_known hg clX2.2.1 (hg _ wn_X2)
  obtain ⟨c3, i3, k3⟩ := u_known hg clX3.2.1 (hg _ wn_X3)
  obtain ⟨c4, i4, k4⟩ := u_known hg clX4.2.1 (hg _ wn_X4)
  obtain ⟨c5, i5, k5⟩ := u_known hg clX5.2.1 (hg _ wn_X5)
  obtain ⟨c6, i6, k6⟩ := u_known hg clX6.2.1 (hg _ wn_X6)
  obtain ⟨c7, i7, k7⟩ := u_known hg clX7.2.1 (hg _ wn_X7)
  obtain ⟨c8, i8, k8⟩ := u_known hg clX8.2.1 (hg _ wn_X8)
  obtain ⟨a1, ka1, p1, f1, f2, f3⟩ := Cond.arrayClass_spec (hg _ wa_int)
  obtain ⟨a2, ka2, p2, g1, g2, g3⟩ := Cond.arrayClass_spec (hg _ wa_boolean)
  obtain ⟨p3, a3, ka3, u1, u2, u3, u4, u5⟩ := Cond.arrayOver_spec (hts _ wo_6)
  obtain ⟨p4, a4, ka4, v1, v2, v3, v4, v5⟩ := Cond.arrayOver_spec (hts _ wo_5)
  refine ⟨((fun c => ([c0, c1, c2, c3, c4, c5, c6, c7, c8] : List ClassId).getD c c0, fun c => ([i0, i1, i2, i3, i4, i5, i6, i7, i8] : List (Nat → Nat)).getD c i0), (a1, a2, a3, a4), s.heap.size), rfl, ⟨fun c q hq => ?_, fun k q hq => ?_⟩, fun w hw => ?_, va_AO.of (hts _ wo_6), va_AO.of (hts _ wo_5)⟩
  · match c, hq with
    | 0, hq => cases hq; exact k0
    | 1, hq => cases hq; exact k1
    | 2, hq => cases hq; exact k2
    | 3, hq => cases hq; exact k3
    | 4, hq => cases hq; exact k4
    | 5, hq => cases hq; exact k5
    | 6, hq => cases hq; exact k6
    | 7, hq => cases hq; exact k7
    | 8, hq => cases hq; exact k8
    | c + 9, hq => cases hq
  · match k, hq with
    | 0, hq => cases hq; exact ⟨fun _ _ => ⟨fun k h => (by cases h), ka1, f2, p1, f3⟩, f1⟩
    | 1, hq => cases hq; exact ⟨fun _ _ => ⟨fun k h => (by cases h), ka2, g2, p2, g3⟩, g1⟩
    | 2, hq => cases hq; exact ⟨fun _ _ => ⟨fun k h => (by cases h), ka3, u3, p3, u4⟩, ka3, p3, u3, u4, u1, u5⟩
    | 3, hq => cases hq; exact ⟨fun _ _ => ⟨fun k h => (by cases h), ka4, v3, p4, v4⟩, ka4, p4, v3, v4, v1, v5⟩
    | k + 4, hq => cases hq
  · have h2 := (List.mem_filter.mp hw).2
    have h3 : w.onTables = true := by cases w <;> first | rfl | (simp [jisN] at h2)
    exact va_tabs h3 rfl (hts w (List.mem_filter.mp hw).1)
theorem whole_start {p : Program} {e : Env} {s : State} {m : MethodId} {below : List Frame} {meth : Method} {c : Code} (l : Launch) {b L : Nat} {xs : Nat → Int32} (hL : L ≤ 3584) (C0 : lw_At p s m meth c b L xs) : W p l e room_1 s m #[Value.ref b] below meth c s.heap [] 0 0 (lw_Z below #[Value.ref b] s) (entryFrame m ([Value.ref b] : List Value).toArray 4) := by
  obtain ⟨hx, hb, hr, hml, hown, hts, hX, hbl, hlk, hgv⟩ := C0
  obtain ⟨G, hz, hK⟩ := law_G hts
  have hl := lv_entry [Value.ref b] (n := 4) (Nat.le_of_ble_eq_true rfl)
  rw [lg_entry_eq]
  exact law_walk (l := l) (G := G) (X := (p, l, e, room_1, s, m, #[Value.ref b], below, meth, c, lw_Z below #[Value.ref b] s)) (bs := b) (N := L) (xs := xs) ⟨rfl, rfl⟩ ⟨hX, hbl, fun h => by unfold jA at h; omega⟩ hL (fun ws k n lv h1 h2 => law_end hz ws k n lv h1 h2) ⟨hx, hb, hml, hown, fun w hw => hts w (List.mem_filter.mp hw).1, hK, hr, hlk, by show G.2.2 ≤ s.heap.size; omega⟩ s.heap [] _ ⟨fun k q h => (by cases h), fun i j p q h => (by cases h), fun k q h => (by cases h)⟩ va_S.rf hl
