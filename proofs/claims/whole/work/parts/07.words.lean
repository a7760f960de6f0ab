theorem ly_X0_0 : u_lay RX0 TX0 0 ∈ gt := gt_of (List.mem_of_getElem? (i := 123) (by decide +kernel)) rfl
theorem ly_X0_1 : u_lay RX0 TX0 1 ∈ gt := gt_of (List.mem_of_getElem? (i := 125) (by decide +kernel)) rfl
theorem lyw_X0 : ∀ w ∈ u_ws RX0 TX0 2, w ∈ gt := by
  intro w hw
  obtain ⟨j, hj, rfl⟩ := List.mem_map.mp hw
  have hj := List.mem_range.mp hj
  match j, hj with
  | 0, _ => exact ly_X0_0
  | 1, _ => exact ly_X0_1
theorem clX0 : jcl 0 RX0 TX0 2 := ⟨rfl, lyw_X0, ⟨tyX0, tyX0_ok⟩, nmX0⟩
theorem ly_X1_0 : u_lay RX1 TX1 0 ∈ gt := gt_of (List.mem_of_getElem? (i := 107) (by decide +kernel)) rfl
theorem ly_X1_1 : u_lay RX1 TX1 1 ∈ gt := gt_of (List.mem_of_getElem? (i := 109) (by decide +kernel)) rfl
theorem ly_X1_2 : u_lay RX1 TX1 2 ∈ gt := gt_of (List.mem_of_getElem? (i := 111) (by decide +kernel)) rfl
theorem lyw_X1 : ∀ w ∈ u_ws RX1 TX1 3, w ∈ gt := by
  intro w hw
  obtain ⟨j, hj, rfl⟩ := List.mem_map.mp hw
  have hj := List.mem_range.mp hj
  match j, hj with
  | 0, _ => exact ly_X1_0
  | 1, _ => exact ly_X1_1
  | 2, _ => exact ly_X1_2
theorem clX1 : jcl 1 RX1 TX1 3 := ⟨rfl, lyw_X1, ⟨tyX1, tyX1_ok⟩, nmX1⟩
theorem ly_X2_0 : u_lay RX2 TX2 0 ∈ gt := gt_of (List.mem_of_getElem? (i := 178) (by decide +kernel)) rfl
theorem ly_X2_1 : u_lay RX2 TX2 1 ∈ gt := gt_of (List.mem_of_getElem? (i := 180) (by decide +kernel)) rfl
theorem ly_X2_2 : u_lay RX2 TX2 2 ∈ gt := gt_of (List.mem_of_getElem? (i := 182) (by decide +kernel)) rfl
theorem ly_X2_3 : u_lay RX2 TX2 3 ∈ gt := gt_of (List.mem_of_getElem? (i := 184) (by decide +kernel)) rfl
theorem ly_X2_4 : u_lay RX2 TX2 4 ∈ gt := gt_of (List.mem_of_getElem? (i := 186) (by decide +kernel)) rfl
theorem ly_X2_5 : u_lay RX2 TX2 5 ∈ gt := gt_of (List.mem_of_getElem? (i := 188) (by decide +kernel)) rfl
theorem ly_X2_6 : u_lay RX2 TX2 6 ∈ gt := gt_of (List.mem_of_getElem? (i := 190) (by decide +kernel)) rfl
theorem ly_X2_7 : u_lay RX2 TX2 7 ∈ gt := gt_of (List.mem_of_getElem? (i := 192) (by decide +kernel)) rfl
theorem ly_X2_8 : u_lay RX2 TX2 8 ∈ gt := gt_of (List.mem_of_getElem? (i := 194) (by decide +kernel)) rfl
theorem lyw_X2 : ∀ w ∈ u_ws RX2 TX2 9, w ∈ gt := by
  intro w hw
  obtain ⟨j, hj, rfl⟩ := List.mem_map.mp hw
  have hj := List.mem_range.mp hj
  match j, hj with
  | 0, _ => exact ly_X2_0
  | 1, _ => exact ly_X2_1
  | 2, _ => exact ly_X2_2
  | 3, _ => exact ly_X2_3
  | 4, _ => exact ly_X2_4
  | 5, _ => exact ly_X2_5
  | 6, _ => exact ly_X2_6
  | 7, _ => exact ly_X2_7
  | 8, _ => exact ly_X2_8
theorem clX2 : jcl 2 RX2 TX2 9 := ⟨rfl, lyw_X2, ⟨tyX2, tyX2_ok⟩, nmX2⟩
theorem ly_X3_0 : u_lay RX3 TX3 0 ∈ gt := gt_of (List.mem_of_getElem? (i := 138) (by decide +kernel)) rfl
theorem ly_X3_1 : u_lay RX3 TX3 1 ∈ gt := gt_of (List.mem_of_getElem? (i := 140) (by decide +kernel)) rfl
theorem ly_X3_2 : u_lay RX3 TX3 2 ∈ gt := gt_of (List.mem_of_getElem? (i := 142) (by decide +kernel)) rfl
theorem lyw_X3 : ∀ w ∈ u_ws RX3 TX3 3, w ∈ gt := by
  intro w hw
  obtain ⟨j, hj, rfl⟩ := List.mem_map.mp hw
  have hj := List.mem_range.mp hj
  match j, hj with
  | 0, _ => exact ly_X3_0
  | 1, _ => exact ly_X3_1
  | 2, _ => exact ly_X3_2
theorem clX3 : jcl 3 RX3 TX3 3 := ⟨rfl, lyw_X3, ⟨tyX3, tyX3_ok⟩, nmX3⟩
theorem ly_X4_0 : u_lay RX4 TX4 0 ∈ gt := gt_of (List.mem_of_getElem? (i := 155) (by decide +kernel)) rfl
theorem ly_X4_1 : u_lay RX4 TX4 1 ∈ gt := gt_of (List.mem_of_getElem? (i := 157) (by decide +kernel)) rfl
theorem lyw_X4 : ∀ w ∈ u_ws RX4 TX4 2, w ∈ gt := by
  intro w hw
  obtain ⟨j, hj, rfl⟩ := List.mem_map.mp hw
  have hj := List.mem_range.mp hj
  match j, hj with
  | 0, _ => exact ly_X4_0
  | 1, _ => exact ly_X4_1
theorem clX4 : jcl 4 RX4 TX4 2 := ⟨rfl, lyw_X4, ⟨tyX4, tyX4_ok⟩, nmX4⟩
theorem ly_X5_0 : u_lay RX5 TX5 0 ∈ gt := gt_of (List.mem_of_getElem? (i := 579) (by decide +kernel)) rfl
theorem ly_X5_1 : u_lay RX5 TX5 1 ∈ gt := gt_of (List.mem_of_getElem? (i := 581) (by decide +kernel)) rfl
theorem ly_X5_2 : u_lay RX5 TX5 2 ∈ gt := gt_of (List.mem_of_getElem? (i := 583) (by decide +kernel)) rfl
theorem ly_X5_3 : u_lay RX5 TX5 3 ∈ gt := gt_of (List.mem_of_getElem? (i := 585) (by decide +kernel)) rfl
theorem lyw_X5 : ∀ w ∈ u_ws RX5 TX5 4, w ∈ gt := by
  intro w hw
  obtain ⟨j, hj, rfl⟩ := List.mem_map.mp hw
  have hj := List.mem_range.mp hj
  match j, hj with
  | 0, _ => exact ly_X5_0
  | 1, _ => exact ly_X5_1
  | 2, _ => exact ly_X5_2
  | 3, _ => exact ly_X5_3
theorem clX5 : jcl 5 RX5 TX5 4 := ⟨rfl, lyw_X5, ⟨tyX5, tyX5_ok⟩, nmX5⟩
theorem ly_X6_0 : u_lay RX6 TX6 0 ∈ gt := gt_of (List.mem_of_getElem? (i := 273) (by decide +kernel)) rfl
theorem ly_X6_1 : u_lay RX6 TX6 1 ∈ gt := gt_of (List.mem_of_getElem? (i := 275) (by decide +kernel)) rfl
theorem ly_X6_2 : u_lay RX6 TX6 2 ∈ gt := gt_of (List.mem_of_getElem? (i := 277) (by decide +kernel)) rfl
theorem ly_X6_3 : u_lay RX6 TX6 3 ∈ gt := gt_of (List.mem_of_getElem? (i := 279) (by decide +kernel)) rfl
theorem lyw_X6 : ∀ w ∈ u_ws RX6 TX6 4, w ∈ gt := by
  intro w hw
  obtain ⟨j, hj, rfl⟩ := List.mem_map.mp hw
  have hj := List.mem_range.mp hj
  match j, hj with
  | 0, _ => exact ly_X6_0
  | 1, _ => exact ly_X6_1
  | 2, _ => exact ly_X6_2
  | 3, _ => exact ly_X6_3
theorem clX6 : jcl 6 RX6 TX6 4 := ⟨rfl, lyw_X6, ⟨tyX6, tyX6_ok⟩, nmX6⟩
theorem ly_X7_0 : u_lay RX7 TX7 0 ∈ gt := gt_of (List.mem_of_getElem? (i := 214) (by decide +kernel)) rfl
theorem ly_X7_1 : u_lay RX7 TX7 1 ∈ gt := gt_of (List.mem_of_getElem? (i := 216) (by decide +kernel)) rfl
theorem ly_X7_2 : u_lay RX7 TX7 2 ∈ gt := gt_of (List.mem_of_getElem? (i := 218) (by decide +kernel)) rfl
theorem ly_X7_3 : u_lay RX7 TX7 3 ∈ gt := gt_of (List.mem_of_getElem? (i := 220) (by decide +kernel)) rfl
theorem ly_X7_4 : u_lay RX7 TX7 4 ∈ gt := gt_of (List.mem_of_getElem? (i := 222) (by decide +kernel)) rfl
theorem ly_X7_5 : u_lay RX7 TX7 5 ∈ gt := gt_of (List.mem_of_getElem? (i := 224) (by decide +kernel)) rfl
theorem ly_X7_6 : u_lay RX7 TX7 6 ∈ gt := gt_of (List.mem_of_getElem? (i := 226) (by decide +kernel)) rfl
theorem ly_X7_7 : u_lay RX7 TX7 7 ∈ gt := gt_of (List.mem_of_getElem? (i := 228) (by decide +kernel)) rfl
theorem ly_X7_8 : u_lay RX7 TX7 8 ∈ gt := gt_of (List.mem_of_getElem? (i := 230) (by decide +kernel)) rfl
theorem ly_X7_9 : u_lay RX7 TX7 9 ∈ gt := gt_of (List.mem_of_getElem? (i := 232) (by decide +kernel)) rfl
theorem ly_X7_10 : u_lay RX7 TX7 10 ∈ gt := gt_of (List.mem_of_getElem? (i := 234) (by decide +kernel)) rfl
theorem ly_X7_11 : u_lay RX7 TX7 11 ∈ gt := gt_of (List.mem_of_getElem? (i := 236) (by decide +kernel)) rfl
theorem ly_X7_12 : u_lay RX7 TX7 12 ∈ gt := gt_of (List.mem_of_getElem? (i := 238) (by decide +kernel)) rfl
theorem ly_X7_13 : u_lay RX7 TX7 13 ∈ gt := gt_of (List.mem_of_getElem? (i := 240) (by decide +kernel)) rfl
theorem ly_X7_14 : u_lay RX7 TX7 14 ∈ gt := gt_of (List.mem_of_getElem? (i := 242) (by decide +kernel)) rfl
theorem ly_X7_15 : u_lay RX7 TX7 15 ∈ gt := gt_of (List.mem_of_getElem? (i := 244) (by decide +kernel)) rfl
theorem ly_X7_16 : u_lay RX7 TX7 16 ∈ gt := gt_of (List.mem_of_getElem? (i := 246) (by decide +kernel)) rfl
theorem lyw_X7 : ∀ w ∈ u_ws RX7 TX7 17, w ∈ gt := by
  intro w hw
  obtain ⟨j, hj, rfl⟩ := List.mem_map.mp hw
  have hj := List.mem_range.mp hj
  match j, hj with
  | 0, _ => exact ly_X7_0
  | 1, _ => exact ly_X7_1
  | 2, _ => exact ly_X7_2
  | 3, _ => exact ly_X7_3
  | 4, _ => exact ly_X7_4
  | 5, _ => exact ly_X7_5
  | 6, _ => exact ly_X7_6
  | 7, _ => exact ly_X7_7
  | 8, _ => exact ly_X7_8
  | 9, _ => exact ly_X7_9
  | 10, _ => exact ly_X7_10
  | 11, _ => exact ly_X7_11
  | 12, _ => exact ly_X7_12
  | 13, _ => exact ly_X7_13
  | 14, _ => exact ly_X7_14
  | 15, _ => exact ly_X7_15
  | 16, _ => exact ly_X7_16
  | q + 17, h => exact absurd h (by omega)
theorem clX7 : jcl 7 RX7 TX7 17 := ⟨rfl, lyw_X7, ⟨tyX7, tyX7_ok⟩, nmX7⟩
theorem ly_X8_0 : u_lay RX8 TX8 0 ∈ gt := gt_of (List.mem_of_getElem? (i := 675) (by decide +kernel)) rfl
theorem ly_X8_1 : u_lay RX8 TX8 1 ∈ gt := gt_of (List.mem_of_getElem? (i := 677) (by decide +kernel)) rfl
theorem ly_X8_2 : u_lay RX8 TX8 2 ∈ gt := gt_of (List.mem_of_getElem? (i := 679) (by decide +kernel)) rfl
theorem ly_X8_3 : u_lay RX8 TX8 3 ∈ gt := gt_of (List.mem_of_getElem? (i := 681) (by decide +kernel)) rfl
theorem ly_X8_4 : u_lay RX8 TX8 4 ∈ gt := gt_of (List.mem_of_getElem? (i := 683) (by decide +kernel)) rfl
theorem ly_X8_5 : u_lay RX8 TX8 5 ∈ gt := gt_of (List.mem_of_getElem? (i := 685) (by decide +kernel)) rfl
theorem ly_X8_6 : u_lay RX8 TX8 6 ∈ gt := gt_of (List.mem_of_getElem? (i := 687) (by decide +kernel)) rfl
theorem ly_X8_7 : u_lay RX8 TX8 7 ∈ gt := gt_of (List.mem_of_getElem? (i := 689) (by decide +kernel)) rfl
theorem ly_X8_8 : u_lay RX8 TX8 8 ∈ gt := gt_of (List.mem_of_getElem? (i := 691) (by decide +kernel)) rfl
theorem ly_X8_9 : u_lay RX8 TX8 9 ∈ gt := gt_of (List.mem_of_getElem? (i := 693) (by decide +kernel)) rfl
theorem ly_X8_10 : u_lay RX8 TX8 10 ∈ gt := gt_of (List.mem_of_getElem? (i := 695) (by decide +kernel)) rfl
theorem ly_X8_11 : u_lay RX8 TX8 11 ∈ gt := gt_of (List.mem_of_getElem? (i := 697) (by decide +kernel)) rfl
theorem ly_X8_12 : u_lay RX8 TX8 12 ∈ gt := gt_of (List.mem_of_getElem? (i := 699) (by decide +kernel)) rfl
theorem ly_X8_13 : u_lay RX8 TX8 13 ∈ gt := gt_of (List.mem_of_getElem? (i := 701) (by decide +kernel)) rfl
theorem ly_X8_14 : u_lay RX8 TX8 14 ∈ gt := gt_of (List.mem_of_getElem? (i := 703) (by decide +kernel)) rfl
theorem ly_X8_15 : u_lay RX8 TX8 15 ∈ gt := gt_of (List.mem_of_getElem? (i := 705) (by decide +kernel)) rfl
theorem ly_X8_16 : u_lay RX8 TX8 16 ∈ gt := gt_of (List.mem_of_getElem? (i := 707) (by decide +kernel)) rfl
theorem ly_X8_17 : u_lay RX8 TX8 17 ∈ gt := gt_of (List.mem_of_getElem? (i := 709) (by decide +kernel)) rfl
theorem ly_X8_18 : u_lay RX8 TX8 18 ∈ gt := gt_of (List.mem_of_getElem? (i := 711) (by decide +kernel)) rfl
theorem ly_X8_19 : u_lay RX8 TX8 19 ∈ gt := gt_of (List.mem_of_getElem? (i := 713) (by decide +kernel)) rfl
theorem ly_X8_20 : u_lay RX8 TX8 20 ∈ gt := gt_of (List.mem_of_getElem? (i := 715) (by decide +kernel)) rfl
theorem ly_X8_21 : u_lay RX8 TX8 21 ∈ gt := gt_of (List.mem_of_getElem? (i := 717) (by decide +kernel)) rfl
theorem ly_X8_22 : u_lay RX8 TX8 22 ∈ gt := gt_of (List.mem_of_getElem? (i := 719) (by decide +kernel)) rfl
theorem ly_X8_23 : u_lay RX8 TX8 23 ∈ gt := gt_of (List.mem_of_getElem? (i := 721) (by decide +kernel)) rfl
theorem ly_X8_24 : u_lay RX8 TX8 24 ∈ gt := gt_of (List.mem_of_getElem? (i := 723) (by decide +kernel)) rfl
theorem ly_X8_25 : u_lay RX8 TX8 25 ∈ gt := gt_of (List.mem_of_getElem? (i := 725) (by decide +kernel)) rfl
theorem lyw_X8 : ∀ w ∈ u_ws RX8 TX8 26, w ∈ gt := by
  intro w hw
  obtain ⟨j, hj, rfl⟩ := List.mem_map.mp hw
  have hj := List.mem_range.mp hj
  match j, hj with
  | 0, _ => exact ly_X8_0
  | 1, _ => exact ly_X8_1
  | 2, _ => exact ly_X8_2
  | 3, _ => exact ly_X8_3
  | 4, _ => exact ly_X8_4
  | 5, _ => exact ly_X8_5
  | 6, _ => exact ly_X8_6
  | 7, _ => exact ly_X8_7
  | 8, _ => exact ly_X8_8
  | 9, _ => exact ly_X8_9
  | 10, _ => exact ly_X8_10
  | 11, _ => exact ly_X8_11
  | 12, _ => exact ly_X8_12
  | 13, _ => exact ly_X8_13
  | 14, _ => exact ly_X8_14
  | 15, _ => exact ly_X8_15
  | 16, _ => exact ly_X8_16
  | 17, _ => exact ly_X8_17
  | 18, _ => exact ly_X8_18
  | 19, _ => exact ly_X8_19
  | 20, _ => exact ly_X8_20
  | 21, _ => exact ly_X8_21
  | 22, _ => exact ly_X8_22
  | 23, _ => exact ly_X8_23
  | 24, _ => exact ly_X8_24
  | 25, _ => exact ly_X8_25
  | q + 26, h => exact absurd h (by omega)
theorem clX8 : jcl 8 RX8 TX8 26 := ⟨rfl, lyw_X8, ⟨tyX8, tyX8_ok⟩, nmX8⟩
theorem fw_X1_9 : Cond.fieldLink RX1 9 (TX1 0).1 (TX1 0).2.1 (TX1 0).2.2.1 ∈ gt := gt_of (List.mem_of_getElem? (i := 92) (by decide +kernel)) rfl
theorem fl_X1_9 : jfl RX1 9 1 0 := ⟨_, _, _, clX1, by decide, Or.inl fw_X1_9⟩
theorem fp_X1_9 : jfp RX1 9 1 0 (.array .int) true := ⟨_, _, _, clX1, by decide, Or.inl fw_X1_9, rfl, by decide +kernel, fun _ => ⟨rfl, fw_X1_9⟩⟩
theorem fw_X3_27 : Cond.fieldLinkNest RX3 27 (TX1 0).1 (TX1 0).2.1 (TX1 0).2.2.1 "ChangingStars" ∈ nt := nt_of (List.mem_of_getElem? (i := 93) (by decide +kernel)) rfl
theorem fl_X3_27 : jfl RX3 27 1 0 := ⟨_, _, _, clX1, by decide, Or.inr ⟨_, fw_X3_27⟩⟩
theorem fw_X2_76 : Cond.fieldLinkNest RX2 76 (TX1 0).1 (TX1 0).2.1 (TX1 0).2.2.1 "ChangingStars" ∈ nt := nt_of (List.mem_of_getElem? (i := 94) (by decide +kernel)) rfl
theorem fl_X2_76 : jfl RX2 76 1 0 := ⟨_, _, _, clX1, by decide, Or.inr ⟨_, fw_X2_76⟩⟩
theorem fw_X4_25 : Cond.fieldLinkNest RX4 25 (TX1 0).1 (TX1 0).2.1 (TX1 0).2.2.1 "ChangingStars" ∈ nt := nt_of (List.mem_of_getElem? (i := 95) (by decide +kernel)) rfl
theorem fl_X4_25 : jfl RX4 25 1 0 := ⟨_, _, _, clX1, by decide, Or.inr ⟨_, fw_X4_25⟩⟩
theorem fw_X7_179 : Cond.fieldLinkNest RX7 179 (TX1 0).1 (TX1 0).2.1 (TX1 0).2.2.1 "ChangingStars" ∈ nt := nt_of (List.mem_of_getElem? (i := 96) (by decide +kernel)) rfl
theorem fl_X7_179 : jfl RX7 179 1 0 := ⟨_, _, _, clX1, by decide, Or.inr ⟨_, fw_X7_179⟩⟩
theorem fw_X1_15 : Cond.fieldLink RX1 15 (TX1 1).1 (TX1 1).2.1 (TX1 1).2.2.1 ∈ gt := gt_of (List.mem_of_getElem? (i := 97) (by decide +kernel)) rfl
theorem fl_X1_15 : jfl RX1 15 1 1 := ⟨_, _, _, clX1, by decide, Or.inl fw_X1_15⟩
theorem fp_X1_15 : jfp RX1 15 1 1 (.array .int) true := ⟨_, _, _, clX1, by decide, Or.inl fw_X1_15, rfl, by decide +kernel, fun _ => ⟨rfl, fw_X1_15⟩⟩
theorem fw_X3_34 : Cond.fieldLinkNest RX3 34 (TX1 1).1 (TX1 1).2.1 (TX1 1).2.2.1 "ChangingStars" ∈ nt := nt_of (List.mem_of_getElem? (i := 98) (by decide +kernel)) rfl
theorem fl_X3_34 : jfl RX3 34 1 1 := ⟨_, _, _, clX1, by decide, Or.inr ⟨_, fw_X3_34⟩⟩
theorem fw_X4_22 : Cond.fieldLinkNest RX4 22 (TX1 1).1 (TX1 1).2.1 (TX1 1).2.2.1 "ChangingStars" ∈ nt := nt_of (List.mem_of_getElem? (i := 99) (by decide +kernel)) rfl
theorem fl_X4_22 : jfl RX4 22 1 1 := ⟨_, _, _, clX1, by decide, Or.inr ⟨_, fw_X4_22⟩⟩
theorem fw_X2_83 : Cond.fieldLinkNest RX2 83 (TX1 1).1 (TX1 1).2.1 (TX1 1).2.2.1 "ChangingStars" ∈ nt := nt_of (List.mem_of_getElem? (i := 100) (by decide +kernel)) rfl
theorem fl_X2_83 : jfl RX2 83 1 1 := ⟨_, _, _, clX1, by decide, Or.inr ⟨_, fw_X2_83⟩⟩
theorem fw_X7_187 : Cond.fieldLinkNest RX7 187 (TX1 1).1 (TX1 1).2.1 (TX1 1).2.2.1 "ChangingStars" ∈ nt := nt_of (List.mem_of_getElem? (i := 101) (by decide +kernel)) rfl
theorem fl_X7_187 : jfl RX7 187 1 1 := ⟨_, _, _, clX1, by decide, Or.inr ⟨_, fw_X7_187⟩⟩
theorem fw_X1_18 : Cond.fieldLink RX1 18 (TX1 2).1 (TX1 2).2.1 (TX1 2).2.2.1 ∈ gt := gt_of (List.mem_of_getElem? (i := 102) (by decide +kernel)) rfl
theorem fl_X1_18 : jfl RX1 18 1 2 := ⟨_, _, _, clX1, by decide, Or.inl fw_X1_18⟩
theorem fp_X1_18 : jfp RX1 18 1 2 .int false := ⟨_, _, _, clX1, by decide, Or.inl fw_X1_18, rfl, by decide +kernel, fun z => by cases z⟩
theorem fw_X3_21 : Cond.fieldLinkNest RX3 21 (TX1 2).1 (TX1 2).2.1 (TX1 2).2.2.1 "ChangingStars" ∈ nt := nt_of (List.mem_of_getElem? (i := 103) (by decide +kernel)) rfl
theorem fl_X3_21 : jfl RX3 21 1 2 := ⟨_, _, _, clX1, by decide, Or.inr ⟨_, fw_X3_21⟩⟩
theorem fp_X3_21 : jfp RX3 21 1 2 .int false := ⟨_, _, _, clX1, by decide, Or.inr ⟨_, fw_X3_21⟩, rfl, by decide +kernel, fun z => by cases z⟩
theorem fw_X4_19 : Cond.fieldLinkNest RX4 19 (TX1 2).1 (TX1 2).2.1 (TX1 2).2.2.1 "ChangingStars" ∈ nt := nt_of (List.mem_of_getElem? (i := 104) (by decide +kernel)) rfl
theorem fl_X4_19 : jfl RX4 19 1 2 := ⟨_, _, _, clX1, by decide, Or.inr ⟨_, fw_X4_19⟩⟩
theorem fp_X4_19 : jfp RX4 19 1 2 .int false := ⟨_, _, _, clX1, by decide, Or.inr ⟨_, fw_X4_19⟩, rfl, by decide +kernel, fun z => by cases z⟩
theorem fw_X2_68 : Cond.fieldLinkNest RX2 68 (TX1 2).1 (TX1 2).2.1 (TX1 2).2.2.1 "ChangingStars" ∈ nt := nt_of (List.mem_of_getElem? (i := 105) (by decide +kernel)) rfl
theorem fl_X2_68 : jfl RX2 68 1 2 := ⟨_, _, _, clX1, by decide, Or.inr ⟨_, fw_X2_68⟩⟩
theorem fp_X2_68 : jfp RX2 68 1 2 .int false := ⟨_, _, _, clX1, by decide, Or.inr ⟨_, fw_X2_68⟩, rfl, by decide +kernel, fun z => by cases z⟩
theorem fw_X7_176 : Cond.fieldLinkNest RX7 176 (TX1 2).1 (TX1 2).2.1 (TX1 2).2.2.1 "ChangingStars" ∈ nt := nt_of (List.mem_of_getElem? (i := 106) (by decide +kernel)) rfl
theorem fl_X7_176 : jfl RX7 176 1 2 := ⟨_, _, _, clX1, by decide, Or.inr ⟨_, fw_X7_176⟩⟩
theorem fp_X7_176 : jfp RX7 176 1 2 .int false := ⟨_, _, _, clX1, by decide, Or.inr ⟨_, fw_X7_176⟩, rfl, by decide +kernel, fun z => by cases z⟩
theorem fw_X0_9 : Cond.fieldLink RX0 9 (TX0 0).1 (TX0 0).2.1 (TX0 0).2.2.1 ∈ gt := gt_of (List.mem_of_getElem? (i := 121) (by decide +kernel)) rfl
theorem fl_X0_9 : jfl RX0 9 0 0 := ⟨_, _, _, clX0, by decide, Or.inl fw_X0_9⟩
theorem fp_X0_9 : jfp RX0 9 0 0 (.array .int) true := ⟨_, _, _, clX0, by decide, Or.inl fw_X0_9, rfl, by decide +kernel, fun _ => ⟨rfl, fw_X0_9⟩⟩
theorem fw_X0_15 : Cond.fieldLink RX0 15 (TX0 1).1 (TX0 1).2.1 (TX0 1).2.2.1 ∈ gt := gt_of (List.mem_of_getElem? (i := 122) (by decide +kernel)) rfl
theorem fl_X0_15 : jfl RX0 15 0 1 := ⟨_, _, _, clX0, by decide, Or.inl fw_X0_15⟩
theorem fp_X0_15 : jfp RX0 15 0 1 .int false := ⟨_, _, _, clX0, by decide, Or.inl fw_X0_15, rfl, by decide +kernel, fun z => by cases z⟩
theorem fw_X3_9 : Cond.fieldLink RX3 9 (TX3 0).1 (TX3 0).2.1 (TX3 0).2.2.1 ∈ gt := gt_of (List.mem_of_getElem? (i := 134) (by decide +kernel)) rfl
theorem fl_X3_9 : jfl RX3 9 3 0 := ⟨_, _, _, clX3, by decide, Or.inl fw_X3_9⟩
theorem fp_X3_9 : jfp RX3 9 3 0 (.array .int) true := ⟨_, _, _, clX3, by decide, Or.inl fw_X3_9, rfl, by decide +kernel, fun _ => ⟨rfl, fw_X3_9⟩⟩
theorem fw_X3_15 : Cond.fieldLink RX3 15 (TX3 1).1 (TX3 1).2.1 (TX3 1).2.2.1 ∈ gt := gt_of (List.mem_of_getElem? (i := 135) (by decide +kernel)) rfl
theorem fl_X3_15 : jfl RX3 15 3 1 := ⟨_, _, _, clX3, by decide, Or.inl fw_X3_15⟩
theorem fp_X3_15 : jfp RX3 15 3 1 (.array .int) true := ⟨_, _, _, clX3, by decide, Or.inl fw_X3_15, rfl, by decide +kernel, fun _ => ⟨rfl, fw_X3_15⟩⟩
theorem fw_X3_18 : Cond.fieldLink RX3 18 (TX3 2).1 (TX3 2).2.1 (TX3 2).2.2.1 ∈ gt := gt_of (List.mem_of_getElem? (i := 136) (by decide +kernel)) rfl
theorem fl_X3_18 : jfl RX3 18 3 2 := ⟨_, _, _, clX3, by decide, Or.inl fw_X3_18⟩
theorem fp_X3_18 : jfp RX3 18 3 2 (.array .int) true := ⟨_, _, _, clX3, by decide, Or.inl fw_X3_18, rfl, by decide +kernel, fun _ => ⟨rfl, fw_X3_18⟩⟩
theorem fw_X7_171 : Cond.fieldLinkNest RX7 171 (TX3 2).1 (TX3 2).2.1 (TX3 2).2.2.1 "ChangingStars" ∈ nt := nt_of (List.mem_of_getElem? (i := 137) (by decide +kernel)) rfl
theorem fl_X7_171 : jfl RX7 171 3 2 := ⟨_, _, _, clX3, by decide, Or.inr ⟨_, fw_X7_171⟩⟩
theorem fw_X4_9 : Cond.fieldLink RX4 9 (TX4 0).1 (TX4 0).2.1 (TX4 0).2.2.1 ∈ gt := gt_of (List.mem_of_getElem? (i := 151) (by decide +kernel)) rfl
theorem fl_X4_9 : jfl RX4 9 4 0 := ⟨_, _, _, clX4, by decide, Or.inl fw_X4_9⟩
theorem fp_X4_9 : jfp RX4 9 4 0 (.array .int) true := ⟨_, _, _, clX4, by decide, Or.inl fw_X4_9, rfl, by decide +kernel, fun _ => ⟨rfl, fw_X4_9⟩⟩
theorem fw_X7_211 : Cond.fieldLinkNest RX7 211 (TX4 0).1 (TX4 0).2.1 (TX4 0).2.2.1 "ChangingStars" ∈ nt := nt_of (List.mem_of_getElem? (i := 152) (by decide +kernel)) rfl
theorem fl_X7_211 : jfl RX7 211 4 0 := ⟨_, _, _, clX4, by decide, Or.inr ⟨_, fw_X7_211⟩⟩
theorem fw_X4_15 : Cond.fieldLink RX4 15 (TX4 1).1 (TX4 1).2.1 (TX4 1).2.2.1 ∈ gt := gt_of (List.mem_of_getElem? (i := 153) (by decide +kernel)) rfl
theorem fl_X4_15 : jfl RX4 15 4 1 := ⟨_, _, _, clX4, by decide, Or.inl fw_X4_15⟩
theorem fp_X4_15 : jfp RX4 15 4 1 .int false := ⟨_, _, _, clX4, by decide, Or.inl fw_X4_15, rfl, by decide +kernel, fun z => by cases z⟩
theorem fw_X7_207 : Cond.fieldLinkNest RX7 207 (TX4 1).1 (TX4 1).2.1 (TX4 1).2.2.1 "ChangingStars" ∈ nt := nt_of (List.mem_of_getElem? (i := 154) (by decide +kernel)) rfl
theorem fl_X7_207 : jfl RX7 207 4 1 := ⟨_, _, _, clX4, by decide, Or.inr ⟨_, fw_X7_207⟩⟩
theorem fp_X7_207 : jfp RX7 207 4 1 .int false := ⟨_, _, _, clX4, by decide, Or.inr ⟨_, fw_X7_207⟩, rfl, by decide +kernel, fun z => by cases z⟩
theorem fw_X2_9 : Cond.fieldLink RX2 9 (TX2 0).1 (TX2 0).2.1 (TX2 0).2.2.1 ∈ gt := gt_of (List.mem_of_getElem? (i := 166) (by decide +kernel)) rfl
theorem fl_X2_9 : jfl RX2 9 2 0 := ⟨_, _, _, clX2, by decide, Or.inl fw_X2_9⟩
theorem fp_X2_9 : jfp RX2 9 2 0 (.array .int) true := ⟨_, _, _, clX2, by decide, Or.inl fw_X2_9, rfl, by decide +kernel, fun _ => ⟨rfl, fw_X2_9⟩⟩
theorem fw_X2_15 : Cond.fieldLink RX2 15 (TX2 1).1 (TX2 1).2.1 (TX2 1).2.2.1 ∈ gt := gt_of (List.mem_of_getElem? (i := 167) (by decide +kernel)) rfl
theorem fl_X2_15 : jfl RX2 15 2 1 := ⟨_, _, _, clX2, by decide, Or.inl fw_X2_15⟩
theorem fp_X2_15 : jfp RX2 15 2 1 (.array .int) true := ⟨_, _, _, clX2, by decide, Or.inl fw_X2_15, rfl, by decide +kernel, fun _ => ⟨rfl, fw_X2_15⟩⟩
theorem fw_X2_18 : Cond.fieldLink RX2 18 (TX2 2).1 (TX2 2).2.1 (TX2 2).2.2.1 ∈ gt := gt_of (List.mem_of_getElem? (i := 168) (by decide +kernel)) rfl
theorem fl_X2_18 : jfl RX2 18 2 2 := ⟨_, _, _, clX2, by decide, Or.inl fw_X2_18⟩
theorem fp_X2_18 : jfp RX2 18 2 2 (.array .int) true := ⟨_, _, _, clX2, by decide, Or.inl fw_X2_18, rfl, by decide +kernel, fun _ => ⟨rfl, fw_X2_18⟩⟩
theorem fw_X2_21 : Cond.fieldLink RX2 21 (TX2 3).1 (TX2 3).2.1 (TX2 3).2.2.1 ∈ gt := gt_of (List.mem_of_getElem? (i := 169) (by decide +kernel)) rfl
theorem fl_X2_21 : jfl RX2 21 2 3 := ⟨_, _, _, clX2, by decide, Or.inl fw_X2_21⟩
theorem fp_X2_21 : jfp RX2 21 2 3 (.array .int) true := ⟨_, _, _, clX2, by decide, Or.inl fw_X2_21, rfl, by decide +kernel, fun _ => ⟨rfl, fw_X2_21⟩⟩
theorem fw_X2_65 : Cond.fieldLink RX2 65 (TX2 4).1 (TX2 4).2.1 (TX2 4).2.2.1 ∈ gt := gt_of (List.mem_of_getElem? (i := 170) (by decide +kernel)) rfl
theorem fl_X2_65 : jfl RX2 65 2 4 := ⟨_, _, _, clX2, by decide, Or.inl fw_X2_65⟩
theorem fp_X2_65 : jfp RX2 65 2 4 .int false := ⟨_, _, _, clX2, by decide, Or.inl fw_X2_65, rfl, by decide +kernel, fun z => by cases z⟩
theorem fw_X2_73 : Cond.fieldLink RX2 73 (TX2 5).1 (TX2 5).2.1 (TX2 5).2.2.1 ∈ gt := gt_of (List.mem_of_getElem? (i := 171) (by decide +kernel)) rfl
theorem fl_X2_73 : jfl RX2 73 2 5 := ⟨_, _, _, clX2, by decide, Or.inl fw_X2_73⟩
theorem fp_X2_73 : jfp RX2 73 2 5 .int false := ⟨_, _, _, clX2, by decide, Or.inl fw_X2_73, rfl, by decide +kernel, fun z => by cases z⟩
theorem fw_X2_24 : Cond.fieldLink RX2 24 (TX2 6).1 (TX2 6).2.1 (TX2 6).2.2.1 ∈ gt := gt_of (List.mem_of_getElem? (i := 172) (by decide +kernel)) rfl
theorem fl_X2_24 : jfl RX2 24 2 6 := ⟨_, _, _, clX2, by decide, Or.inl fw_X2_24⟩
theorem fp_X2_24 : jfp RX2 24 2 6 .int false := ⟨_, _, _, clX2, by decide, Or.inl fw_X2_24, rfl, by decide +kernel, fun z => by cases z⟩
theorem fw_X7_195 : Cond.fieldLinkNest RX7 195 (TX2 6).1 (TX2 6).2.1 (TX2 6).2.2.1 "ChangingStars" ∈ nt := nt_of (List.mem_of_getElem? (i := 173) (by decide +kernel)) rfl
theorem fl_X7_195 : jfl RX7 195 2 6 := ⟨_, _, _, clX2, by decide, Or.inr ⟨_, fw_X7_195⟩⟩
theorem fp_X7_195 : jfp RX7 195 2 6 .int false := ⟨_, _, _, clX2, by decide, Or.inr ⟨_, fw_X7_195⟩, rfl, by decide +kernel, fun z => by cases z⟩
theorem fw_X2_28 : Cond.fieldLink RX2 28 (TX2 7).1 (TX2 7).2.1 (TX2 7).2.2.1 ∈ gt := gt_of (List.mem_of_getElem? (i := 174) (by decide +kernel)) rfl
theorem fl_X2_28 : jfl RX2 28 2 7 := ⟨_, _, _, clX2, by decide, Or.inl fw_X2_28⟩
theorem fp_X2_28 : jfp RX2 28 2 7 .int false := ⟨_, _, _, clX2, by decide, Or.inl fw_X2_28, rfl, by decide +kernel, fun z => by cases z⟩
theorem fw_X7_198 : Cond.fieldLinkNest RX7 198 (TX2 7).1 (TX2 7).2.1 (TX2 7).2.2.1 "ChangingStars" ∈ nt := nt_of (List.mem_of_getElem? (i := 175) (by decide +kernel)) rfl
theorem fl_X7_198 : jfl RX7 198 2 7 := ⟨_, _, _, clX2, by decide, Or.inr ⟨_, fw_X7_198⟩⟩
theorem fp_X7_198 : jfp RX7 198 2 7 .int false := ⟨_, _, _, clX2, by decide, Or.inr ⟨_, fw_X7_198⟩, rfl, by decide +kernel, fun z => by cases z⟩
theorem fw_X2_31 : Cond.fieldLink RX2 31 (TX2 8).1 (TX2 8).2.1 (TX2 8).2.2.1 ∈ gt := gt_of (List.mem_of_getElem? (i := 176) (by decide +kernel)) rfl
theorem fl_X2_31 : jfl RX2 31 2 8 := ⟨_, _, _, clX2, by decide, Or.inl fw_X2_31⟩
theorem fp_X2_31 : jfp RX2 31 2 8 .int false := ⟨_, _, _, clX2, by decide, Or.inl fw_X2_31, rfl, by decide +kernel, fun z => by cases z⟩
theorem fw_X7_201 : Cond.fieldLinkNest RX7 201 (TX2 8).1 (TX2 8).2.1 (TX2 8).2.2.1 "ChangingStars" ∈ nt := nt_of (List.mem_of_getElem? (i := 177) (by decide +kernel)) rfl
theorem fl_X7_201 : jfl RX7 201 2 8 := ⟨_, _, _, clX2, by decide, Or.inr ⟨_, fw_X7_201⟩⟩
theorem fp_X7_201 : jfp RX7 201 2 8 .int false := ⟨_, _, _, clX2, by decide, Or.inr ⟨_, fw_X7_201⟩, rfl, by decide +kernel, fun z => by cases z⟩
theorem fw_X7_11 : Cond.fieldLink RX7 11 (TX7 0).1 (TX7 0).2.1 (TX7 0).2.2.1 ∈ gt := gt_of (List.mem_of_getElem? (i := 197) (by decide +kernel)) rfl
theorem fl_X7_11 : jfl RX7 11 7 0 := ⟨_, _, _, clX7, by decide, Or.inl fw_X7_11⟩
theorem fp_X7_11 : jfp RX7 11 7 0 (.array (.object "ChangingStars$Star")) true := ⟨_, _, _, clX7, by decide, Or.inl fw_X7_11, rfl, by decide +kernel, fun _ => ⟨rfl, fw_X7_11⟩⟩
theorem fw_X7_73 : Cond.fieldLink RX7 73 (TX7 1).1 (TX7 1).2.1 (TX7 1).2.2.1 ∈ gt := gt_of (List.mem_of_getElem? (i := 198) (by decide +kernel)) rfl
theorem fl_X7_73 : jfl RX7 73 7 1 := ⟨_, _, _, clX7, by decide, Or.inl fw_X7_73⟩
theorem fp_X7_73 : jfp RX7 73 7 1 .int false := ⟨_, _, _, clX7, by decide, Or.inl fw_X7_73, rfl, by decide +kernel, fun z => by cases z⟩
theorem fw_X7_17 : Cond.fieldLink RX7 17 (TX7 2).1 (TX7 2).2.1 (TX7 2).2.2.1 ∈ gt := gt_of (List.mem_of_getElem? (i := 199) (by decide +kernel)) rfl
theorem fl_X7_17 : jfl RX7 17 7 2 := ⟨_, _, _, clX7, by decide, Or.inl fw_X7_17⟩
theorem fp_X7_17 : jfp RX7 17 7 2 (.array (.object "ChangingStars$Rule")) true := ⟨_, _, _, clX7, by decide, Or.inl fw_X7_17, rfl, by decide +kernel, fun _ => ⟨rfl, fw_X7_17⟩⟩
theorem fw_X7_222 : Cond.fieldLink RX7 222 (TX7 3).1 (TX7 3).2.1 (TX7 3).2.2.1 ∈ gt := gt_of (List.mem_of_getElem? (i := 200) (by decide +kernel)) rfl
theorem fl_X7_222 : jfl RX7 222 7 3 := ⟨_, _, _, clX7, by decide, Or.inl fw_X7_222⟩
theorem fp_X7_222 : jfp RX7 222 7 3 .int false := ⟨_, _, _, clX7, by decide, Or.inl fw_X7_222, rfl, by decide +kernel, fun z => by cases z⟩
theorem fw_X7_21 : Cond.fieldLink RX7 21 (TX7 4).1 (TX7 4).2.1 (TX7 4).2.2.1 ∈ gt := gt_of (List.mem_of_getElem? (i := 201) (by decide +kernel)) rfl
theorem fl_X7_21 : jfl RX7 21 7 4 := ⟨_, _, _, clX7, by decide, Or.inl fw_X7_21⟩
theorem fp_X7_21 : jfp RX7 21 7 4 (.array .int) true := ⟨_, _, _, clX7, by decide, Or.inl fw_X7_21, rfl, by decide +kernel, fun _ => ⟨rfl, fw_X7_21⟩⟩
theorem fw_X7_28 : Cond.fieldLink RX7 28 (TX7 5).1 (TX7 5).2.1 (TX7 5).2.2.1 ∈ gt := gt_of (List.mem_of_getElem? (i := 202) (by decide +kernel)) rfl
theorem fl_X7_28 : jfl RX7 28 7 5 := ⟨_, _, _, clX7, by decide, Or.inl fw_X7_28⟩
theorem fp_X7_28 : jfp RX7 28 7 5 (.object "ChangingStars$Curve") true := ⟨_, _, _, clX7, by decide, Or.inl fw_X7_28, rfl, by decide +kernel, fun _ => ⟨rfl, fw_X7_28⟩⟩
theorem fw_X7_35 : Cond.fieldLink RX7 35 (TX7 6).1 (TX7 6).2.1 (TX7 6).2.2.1 ∈ gt := gt_of (List.mem_of_getElem? (i := 203) (by decide +kernel)) rfl
theorem fl_X7_35 : jfl RX7 35 7 6 := ⟨_, _, _, clX7, by decide, Or.inl fw_X7_35⟩
theorem fp_X7_35 : jfp RX7 35 7 6 (.object "ChangingStars$BySize") true := ⟨_, _, _, clX7, by decide, Or.inl fw_X7_35, rfl, by decide +kernel, fun _ => ⟨rfl, fw_X7_35⟩⟩
theorem fw_X7_42 : Cond.fieldLink RX7 42 (TX7 7).1 (TX7 7).2.1 (TX7 7).2.2.1 ∈ gt := gt_of (List.mem_of_getElem? (i := 204) (by decide +kernel)) rfl
theorem fl_X7_42 : jfl RX7 42 7 7 := ⟨_, _, _, clX7, by decide, Or.inl fw_X7_42⟩
theorem fp_X7_42 : jfp RX7 42 7 7 (.object "ChangingStars$Fold") true := ⟨_, _, _, clX7, by decide, Or.inl fw_X7_42, rfl, by decide +kernel, fun _ => ⟨rfl, fw_X7_42⟩⟩
theorem fw_X7_49 : Cond.fieldLink RX7 49 (TX7 8).1 (TX7 8).2.1 (TX7 8).2.2.1 ∈ gt := gt_of (List.mem_of_getElem? (i := 205) (by decide +kernel)) rfl
theorem fl_X7_49 : jfl RX7 49 7 8 := ⟨_, _, _, clX7, by decide, Or.inl fw_X7_49⟩
theorem fp_X7_49 : jfp RX7 49 7 8 (.object "ChangingStars$LowTimes") true := ⟨_, _, _, clX7, by decide, Or.inl fw_X7_49, rfl, by decide +kernel, fun _ => ⟨rfl, fw_X7_49⟩⟩
theorem fw_X7_56 : Cond.fieldLink RX7 56 (TX7 9).1 (TX7 9).2.1 (TX7 9).2.2.1 ∈ gt := gt_of (List.mem_of_getElem? (i := 206) (by decide +kernel)) rfl
theorem fl_X7_56 : jfl RX7 56 7 9 := ⟨_, _, _, clX7, by decide, Or.inl fw_X7_56⟩
theorem fp_X7_56 : jfp RX7 56 7 9 (.object "ChangingStars$DipSearch") true := ⟨_, _, _, clX7, by decide, Or.inl fw_X7_56, rfl, by decide +kernel, fun _ => ⟨rfl, fw_X7_56⟩⟩
theorem fw_X7_60 : Cond.fieldLink RX7 60 (TX7 10).1 (TX7 10).2.1 (TX7 10).2.2.1 ∈ gt := gt_of (List.mem_of_getElem? (i := 207) (by decide +kernel)) rfl
theorem fl_X7_60 : jfl RX7 60 7 10 := ⟨_, _, _, clX7, by decide, Or.inl fw_X7_60⟩
theorem fp_X7_60 : jfp RX7 60 7 10 (.array .int) true := ⟨_, _, _, clX7, by decide, Or.inl fw_X7_60, rfl, by decide +kernel, fun _ => ⟨rfl, fw_X7_60⟩⟩
theorem fw_X7_63 : Cond.fieldLink RX7 63 (TX7 11).1 (TX7 11).2.1 (TX7 11).2.2.1 ∈ gt := gt_of (List.mem_of_getElem? (i := 208) (by decide +kernel)) rfl
theorem fl_X7_63 : jfl RX7 63 7 11 := ⟨_, _, _, clX7, by decide, Or.inl fw_X7_63⟩
theorem fp_X7_63 : jfp RX7 63 7 11 (.array .int) true := ⟨_, _, _, clX7, by decide, Or.inl fw_X7_63, rfl, by decide +kernel, fun _ => ⟨rfl, fw_X7_63⟩⟩
theorem fw_X7_244 : Cond.fieldLink RX7 244 (TX7 12).1 (TX7 12).2.1 (TX7 12).2.2.1 ∈ gt := gt_of (List.mem_of_getElem? (i := 209) (by decide +kernel)) rfl
theorem fl_X7_244 : jfl RX7 244 7 12 := ⟨_, _, _, clX7, by decide, Or.inl fw_X7_244⟩
theorem fp_X7_244 : jfp RX7 244 7 12 .long false := ⟨_, _, _, clX7, by decide, Or.inl fw_X7_244, rfl, by decide +kernel, fun z => by cases z⟩
theorem fw_X7_234 : Cond.fieldLink RX7 234 (TX7 13).1 (TX7 13).2.1 (TX7 13).2.2.1 ∈ gt := gt_of (List.mem_of_getElem? (i := 210) (by decide +kernel)) rfl
theorem fl_X7_234 : jfl RX7 234 7 13 := ⟨_, _, _, clX7, by decide, Or.inl fw_X7_234⟩
theorem fp_X7_234 : jfp RX7 234 7 13 .int false := ⟨_, _, _, clX7, by decide, Or.inl fw_X7_234, rfl, by decide +kernel, fun z => by cases z⟩
theorem fw_X7_231 : Cond.fieldLink RX7 231 (TX7 14).1 (TX7 14).2.1 (TX7 14).2.2.1 ∈ gt := gt_of (List.mem_of_getElem? (i := 211) (by decide +kernel)) rfl
theorem fl_X7_231 : jfl RX7 231 7 14 := ⟨_, _, _, clX7, by decide, Or.inl fw_X7_231⟩
theorem fp_X7_231 : jfp RX7 231 7 14 .int false := ⟨_, _, _, clX7, by decide, Or.inl fw_X7_231, rfl, by decide +kernel, fun z => by cases z⟩
theorem fw_X7_254 : Cond.fieldLink RX7 254 (TX7 15).1 (TX7 15).2.1 (TX7 15).2.2.1 ∈ gt := gt_of (List.mem_of_getElem? (i := 212) (by decide +kernel)) rfl
theorem fl_X7_254 : jfl RX7 254 7 15 := ⟨_, _, _, clX7, by decide, Or.inl fw_X7_254⟩
theorem fp_X7_254 : jfp RX7 254 7 15 .int false := ⟨_, _, _, clX7, by decide, Or.inl fw_X7_254, rfl, by decide +kernel, fun z => by cases z⟩
theorem fw_X7_66 : Cond.fieldLink RX7 66 (TX7 16).1 (TX7 16).2.1 (TX7 16).2.2.1 ∈ gt := gt_of (List.mem_of_getElem? (i := 213) (by decide +kernel)) rfl
theorem fl_X7_66 : jfl RX7 66 7 16 := ⟨_, _, _, clX7, by decide, Or.inl fw_X7_66⟩
theorem fp_X7_66 : jfp RX7 66 7 16 (.array .int) true := ⟨_, _, _, clX7, by decide, Or.inl fw_X7_66, rfl, by decide +kernel, fun _ => ⟨rfl, fw_X7_66⟩⟩
theorem fw_X6_19 : Cond.fieldLink RX6 19 (TX6 0).1 (TX6 0).2.1 (TX6 0).2.2.1 ∈ gt := gt_of (List.mem_of_getElem? (i := 264) (by decide +kernel)) rfl
theorem fl_X6_19 : jfl RX6 19 6 0 := ⟨_, _, _, clX6, by decide, Or.inl fw_X6_19⟩
theorem fp_X6_19 : jfp RX6 19 6 0 .int true := ⟨_, _, _, clX6, by decide, Or.inl fw_X6_19, rfl, by decide +kernel, fun _ => ⟨rfl, fw_X6_19⟩⟩
theorem fw_X7_91 : Cond.fieldLinkNest RX7 91 (TX6 0).1 (TX6 0).2.1 (TX6 0).2.2.1 "ChangingStars" ∈ nt := nt_of (List.mem_of_getElem? (i := 265) (by decide +kernel)) rfl
theorem fl_X7_91 : jfl RX7 91 6 0 := ⟨_, _, _, clX6, by decide, Or.inr ⟨_, fw_X7_91⟩⟩
theorem fw_X6_9 : Cond.fieldLink RX6 9 (TX6 1).1 (TX6 1).2.1 (TX6 1).2.2.1 ∈ gt := gt_of (List.mem_of_getElem? (i := 266) (by decide +kernel)) rfl
theorem fl_X6_9 : jfl RX6 9 6 1 := ⟨_, _, _, clX6, by decide, Or.inl fw_X6_9⟩
theorem fp_X6_9 : jfp RX6 9 6 1 (.array .int) true := ⟨_, _, _, clX6, by decide, Or.inl fw_X6_9, rfl, by decide +kernel, fun _ => ⟨rfl, fw_X6_9⟩⟩
theorem fw_X1_22 : Cond.fieldLinkNest RX1 22 (TX6 1).1 (TX6 1).2.1 (TX6 1).2.2.1 "ChangingStars" ∈ nt := nt_of (List.mem_of_getElem? (i := 267) (by decide +kernel)) rfl
theorem fl_X1_22 : jfl RX1 22 6 1 := ⟨_, _, _, clX6, by decide, Or.inr ⟨_, fw_X1_22⟩⟩
theorem fw_X7_112 : Cond.fieldLinkNest RX7 112 (TX6 1).1 (TX6 1).2.1 (TX6 1).2.2.1 "ChangingStars" ∈ nt := nt_of (List.mem_of_getElem? (i := 268) (by decide +kernel)) rfl
theorem fl_X7_112 : jfl RX7 112 6 1 := ⟨_, _, _, clX6, by decide, Or.inr ⟨_, fw_X7_112⟩⟩
theorem fw_X6_28 : Cond.fieldLink RX6 28 (TX6 2).1 (TX6 2).2.1 (TX6 2).2.2.1 ∈ gt := gt_of (List.mem_of_getElem? (i := 269) (by decide +kernel)) rfl
theorem fl_X6_28 : jfl RX6 28 6 2 := ⟨_, _, _, clX6, by decide, Or.inl fw_X6_28⟩
theorem fp_X6_28 : jfp RX6 28 6 2 .boolean false := ⟨_, _, _, clX6, by decide, Or.inl fw_X6_28, rfl, by decide +kernel, fun z => by cases z⟩
theorem fw_X7_100 : Cond.fieldLinkNest RX7 100 (TX6 2).1 (TX6 2).2.1 (TX6 2).2.2.1 "ChangingStars" ∈ nt := nt_of (List.mem_of_getElem? (i := 270) (by decide +kernel)) rfl
theorem fl_X7_100 : jfl RX7 100 6 2 := ⟨_, _, _, clX6, by decide, Or.inr ⟨_, fw_X7_100⟩⟩
theorem fp_X7_100 : jfp RX7 100 6 2 .boolean false := ⟨_, _, _, clX6, by decide, Or.inr ⟨_, fw_X7_100⟩, rfl, by decide +kernel, fun z => by cases z⟩
theorem fw_X6_15 : Cond.fieldLink RX6 15 (TX6 3).1 (TX6 3).2.1 (TX6 3).2.2.1 ∈ gt := gt_of (List.mem_of_getElem? (i := 271) (by decide +kernel)) rfl
theorem fl_X6_15 : jfl RX6 15 6 3 := ⟨_, _, _, clX6, by decide, Or.inl fw_X6_15⟩
theorem fp_X6_15 : jfp RX6 15 6 3 .int false := ⟨_, _, _, clX6, by decide, Or.inl fw_X6_15, rfl, by decide +kernel, fun z => by cases z⟩
theorem fw_X7_241 : Cond.fieldLinkNest RX7 241 (TX6 3).1 (TX6 3).2.1 (TX6 3).2.2.1 "ChangingStars" ∈ nt := nt_of (List.mem_of_getElem? (i := 272) (by decide +kernel)) rfl
theorem fl_X7_241 : jfl RX7 241 6 3 := ⟨_, _, _, clX6, by decide, Or.inr ⟨_, fw_X7_241⟩⟩
theorem fp_X7_241 : jfp RX7 241 6 3 .int false := ⟨_, _, _, clX6, by decide, Or.inr ⟨_, fw_X7_241⟩, rfl, by decide +kernel, fun z => by cases z⟩
theorem fw_X5_7 : Cond.fieldLink RX5 7 (TX5 0).1 (TX5 0).2.1 (TX5 0).2.2.1 ∈ gt := gt_of (List.mem_of_getElem? (i := 574) (by decide +kernel)) rfl
theorem fl_X5_7 : jfl RX5 7 5 0 := ⟨_, _, _, clX5, by decide, Or.inl fw_X5_7⟩
theorem fp_X5_7 : jfp RX5 7 5 0 .int true := ⟨_, _, _, clX5, by decide, Or.inl fw_X5_7, rfl, by decide +kernel, fun _ => ⟨rfl, fw_X5_7⟩⟩
theorem fw_X5_13 : Cond.fieldLink RX5 13 (TX5 1).1 (TX5 1).2.1 (TX5 1).2.2.1 ∈ gt := gt_of (List.mem_of_getElem? (i := 575) (by decide +kernel)) rfl
theorem fl_X5_13 : jfl RX5 13 5 1 := ⟨_, _, _, clX5, by decide, Or.inl fw_X5_13⟩
theorem fp_X5_13 : jfp RX5 13 5 1 .int true := ⟨_, _, _, clX5, by decide, Or.inl fw_X5_13, rfl, by decide +kernel, fun _ => ⟨rfl, fw_X5_13⟩⟩
theorem fw_X5_16 : Cond.fieldLink RX5 16 (TX5 2).1 (TX5 2).2.1 (TX5 2).2.2.1 ∈ gt := gt_of (List.mem_of_getElem? (i := 576) (by decide +kernel)) rfl
theorem fl_X5_16 : jfl RX5 16 5 2 := ⟨_, _, _, clX5, by decide, Or.inl fw_X5_16⟩
theorem fp_X5_16 : jfp RX5 16 5 2 .int true := ⟨_, _, _, clX5, by decide, Or.inl fw_X5_16, rfl, by decide +kernel, fun _ => ⟨rfl, fw_X5_16⟩⟩
theorem fw_X5_19 : Cond.fieldLink RX5 19 (TX5 3).1 (TX5 3).2.1 (TX5 3).2.2.1 ∈ gt := gt_of (List.mem_of_getElem? (i := 577) (by decide +kernel)) rfl
theorem fl_X5_19 : jfl RX5 19 5 3 := ⟨_, _, _, clX5, by decide, Or.inl fw_X5_19⟩
theorem fp_X5_19 : jfp RX5 19 5 3 .int true := ⟨_, _, _, clX5, by decide, Or.inl fw_X5_19, rfl, by decide +kernel, fun _ => ⟨rfl, fw_X5_19⟩⟩
theorem fw_X7_291 : Cond.fieldLinkNest RX7 291 (TX5 3).1 (TX5 3).2.1 (TX5 3).2.2.1 "ChangingStars" ∈ nt := nt_of (List.mem_of_getElem? (i := 578) (by decide +kernel)) rfl
theorem fl_X7_291 : jfl RX7 291 5 3 := ⟨_, _, _, clX5, by decide, Or.inr ⟨_, fw_X7_291⟩⟩
theorem fw_X8_66 : Cond.fieldLink RX8 66 (TX8 0).1 (TX8 0).2.1 (TX8 0).2.2.1 ∈ gt := gt_of (List.mem_of_getElem? (i := 649) (by decide +kernel)) rfl
theorem fl_X8_66 : jfl RX8 66 8 0 := ⟨_, _, _, clX8, by decide, Or.inl fw_X8_66⟩
theorem fp_X8_66 : jfp RX8 66 8 0 .int false := ⟨_, _, _, clX8, by decide, Or.inl fw_X8_66, rfl, by decide +kernel, fun z => by cases z⟩
theorem fw_X8_7 : Cond.fieldLink RX8 7 (TX8 1).1 (TX8 1).2.1 (TX8 1).2.2.1 ∈ gt := gt_of (List.mem_of_getElem? (i := 650) (by decide +kernel)) rfl
theorem fl_X8_7 : jfl RX8 7 8 1 := ⟨_, _, _, clX8, by decide, Or.inl fw_X8_7⟩
theorem fp_X8_7 : jfp RX8 7 8 1 (.array .int) true := ⟨_, _, _, clX8, by decide, Or.inl fw_X8_7, rfl, by decide +kernel, fun _ => ⟨rfl, fw_X8_7⟩⟩
theorem fw_X8_69 : Cond.fieldLink RX8 69 (TX8 2).1 (TX8 2).2.1 (TX8 2).2.2.1 ∈ gt := gt_of (List.mem_of_getElem? (i := 651) (by decide +kernel)) rfl
theorem fl_X8_69 : jfl RX8 69 8 2 := ⟨_, _, _, clX8, by decide, Or.inl fw_X8_69⟩
theorem fp_X8_69 : jfp RX8 69 8 2 .long false := ⟨_, _, _, clX8, by decide, Or.inl fw_X8_69, rfl, by decide +kernel, fun z => by cases z⟩
theorem fw_X8_73 : Cond.fieldLink RX8 73 (TX8 3).1 (TX8 3).2.1 (TX8 3).2.2.1 ∈ gt := gt_of (List.mem_of_getElem? (i := 652) (by decide +kernel)) rfl
theorem fl_X8_73 : jfl RX8 73 8 3 := ⟨_, _, _, clX8, by decide, Or.inl fw_X8_73⟩
theorem fp_X8_73 : jfp RX8 73 8 3 .int false := ⟨_, _, _, clX8, by decide, Or.inl fw_X8_73, rfl, by decide +kernel, fun z => by cases z⟩
theorem fw_X8_13 : Cond.fieldLink RX8 13 (TX8 4).1 (TX8 4).2.1 (TX8 4).2.2.1 ∈ gt := gt_of (List.mem_of_getElem? (i := 653) (by decide +kernel)) rfl
theorem fl_X8_13 : jfl RX8 13 8 4 := ⟨_, _, _, clX8, by decide, Or.inl fw_X8_13⟩
theorem fp_X8_13 : jfp RX8 13 8 4 (.array .int) true := ⟨_, _, _, clX8, by decide, Or.inl fw_X8_13, rfl, by decide +kernel, fun _ => ⟨rfl, fw_X8_13⟩⟩
theorem fw_X8_16 : Cond.fieldLink RX8 16 (TX8 5).1 (TX8 5).2.1 (TX8 5).2.2.1 ∈ gt := gt_of (List.mem_of_getElem? (i := 654) (by decide +kernel)) rfl
theorem fl_X8_16 : jfl RX8 16 8 5 := ⟨_, _, _, clX8, by decide, Or.inl fw_X8_16⟩
theorem fp_X8_16 : jfp RX8 16 8 5 (.array .boolean) true := ⟨_, _, _, clX8, by decide, Or.inl fw_X8_16, rfl, by decide +kernel, fun _ => ⟨rfl, fw_X8_16⟩⟩
theorem fw_X8_20 : Cond.fieldLink RX8 20 (TX8 6).1 (TX8 6).2.1 (TX8 6).2.2.1 ∈ gt := gt_of (List.mem_of_getElem? (i := 655) (by decide +kernel)) rfl
theorem fl_X8_20 : jfl RX8 20 8 6 := ⟨_, _, _, clX8, by decide, Or.inl fw_X8_20⟩
theorem fp_X8_20 : jfp RX8 20 8 6 (.array .int) true := ⟨_, _, _, clX8, by decide, Or.inl fw_X8_20, rfl, by decide +kernel, fun _ => ⟨rfl, fw_X8_20⟩⟩
theorem fw_X8_23 : Cond.fieldLink RX8 23 (TX8 7).1 (TX8 7).2.1 (TX8 7).2.2.1 ∈ gt := gt_of (List.mem_of_getElem? (i := 656) (by decide +kernel)) rfl
theorem fl_X8_23 : jfl RX8 23 8 7 := ⟨_, _, _, clX8, by decide, Or.inl fw_X8_23⟩
theorem fp_X8_23 : jfp RX8 23 8 7 (.array .int) true := ⟨_, _, _, clX8, by decide, Or.inl fw_X8_23, rfl, by decide +kernel, fun _ => ⟨rfl, fw_X8_23⟩⟩
theorem fw_X8_26 : Cond.fieldLink RX8 26 (TX8 8).1 (TX8 8).2.1 (TX8 8).2.2.1 ∈ gt := gt_of (List.mem_of_getElem? (i := 657) (by decide +kernel)) rfl
theorem fl_X8_26 : jfl RX8 26 8 8 := ⟨_, _, _, clX8, by decide, Or.inl fw_X8_26⟩
theorem fp_X8_26 : jfp RX8 26 8 8 (.array .int) true := ⟨_, _, _, clX8, by decide, Or.inl fw_X8_26, rfl, by decide +kernel, fun _ => ⟨rfl, fw_X8_26⟩⟩
theorem fw_X8_29 : Cond.fieldLink RX8 29 (TX8 9).1 (TX8 9).2.1 (TX8 9).2.2.1 ∈ gt := gt_of (List.mem_of_getElem? (i := 658) (by decide +kernel)) rfl
theorem fl_X8_29 : jfl RX8 29 8 9 := ⟨_, _, _, clX8, by decide, Or.inl fw_X8_29⟩
theorem fp_X8_29 : jfp RX8 29 8 9 (.array .int) true := ⟨_, _, _, clX8, by decide, Or.inl fw_X8_29, rfl, by decide +kernel, fun _ => ⟨rfl, fw_X8_29⟩⟩
theorem fw_X8_32 : Cond.fieldLink RX8 32 (TX8 10).1 (TX8 10).2.1 (TX8 10).2.2.1 ∈ gt := gt_of (List.mem_of_getElem? (i := 659) (by decide +kernel)) rfl
theorem fl_X8_32 : jfl RX8 32 8 10 := ⟨_, _, _, clX8, by decide, Or.inl fw_X8_32⟩
theorem fp_X8_32 : jfp RX8 32 8 10 (.array .int) true := ⟨_, _, _, clX8, by decide, Or.inl fw_X8_32, rfl, by decide +kernel, fun _ => ⟨rfl, fw_X8_32⟩⟩
theorem fw_X8_35 : Cond.fieldLink RX8 35 (TX8 11).1 (TX8 11).2.1 (TX8 11).2.2.1 ∈ gt := gt_of (List.mem_of_getElem? (i := 660) (by decide +kernel)) rfl
theorem fl_X8_35 : jfl RX8 35 8 11 := ⟨_, _, _, clX8, by decide, Or.inl fw_X8_35⟩
theorem fp_X8_35 : jfp RX8 35 8 11 (.array .int) true := ⟨_, _, _, clX8, by decide, Or.inl fw_X8_35, rfl, by decide +kernel, fun _ => ⟨rfl, fw_X8_35⟩⟩
theorem fw_X8_143 : Cond.fieldLink RX8 143 (TX8 12).1 (TX8 12).2.1 (TX8 12).2.2.1 ∈ gt := gt_of (List.mem_of_getElem? (i := 661) (by decide +kernel)) rfl
theorem fl_X8_143 : jfl RX8 143 8 12 := ⟨_, _, _, clX8, by decide, Or.inl fw_X8_143⟩
theorem fp_X8_143 : jfp RX8 143 8 12 .int false := ⟨_, _, _, clX8, by decide, Or.inl fw_X8_143, rfl, by decide +kernel, fun z => by cases z⟩
theorem fw_X8_146 : Cond.fieldLink RX8 146 (TX8 13).1 (TX8 13).2.1 (TX8 13).2.2.1 ∈ gt := gt_of (List.mem_of_getElem? (i := 662) (by decide +kernel)) rfl
theorem fl_X8_146 : jfl RX8 146 8 13 := ⟨_, _, _, clX8, by decide, Or.inl fw_X8_146⟩
theorem fp_X8_146 : jfp RX8 146 8 13 .long false := ⟨_, _, _, clX8, by decide, Or.inl fw_X8_146, rfl, by decide +kernel, fun z => by cases z⟩
theorem fw_X8_38 : Cond.fieldLink RX8 38 (TX8 14).1 (TX8 14).2.1 (TX8 14).2.2.1 ∈ gt := gt_of (List.mem_of_getElem? (i := 663) (by decide +kernel)) rfl
theorem fl_X8_38 : jfl RX8 38 8 14 := ⟨_, _, _, clX8, by decide, Or.inl fw_X8_38⟩
theorem fp_X8_38 : jfp RX8 38 8 14 .int false := ⟨_, _, _, clX8, by decide, Or.inl fw_X8_38, rfl, by decide +kernel, fun z => by cases z⟩
theorem fw_X8_42 : Cond.fieldLink RX8 42 (TX8 15).1 (TX8 15).2.1 (TX8 15).2.2.1 ∈ gt := gt_of (List.mem_of_getElem? (i := 664) (by decide +kernel)) rfl
theorem fl_X8_42 : jfl RX8 42 8 15 := ⟨_, _, _, clX8, by decide, Or.inl fw_X8_42⟩
theorem fp_X8_42 : jfp RX8 42 8 15 .int false := ⟨_, _, _, clX8, by decide, Or.inl fw_X8_42, rfl, by decide +kernel, fun z => by cases z⟩
theorem fw_X8_45 : Cond.fieldLink RX8 45 (TX8 16).1 (TX8 16).2.1 (TX8 16).2.2.1 ∈ gt := gt_of (List.mem_of_getElem? (i := 665) (by decide +kernel)) rfl
theorem fl_X8_45 : jfl RX8 45 8 16 := ⟨_, _, _, clX8, by decide, Or.inl fw_X8_45⟩
theorem fp_X8_45 : jfp RX8 45 8 16 .int false := ⟨_, _, _, clX8, by decide, Or.inl fw_X8_45, rfl, by decide +kernel, fun z => by cases z⟩
theorem fw_X8_48 : Cond.fieldLink RX8 48 (TX8 17).1 (TX8 17).2.1 (TX8 17).2.2.1 ∈ gt := gt_of (List.mem_of_getElem? (i := 666) (by decide +kernel)) rfl
theorem fl_X8_48 : jfl RX8 48 8 17 := ⟨_, _, _, clX8, by decide, Or.inl fw_X8_48⟩
theorem fp_X8_48 : jfp RX8 48 8 17 (.array .int) true := ⟨_, _, _, clX8, by decide, Or.inl fw_X8_48, rfl, by decide +kernel, fun _ => ⟨rfl, fw_X8_48⟩⟩
theorem fw_X8_172 : Cond.fieldLink RX8 172 (TX8 18).1 (TX8 18).2.1 (TX8 18).2.2.1 ∈ gt := gt_of (List.mem_of_getElem? (i := 667) (by decide +kernel)) rfl
theorem fl_X8_172 : jfl RX8 172 8 18 := ⟨_, _, _, clX8, by decide, Or.inl fw_X8_172⟩
theorem fp_X8_172 : jfp RX8 172 8 18 .int false := ⟨_, _, _, clX8, by decide, Or.inl fw_X8_172, rfl, by decide +kernel, fun z => by cases z⟩
theorem fw_X8_51 : Cond.fieldLink RX8 51 (TX8 19).1 (TX8 19).2.1 (TX8 19).2.2.1 ∈ gt := gt_of (List.mem_of_getElem? (i := 668) (by decide +kernel)) rfl
theorem fl_X8_51 : jfl RX8 51 8 19 := ⟨_, _, _, clX8, by decide, Or.inl fw_X8_51⟩
theorem fp_X8_51 : jfp RX8 51 8 19 (.array .int) true := ⟨_, _, _, clX8, by decide, Or.inl fw_X8_51, rfl, by decide +kernel, fun _ => ⟨rfl, fw_X8_51⟩⟩
theorem fw_X8_54 : Cond.fieldLink RX8 54 (TX8 20).1 (TX8 20).2.1 (TX8 20).2.2.1 ∈ gt := gt_of (List.mem_of_getElem? (i := 669) (by decide +kernel)) rfl
theorem fl_X8_54 : jfl RX8 54 8 20 := ⟨_, _, _, clX8, by decide, Or.inl fw_X8_54⟩
theorem fp_X8_54 : jfp RX8 54 8 20 (.array .int) true := ⟨_, _, _, clX8, by decide, Or.inl fw_X8_54, rfl, by decide +kernel, fun _ => ⟨rfl, fw_X8_54⟩⟩
theorem fw_X8_57 : Cond.fieldLink RX8 57 (TX8 21).1 (TX8 21).2.1 (TX8 21).2.2.1 ∈ gt := gt_of (List.mem_of_getElem? (i := 670) (by decide +kernel)) rfl
theorem fl_X8_57 : jfl RX8 57 8 21 := ⟨_, _, _, clX8, by decide, Or.inl fw_X8_57⟩
theorem fp_X8_57 : jfp RX8 57 8 21 (.array .int) true := ⟨_, _, _, clX8, by decide, Or.inl fw_X8_57, rfl, by decide +kernel, fun _ => ⟨rfl, fw_X8_57⟩⟩
theorem fw_X8_60 : Cond.fieldLink RX8 60 (TX8 22).1 (TX8 22).2.1 (TX8 22).2.2.1 ∈ gt := gt_of (List.mem_of_getElem? (i := 671) (by decide +kernel)) rfl
theorem fl_X8_60 : jfl RX8 60 8 22 := ⟨_, _, _, clX8, by decide, Or.inl fw_X8_60⟩
theorem fp_X8_60 : jfp RX8 60 8 22 (.array .int) true := ⟨_, _, _, clX8, by decide, Or.inl fw_X8_60, rfl, by decide +kernel, fun _ => ⟨rfl, fw_X8_60⟩⟩
theorem fw_X8_63 : Cond.fieldLink RX8 63 (TX8 23).1 (TX8 23).2.1 (TX8 23).2.2.1 ∈ gt := gt_of (List.mem_of_getElem? (i := 672) (by decide +kernel)) rfl
theorem fl_X8_63 : jfl RX8 63 8 23 := ⟨_, _, _, clX8, by decide, Or.inl fw_X8_63⟩
theorem fp_X8_63 : jfp RX8 63 8 23 (.array .int) true := ⟨_, _, _, clX8, by decide, Or.inl fw_X8_63, rfl, by decide +kernel, fun _ => ⟨rfl, fw_X8_63⟩⟩
theorem fw_X8_181 : Cond.fieldLink RX8 181 (TX8 24).1 (TX8 24).2.1 (TX8 24).2.2.1 ∈ gt := gt_of (List.mem_of_getElem? (i := 673) (by decide +kernel)) rfl
theorem fl_X8_181 : jfl RX8 181 8 24 := ⟨_, _, _, clX8, by decide, Or.inl fw_X8_181⟩
theorem fp_X8_181 : jfp RX8 181 8 24 .int false := ⟨_, _, _, clX8, by decide, Or.inl fw_X8_181, rfl, by decide +kernel, fun z => by cases z⟩
theorem fw_X8_184 : Cond.fieldLink RX8 184 (TX8 25).1 (TX8 25).2.1 (TX8 25).2.2.1 ∈ gt := gt_of (List.mem_of_getElem? (i := 674) (by decide +kernel)) rfl
theorem fl_X8_184 : jfl RX8 184 8 25 := ⟨_, _, _, clX8, by decide, Or.inl fw_X8_184⟩
theorem fp_X8_184 : jfp RX8 184 8 25 .int false := ⟨_, _, _, clX8, by decide, Or.inl fw_X8_184, rfl, by decide +kernel, fun z => by cases z⟩
theorem wc_yX7_init : Cond.code yX7_init mX7_init.2.1 mX7_init.2.2.1 mX7_init.2.2.2 ∈ gt := gt_of (List.mem_of_getElem? (i := 78) (by decide +kernel)) rfl
theorem wi_X7 : Cond.initialized RX7 ∈ gt := gt_of (List.mem_of_getElem? (i := 62) (by decide +kernel)) rfl
theorem mf_yX7_init : jmf yX7_init mX7_init 0 := ⟨wc_yX7_init, wi_X7, by decide, by decide, by decide +kernel⟩
theorem mI_yX7_init : Cond.instanceMethod yX7_init ∈ gt := gt_of (List.mem_of_getElem? (i := 77) (by decide +kernel)) rfl
theorem wc_yX1_init : Cond.code yX1_init mX1_init.2.1 mX1_init.2.2.1 mX1_init.2.2.2 ∈ gt := gt_of (List.mem_of_getElem? (i := 90) (by decide +kernel)) rfl
theorem wi_X1 : Cond.initialized RX1 ∈ gt := gt_of (List.mem_of_getElem? (i := 63) (by decide +kernel)) rfl
theorem mf_yX1_init : jmf yX1_init mX1_init 0 := ⟨wc_yX1_init, wi_X1, by decide, by decide, by decide +kernel⟩
theorem mI_yX1_init : Cond.instanceMethod yX1_init ∈ gt := gt_of (List.mem_of_getElem? (i := 89) (by decide +kernel)) rfl
theorem wc_yX0_init : Cond.code yX0_init mX0_init.2.1 mX0_init.2.2.1 mX0_init.2.2.2 ∈ gt := gt_of (List.mem_of_getElem? (i := 119) (by decide +kernel)) rfl
theorem wi_X0 : Cond.initialized RX0 ∈ gt := gt_of (List.mem_of_getElem? (i := 64) (by decide +kernel)) rfl
theorem mf_yX0_init : jmf yX0_init mX0_init 0 := ⟨wc_yX0_init, wi_X0, by decide, by decide, by decide +kernel⟩
theorem mI_yX0_init : Cond.instanceMethod yX0_init ∈ gt := gt_of (List.mem_of_getElem? (i := 118) (by decide +kernel)) rfl
theorem wc_yX3_init : Cond.code yX3_init mX3_init.2.1 mX3_init.2.2.1 mX3_init.2.2.2 ∈ gt := gt_of (List.mem_of_getElem? (i := 132) (by decide +kernel)) rfl
theorem wi_X3 : Cond.initialized RX3 ∈ gt := gt_of (List.mem_of_getElem? (i := 65) (by decide +kernel)) rfl
theorem mf_yX3_init : jmf yX3_init mX3_init 0 := ⟨wc_yX3_init, wi_X3, by decide, by decide, by decide +kernel⟩
theorem mI_yX3_init : Cond.instanceMethod yX3_init ∈ gt := gt_of (List.mem_of_getElem? (i := 131) (by decide +kernel)) rfl
theorem wc_yX4_init : Cond.code yX4_init mX4_init.2.1 mX4_init.2.2.1 mX4_init.2.2.2 ∈ gt := gt_of (List.mem_of_getElem? (i := 149) (by decide +kernel)) rfl
theorem wi_X4 : Cond.initialized RX4 ∈ gt := gt_of (List.mem_of_getElem? (i := 66) (by decide +kernel)) rfl
theorem mf_yX4_init : jmf yX4_init mX4_init 0 := ⟨wc_yX4_init, wi_X4, by decide, by decide, by decide +kernel⟩
theorem mI_yX4_init : Cond.instanceMethod yX4_init ∈ gt := gt_of (List.mem_of_getElem? (i := 148) (by decide +kernel)) rfl
theorem wc_yX2_init : Cond.code yX2_init mX2_init.2.1 mX2_init.2.2.1 mX2_init.2.2.2 ∈ gt := gt_of (List.mem_of_getElem? (i := 164) (by decide +kernel)) rfl
theorem wi_X2 : Cond.initialized RX2 ∈ gt := gt_of (List.mem_of_getElem? (i := 67) (by decide +kernel)) rfl
theorem mf_yX2_init : jmf yX2_init mX2_init 0 := ⟨wc_yX2_init, wi_X2, by decide, by decide, by decide +kernel⟩
theorem mI_yX2_init : Cond.instanceMethod yX2_init ∈ gt := gt_of (List.mem_of_getElem? (i := 163) (by decide +kernel)) rfl
theorem wc_yX7_star : Cond.code yX7_star mX7_star.2.1 mX7_star.2.2.1 mX7_star.2.2.2 ∈ gt := gt_of (List.mem_of_getElem? (i := 252) (by decide +kernel)) rfl
theorem mf_yX7_star : jmf yX7_star mX7_star 1 := ⟨wc_yX7_star, wi_X7, by decide, by decide, by decide +kernel⟩
theorem mI_yX7_star : Cond.instanceMethod yX7_star ∈ gt := gt_of (List.mem_of_getElem? (i := 250) (by decide +kernel)) rfl
theorem mi_yX7_star : jmi yX7_star := ⟨mI_yX7_star, gt_of (List.mem_of_getElem? (i := 251) (by decide +kernel)) rfl⟩
theorem wc_yX7_isKind : Cond.code yX7_isKind mX7_isKind.2.1 mX7_isKind.2.2.1 mX7_isKind.2.2.2 ∈ gt := gt_of (List.mem_of_getElem? (i := 255) (by decide +kernel)) rfl
theorem mf_yX7_isKind : jmf yX7_isKind mX7_isKind 1 := ⟨wc_yX7_isKind, wi_X7, by decide, by decide, by decide +kernel⟩
theorem mS_yX7_isKind : Cond.static yX7_isKind ∈ gt := gt_of (List.mem_of_getElem? (i := 254) (by decide +kernel)) rfl
theorem wc_yX6_init : Cond.code yX6_init mX6_init.2.1 mX6_init.2.2.1 mX6_init.2.2.2 ∈ gt := gt_of (List.mem_of_getElem? (i := 259) (by decide +kernel)) rfl
theorem wi_X6 : Cond.initialized RX6 ∈ gt := gt_of (List.mem_of_getElem? (i := 69) (by decide +kernel)) rfl
theorem mf_yX6_init : jmf yX6_init mX6_init 1 := ⟨wc_yX6_init, wi_X6, by decide, by decide, by decide +kernel⟩
theorem mI_yX6_init : Cond.instanceMethod yX6_init ∈ gt := gt_of (List.mem_of_getElem? (i := 258) (by decide +kernel)) rfl
theorem wc_yJ7_fill_53178 : Cond.code yJ7_fill_53178 mJ7_fill_53178.2.1 mJ7_fill_53178.2.2.1 mJ7_fill_53178.2.2.2 ∈ gt := gt_of (List.mem_of_getElem? (i := 263) (by decide +kernel)) rfl
theorem wi_J7 : Cond.initialized RJ7 ∈ gt := gt_of (List.mem_of_getElem? (i := 70) (by decide +kernel)) rfl
theorem mf_yJ7_fill_53178 : jmf yJ7_fill_53178 mJ7_fill_53178 2 := ⟨wc_yJ7_fill_53178, wi_J7, by decide, by decide, by decide +kernel⟩
theorem mS_yJ7_fill_53178 : Cond.static yJ7_fill_53178 ∈ gt := gt_of (List.mem_of_getElem? (i := 262) (by decide +kernel)) rfl
theorem wc_yX7_is : Cond.code yX7_is mX7_is.2.1 mX7_is.2.2.1 mX7_is.2.2.2 ∈ gt := gt_of (List.mem_of_getElem? (i := 285) (by decide +kernel)) rfl
theorem mf_yX7_is : jmf yX7_is mX7_is 2 := ⟨wc_yX7_is, wi_X7, by decide, by decide, by decide +kernel⟩
theorem mI_yX7_is : Cond.instanceMethod yX7_is ∈ gt := gt_of (List.mem_of_getElem? (i := 283) (by decide +kernel)) rfl
theorem mi_yX7_is : jmi yX7_is := ⟨mI_yX7_is, gt_of (List.mem_of_getElem? (i := 284) (by decide +kernel)) rfl⟩
theorem wc_yX7_starNumbered : Cond.code yX7_starNumbered mX7_starNumbered.2.1 mX7_starNumbered.2.2.1 mX7_starNumbered.2.2.2 ∈ gt := gt_of (List.mem_of_getElem? (i := 289) (by decide +kernel)) rfl
theorem mf_yX7_starNumbered : jmf yX7_starNumbered mX7_starNumbered 1 := ⟨wc_yX7_starNumbered, wi_X7, by decide, by decide, by decide +kernel⟩
theorem mI_yX7_starNumbered : Cond.instanceMethod yX7_starNumbered ∈ gt := gt_of (List.mem_of_getElem? (i := 288) (by decide +kernel)) rfl
theorem mi_yX7_starNumbered : jmi yX7_starNumbered := ⟨mI_yX7_starNumbered, gt_of (List.mem_of_getElem? (i := 0) (by decide +kernel)) rfl⟩
theorem wc_yX6_isOfKind : Cond.code yX6_isOfKind mX6_isOfKind.2.1 mX6_isOfKind.2.2.1 mX6_isOfKind.2.2.2 ∈ gt := gt_of (List.mem_of_getElem? (i := 293) (by decide +kernel)) rfl
theorem mf_yX6_isOfKind : jmf yX6_isOfKind mX6_isOfKind 1 := ⟨wc_yX6_isOfKind, wi_X6, by decide, by decide, by decide +kernel⟩
theorem mI_yX6_isOfKind : Cond.instanceMethod yX6_isOfKind ∈ gt := gt_of (List.mem_of_getElem? (i := 292) (by decide +kernel)) rfl
theorem mi_yX6_isOfKind : jmi yX6_isOfKind := ⟨mI_yX6_isOfKind, gt_of (List.mem_of_getElem? (i := 1) (by decide +kernel)) rfl⟩
theorem wc_yX7_mark : Cond.code yX7_mark mX7_mark.2.1 mX7_mark.2.2.1 mX7_mark.2.2.2 ∈ gt := gt_of (List.mem_of_getElem? (i := 297) (by decide +kernel)) rfl
theorem mf_yX7_mark : jmf yX7_mark mX7_mark 2 := ⟨wc_yX7_mark, wi_X7, by decide, by decide, by decide +kernel⟩
theorem mI_yX7_mark : Cond.instanceMethod yX7_mark ∈ gt := gt_of (List.mem_of_getElem? (i := 295) (by decide +kernel)) rfl
theorem mi_yX7_mark : jmi yX7_mark := ⟨mI_yX7_mark, gt_of (List.mem_of_getElem? (i := 296) (by decide +kernel)) rfl⟩
theorem wc_yX7_found : Cond.code yX7_found mX7_found.2.1 mX7_found.2.2.1 mX7_found.2.2.2 ∈ gt := gt_of (List.mem_of_getElem? (i := 301) (by decide +kernel)) rfl
theorem mf_yX7_found : jmf yX7_found mX7_found 1 := ⟨wc_yX7_found, wi_X7, by decide, by decide, by decide +kernel⟩
theorem mI_yX7_found : Cond.instanceMethod yX7_found ∈ gt := gt_of (List.mem_of_getElem? (i := 300) (by decide +kernel)) rfl
theorem mi_yX7_found : jmi yX7_found := ⟨mI_yX7_found, gt_of (List.mem_of_getElem? (i := 2) (by decide +kernel)) rfl⟩
theorem wc_yX7_gatherRow : Cond.code yX7_gatherRow mX7_gatherRow.2.1 mX7_gatherRow.2.2.1 mX7_gatherRow.2.2.2 ∈ gt := gt_of (List.mem_of_getElem? (i := 305) (by decide +kernel)) rfl
theorem mf_yX7_gatherRow : jmf yX7_gatherRow mX7_gatherRow 1 := ⟨wc_yX7_gatherRow, wi_X7, by decide, by decide, by decide +kernel⟩
theorem mI_yX7_gatherRow : Cond.instanceMethod yX7_gatherRow ∈ gt := gt_of (List.mem_of_getElem? (i := 304) (by decide +kernel)) rfl
theorem mi_yX7_gatherRow : jmi yX7_gatherRow := ⟨mI_yX7_gatherRow, gt_of (List.mem_of_getElem? (i := 3) (by decide +kernel)) rfl⟩
theorem wc_yX7_lookAtRow : Cond.code yX7_lookAtRow mX7_lookAtRow.2.1 mX7_lookAtRow.2.2.1 mX7_lookAtRow.2.2.2 ∈ gt := gt_of (List.mem_of_getElem? (i := 309) (by decide +kernel)) rfl
theorem mf_yX7_lookAtRow : jmf yX7_lookAtRow mX7_lookAtRow 1 := ⟨wc_yX7_lookAtRow, wi_X7, by decide, by decide, by decide +kernel⟩
theorem mI_yX7_lookAtRow : Cond.instanceMethod yX7_lookAtRow ∈ gt := gt_of (List.mem_of_getElem? (i := 308) (by decide +kernel)) rfl
theorem mi_yX7_lookAtRow : jmi yX7_lookAtRow := ⟨mI_yX7_lookAtRow, gt_of (List.mem_of_getElem? (i := 4) (by decide +kernel)) rfl⟩
theorem wc_yX1_gather : Cond.code yX1_gather mX1_gather.2.1 mX1_gather.2.2.1 mX1_gather.2.2.2 ∈ gt := gt_of (List.mem_of_getElem? (i := 313) (by decide +kernel)) rfl
theorem mf_yX1_gather : jmf yX1_gather mX1_gather 2 := ⟨wc_yX1_gather, wi_X1, by decide, by decide, by decide +kernel⟩
theorem mI_yX1_gather : Cond.instanceMethod yX1_gather ∈ gt := gt_of (List.mem_of_getElem? (i := 312) (by decide +kernel)) rfl
theorem mi_yX1_gather : jmi yX1_gather := ⟨mI_yX1_gather, gt_of (List.mem_of_getElem? (i := 5) (by decide +kernel)) rfl⟩
theorem wc_yX7_markOfCurve : Cond.code yX7_markOfCurve mX7_markOfCurve.2.1 mX7_markOfCurve.2.2.1 mX7_markOfCurve.2.2.2 ∈ gt := gt_of (List.mem_of_getElem? (i := 317) (by decide +kernel)) rfl
theorem mf_yX7_markOfCurve : jmf yX7_markOfCurve mX7_markOfCurve 1 := ⟨wc_yX7_markOfCurve, wi_X7, by decide, by decide, by decide +kernel⟩
theorem mI_yX7_markOfCurve : Cond.instanceMethod yX7_markOfCurve ∈ gt := gt_of (List.mem_of_getElem? (i := 316) (by decide +kernel)) rfl
theorem mi_yX7_markOfCurve : jmi yX7_markOfCurve := ⟨mI_yX7_markOfCurve, gt_of (List.mem_of_getElem? (i := 6) (by decide +kernel)) rfl⟩
theorem wc_yX7_measureCurve : Cond.code yX7_measureCurve mX7_measureCurve.2.1 mX7_measureCurve.2.2.1 mX7_measureCurve.2.2.2 ∈ gt := gt_of (List.mem_of_getElem? (i := 321) (by decide +kernel)) rfl
theorem mf_yX7_measureCurve : jmf yX7_measureCurve mX7_measureCurve 0 := ⟨wc_yX7_measureCurve, wi_X7, by decide, by decide, by decide +kernel⟩
theorem mI_yX7_measureCurve : Cond.instanceMethod yX7_measureCurve ∈ gt := gt_of (List.mem_of_getElem? (i := 320) (by decide +kernel)) rfl
theorem mi_yX7_measureCurve : jmi yX7_measureCurve := ⟨mI_yX7_measureCurve, gt_of (List.mem_of_getElem? (i := 7) (by decide +kernel)) rfl⟩
theorem wc_yX7_levelOfCurve : Cond.code yX7_levelOfCurve mX7_levelOfCurve.2.1 mX7_levelOfCurve.2.2.1 mX7_levelOfCurve.2.2.2 ∈ gt := gt_of (List.mem_of_getElem? (i := 325) (by decide +kernel)) rfl
theorem mf_yX7_levelOfCurve : jmf yX7_levelOfCurve mX7_levelOfCurve 0 := ⟨wc_yX7_levelOfCurve, wi_X7, by decide, by decide, by decide +kernel⟩
theorem mI_yX7_levelOfCurve : Cond.instanceMethod yX7_levelOfCurve ∈ gt := gt_of (List.mem_of_getElem? (i := 324) (by decide +kernel)) rfl
theorem mi_yX7_levelOfCurve : jmi yX7_levelOfCurve := ⟨mI_yX7_levelOfCurve, gt_of (List.mem_of_getElem? (i := 8) (by decide +kernel)) rfl⟩
theorem wc_yX0_clear : Cond.code yX0_clear mX0_clear.2.1 mX0_clear.2.2.1 mX0_clear.2.2.2 ∈ gt := gt_of (List.mem_of_getElem? (i := 329) (by decide +kernel)) rfl
theorem mf_yX0_clear : jmf yX0_clear mX0_clear 0 := ⟨wc_yX0_clear, wi_X0, by decide, by decide, by decide +kernel⟩
theorem mI_yX0_clear : Cond.instanceMethod yX0_clear ∈ gt := gt_of (List.mem_of_getElem? (i := 328) (by decide +kernel)) rfl
theorem mi_yX0_clear : jmi yX0_clear := ⟨mI_yX0_clear, gt_of (List.mem_of_getElem? (i := 9) (by decide +kernel)) rfl⟩
theorem wc_yX0_put : Cond.code yX0_put mX0_put.2.1 mX0_put.2.2.1 mX0_put.2.2.2 ∈ gt := gt_of (List.mem_of_getElem? (i := 333) (by decide +kernel)) rfl
theorem mf_yX0_put : jmf yX0_put mX0_put 1 := ⟨wc_yX0_put, wi_X0, by decide, by decide, by decide +kernel⟩
theorem mI_yX0_put : Cond.instanceMethod yX0_put ∈ gt := gt_of (List.mem_of_getElem? (i := 332) (by decide +kernel)) rfl
theorem mi_yX0_put : jmi yX0_put := ⟨mI_yX0_put, gt_of (List.mem_of_getElem? (i := 10) (by decide +kernel)) rfl⟩
theorem wc_yX0_middle : Cond.code yX0_middle mX0_middle.2.1 mX0_middle.2.2.1 mX0_middle.2.2.2 ∈ gt := gt_of (List.mem_of_getElem? (i := 337) (by decide +kernel)) rfl
theorem mf_yX0_middle : jmf yX0_middle mX0_middle 0 := ⟨wc_yX0_middle, wi_X0, by decide, by decide, by decide +kernel⟩
theorem mI_yX0_middle : Cond.instanceMethod yX0_middle ∈ gt := gt_of (List.mem_of_getElem? (i := 336) (by decide +kernel)) rfl
theorem mi_yX0_middle : jmi yX0_middle := ⟨mI_yX0_middle, gt_of (List.mem_of_getElem? (i := 11) (by decide +kernel)) rfl⟩
theorem wc_yX0_spread : Cond.code yX0_spread mX0_spread.2.1 mX0_spread.2.2.1 mX0_spread.2.2.2 ∈ gt := gt_of (List.mem_of_getElem? (i := 341) (by decide +kernel)) rfl
theorem mf_yX0_spread : jmf yX0_spread mX0_spread 0 := ⟨wc_yX0_spread, wi_X0, by decide, by decide, by decide +kernel⟩
theorem mI_yX0_spread : Cond.instanceMethod yX0_spread ∈ gt := gt_of (List.mem_of_getElem? (i := 340) (by decide +kernel)) rfl
theorem mi_yX0_spread : jmi yX0_spread := ⟨mI_yX0_spread, gt_of (List.mem_of_getElem? (i := 12) (by decide +kernel)) rfl⟩
theorem wc_yX4_gather : Cond.code yX4_gather mX4_gather.2.1 mX4_gather.2.2.1 mX4_gather.2.2.2 ∈ gt := gt_of (List.mem_of_getElem? (i := 345) (by decide +kernel)) rfl
theorem mf_yX4_gather : jmf yX4_gather mX4_gather 2 := ⟨wc_yX4_gather, wi_X4, by decide, by decide, by decide +kernel⟩
theorem mI_yX4_gather : Cond.instanceMethod yX4_gather ∈ gt := gt_of (List.mem_of_getElem? (i := 344) (by decide +kernel)) rfl
theorem mi_yX4_gather : jmi yX4_gather := ⟨mI_yX4_gather, gt_of (List.mem_of_getElem? (i := 13) (by decide +kernel)) rfl⟩
theorem wc_yX7_row : Cond.code yX7_row mX7_row.2.1 mX7_row.2.2.1 mX7_row.2.2.2 ∈ gt := gt_of (List.mem_of_getElem? (i := 349) (by decide +kernel)) rfl
theorem mf_yX7_row : jmf yX7_row mX7_row 1 := ⟨wc_yX7_row, wi_X7, by decide, by decide, by decide +kernel⟩
theorem mI_yX7_row : Cond.instanceMethod yX7_row ∈ gt := gt_of (List.mem_of_getElem? (i := 347) (by decide +kernel)) rfl
theorem mi_yX7_row : jmi yX7_row := ⟨mI_yX7_row, gt_of (List.mem_of_getElem? (i := 348) (by decide +kernel)) rfl⟩
theorem wc_yX6_emptyRow : Cond.code yX6_emptyRow mX6_emptyRow.2.1 mX6_emptyRow.2.2.1 mX6_emptyRow.2.2.2 ∈ gt := gt_of (List.mem_of_getElem? (i := 353) (by decide +kernel)) rfl
theorem mf_yX6_emptyRow : jmf yX6_emptyRow mX6_emptyRow 1 := ⟨wc_yX6_emptyRow, wi_X6, by decide, by decide, by decide +kernel⟩
theorem mI_yX6_emptyRow : Cond.instanceMethod yX6_emptyRow ∈ gt := gt_of (List.mem_of_getElem? (i := 352) (by decide +kernel)) rfl
theorem mi_yX6_emptyRow : jmi yX6_emptyRow := ⟨mI_yX6_emptyRow, gt_of (List.mem_of_getElem? (i := 14) (by decide +kernel)) rfl⟩
theorem wc_yX7_lay : Cond.code yX7_lay mX7_lay.2.1 mX7_lay.2.2.1 mX7_lay.2.2.2 ∈ gt := gt_of (List.mem_of_getElem? (i := 357) (by decide +kernel)) rfl
theorem mf_yX7_lay : jmf yX7_lay mX7_lay 3 := ⟨wc_yX7_lay, wi_X7, by decide, by decide, by decide +kernel⟩
theorem mI_yX7_lay : Cond.instanceMethod yX7_lay ∈ gt := gt_of (List.mem_of_getElem? (i := 355) (by decide +kernel)) rfl
theorem mi_yX7_lay : jmi yX7_lay := ⟨mI_yX7_lay, gt_of (List.mem_of_getElem? (i := 356) (by decide +kernel)) rfl⟩
theorem wc_yX7_lookAtNight : Cond.code yX7_lookAtNight mX7_lookAtNight.2.1 mX7_lookAtNight.2.2.1 mX7_lookAtNight.2.2.2 ∈ gt := gt_of (List.mem_of_getElem? (i := 361) (by decide +kernel)) rfl
theorem mf_yX7_lookAtNight : jmf yX7_lookAtNight mX7_lookAtNight 2 := ⟨wc_yX7_lookAtNight, wi_X7, by decide, by decide, by decide +kernel⟩
theorem mI_yX7_lookAtNight : Cond.instanceMethod yX7_lookAtNight ∈ gt := gt_of (List.mem_of_getElem? (i := 360) (by decide +kernel)) rfl
theorem mi_yX7_lookAtNight : jmi yX7_lookAtNight := ⟨mI_yX7_lookAtNight, gt_of (List.mem_of_getElem? (i := 15) (by decide +kernel)) rfl⟩
theorem wc_yX7_isNight : Cond.code yX7_isNight mX7_isNight.2.1 mX7_isNight.2.2.1 mX7_isNight.2.2.2 ∈ gt := gt_of (List.mem_of_getElem? (i := 364) (by decide +kernel)) rfl
theorem mf_yX7_isNight : jmf yX7_isNight mX7_isNight 1 := ⟨wc_yX7_isNight, wi_X7, by decide, by decide, by decide +kernel⟩
theorem mS_yX7_isNight : Cond.static yX7_isNight ∈ gt := gt_of (List.mem_of_getElem? (i := 363) (by decide +kernel)) rfl
theorem wc_yX7_at : Cond.code yX7_at mX7_at.2.1 mX7_at.2.2.1 mX7_at.2.2.2 ∈ gt := gt_of (List.mem_of_getElem? (i := 368) (by decide +kernel)) rfl
theorem mf_yX7_at : jmf yX7_at mX7_at 2 := ⟨wc_yX7_at, wi_X7, by decide, by decide, by decide +kernel⟩
theorem mI_yX7_at : Cond.instanceMethod yX7_at ∈ gt := gt_of (List.mem_of_getElem? (i := 366) (by decide +kernel)) rfl
theorem mi_yX7_at : jmi yX7_at := ⟨mI_yX7_at, gt_of (List.mem_of_getElem? (i := 367) (by decide +kernel)) rfl⟩
theorem wc_yX7_light : Cond.code yX7_light mX7_light.2.1 mX7_light.2.2.1 mX7_light.2.2.2 ∈ gt := gt_of (List.mem_of_getElem? (i := 372) (by decide +kernel)) rfl
theorem mf_yX7_light : jmf yX7_light mX7_light 2 := ⟨wc_yX7_light, wi_X7, by decide, by decide, by decide +kernel⟩
theorem mI_yX7_light : Cond.instanceMethod yX7_light ∈ gt := gt_of (List.mem_of_getElem? (i := 370) (by decide +kernel)) rfl
theorem mi_yX7_light : jmi yX7_light := ⟨mI_yX7_light, gt_of (List.mem_of_getElem? (i := 371) (by decide +kernel)) rfl⟩
theorem wc_yX7_tell : Cond.code yX7_tell mX7_tell.2.1 mX7_tell.2.2.1 mX7_tell.2.2.2 ∈ gt := gt_of (List.mem_of_getElem? (i := 376) (by decide +kernel)) rfl
theorem mf_yX7_tell : jmf yX7_tell mX7_tell 1 := ⟨wc_yX7_tell, wi_X7, by decide, by decide, by decide +kernel⟩
theorem mI_yX7_tell : Cond.instanceMethod yX7_tell ∈ gt := gt_of (List.mem_of_getElem? (i := 375) (by decide +kernel)) rfl
theorem mi_yX7_tell : jmi yX7_tell := ⟨mI_yX7_tell, gt_of (List.mem_of_getElem? (i := 16) (by decide +kernel)) rfl⟩
theorem wc_yX7_tear : Cond.code yX7_tear mX7_tear.2.1 mX7_tear.2.2.1 mX7_tear.2.2.2 ∈ gt := gt_of (List.mem_of_getElem? (i := 380) (by decide +kernel)) rfl
theorem mf_yX7_tear : jmf yX7_tear mX7_tear 1 := ⟨wc_yX7_tear, wi_X7, by decide, by decide, by decide +kernel⟩
theorem mI_yX7_tear : Cond.instanceMethod yX7_tear ∈ gt := gt_of (List.mem_of_getElem? (i := 378) (by decide +kernel)) rfl
theorem mi_yX7_tear : jmi yX7_tear := ⟨mI_yX7_tear, gt_of (List.mem_of_getElem? (i := 379) (by decide +kernel)) rfl⟩
theorem wc_yX7_copy : Cond.code yX7_copy mX7_copy.2.1 mX7_copy.2.2.1 mX7_copy.2.2.2 ∈ gt := gt_of (List.mem_of_getElem? (i := 384) (by decide +kernel)) rfl
theorem mf_yX7_copy : jmf yX7_copy mX7_copy 5 := ⟨wc_yX7_copy, wi_X7, by decide, by decide, by decide +kernel⟩
theorem mI_yX7_copy : Cond.instanceMethod yX7_copy ∈ gt := gt_of (List.mem_of_getElem? (i := 382) (by decide +kernel)) rfl
theorem mi_yX7_copy : jmi yX7_copy := ⟨mI_yX7_copy, gt_of (List.mem_of_getElem? (i := 383) (by decide +kernel)) rfl⟩
theorem wc_yX7_areNights : Cond.code yX7_areNights mX7_areNights.2.1 mX7_areNights.2.2.1 mX7_areNights.2.2.2 ∈ gt := gt_of (List.mem_of_getElem? (i := 387) (by decide +kernel)) rfl
theorem mf_yX7_areNights : jmf yX7_areNights mX7_areNights 2 := ⟨wc_yX7_areNights, wi_X7, by decide, by decide, by decide +kernel⟩
theorem mS_yX7_areNights : Cond.static yX7_areNights ∈ gt := gt_of (List.mem_of_getElem? (i := 386) (by decide +kernel)) rfl
theorem wc_yX7_foot : Cond.code yX7_foot mX7_foot.2.1 mX7_foot.2.2.1 mX7_foot.2.2.2 ∈ gt := gt_of (List.mem_of_getElem? (i := 394) (by decide +kernel)) rfl
theorem mf_yX7_foot : jmf yX7_foot mX7_foot 2 := ⟨wc_yX7_foot, wi_X7, by decide, by decide, by decide +kernel⟩
theorem mI_yX7_foot : Cond.instanceMethod yX7_foot ∈ gt := gt_of (List.mem_of_getElem? (i := 392) (by decide +kernel)) rfl
theorem mi_yX7_foot : jmi yX7_foot := ⟨mI_yX7_foot, gt_of (List.mem_of_getElem? (i := 393) (by decide +kernel)) rfl⟩
theorem wc_yX7_footing : Cond.code yX7_footing mX7_footing.2.1 mX7_footing.2.2.1 mX7_footing.2.2.2 ∈ gt := gt_of (List.mem_of_getElem? (i := 398) (by decide +kernel)) rfl
theorem mf_yX7_footing : jmf yX7_footing mX7_footing 1 := ⟨wc_yX7_footing, wi_X7, by decide, by decide, by decide +kernel⟩
theorem mI_yX7_footing : Cond.instanceMethod yX7_footing ∈ gt := gt_of (List.mem_of_getElem? (i := 396) (by decide +kernel)) rfl
theorem mi_yX7_footing : jmi yX7_footing := ⟨mI_yX7_footing, gt_of (List.mem_of_getElem? (i := 397) (by decide +kernel)) rfl⟩
theorem wc_yX7_level : Cond.code yX7_level mX7_level.2.1 mX7_level.2.2.1 mX7_level.2.2.2 ∈ gt := gt_of (List.mem_of_getElem? (i := 402) (by decide +kernel)) rfl
theorem mf_yX7_level : jmf yX7_level mX7_level 0 := ⟨wc_yX7_level, wi_X7, by decide, by decide, by decide +kernel⟩
theorem mI_yX7_level : Cond.instanceMethod yX7_level ∈ gt := gt_of (List.mem_of_getElem? (i := 400) (by decide +kernel)) rfl
theorem mi_yX7_level : jmi yX7_level := ⟨mI_yX7_level, gt_of (List.mem_of_getElem? (i := 401) (by decide +kernel)) rfl⟩
theorem wc_yX7_levelWithoutFootings : Cond.code yX7_levelWithoutFootings mX7_levelWithoutFootings.2.1 mX7_levelWithoutFootings.2.2.1 mX7_levelWithoutFootings.2.2.2 ∈ gt := gt_of (List.mem_of_getElem? (i := 406) (by decide +kernel)) rfl
theorem mf_yX7_levelWithoutFootings : jmf yX7_levelWithoutFootings mX7_levelWithoutFootings 1 := ⟨wc_yX7_levelWithoutFootings, wi_X7, by decide, by decide, by decide +kernel⟩
theorem mI_yX7_levelWithoutFootings : Cond.instanceMethod yX7_levelWithoutFootings ∈ gt := gt_of (List.mem_of_getElem? (i := 405) (by decide +kernel)) rfl
theorem mi_yX7_levelWithoutFootings : jmi yX7_levelWithoutFootings := ⟨mI_yX7_levelWithoutFootings, gt_of (List.mem_of_getElem? (i := 17) (by decide +kernel)) rfl⟩
theorem wc_yX7_middleDifference : Cond.code yX7_middleDifference mX7_middleDifference.2.1 mX7_middleDifference.2.2.1 mX7_middleDifference.2.2.2 ∈ gt := gt_of (List.mem_of_getElem? (i := 410) (by decide +kernel)) rfl
theorem mf_yX7_middleDifference : jmf yX7_middleDifference mX7_middleDifference 1 := ⟨wc_yX7_middleDifference, wi_X7, by decide, by decide, by decide +kernel⟩
theorem mI_yX7_middleDifference : Cond.instanceMethod yX7_middleDifference ∈ gt := gt_of (List.mem_of_getElem? (i := 409) (by decide +kernel)) rfl
theorem mi_yX7_middleDifference : jmi yX7_middleDifference := ⟨mI_yX7_middleDifference, gt_of (List.mem_of_getElem? (i := 18) (by decide +kernel)) rfl⟩
theorem wc_yX7_levelOf : Cond.code yX7_levelOf mX7_levelOf.2.1 mX7_levelOf.2.2.1 mX7_levelOf.2.2.2 ∈ gt := gt_of (List.mem_of_getElem? (i := 414) (by decide +kernel)) rfl
theorem mf_yX7_levelOf : jmf yX7_levelOf mX7_levelOf 1 := ⟨wc_yX7_levelOf, wi_X7, by decide, by decide, by decide +kernel⟩
theorem mI_yX7_levelOf : Cond.instanceMethod yX7_levelOf ∈ gt := gt_of (List.mem_of_getElem? (i := 412) (by decide +kernel)) rfl
theorem mi_yX7_levelOf : jmi yX7_levelOf := ⟨mI_yX7_levelOf, gt_of (List.mem_of_getElem? (i := 413) (by decide +kernel)) rfl⟩
theorem wc_yX7_gatherLights : Cond.code yX7_gatherLights mX7_gatherLights.2.1 mX7_gatherLights.2.2.1 mX7_gatherLights.2.2.2 ∈ gt := gt_of (List.mem_of_getElem? (i := 418) (by decide +kernel)) rfl
theorem mf_yX7_gatherLights : jmf yX7_gatherLights mX7_gatherLights 1 := ⟨wc_yX7_gatherLights, wi_X7, by decide, by decide, by decide +kernel⟩
theorem mI_yX7_gatherLights : Cond.instanceMethod yX7_gatherLights ∈ gt := gt_of (List.mem_of_getElem? (i := 417) (by decide +kernel)) rfl
theorem mi_yX7_gatherLights : jmi yX7_gatherLights := ⟨mI_yX7_gatherLights, gt_of (List.mem_of_getElem? (i := 19) (by decide +kernel)) rfl⟩
theorem wc_yX7_mean : Cond.code yX7_mean mX7_mean.2.1 mX7_mean.2.2.1 mX7_mean.2.2.2 ∈ gt := gt_of (List.mem_of_getElem? (i := 422) (by decide +kernel)) rfl
theorem mf_yX7_mean : jmf yX7_mean mX7_mean 1 := ⟨wc_yX7_mean, wi_X7, by decide, by decide, by decide +kernel⟩
theorem mI_yX7_mean : Cond.instanceMethod yX7_mean ∈ gt := gt_of (List.mem_of_getElem? (i := 420) (by decide +kernel)) rfl
theorem mi_yX7_mean : jmi yX7_mean := ⟨mI_yX7_mean, gt_of (List.mem_of_getElem? (i := 421) (by decide +kernel)) rfl⟩
theorem wc_yX1_average : Cond.code yX1_average mX1_average.2.1 mX1_average.2.2.1 mX1_average.2.2.2 ∈ gt := gt_of (List.mem_of_getElem? (i := 426) (by decide +kernel)) rfl
theorem mf_yX1_average : jmf yX1_average mX1_average 0 := ⟨wc_yX1_average, wi_X1, by decide, by decide, by decide +kernel⟩
theorem mI_yX1_average : Cond.instanceMethod yX1_average ∈ gt := gt_of (List.mem_of_getElem? (i := 425) (by decide +kernel)) rfl
theorem mi_yX1_average : jmi yX1_average := ⟨mI_yX1_average, gt_of (List.mem_of_getElem? (i := 20) (by decide +kernel)) rfl⟩
theorem wc_yX1_sum : Cond.code yX1_sum mX1_sum.2.1 mX1_sum.2.2.1 mX1_sum.2.2.2 ∈ gt := gt_of (List.mem_of_getElem? (i := 430) (by decide +kernel)) rfl
theorem mf_yX1_sum : jmf yX1_sum mX1_sum 0 := ⟨wc_yX1_sum, wi_X1, by decide, by decide, by decide +kernel⟩
theorem mI_yX1_sum : Cond.instanceMethod yX1_sum ∈ gt := gt_of (List.mem_of_getElem? (i := 429) (by decide +kernel)) rfl
theorem mi_yX1_sum : jmi yX1_sum := ⟨mI_yX1_sum, gt_of (List.mem_of_getElem? (i := 21) (by decide +kernel)) rfl⟩
theorem wc_yX7_phase : Cond.code yX7_phase mX7_phase.2.1 mX7_phase.2.2.1 mX7_phase.2.2.2 ∈ gt := gt_of (List.mem_of_getElem? (i := 434) (by decide +kernel)) rfl
theorem mf_yX7_phase : jmf yX7_phase mX7_phase 3 := ⟨wc_yX7_phase, wi_X7, by decide, by decide, by decide +kernel⟩
theorem mI_yX7_phase : Cond.instanceMethod yX7_phase ∈ gt := gt_of (List.mem_of_getElem? (i := 432) (by decide +kernel)) rfl
theorem mi_yX7_phase : jmi yX7_phase := ⟨mI_yX7_phase, gt_of (List.mem_of_getElem? (i := 433) (by decide +kernel)) rfl⟩
theorem wc_yX7_isPeriod : Cond.code yX7_isPeriod mX7_isPeriod.2.1 mX7_isPeriod.2.2.1 mX7_isPeriod.2.2.2 ∈ gt := gt_of (List.mem_of_getElem? (i := 437) (by decide +kernel)) rfl
theorem mf_yX7_isPeriod : jmf yX7_isPeriod mX7_isPeriod 2 := ⟨wc_yX7_isPeriod, wi_X7, by decide, by decide, by decide +kernel⟩
theorem mS_yX7_isPeriod : Cond.static yX7_isPeriod ∈ gt := gt_of (List.mem_of_getElem? (i := 436) (by decide +kernel)) rfl
theorem wc_yX7_phaseOfTime : Cond.code yX7_phaseOfTime mX7_phaseOfTime.2.1 mX7_phaseOfTime.2.2.1 mX7_phaseOfTime.2.2.2 ∈ gt := gt_of (List.mem_of_getElem? (i := 440) (by decide +kernel)) rfl
theorem mf_yX7_phaseOfTime : jmf yX7_phaseOfTime mX7_phaseOfTime 3 := ⟨wc_yX7_phaseOfTime, wi_X7, by decide, by decide, by decide +kernel⟩
theorem mS_yX7_phaseOfTime : Cond.static yX7_phaseOfTime ∈ gt := gt_of (List.mem_of_getElem? (i := 439) (by decide +kernel)) rfl
theorem wc_yX7_string : Cond.code yX7_string mX7_string.2.1 mX7_string.2.2.1 mX7_string.2.2.2 ∈ gt := gt_of (List.mem_of_getElem? (i := 444) (by decide +kernel)) rfl
theorem mf_yX7_string : jmf yX7_string mX7_string 3 := ⟨wc_yX7_string, wi_X7, by decide, by decide, by decide +kernel⟩
theorem mI_yX7_string : Cond.instanceMethod yX7_string ∈ gt := gt_of (List.mem_of_getElem? (i := 442) (by decide +kernel)) rfl
theorem mi_yX7_string : jmi yX7_string := ⟨mI_yX7_string, gt_of (List.mem_of_getElem? (i := 443) (by decide +kernel)) rfl⟩
theorem wc_yX3_stringOf : Cond.code yX3_stringOf mX3_stringOf.2.1 mX3_stringOf.2.2.1 mX3_stringOf.2.2.2 ∈ gt := gt_of (List.mem_of_getElem? (i := 448) (by decide +kernel)) rfl
theorem mf_yX3_stringOf : jmf yX3_stringOf mX3_stringOf 3 := ⟨wc_yX3_stringOf, wi_X3, by decide, by decide, by decide +kernel⟩
theorem mI_yX3_stringOf : Cond.instanceMethod yX3_stringOf ∈ gt := gt_of (List.mem_of_getElem? (i := 447) (by decide +kernel)) rfl
theorem mi_yX3_stringOf : jmi yX3_stringOf := ⟨mI_yX3_stringOf, gt_of (List.mem_of_getElem? (i := 22) (by decide +kernel)) rfl⟩
theorem wc_yX3_put : Cond.code yX3_put mX3_put.2.1 mX3_put.2.2.1 mX3_put.2.2.2 ∈ gt := gt_of (List.mem_of_getElem? (i := 453) (by decide +kernel)) rfl
theorem mf_yX3_put : jmf yX3_put mX3_put 3 := ⟨wc_yX3_put, wi_X3, by decide, by decide, by decide +kernel⟩
theorem mI_yX3_put : Cond.instanceMethod yX3_put ∈ gt := gt_of (List.mem_of_getElem? (i := 452) (by decide +kernel)) rfl
theorem mi_yX3_put : jmi yX3_put := ⟨mI_yX3_put, gt_of (List.mem_of_getElem? (i := 23) (by decide +kernel)) rfl⟩
theorem wc_yJ9_abs_0f7a4 : Cond.code yJ9_abs_0f7a4 mJ9_abs_0f7a4.2.1 mJ9_abs_0f7a4.2.2.1 mJ9_abs_0f7a4.2.2.2 ∈ gt := gt_of (List.mem_of_getElem? (i := 456) (by decide +kernel)) rfl
theorem wi_J9 : Cond.initialized RJ9 ∈ gt := gt_of (List.mem_of_getElem? (i := 72) (by decide +kernel)) rfl
theorem mf_yJ9_abs_0f7a4 : jmf yJ9_abs_0f7a4 mJ9_abs_0f7a4 1 := ⟨wc_yJ9_abs_0f7a4, wi_J9, by decide, by decide, by decide +kernel⟩
theorem mS_yJ9_abs_0f7a4 : Cond.static yJ9_abs_0f7a4 ∈ gt := gt_of (List.mem_of_getElem? (i := 455) (by decide +kernel)) rfl
theorem wc_yX7_period : Cond.code yX7_period mX7_period.2.1 mX7_period.2.2.1 mX7_period.2.2.2 ∈ gt := gt_of (List.mem_of_getElem? (i := 460) (by decide +kernel)) rfl
theorem mf_yX7_period : jmf yX7_period mX7_period 4 := ⟨wc_yX7_period, wi_X7, by decide, by decide, by decide +kernel⟩
theorem mI_yX7_period : Cond.instanceMethod yX7_period ∈ gt := gt_of (List.mem_of_getElem? (i := 458) (by decide +kernel)) rfl
theorem mi_yX7_period : jmi yX7_period := ⟨mI_yX7_period, gt_of (List.mem_of_getElem? (i := 459) (by decide +kernel)) rfl⟩
theorem wc_yX7_foldFromTo : Cond.code yX7_foldFromTo mX7_foldFromTo.2.1 mX7_foldFromTo.2.2.1 mX7_foldFromTo.2.2.2 ∈ gt := gt_of (List.mem_of_getElem? (i := 464) (by decide +kernel)) rfl
theorem mf_yX7_foldFromTo : jmf yX7_foldFromTo mX7_foldFromTo 4 := ⟨wc_yX7_foldFromTo, wi_X7, by decide, by decide, by decide +kernel⟩
theorem mI_yX7_foldFromTo : Cond.instanceMethod yX7_foldFromTo ∈ gt := gt_of (List.mem_of_getElem? (i := 463) (by decide +kernel)) rfl
theorem mi_yX7_foldFromTo : jmi yX7_foldFromTo := ⟨mI_yX7_foldFromTo, gt_of (List.mem_of_getElem? (i := 24) (by decide +kernel)) rfl⟩
theorem wc_yX3_stringsFromTo : Cond.code yX3_stringsFromTo mX3_stringsFromTo.2.1 mX3_stringsFromTo.2.2.1 mX3_stringsFromTo.2.2.2 ∈ gt := gt_of (List.mem_of_getElem? (i := 468) (by decide +kernel)) rfl
theorem mf_yX3_stringsFromTo : jmf yX3_stringsFromTo mX3_stringsFromTo 4 := ⟨wc_yX3_stringsFromTo, wi_X3, by decide, by decide, by decide +kernel⟩
theorem mI_yX3_stringsFromTo : Cond.instanceMethod yX3_stringsFromTo ∈ gt := gt_of (List.mem_of_getElem? (i := 467) (by decide +kernel)) rfl
theorem mi_yX3_stringsFromTo : jmi yX3_stringsFromTo := ⟨mI_yX3_stringsFromTo, gt_of (List.mem_of_getElem? (i := 25) (by decide +kernel)) rfl⟩
theorem wc_yX3_leastFromTo : Cond.code yX3_leastFromTo mX3_leastFromTo.2.1 mX3_leastFromTo.2.2.1 mX3_leastFromTo.2.2.2 ∈ gt := gt_of (List.mem_of_getElem? (i := 473) (by decide +kernel)) rfl
theorem mf_yX3_leastFromTo : jmf yX3_leastFromTo mX3_leastFromTo 2 := ⟨wc_yX3_leastFromTo, wi_X3, by decide, by decide, by decide +kernel⟩
theorem mI_yX3_leastFromTo : Cond.instanceMethod yX3_leastFromTo ∈ gt := gt_of (List.mem_of_getElem? (i := 472) (by decide +kernel)) rfl
theorem mi_yX3_leastFromTo : jmi yX3_leastFromTo := ⟨mI_yX3_leastFromTo, gt_of (List.mem_of_getElem? (i := 26) (by decide +kernel)) rfl⟩
theorem wc_yX7_asWell : Cond.code yX7_asWell mX7_asWell.2.1 mX7_asWell.2.2.1 mX7_asWell.2.2.2 ∈ gt := gt_of (List.mem_of_getElem? (i := 477) (by decide +kernel)) rfl
theorem mf_yX7_asWell : jmf yX7_asWell mX7_asWell 5 := ⟨wc_yX7_asWell, wi_X7, by decide, by decide, by decide +kernel⟩
theorem mI_yX7_asWell : Cond.instanceMethod yX7_asWell ∈ gt := gt_of (List.mem_of_getElem? (i := 475) (by decide +kernel)) rfl
theorem mi_yX7_asWell : jmi yX7_asWell := ⟨mI_yX7_asWell, gt_of (List.mem_of_getElem? (i := 476) (by decide +kernel)) rfl⟩
theorem wc_yX7_depth : Cond.code yX7_depth mX7_depth.2.1 mX7_depth.2.2.1 mX7_depth.2.2.2 ∈ gt := gt_of (List.mem_of_getElem? (i := 482) (by decide +kernel)) rfl
theorem mf_yX7_depth : jmf yX7_depth mX7_depth 4 := ⟨wc_yX7_depth, wi_X7, by decide, by decide, by decide +kernel⟩
theorem mI_yX7_depth : Cond.instanceMethod yX7_depth ∈ gt := gt_of (List.mem_of_getElem? (i := 480) (by decide +kernel)) rfl
theorem mi_yX7_depth : jmi yX7_depth := ⟨mI_yX7_depth, gt_of (List.mem_of_getElem? (i := 481) (by decide +kernel)) rfl⟩
theorem wc_yJ9_floorMod_7cf53 : Cond.code yJ9_floorMod_7cf53 mJ9_floorMod_7cf53.2.1 mJ9_floorMod_7cf53.2.2.1 mJ9_floorMod_7cf53.2.2.2 ∈ gt := gt_of (List.mem_of_getElem? (i := 485) (by decide +kernel)) rfl
theorem mf_yJ9_floorMod_7cf53 : jmf yJ9_floorMod_7cf53 mJ9_floorMod_7cf53 2 := ⟨wc_yJ9_floorMod_7cf53, wi_J9, by decide, by decide, by decide +kernel⟩
theorem mS_yJ9_floorMod_7cf53 : Cond.static yJ9_floorMod_7cf53 ∈ gt := gt_of (List.mem_of_getElem? (i := 484) (by decide +kernel)) rfl
theorem wc_yX7_dip : Cond.code yX7_dip mX7_dip.2.1 mX7_dip.2.2.1 mX7_dip.2.2.2 ∈ gt := gt_of (List.mem_of_getElem? (i := 490) (by decide +kernel)) rfl
theorem mf_yX7_dip : jmf yX7_dip mX7_dip 3 := ⟨wc_yX7_dip, wi_X7, by decide, by decide, by decide +kernel⟩
theorem mI_yX7_dip : Cond.instanceMethod yX7_dip ∈ gt := gt_of (List.mem_of_getElem? (i := 488) (by decide +kernel)) rfl
theorem mi_yX7_dip : jmi yX7_dip := ⟨mI_yX7_dip, gt_of (List.mem_of_getElem? (i := 489) (by decide +kernel)) rfl⟩
theorem wc_yX2_search : Cond.code yX2_search mX2_search.2.1 mX2_search.2.2.1 mX2_search.2.2.2 ∈ gt := gt_of (List.mem_of_getElem? (i := 494) (by decide +kernel)) rfl
theorem mf_yX2_search : jmf yX2_search mX2_search 3 := ⟨wc_yX2_search, wi_X2, by decide, by decide, by decide +kernel⟩
theorem mI_yX2_search : Cond.instanceMethod yX2_search ∈ gt := gt_of (List.mem_of_getElem? (i := 493) (by decide +kernel)) rfl
theorem mi_yX2_search : jmi yX2_search := ⟨mI_yX2_search, gt_of (List.mem_of_getElem? (i := 27) (by decide +kernel)) rfl⟩
theorem wc_yX2_share : Cond.code yX2_share mX2_share.2.1 mX2_share.2.2.1 mX2_share.2.2.2 ∈ gt := gt_of (List.mem_of_getElem? (i := 498) (by decide +kernel)) rfl
theorem mf_yX2_share : jmf yX2_share mX2_share 2 := ⟨wc_yX2_share, wi_X2, by decide, by decide, by decide +kernel⟩
theorem mI_yX2_share : Cond.instanceMethod yX2_share ∈ gt := gt_of (List.mem_of_getElem? (i := 497) (by decide +kernel)) rfl
theorem mi_yX2_share : jmi yX2_share := ⟨mI_yX2_share, gt_of (List.mem_of_getElem? (i := 28) (by decide +kernel)) rfl⟩
theorem wc_yJ9_min_7cf53 : Cond.code yJ9_min_7cf53 mJ9_min_7cf53.2.1 mJ9_min_7cf53.2.2.1 mJ9_min_7cf53.2.2.2 ∈ gt := gt_of (List.mem_of_getElem? (i := 503) (by decide +kernel)) rfl
theorem mf_yJ9_min_7cf53 : jmf yJ9_min_7cf53 mJ9_min_7cf53 2 := ⟨wc_yJ9_min_7cf53, wi_J9, by decide, by decide, by decide +kernel⟩
theorem mS_yJ9_min_7cf53 : Cond.static yJ9_min_7cf53 ∈ gt := gt_of (List.mem_of_getElem? (i := 502) (by decide +kernel)) rfl
theorem wc_yX2_widen : Cond.code yX2_widen mX2_widen.2.1 mX2_widen.2.2.1 mX2_widen.2.2.2 ∈ gt := gt_of (List.mem_of_getElem? (i := 507) (by decide +kernel)) rfl
theorem mf_yX2_widen : jmf yX2_widen mX2_widen 2 := ⟨wc_yX2_widen, wi_X2, by decide, by decide, by decide +kernel⟩
theorem mI_yX2_widen : Cond.instanceMethod yX2_widen ∈ gt := gt_of (List.mem_of_getElem? (i := 506) (by decide +kernel)) rfl
theorem mi_yX2_widen : jmi yX2_widen := ⟨mI_yX2_widen, gt_of (List.mem_of_getElem? (i := 29) (by decide +kernel)) rfl⟩
theorem wc_yX2_countsHere : Cond.code yX2_countsHere mX2_countsHere.2.1 mX2_countsHere.2.2.1 mX2_countsHere.2.2.2 ∈ gt := gt_of (List.mem_of_getElem? (i := 511) (by decide +kernel)) rfl
theorem mf_yX2_countsHere : jmf yX2_countsHere mX2_countsHere 1 := ⟨wc_yX2_countsHere, wi_X2, by decide, by decide, by decide +kernel⟩
theorem mI_yX2_countsHere : Cond.instanceMethod yX2_countsHere ∈ gt := gt_of (List.mem_of_getElem? (i := 510) (by decide +kernel)) rfl
theorem mi_yX2_countsHere : jmi yX2_countsHere := ⟨mI_yX2_countsHere, gt_of (List.mem_of_getElem? (i := 30) (by decide +kernel)) rfl⟩
theorem wc_yX2_depthFrom : Cond.code yX2_depthFrom mX2_depthFrom.2.1 mX2_depthFrom.2.2.1 mX2_depthFrom.2.2.2 ∈ gt := gt_of (List.mem_of_getElem? (i := 515) (by decide +kernel)) rfl
theorem mf_yX2_depthFrom : jmf yX2_depthFrom mX2_depthFrom 1 := ⟨wc_yX2_depthFrom, wi_X2, by decide, by decide, by decide +kernel⟩
theorem mI_yX2_depthFrom : Cond.instanceMethod yX2_depthFrom ∈ gt := gt_of (List.mem_of_getElem? (i := 514) (by decide +kernel)) rfl
theorem mi_yX2_depthFrom : jmi yX2_depthFrom := ⟨mI_yX2_depthFrom, gt_of (List.mem_of_getElem? (i := 31) (by decide +kernel)) rfl⟩
theorem wc_yX2_keep : Cond.code yX2_keep mX2_keep.2.1 mX2_keep.2.2.1 mX2_keep.2.2.2 ∈ gt := gt_of (List.mem_of_getElem? (i := 519) (by decide +kernel)) rfl
theorem mf_yX2_keep : jmf yX2_keep mX2_keep 2 := ⟨wc_yX2_keep, wi_X2, by decide, by decide, by decide +kernel⟩
theorem mI_yX2_keep : Cond.instanceMethod yX2_keep ∈ gt := gt_of (List.mem_of_getElem? (i := 518) (by decide +kernel)) rfl
theorem mi_yX2_keep : jmi yX2_keep := ⟨mI_yX2_keep, gt_of (List.mem_of_getElem? (i := 32) (by decide +kernel)) rfl⟩
theorem wc_yX7_dipOf : Cond.code yX7_dipOf mX7_dipOf.2.1 mX7_dipOf.2.2.1 mX7_dipOf.2.2.2 ∈ gt := gt_of (List.mem_of_getElem? (i := 523) (by decide +kernel)) rfl
theorem mf_yX7_dipOf : jmf yX7_dipOf mX7_dipOf 1 := ⟨wc_yX7_dipOf, wi_X7, by decide, by decide, by decide +kernel⟩
theorem mI_yX7_dipOf : Cond.instanceMethod yX7_dipOf ∈ gt := gt_of (List.mem_of_getElem? (i := 521) (by decide +kernel)) rfl
theorem mi_yX7_dipOf : jmi yX7_dipOf := ⟨mI_yX7_dipOf, gt_of (List.mem_of_getElem? (i := 522) (by decide +kernel)) rfl⟩
theorem wc_yX7_lows : Cond.code yX7_lows mX7_lows.2.1 mX7_lows.2.2.1 mX7_lows.2.2.2 ∈ gt := gt_of (List.mem_of_getElem? (i := 527) (by decide +kernel)) rfl
theorem mf_yX7_lows : jmf yX7_lows mX7_lows 2 := ⟨wc_yX7_lows, wi_X7, by decide, by decide, by decide +kernel⟩
theorem mI_yX7_lows : Cond.instanceMethod yX7_lows ∈ gt := gt_of (List.mem_of_getElem? (i := 525) (by decide +kernel)) rfl
theorem mi_yX7_lows : jmi yX7_lows := ⟨mI_yX7_lows, gt_of (List.mem_of_getElem? (i := 526) (by decide +kernel)) rfl⟩
theorem wc_yX7_gatherLows : Cond.code yX7_gatherLows mX7_gatherLows.2.1 mX7_gatherLows.2.2.1 mX7_gatherLows.2.2.2 ∈ gt := gt_of (List.mem_of_getElem? (i := 531) (by decide +kernel)) rfl
theorem mf_yX7_gatherLows : jmf yX7_gatherLows mX7_gatherLows 2 := ⟨wc_yX7_gatherLows, wi_X7, by decide, by decide, by decide +kernel⟩
theorem mI_yX7_gatherLows : Cond.instanceMethod yX7_gatherLows ∈ gt := gt_of (List.mem_of_getElem? (i := 530) (by decide +kernel)) rfl
theorem mi_yX7_gatherLows : jmi yX7_gatherLows := ⟨mI_yX7_gatherLows, gt_of (List.mem_of_getElem? (i := 33) (by decide +kernel)) rfl⟩
theorem wc_yX7_low : Cond.code yX7_low mX7_low.2.1 mX7_low.2.2.1 mX7_low.2.2.2 ∈ gt := gt_of (List.mem_of_getElem? (i := 535) (by decide +kernel)) rfl
theorem mf_yX7_low : jmf yX7_low mX7_low 3 := ⟨wc_yX7_low, wi_X7, by decide, by decide, by decide +kernel⟩
theorem mI_yX7_low : Cond.instanceMethod yX7_low ∈ gt := gt_of (List.mem_of_getElem? (i := 533) (by decide +kernel)) rfl
theorem mi_yX7_low : jmi yX7_low := ⟨mI_yX7_low, gt_of (List.mem_of_getElem? (i := 534) (by decide +kernel)) rfl⟩
theorem wc_yX4_has : Cond.code yX4_has mX4_has.2.1 mX4_has.2.2.1 mX4_has.2.2.2 ∈ gt := gt_of (List.mem_of_getElem? (i := 539) (by decide +kernel)) rfl
theorem mf_yX4_has : jmf yX4_has mX4_has 1 := ⟨wc_yX4_has, wi_X4, by decide, by decide, by decide +kernel⟩
theorem mI_yX4_has : Cond.instanceMethod yX4_has ∈ gt := gt_of (List.mem_of_getElem? (i := 538) (by decide +kernel)) rfl
theorem mi_yX4_has : jmi yX4_has := ⟨mI_yX4_has, gt_of (List.mem_of_getElem? (i := 34) (by decide +kernel)) rfl⟩
theorem wc_yX7_turn : Cond.code yX7_turn mX7_turn.2.1 mX7_turn.2.2.1 mX7_turn.2.2.2 ∈ gt := gt_of (List.mem_of_getElem? (i := 543) (by decide +kernel)) rfl
theorem mf_yX7_turn : jmf yX7_turn mX7_turn 6 := ⟨wc_yX7_turn, wi_X7, by decide, by decide, by decide +kernel⟩
theorem mI_yX7_turn : Cond.instanceMethod yX7_turn ∈ gt := gt_of (List.mem_of_getElem? (i := 541) (by decide +kernel)) rfl
theorem mi_yX7_turn : jmi yX7_turn := ⟨mI_yX7_turn, gt_of (List.mem_of_getElem? (i := 542) (by decide +kernel)) rfl⟩
theorem wc_yX7_gatherLowsOnClock : Cond.code yX7_gatherLowsOnClock mX7_gatherLowsOnClock.2.1 mX7_gatherLowsOnClock.2.2.1 mX7_gatherLowsOnClock.2.2.2 ∈ gt := gt_of (List.mem_of_getElem? (i := 547) (by decide +kernel)) rfl
theorem mf_yX7_gatherLowsOnClock : jmf yX7_gatherLowsOnClock mX7_gatherLowsOnClock 5 := ⟨wc_yX7_gatherLowsOnClock, wi_X7, by decide, by decide, by decide +kernel⟩
theorem mI_yX7_gatherLowsOnClock : Cond.instanceMethod yX7_gatherLowsOnClock ∈ gt := gt_of (List.mem_of_getElem? (i := 546) (by decide +kernel)) rfl
theorem mi_yX7_gatherLowsOnClock : jmi yX7_gatherLowsOnClock := ⟨mI_yX7_gatherLowsOnClock, gt_of (List.mem_of_getElem? (i := 35) (by decide +kernel)) rfl⟩
theorem wc_yX7_turnOfTime : Cond.code yX7_turnOfTime mX7_turnOfTime.2.1 mX7_turnOfTime.2.2.1 mX7_turnOfTime.2.2.2 ∈ gt := gt_of (List.mem_of_getElem? (i := 550) (by decide +kernel)) rfl
theorem mf_yX7_turnOfTime : jmf yX7_turnOfTime mX7_turnOfTime 4 := ⟨wc_yX7_turnOfTime, wi_X7, by decide, by decide, by decide +kernel⟩
theorem mS_yX7_turnOfTime : Cond.static yX7_turnOfTime ∈ gt := gt_of (List.mem_of_getElem? (i := 549) (by decide +kernel)) rfl
theorem wc_yJ9_floorDiv_7cf53 : Cond.code yJ9_floorDiv_7cf53 mJ9_floorDiv_7cf53.2.1 mJ9_floorDiv_7cf53.2.2.1 mJ9_floorDiv_7cf53.2.2.2 ∈ gt := gt_of (List.mem_of_getElem? (i := 553) (by decide +kernel)) rfl
theorem mf_yJ9_floorDiv_7cf53 : jmf yJ9_floorDiv_7cf53 mJ9_floorDiv_7cf53 2 := ⟨wc_yJ9_floorDiv_7cf53, wi_J9, by decide, by decide, by decide +kernel⟩
theorem mS_yJ9_floorDiv_7cf53 : Cond.static yJ9_floorDiv_7cf53 ∈ gt := gt_of (List.mem_of_getElem? (i := 552) (by decide +kernel)) rfl
theorem wc_yX7_late : Cond.code yX7_late mX7_late.2.1 mX7_late.2.2.1 mX7_late.2.2.2 ∈ gt := gt_of (List.mem_of_getElem? (i := 557) (by decide +kernel)) rfl
theorem mf_yX7_late : jmf yX7_late mX7_late 6 := ⟨wc_yX7_late, wi_X7, by decide, by decide, by decide +kernel⟩
theorem mI_yX7_late : Cond.instanceMethod yX7_late ∈ gt := gt_of (List.mem_of_getElem? (i := 555) (by decide +kernel)) rfl
theorem mi_yX7_late : jmi yX7_late := ⟨mI_yX7_late, gt_of (List.mem_of_getElem? (i := 556) (by decide +kernel)) rfl⟩
theorem wc_yX7_lateOfTime : Cond.code yX7_lateOfTime mX7_lateOfTime.2.1 mX7_lateOfTime.2.2.1 mX7_lateOfTime.2.2.2 ∈ gt := gt_of (List.mem_of_getElem? (i := 560) (by decide +kernel)) rfl
theorem mf_yX7_lateOfTime : jmf yX7_lateOfTime mX7_lateOfTime 4 := ⟨wc_yX7_lateOfTime, wi_X7, by decide, by decide, by decide +kernel⟩
theorem mS_yX7_lateOfTime : Cond.static yX7_lateOfTime ∈ gt := gt_of (List.mem_of_getElem? (i := 559) (by decide +kernel)) rfl
theorem wc_yX7_bent : Cond.code yX7_bent mX7_bent.2.1 mX7_bent.2.2.1 mX7_bent.2.2.2 ∈ gt := gt_of (List.mem_of_getElem? (i := 564) (by decide +kernel)) rfl
theorem mf_yX7_bent : jmf yX7_bent mX7_bent 6 := ⟨wc_yX7_bent, wi_X7, by decide, by decide, by decide +kernel⟩
theorem mI_yX7_bent : Cond.instanceMethod yX7_bent ∈ gt := gt_of (List.mem_of_getElem? (i := 562) (by decide +kernel)) rfl
theorem mi_yX7_bent : jmi yX7_bent := ⟨mI_yX7_bent, gt_of (List.mem_of_getElem? (i := 563) (by decide +kernel)) rfl⟩
theorem wc_yX7_rule : Cond.code yX7_rule mX7_rule.2.1 mX7_rule.2.2.1 mX7_rule.2.2.2 ∈ gt := gt_of (List.mem_of_getElem? (i := 568) (by decide +kernel)) rfl
theorem mf_yX7_rule : jmf yX7_rule mX7_rule 4 := ⟨wc_yX7_rule, wi_X7, by decide, by decide, by decide +kernel⟩
theorem mI_yX7_rule : Cond.instanceMethod yX7_rule ∈ gt := gt_of (List.mem_of_getElem? (i := 566) (by decide +kernel)) rfl
theorem mi_yX7_rule : jmi yX7_rule := ⟨mI_yX7_rule, gt_of (List.mem_of_getElem? (i := 567) (by decide +kernel)) rfl⟩
theorem wc_yX5_init : Cond.code yX5_init mX5_init.2.1 mX5_init.2.2.1 mX5_init.2.2.2 ∈ gt := gt_of (List.mem_of_getElem? (i := 572) (by decide +kernel)) rfl
theorem wi_X5 : Cond.initialized RX5 ∈ gt := gt_of (List.mem_of_getElem? (i := 73) (by decide +kernel)) rfl
theorem mf_yX5_init : jmf yX5_init mX5_init 4 := ⟨wc_yX5_init, wi_X5, by decide, by decide, by decide +kernel⟩
theorem mI_yX5_init : Cond.instanceMethod yX5_init ∈ gt := gt_of (List.mem_of_getElem? (i := 571) (by decide +kernel)) rfl
theorem wc_yX7_classOf : Cond.code yX7_classOf mX7_classOf.2.1 mX7_classOf.2.2.1 mX7_classOf.2.2.2 ∈ gt := gt_of (List.mem_of_getElem? (i := 591) (by decide +kernel)) rfl
theorem mf_yX7_classOf : jmf yX7_classOf mX7_classOf 1 := ⟨wc_yX7_classOf, wi_X7, by decide, by decide, by decide +kernel⟩
theorem mI_yX7_classOf : Cond.instanceMethod yX7_classOf ∈ gt := gt_of (List.mem_of_getElem? (i := 589) (by decide +kernel)) rfl
theorem mi_yX7_classOf : jmi yX7_classOf := ⟨mI_yX7_classOf, gt_of (List.mem_of_getElem? (i := 590) (by decide +kernel)) rfl⟩
theorem wc_yX7_classOfCurve : Cond.code yX7_classOfCurve mX7_classOfCurve.2.1 mX7_classOfCurve.2.2.1 mX7_classOfCurve.2.2.2 ∈ gt := gt_of (List.mem_of_getElem? (i := 595) (by decide +kernel)) rfl
theorem mf_yX7_classOfCurve : jmf yX7_classOfCurve mX7_classOfCurve 0 := ⟨wc_yX7_classOfCurve, wi_X7, by decide, by decide, by decide +kernel⟩
theorem mI_yX7_classOfCurve : Cond.instanceMethod yX7_classOfCurve ∈ gt := gt_of (List.mem_of_getElem? (i := 594) (by decide +kernel)) rfl
theorem mi_yX7_classOfCurve : jmi yX7_classOfCurve := ⟨mI_yX7_classOfCurve, gt_of (List.mem_of_getElem? (i := 36) (by decide +kernel)) rfl⟩
theorem wc_yX5_fits : Cond.code yX5_fits mX5_fits.2.1 mX5_fits.2.2.1 mX5_fits.2.2.2 ∈ gt := gt_of (List.mem_of_getElem? (i := 599) (by decide +kernel)) rfl
theorem mf_yX5_fits : jmf yX5_fits mX5_fits 1 := ⟨wc_yX5_fits, wi_X5, by decide, by decide, by decide +kernel⟩
theorem mI_yX5_fits : Cond.instanceMethod yX5_fits ∈ gt := gt_of (List.mem_of_getElem? (i := 598) (by decide +kernel)) rfl
theorem mi_yX5_fits : jmi yX5_fits := ⟨mI_yX5_fits, gt_of (List.mem_of_getElem? (i := 37) (by decide +kernel)) rfl⟩
theorem wc_yX7_watch : Cond.code yX7_watch mX7_watch.2.1 mX7_watch.2.2.1 mX7_watch.2.2.2 ∈ gt := gt_of (List.mem_of_getElem? (i := 603) (by decide +kernel)) rfl
theorem mf_yX7_watch : jmf yX7_watch mX7_watch 0 := ⟨wc_yX7_watch, wi_X7, by decide, by decide, by decide +kernel⟩
theorem mI_yX7_watch : Cond.instanceMethod yX7_watch ∈ gt := gt_of (List.mem_of_getElem? (i := 601) (by decide +kernel)) rfl
theorem mi_yX7_watch : jmi yX7_watch := ⟨mI_yX7_watch, gt_of (List.mem_of_getElem? (i := 602) (by decide +kernel)) rfl⟩
theorem wc_yX7_alarms : Cond.code yX7_alarms mX7_alarms.2.1 mX7_alarms.2.2.1 mX7_alarms.2.2.2 ∈ gt := gt_of (List.mem_of_getElem? (i := 607) (by decide +kernel)) rfl
theorem mf_yX7_alarms : jmf yX7_alarms mX7_alarms 0 := ⟨wc_yX7_alarms, wi_X7, by decide, by decide, by decide +kernel⟩
theorem mI_yX7_alarms : Cond.instanceMethod yX7_alarms ∈ gt := gt_of (List.mem_of_getElem? (i := 605) (by decide +kernel)) rfl
theorem mi_yX7_alarms : jmi yX7_alarms := ⟨mI_yX7_alarms, gt_of (List.mem_of_getElem? (i := 606) (by decide +kernel)) rfl⟩
theorem wc_yX7_asked : Cond.code yX7_asked mX7_asked.2.1 mX7_asked.2.2.1 mX7_asked.2.2.2 ∈ gt := gt_of (List.mem_of_getElem? (i := 611) (by decide +kernel)) rfl
theorem mf_yX7_asked : jmf yX7_asked mX7_asked 0 := ⟨wc_yX7_asked, wi_X7, by decide, by decide, by decide +kernel⟩
theorem mI_yX7_asked : Cond.instanceMethod yX7_asked ∈ gt := gt_of (List.mem_of_getElem? (i := 609) (by decide +kernel)) rfl
theorem mi_yX7_asked : jmi yX7_asked := ⟨mI_yX7_asked, gt_of (List.mem_of_getElem? (i := 610) (by decide +kernel)) rfl⟩
theorem wc_yX7_count : Cond.code yX7_count mX7_count.2.1 mX7_count.2.2.1 mX7_count.2.2.2 ∈ gt := gt_of (List.mem_of_getElem? (i := 615) (by decide +kernel)) rfl
theorem mf_yX7_count : jmf yX7_count mX7_count 1 := ⟨wc_yX7_count, wi_X7, by decide, by decide, by decide +kernel⟩
theorem mI_yX7_count : Cond.instanceMethod yX7_count ∈ gt := gt_of (List.mem_of_getElem? (i := 613) (by decide +kernel)) rfl
theorem mi_yX7_count : jmi yX7_count := ⟨mI_yX7_count, gt_of (List.mem_of_getElem? (i := 614) (by decide +kernel)) rfl⟩
theorem wc_yX7_countOfRows : Cond.code yX7_countOfRows mX7_countOfRows.2.1 mX7_countOfRows.2.2.1 mX7_countOfRows.2.2.2 ∈ gt := gt_of (List.mem_of_getElem? (i := 619) (by decide +kernel)) rfl
theorem mf_yX7_countOfRows : jmf yX7_countOfRows mX7_countOfRows 0 := ⟨wc_yX7_countOfRows, wi_X7, by decide, by decide, by decide +kernel⟩
theorem mI_yX7_countOfRows : Cond.instanceMethod yX7_countOfRows ∈ gt := gt_of (List.mem_of_getElem? (i := 618) (by decide +kernel)) rfl
theorem mi_yX7_countOfRows : jmi yX7_countOfRows := ⟨mI_yX7_countOfRows, gt_of (List.mem_of_getElem? (i := 38) (by decide +kernel)) rfl⟩
theorem wc_yX7_countOfLights : Cond.code yX7_countOfLights mX7_countOfLights.2.1 mX7_countOfLights.2.2.1 mX7_countOfLights.2.2.2 ∈ gt := gt_of (List.mem_of_getElem? (i := 623) (by decide +kernel)) rfl
theorem mf_yX7_countOfLights : jmf yX7_countOfLights mX7_countOfLights 0 := ⟨wc_yX7_countOfLights, wi_X7, by decide, by decide, by decide +kernel⟩
theorem mI_yX7_countOfLights : Cond.instanceMethod yX7_countOfLights ∈ gt := gt_of (List.mem_of_getElem? (i := 622) (by decide +kernel)) rfl
theorem mi_yX7_countOfLights : jmi yX7_countOfLights := ⟨mI_yX7_countOfLights, gt_of (List.mem_of_getElem? (i := 39) (by decide +kernel)) rfl⟩
theorem wc_yX7_finding : Cond.code yX7_finding mX7_finding.2.1 mX7_finding.2.2.1 mX7_finding.2.2.2 ∈ gt := gt_of (List.mem_of_getElem? (i := 627) (by decide +kernel)) rfl
theorem mf_yX7_finding : jmf yX7_finding mX7_finding 0 := ⟨wc_yX7_finding, wi_X7, by decide, by decide, by decide +kernel⟩
theorem mI_yX7_finding : Cond.instanceMethod yX7_finding ∈ gt := gt_of (List.mem_of_getElem? (i := 625) (by decide +kernel)) rfl
theorem mi_yX7_finding : jmi yX7_finding := ⟨mI_yX7_finding, gt_of (List.mem_of_getElem? (i := 626) (by decide +kernel)) rfl⟩
theorem wc_yX7_findings : Cond.code yX7_findings mX7_findings.2.1 mX7_findings.2.2.1 mX7_findings.2.2.2 ∈ gt := gt_of (List.mem_of_getElem? (i := 631) (by decide +kernel)) rfl
theorem mf_yX7_findings : jmf yX7_findings mX7_findings 1 := ⟨wc_yX7_findings, wi_X7, by decide, by decide, by decide +kernel⟩
theorem mI_yX7_findings : Cond.instanceMethod yX7_findings ∈ gt := gt_of (List.mem_of_getElem? (i := 629) (by decide +kernel)) rfl
theorem mi_yX7_findings : jmi yX7_findings := ⟨mI_yX7_findings, gt_of (List.mem_of_getElem? (i := 630) (by decide +kernel)) rfl⟩
theorem wc_yX7_digest : Cond.code yX7_digest mX7_digest.2.1 mX7_digest.2.2.1 mX7_digest.2.2.2 ∈ gt := gt_of (List.mem_of_getElem? (i := 635) (by decide +kernel)) rfl
theorem mf_yX7_digest : jmf yX7_digest mX7_digest 0 := ⟨wc_yX7_digest, wi_X7, by decide, by decide, by decide +kernel⟩
theorem mI_yX7_digest : Cond.instanceMethod yX7_digest ∈ gt := gt_of (List.mem_of_getElem? (i := 633) (by decide +kernel)) rfl
theorem mi_yX7_digest : jmi yX7_digest := ⟨mI_yX7_digest, gt_of (List.mem_of_getElem? (i := 634) (by decide +kernel)) rfl⟩
theorem wc_yX6_digestOnto : Cond.code yX6_digestOnto mX6_digestOnto.2.1 mX6_digestOnto.2.2.1 mX6_digestOnto.2.2.2 ∈ gt := gt_of (List.mem_of_getElem? (i := 640) (by decide +kernel)) rfl
theorem mf_yX6_digestOnto : jmf yX6_digestOnto mX6_digestOnto 1 := ⟨wc_yX6_digestOnto, wi_X6, by decide, by decide, by decide +kernel⟩
theorem mI_yX6_digestOnto : Cond.instanceMethod yX6_digestOnto ∈ gt := gt_of (List.mem_of_getElem? (i := 639) (by decide +kernel)) rfl
theorem mi_yX6_digestOnto : jmi yX6_digestOnto := ⟨mI_yX6_digestOnto, gt_of (List.mem_of_getElem? (i := 40) (by decide +kernel)) rfl⟩
theorem wc_yX8_init : Cond.code yX8_init mX8_init.2.1 mX8_init.2.2.1 mX8_init.2.2.2 ∈ gt := gt_of (List.mem_of_getElem? (i := 647) (by decide +kernel)) rfl
theorem wi_X8 : Cond.initialized RX8 ∈ gt := gt_of (List.mem_of_getElem? (i := 68) (by decide +kernel)) rfl
theorem mf_yX8_init : jmf yX8_init mX8_init 0 := ⟨wc_yX8_init, wi_X8, by decide, by decide, by decide +kernel⟩
theorem mI_yX8_init : Cond.instanceMethod yX8_init ∈ gt := gt_of (List.mem_of_getElem? (i := 646) (by decide +kernel)) rfl
theorem wc_yX8_star : Cond.code yX8_star mX8_star.2.1 mX8_star.2.2.1 mX8_star.2.2.2 ∈ gt := gt_of (List.mem_of_getElem? (i := 732) (by decide +kernel)) rfl
theorem mf_yX8_star : jmf yX8_star mX8_star 1 := ⟨wc_yX8_star, wi_X8, by decide, by decide, by decide +kernel⟩
theorem mI_yX8_star : Cond.instanceMethod yX8_star ∈ gt := gt_of (List.mem_of_getElem? (i := 730) (by decide +kernel)) rfl
theorem mi_yX8_star : jmi yX8_star := ⟨mI_yX8_star, gt_of (List.mem_of_getElem? (i := 731) (by decide +kernel)) rfl⟩
theorem wc_yX8_in : Cond.code yX8_in mX8_in.2.1 mX8_in.2.2.1 mX8_in.2.2.2 ∈ gt := gt_of (List.mem_of_getElem? (i := 735) (by decide +kernel)) rfl
theorem mf_yX8_in : jmf yX8_in mX8_in 3 := ⟨wc_yX8_in, wi_X8, by decide, by decide, by decide +kernel⟩
theorem mS_yX8_in : Cond.static yX8_in ∈ gt := gt_of (List.mem_of_getElem? (i := 734) (by decide +kernel)) rfl
theorem wc_yX8_is : Cond.code yX8_is mX8_is.2.1 mX8_is.2.2.1 mX8_is.2.2.2 ∈ gt := gt_of (List.mem_of_getElem? (i := 739) (by decide +kernel)) rfl
theorem mf_yX8_is : jmf yX8_is mX8_is 2 := ⟨wc_yX8_is, wi_X8, by decide, by decide, by decide +kernel⟩
theorem mI_yX8_is : Cond.instanceMethod yX8_is ∈ gt := gt_of (List.mem_of_getElem? (i := 737) (by decide +kernel)) rfl
theorem mi_yX8_is : jmi yX8_is := ⟨mI_yX8_is, gt_of (List.mem_of_getElem? (i := 738) (by decide +kernel)) rfl⟩
theorem wc_yX8_isStar : Cond.code yX8_isStar mX8_isStar.2.1 mX8_isStar.2.2.1 mX8_isStar.2.2.2 ∈ gt := gt_of (List.mem_of_getElem? (i := 743) (by decide +kernel)) rfl
theorem mf_yX8_isStar : jmf yX8_isStar mX8_isStar 1 := ⟨wc_yX8_isStar, wi_X8, by decide, by decide, by decide +kernel⟩
theorem mI_yX8_isStar : Cond.instanceMethod yX8_isStar ∈ gt := gt_of (List.mem_of_getElem? (i := 742) (by decide +kernel)) rfl
theorem mi_yX8_isStar : jmi yX8_isStar := ⟨mI_yX8_isStar, gt_of (List.mem_of_getElem? (i := 41) (by decide +kernel)) rfl⟩
theorem wc_yX8_fits : Cond.code yX8_fits mX8_fits.2.1 mX8_fits.2.2.1 mX8_fits.2.2.2 ∈ gt := gt_of (List.mem_of_getElem? (i := 747) (by decide +kernel)) rfl
theorem mf_yX8_fits : jmf yX8_fits mX8_fits 2 := ⟨wc_yX8_fits, wi_X8, by decide, by decide, by decide +kernel⟩
theorem mI_yX8_fits : Cond.instanceMethod yX8_fits ∈ gt := gt_of (List.mem_of_getElem? (i := 746) (by decide +kernel)) rfl
theorem mi_yX8_fits : jmi yX8_fits := ⟨mI_yX8_fits, gt_of (List.mem_of_getElem? (i := 42) (by decide +kernel)) rfl⟩
theorem wc_yX8_mark : Cond.code yX8_mark mX8_mark.2.1 mX8_mark.2.2.1 mX8_mark.2.2.2 ∈ gt := gt_of (List.mem_of_getElem? (i := 751) (by decide +kernel)) rfl
theorem mf_yX8_mark : jmf yX8_mark mX8_mark 2 := ⟨wc_yX8_mark, wi_X8, by decide, by decide, by decide +kernel⟩
theorem mI_yX8_mark : Cond.instanceMethod yX8_mark ∈ gt := gt_of (List.mem_of_getElem? (i := 749) (by decide +kernel)) rfl
theorem mi_yX8_mark : jmi yX8_mark := ⟨mI_yX8_mark, gt_of (List.mem_of_getElem? (i := 750) (by decide +kernel)) rfl⟩
theorem wc_yX8_meets : Cond.code yX8_meets mX8_meets.2.1 mX8_meets.2.2.1 mX8_meets.2.2.2 ∈ gt := gt_of (List.mem_of_getElem? (i := 755) (by decide +kernel)) rfl
theorem mf_yX8_meets : jmf yX8_meets mX8_meets 1 := ⟨wc_yX8_meets, wi_X8, by decide, by decide, by decide +kernel⟩
theorem mI_yX8_meets : Cond.instanceMethod yX8_meets ∈ gt := gt_of (List.mem_of_getElem? (i := 754) (by decide +kernel)) rfl
theorem mi_yX8_meets : jmi yX8_meets := ⟨mI_yX8_meets, gt_of (List.mem_of_getElem? (i := 43) (by decide +kernel)) rfl⟩
theorem wc_yX8_many : Cond.code yX8_many mX8_many.2.1 mX8_many.2.2.1 mX8_many.2.2.2 ∈ gt := gt_of (List.mem_of_getElem? (i := 759) (by decide +kernel)) rfl
theorem mf_yX8_many : jmf yX8_many mX8_many 1 := ⟨wc_yX8_many, wi_X8, by decide, by decide, by decide +kernel⟩
theorem mI_yX8_many : Cond.instanceMethod yX8_many ∈ gt := gt_of (List.mem_of_getElem? (i := 758) (by decide +kernel)) rfl
theorem mi_yX8_many : jmi yX8_many := ⟨mI_yX8_many, gt_of (List.mem_of_getElem? (i := 44) (by decide +kernel)) rfl⟩
theorem wc_yX8_has : Cond.code yX8_has mX8_has.2.1 mX8_has.2.2.1 mX8_has.2.2.2 ∈ gt := gt_of (List.mem_of_getElem? (i := 763) (by decide +kernel)) rfl
theorem mf_yX8_has : jmf yX8_has mX8_has 2 := ⟨wc_yX8_has, wi_X8, by decide, by decide, by decide +kernel⟩
theorem mI_yX8_has : Cond.instanceMethod yX8_has ∈ gt := gt_of (List.mem_of_getElem? (i := 762) (by decide +kernel)) rfl
theorem mi_yX8_has : jmi yX8_has := ⟨mI_yX8_has, gt_of (List.mem_of_getElem? (i := 45) (by decide +kernel)) rfl⟩
theorem wc_yX8_swing : Cond.code yX8_swing mX8_swing.2.1 mX8_swing.2.2.1 mX8_swing.2.2.2 ∈ gt := gt_of (List.mem_of_getElem? (i := 767) (by decide +kernel)) rfl
theorem mf_yX8_swing : jmf yX8_swing mX8_swing 1 := ⟨wc_yX8_swing, wi_X8, by decide, by decide, by decide +kernel⟩
theorem mI_yX8_swing : Cond.instanceMethod yX8_swing ∈ gt := gt_of (List.mem_of_getElem? (i := 766) (by decide +kernel)) rfl
theorem mi_yX8_swing : jmi yX8_swing := ⟨mI_yX8_swing, gt_of (List.mem_of_getElem? (i := 46) (by decide +kernel)) rfl⟩
theorem wc_yX8_lightOf : Cond.code yX8_lightOf mX8_lightOf.2.1 mX8_lightOf.2.2.1 mX8_lightOf.2.2.2 ∈ gt := gt_of (List.mem_of_getElem? (i := 771) (by decide +kernel)) rfl
theorem mf_yX8_lightOf : jmf yX8_lightOf mX8_lightOf 2 := ⟨wc_yX8_lightOf, wi_X8, by decide, by decide, by decide +kernel⟩
theorem mI_yX8_lightOf : Cond.instanceMethod yX8_lightOf ∈ gt := gt_of (List.mem_of_getElem? (i := 770) (by decide +kernel)) rfl
theorem mi_yX8_lightOf : jmi yX8_lightOf := ⟨mI_yX8_lightOf, gt_of (List.mem_of_getElem? (i := 47) (by decide +kernel)) rfl⟩
theorem wc_yX8_setLows : Cond.code yX8_setLows mX8_setLows.2.1 mX8_setLows.2.2.1 mX8_setLows.2.2.2 ∈ gt := gt_of (List.mem_of_getElem? (i := 775) (by decide +kernel)) rfl
theorem mf_yX8_setLows : jmf yX8_setLows mX8_setLows 2 := ⟨wc_yX8_setLows, wi_X8, by decide, by decide, by decide +kernel⟩
theorem mI_yX8_setLows : Cond.instanceMethod yX8_setLows ∈ gt := gt_of (List.mem_of_getElem? (i := 774) (by decide +kernel)) rfl
theorem mi_yX8_setLows : jmi yX8_setLows := ⟨mI_yX8_setLows, gt_of (List.mem_of_getElem? (i := 48) (by decide +kernel)) rfl⟩
theorem wc_yX8_middle : Cond.code yX8_middle mX8_middle.2.1 mX8_middle.2.2.1 mX8_middle.2.2.2 ∈ gt := gt_of (List.mem_of_getElem? (i := 779) (by decide +kernel)) rfl
theorem mf_yX8_middle : jmf yX8_middle mX8_middle 2 := ⟨wc_yX8_middle, wi_X8, by decide, by decide, by decide +kernel⟩
theorem mI_yX8_middle : Cond.instanceMethod yX8_middle ∈ gt := gt_of (List.mem_of_getElem? (i := 778) (by decide +kernel)) rfl
theorem mi_yX8_middle : jmi yX8_middle := ⟨mI_yX8_middle, gt_of (List.mem_of_getElem? (i := 49) (by decide +kernel)) rfl⟩
theorem wc_yX8_sort : Cond.code yX8_sort mX8_sort.2.1 mX8_sort.2.2.1 mX8_sort.2.2.2 ∈ gt := gt_of (List.mem_of_getElem? (i := 783) (by decide +kernel)) rfl
theorem mf_yX8_sort : jmf yX8_sort mX8_sort 2 := ⟨wc_yX8_sort, wi_X8, by decide, by decide, by decide +kernel⟩
theorem mI_yX8_sort : Cond.instanceMethod yX8_sort ∈ gt := gt_of (List.mem_of_getElem? (i := 782) (by decide +kernel)) rfl
theorem mi_yX8_sort : jmi yX8_sort := ⟨mI_yX8_sort, gt_of (List.mem_of_getElem? (i := 50) (by decide +kernel)) rfl⟩
theorem wc_yX8_row : Cond.code yX8_row mX8_row.2.1 mX8_row.2.2.1 mX8_row.2.2.2 ∈ gt := gt_of (List.mem_of_getElem? (i := 787) (by decide +kernel)) rfl
theorem mf_yX8_row : jmf yX8_row mX8_row 1 := ⟨wc_yX8_row, wi_X8, by decide, by decide, by decide +kernel⟩
theorem mI_yX8_row : Cond.instanceMethod yX8_row ∈ gt := gt_of (List.mem_of_getElem? (i := 785) (by decide +kernel)) rfl
theorem mi_yX8_row : jmi yX8_row := ⟨mI_yX8_row, gt_of (List.mem_of_getElem? (i := 786) (by decide +kernel)) rfl⟩
theorem wc_yX8_lay : Cond.code yX8_lay mX8_lay.2.1 mX8_lay.2.2.1 mX8_lay.2.2.2 ∈ gt := gt_of (List.mem_of_getElem? (i := 791) (by decide +kernel)) rfl
theorem mf_yX8_lay : jmf yX8_lay mX8_lay 3 := ⟨wc_yX8_lay, wi_X8, by decide, by decide, by decide +kernel⟩
theorem mI_yX8_lay : Cond.instanceMethod yX8_lay ∈ gt := gt_of (List.mem_of_getElem? (i := 789) (by decide +kernel)) rfl
theorem mi_yX8_lay : jmi yX8_lay := ⟨mI_yX8_lay, gt_of (List.mem_of_getElem? (i := 790) (by decide +kernel)) rfl⟩
theorem wc_yX8_looked : Cond.code yX8_looked mX8_looked.2.1 mX8_looked.2.2.1 mX8_looked.2.2.2 ∈ gt := gt_of (List.mem_of_getElem? (i := 795) (by decide +kernel)) rfl
theorem mf_yX8_looked : jmf yX8_looked mX8_looked 1 := ⟨wc_yX8_looked, wi_X8, by decide, by decide, by decide +kernel⟩
theorem mI_yX8_looked : Cond.instanceMethod yX8_looked ∈ gt := gt_of (List.mem_of_getElem? (i := 794) (by decide +kernel)) rfl
theorem mi_yX8_looked : jmi yX8_looked := ⟨mI_yX8_looked, gt_of (List.mem_of_getElem? (i := 51) (by decide +kernel)) rfl⟩
theorem wc_yX8_isNight : Cond.code yX8_isNight mX8_isNight.2.1 mX8_isNight.2.2.1 mX8_isNight.2.2.2 ∈ gt := gt_of (List.mem_of_getElem? (i := 798) (by decide +kernel)) rfl
theorem mf_yX8_isNight : jmf yX8_isNight mX8_isNight 1 := ⟨wc_yX8_isNight, wi_X8, by decide, by decide, by decide +kernel⟩
theorem mS_yX8_isNight : Cond.static yX8_isNight ∈ gt := gt_of (List.mem_of_getElem? (i := 797) (by decide +kernel)) rfl
theorem wc_yX8_at : Cond.code yX8_at mX8_at.2.1 mX8_at.2.2.1 mX8_at.2.2.2 ∈ gt := gt_of (List.mem_of_getElem? (i := 802) (by decide +kernel)) rfl
theorem mf_yX8_at : jmf yX8_at mX8_at 2 := ⟨wc_yX8_at, wi_X8, by decide, by decide, by decide +kernel⟩
theorem mI_yX8_at : Cond.instanceMethod yX8_at ∈ gt := gt_of (List.mem_of_getElem? (i := 800) (by decide +kernel)) rfl
theorem mi_yX8_at : jmi yX8_at := ⟨mI_yX8_at, gt_of (List.mem_of_getElem? (i := 801) (by decide +kernel)) rfl⟩
theorem wc_yX8_light : Cond.code yX8_light mX8_light.2.1 mX8_light.2.2.1 mX8_light.2.2.2 ∈ gt := gt_of (List.mem_of_getElem? (i := 806) (by decide +kernel)) rfl
theorem mf_yX8_light : jmf yX8_light mX8_light 2 := ⟨wc_yX8_light, wi_X8, by decide, by decide, by decide +kernel⟩
theorem mI_yX8_light : Cond.instanceMethod yX8_light ∈ gt := gt_of (List.mem_of_getElem? (i := 804) (by decide +kernel)) rfl
theorem mi_yX8_light : jmi yX8_light := ⟨mI_yX8_light, gt_of (List.mem_of_getElem? (i := 805) (by decide +kernel)) rfl⟩
theorem wc_yX8_tell : Cond.code yX8_tell mX8_tell.2.1 mX8_tell.2.2.1 mX8_tell.2.2.2 ∈ gt := gt_of (List.mem_of_getElem? (i := 810) (by decide +kernel)) rfl
theorem mf_yX8_tell : jmf yX8_tell mX8_tell 1 := ⟨wc_yX8_tell, wi_X8, by decide, by decide, by decide +kernel⟩
theorem mI_yX8_tell : Cond.instanceMethod yX8_tell ∈ gt := gt_of (List.mem_of_getElem? (i := 809) (by decide +kernel)) rfl
theorem mi_yX8_tell : jmi yX8_tell := ⟨mI_yX8_tell, gt_of (List.mem_of_getElem? (i := 52) (by decide +kernel)) rfl⟩
theorem wc_yX8_tear : Cond.code yX8_tear mX8_tear.2.1 mX8_tear.2.2.1 mX8_tear.2.2.2 ∈ gt := gt_of (List.mem_of_getElem? (i := 814) (by decide +kernel)) rfl
theorem mf_yX8_tear : jmf yX8_tear mX8_tear 1 := ⟨wc_yX8_tear, wi_X8, by decide, by decide, by decide +kernel⟩
theorem mI_yX8_tear : Cond.instanceMethod yX8_tear ∈ gt := gt_of (List.mem_of_getElem? (i := 812) (by decide +kernel)) rfl
theorem mi_yX8_tear : jmi yX8_tear := ⟨mI_yX8_tear, gt_of (List.mem_of_getElem? (i := 813) (by decide +kernel)) rfl⟩
theorem wc_yX8_copy : Cond.code yX8_copy mX8_copy.2.1 mX8_copy.2.2.1 mX8_copy.2.2.2 ∈ gt := gt_of (List.mem_of_getElem? (i := 818) (by decide +kernel)) rfl
theorem mf_yX8_copy : jmf yX8_copy mX8_copy 5 := ⟨wc_yX8_copy, wi_X8, by decide, by decide, by decide +kernel⟩
theorem mI_yX8_copy : Cond.instanceMethod yX8_copy ∈ gt := gt_of (List.mem_of_getElem? (i := 816) (by decide +kernel)) rfl
theorem mi_yX8_copy : jmi yX8_copy := ⟨mI_yX8_copy, gt_of (List.mem_of_getElem? (i := 817) (by decide +kernel)) rfl⟩
theorem wc_yX8_foot : Cond.code yX8_foot mX8_foot.2.1 mX8_foot.2.2.1 mX8_foot.2.2.2 ∈ gt := gt_of (List.mem_of_getElem? (i := 823) (by decide +kernel)) rfl
theorem mf_yX8_foot : jmf yX8_foot mX8_foot 2 := ⟨wc_yX8_foot, wi_X8, by decide, by decide, by decide +kernel⟩
theorem mI_yX8_foot : Cond.instanceMethod yX8_foot ∈ gt := gt_of (List.mem_of_getElem? (i := 821) (by decide +kernel)) rfl
theorem mi_yX8_foot : jmi yX8_foot := ⟨mI_yX8_foot, gt_of (List.mem_of_getElem? (i := 822) (by decide +kernel)) rfl⟩
theorem wc_yX8_footing : Cond.code yX8_footing mX8_footing.2.1 mX8_footing.2.2.1 mX8_footing.2.2.2 ∈ gt := gt_of (List.mem_of_getElem? (i := 827) (by decide +kernel)) rfl
theorem mf_yX8_footing : jmf yX8_footing mX8_footing 1 := ⟨wc_yX8_footing, wi_X8, by decide, by decide, by decide +kernel⟩
theorem mI_yX8_footing : Cond.instanceMethod yX8_footing ∈ gt := gt_of (List.mem_of_getElem? (i := 825) (by decide +kernel)) rfl
theorem mi_yX8_footing : jmi yX8_footing := ⟨mI_yX8_footing, gt_of (List.mem_of_getElem? (i := 826) (by decide +kernel)) rfl⟩
theorem wc_yX8_level : Cond.code yX8_level mX8_level.2.1 mX8_level.2.2.1 mX8_level.2.2.2 ∈ gt := gt_of (List.mem_of_getElem? (i := 831) (by decide +kernel)) rfl
theorem mf_yX8_level : jmf yX8_level mX8_level 0 := ⟨wc_yX8_level, wi_X8, by decide, by decide, by decide +kernel⟩
theorem mI_yX8_level : Cond.instanceMethod yX8_level ∈ gt := gt_of (List.mem_of_getElem? (i := 829) (by decide +kernel)) rfl
theorem mi_yX8_level : jmi yX8_level := ⟨mI_yX8_level, gt_of (List.mem_of_getElem? (i := 830) (by decide +kernel)) rfl⟩
theorem wc_yX8_levelOf : Cond.code yX8_levelOf mX8_levelOf.2.1 mX8_levelOf.2.2.1 mX8_levelOf.2.2.2 ∈ gt := gt_of (List.mem_of_getElem? (i := 835) (by decide +kernel)) rfl
theorem mf_yX8_levelOf : jmf yX8_levelOf mX8_levelOf 1 := ⟨wc_yX8_levelOf, wi_X8, by decide, by decide, by decide +kernel⟩
theorem mI_yX8_levelOf : Cond.instanceMethod yX8_levelOf ∈ gt := gt_of (List.mem_of_getElem? (i := 833) (by decide +kernel)) rfl
theorem mi_yX8_levelOf : jmi yX8_levelOf := ⟨mI_yX8_levelOf, gt_of (List.mem_of_getElem? (i := 834) (by decide +kernel)) rfl⟩
theorem wc_yX8_mean : Cond.code yX8_mean mX8_mean.2.1 mX8_mean.2.2.1 mX8_mean.2.2.2 ∈ gt := gt_of (List.mem_of_getElem? (i := 839) (by decide +kernel)) rfl
theorem mf_yX8_mean : jmf yX8_mean mX8_mean 1 := ⟨wc_yX8_mean, wi_X8, by decide, by decide, by decide +kernel⟩
theorem mI_yX8_mean : Cond.instanceMethod yX8_mean ∈ gt := gt_of (List.mem_of_getElem? (i := 837) (by decide +kernel)) rfl
theorem mi_yX8_mean : jmi yX8_mean := ⟨mI_yX8_mean, gt_of (List.mem_of_getElem? (i := 838) (by decide +kernel)) rfl⟩
theorem wc_yX8_phase : Cond.code yX8_phase mX8_phase.2.1 mX8_phase.2.2.1 mX8_phase.2.2.2 ∈ gt := gt_of (List.mem_of_getElem? (i := 843) (by decide +kernel)) rfl
theorem mf_yX8_phase : jmf yX8_phase mX8_phase 3 := ⟨wc_yX8_phase, wi_X8, by decide, by decide, by decide +kernel⟩
theorem mI_yX8_phase : Cond.instanceMethod yX8_phase ∈ gt := gt_of (List.mem_of_getElem? (i := 841) (by decide +kernel)) rfl
theorem mi_yX8_phase : jmi yX8_phase := ⟨mI_yX8_phase, gt_of (List.mem_of_getElem? (i := 842) (by decide +kernel)) rfl⟩
theorem wc_yX8_isPeriod : Cond.code yX8_isPeriod mX8_isPeriod.2.1 mX8_isPeriod.2.2.1 mX8_isPeriod.2.2.2 ∈ gt := gt_of (List.mem_of_getElem? (i := 846) (by decide +kernel)) rfl
theorem mf_yX8_isPeriod : jmf yX8_isPeriod mX8_isPeriod 1 := ⟨wc_yX8_isPeriod, wi_X8, by decide, by decide, by decide +kernel⟩
theorem mS_yX8_isPeriod : Cond.static yX8_isPeriod ∈ gt := gt_of (List.mem_of_getElem? (i := 845) (by decide +kernel)) rfl
theorem wc_yX8_isPart : Cond.code yX8_isPart mX8_isPart.2.1 mX8_isPart.2.2.1 mX8_isPart.2.2.2 ∈ gt := gt_of (List.mem_of_getElem? (i := 849) (by decide +kernel)) rfl
theorem mf_yX8_isPart : jmf yX8_isPart mX8_isPart 1 := ⟨wc_yX8_isPart, wi_X8, by decide, by decide, by decide +kernel⟩
theorem mS_yX8_isPart : Cond.static yX8_isPart ∈ gt := gt_of (List.mem_of_getElem? (i := 848) (by decide +kernel)) rfl
theorem wc_yX8_string : Cond.code yX8_string mX8_string.2.1 mX8_string.2.2.1 mX8_string.2.2.2 ∈ gt := gt_of (List.mem_of_getElem? (i := 853) (by decide +kernel)) rfl
theorem mf_yX8_string : jmf yX8_string mX8_string 3 := ⟨wc_yX8_string, wi_X8, by decide, by decide, by decide +kernel⟩
theorem mI_yX8_string : Cond.instanceMethod yX8_string ∈ gt := gt_of (List.mem_of_getElem? (i := 851) (by decide +kernel)) rfl
theorem mi_yX8_string : jmi yX8_string := ⟨mI_yX8_string, gt_of (List.mem_of_getElem? (i := 852) (by decide +kernel)) rfl⟩
theorem wc_yX8_stringOf : Cond.code yX8_stringOf mX8_stringOf.2.1 mX8_stringOf.2.2.1 mX8_stringOf.2.2.2 ∈ gt := gt_of (List.mem_of_getElem? (i := 857) (by decide +kernel)) rfl
theorem mf_yX8_stringOf : jmf yX8_stringOf mX8_stringOf 3 := ⟨wc_yX8_stringOf, wi_X8, by decide, by decide, by decide +kernel⟩
theorem mI_yX8_stringOf : Cond.instanceMethod yX8_stringOf ∈ gt := gt_of (List.mem_of_getElem? (i := 856) (by decide +kernel)) rfl
theorem mi_yX8_stringOf : jmi yX8_stringOf := ⟨mI_yX8_stringOf, gt_of (List.mem_of_getElem? (i := 53) (by decide +kernel)) rfl⟩
theorem wc_yX8_period : Cond.code yX8_period mX8_period.2.1 mX8_period.2.2.1 mX8_period.2.2.2 ∈ gt := gt_of (List.mem_of_getElem? (i := 861) (by decide +kernel)) rfl
theorem mf_yX8_period : jmf yX8_period mX8_period 4 := ⟨wc_yX8_period, wi_X8, by decide, by decide, by decide +kernel⟩
theorem mI_yX8_period : Cond.instanceMethod yX8_period ∈ gt := gt_of (List.mem_of_getElem? (i := 859) (by decide +kernel)) rfl
theorem mi_yX8_period : jmi yX8_period := ⟨mI_yX8_period, gt_of (List.mem_of_getElem? (i := 860) (by decide +kernel)) rfl⟩
theorem wc_yX8_bestOf : Cond.code yX8_bestOf mX8_bestOf.2.1 mX8_bestOf.2.2.1 mX8_bestOf.2.2.2 ∈ gt := gt_of (List.mem_of_getElem? (i := 865) (by decide +kernel)) rfl
theorem mf_yX8_bestOf : jmf yX8_bestOf mX8_bestOf 4 := ⟨wc_yX8_bestOf, wi_X8, by decide, by decide, by decide +kernel⟩
theorem mI_yX8_bestOf : Cond.instanceMethod yX8_bestOf ∈ gt := gt_of (List.mem_of_getElem? (i := 864) (by decide +kernel)) rfl
theorem mi_yX8_bestOf : jmi yX8_bestOf := ⟨mI_yX8_bestOf, gt_of (List.mem_of_getElem? (i := 54) (by decide +kernel)) rfl⟩
theorem wc_yX8_asWell : Cond.code yX8_asWell mX8_asWell.2.1 mX8_asWell.2.2.1 mX8_asWell.2.2.2 ∈ gt := gt_of (List.mem_of_getElem? (i := 869) (by decide +kernel)) rfl
theorem mf_yX8_asWell : jmf yX8_asWell mX8_asWell 5 := ⟨wc_yX8_asWell, wi_X8, by decide, by decide, by decide +kernel⟩
theorem mI_yX8_asWell : Cond.instanceMethod yX8_asWell ∈ gt := gt_of (List.mem_of_getElem? (i := 867) (by decide +kernel)) rfl
theorem mi_yX8_asWell : jmi yX8_asWell := ⟨mI_yX8_asWell, gt_of (List.mem_of_getElem? (i := 868) (by decide +kernel)) rfl⟩
theorem wc_yX8_depth : Cond.code yX8_depth mX8_depth.2.1 mX8_depth.2.2.1 mX8_depth.2.2.2 ∈ gt := gt_of (List.mem_of_getElem? (i := 874) (by decide +kernel)) rfl
theorem mf_yX8_depth : jmf yX8_depth mX8_depth 4 := ⟨wc_yX8_depth, wi_X8, by decide, by decide, by decide +kernel⟩
theorem mI_yX8_depth : Cond.instanceMethod yX8_depth ∈ gt := gt_of (List.mem_of_getElem? (i := 872) (by decide +kernel)) rfl
theorem mi_yX8_depth : jmi yX8_depth := ⟨mI_yX8_depth, gt_of (List.mem_of_getElem? (i := 873) (by decide +kernel)) rfl⟩
theorem wc_yX8_dips : Cond.code yX8_dips mX8_dips.2.1 mX8_dips.2.2.1 mX8_dips.2.2.2 ∈ gt := gt_of (List.mem_of_getElem? (i := 878) (by decide +kernel)) rfl
theorem mf_yX8_dips : jmf yX8_dips mX8_dips 4 := ⟨wc_yX8_dips, wi_X8, by decide, by decide, by decide +kernel⟩
theorem mI_yX8_dips : Cond.instanceMethod yX8_dips ∈ gt := gt_of (List.mem_of_getElem? (i := 877) (by decide +kernel)) rfl
theorem mi_yX8_dips : jmi yX8_dips := ⟨mI_yX8_dips, gt_of (List.mem_of_getElem? (i := 55) (by decide +kernel)) rfl⟩
theorem wc_yX8_dip : Cond.code yX8_dip mX8_dip.2.1 mX8_dip.2.2.1 mX8_dip.2.2.2 ∈ gt := gt_of (List.mem_of_getElem? (i := 882) (by decide +kernel)) rfl
theorem mf_yX8_dip : jmf yX8_dip mX8_dip 3 := ⟨wc_yX8_dip, wi_X8, by decide, by decide, by decide +kernel⟩
theorem mI_yX8_dip : Cond.instanceMethod yX8_dip ∈ gt := gt_of (List.mem_of_getElem? (i := 880) (by decide +kernel)) rfl
theorem mi_yX8_dip : jmi yX8_dip := ⟨mI_yX8_dip, gt_of (List.mem_of_getElem? (i := 881) (by decide +kernel)) rfl⟩
theorem wc_yX8_dipOf : Cond.code yX8_dipOf mX8_dipOf.2.1 mX8_dipOf.2.2.1 mX8_dipOf.2.2.2 ∈ gt := gt_of (List.mem_of_getElem? (i := 886) (by decide +kernel)) rfl
theorem mf_yX8_dipOf : jmf yX8_dipOf mX8_dipOf 1 := ⟨wc_yX8_dipOf, wi_X8, by decide, by decide, by decide +kernel⟩
theorem mI_yX8_dipOf : Cond.instanceMethod yX8_dipOf ∈ gt := gt_of (List.mem_of_getElem? (i := 884) (by decide +kernel)) rfl
theorem mi_yX8_dipOf : jmi yX8_dipOf := ⟨mI_yX8_dipOf, gt_of (List.mem_of_getElem? (i := 885) (by decide +kernel)) rfl⟩
theorem wc_yX8_lows : Cond.code yX8_lows mX8_lows.2.1 mX8_lows.2.2.1 mX8_lows.2.2.2 ∈ gt := gt_of (List.mem_of_getElem? (i := 890) (by decide +kernel)) rfl
theorem mf_yX8_lows : jmf yX8_lows mX8_lows 2 := ⟨wc_yX8_lows, wi_X8, by decide, by decide, by decide +kernel⟩
theorem mI_yX8_lows : Cond.instanceMethod yX8_lows ∈ gt := gt_of (List.mem_of_getElem? (i := 888) (by decide +kernel)) rfl
theorem mi_yX8_lows : jmi yX8_lows := ⟨mI_yX8_lows, gt_of (List.mem_of_getElem? (i := 889) (by decide +kernel)) rfl⟩
theorem wc_yX8_lowsOf : Cond.code yX8_lowsOf mX8_lowsOf.2.1 mX8_lowsOf.2.2.1 mX8_lowsOf.2.2.2 ∈ gt := gt_of (List.mem_of_getElem? (i := 894) (by decide +kernel)) rfl
theorem mf_yX8_lowsOf : jmf yX8_lowsOf mX8_lowsOf 2 := ⟨wc_yX8_lowsOf, wi_X8, by decide, by decide, by decide +kernel⟩
theorem mI_yX8_lowsOf : Cond.instanceMethod yX8_lowsOf ∈ gt := gt_of (List.mem_of_getElem? (i := 893) (by decide +kernel)) rfl
theorem mi_yX8_lowsOf : jmi yX8_lowsOf := ⟨mI_yX8_lowsOf, gt_of (List.mem_of_getElem? (i := 56) (by decide +kernel)) rfl⟩
theorem wc_yX8_low : Cond.code yX8_low mX8_low.2.1 mX8_low.2.2.1 mX8_low.2.2.2 ∈ gt := gt_of (List.mem_of_getElem? (i := 898) (by decide +kernel)) rfl
theorem mf_yX8_low : jmf yX8_low mX8_low 3 := ⟨wc_yX8_low, wi_X8, by decide, by decide, by decide +kernel⟩
theorem mI_yX8_low : Cond.instanceMethod yX8_low ∈ gt := gt_of (List.mem_of_getElem? (i := 896) (by decide +kernel)) rfl
theorem mi_yX8_low : jmi yX8_low := ⟨mI_yX8_low, gt_of (List.mem_of_getElem? (i := 897) (by decide +kernel)) rfl⟩
theorem wc_yX8_turn : Cond.code yX8_turn mX8_turn.2.1 mX8_turn.2.2.1 mX8_turn.2.2.2 ∈ gt := gt_of (List.mem_of_getElem? (i := 902) (by decide +kernel)) rfl
theorem mf_yX8_turn : jmf yX8_turn mX8_turn 6 := ⟨wc_yX8_turn, wi_X8, by decide, by decide, by decide +kernel⟩
theorem mI_yX8_turn : Cond.instanceMethod yX8_turn ∈ gt := gt_of (List.mem_of_getElem? (i := 900) (by decide +kernel)) rfl
theorem mi_yX8_turn : jmi yX8_turn := ⟨mI_yX8_turn, gt_of (List.mem_of_getElem? (i := 901) (by decide +kernel)) rfl⟩
theorem wc_yX8_isClock : Cond.code yX8_isClock mX8_isClock.2.1 mX8_isClock.2.2.1 mX8_isClock.2.2.2 ∈ gt := gt_of (List.mem_of_getElem? (i := 905) (by decide +kernel)) rfl
theorem mf_yX8_isClock : jmf yX8_isClock mX8_isClock 3 := ⟨wc_yX8_isClock, wi_X8, by decide, by decide, by decide +kernel⟩
theorem mS_yX8_isClock : Cond.static yX8_isClock ∈ gt := gt_of (List.mem_of_getElem? (i := 904) (by decide +kernel)) rfl
theorem wc_yX8_turnOf : Cond.code yX8_turnOf mX8_turnOf.2.1 mX8_turnOf.2.2.1 mX8_turnOf.2.2.2 ∈ gt := gt_of (List.mem_of_getElem? (i := 909) (by decide +kernel)) rfl
theorem mf_yX8_turnOf : jmf yX8_turnOf mX8_turnOf 4 := ⟨wc_yX8_turnOf, wi_X8, by decide, by decide, by decide +kernel⟩
theorem mI_yX8_turnOf : Cond.instanceMethod yX8_turnOf ∈ gt := gt_of (List.mem_of_getElem? (i := 908) (by decide +kernel)) rfl
theorem mi_yX8_turnOf : jmi yX8_turnOf := ⟨mI_yX8_turnOf, gt_of (List.mem_of_getElem? (i := 57) (by decide +kernel)) rfl⟩
theorem wc_yX8_late : Cond.code yX8_late mX8_late.2.1 mX8_late.2.2.1 mX8_late.2.2.2 ∈ gt := gt_of (List.mem_of_getElem? (i := 916) (by decide +kernel)) rfl
theorem mf_yX8_late : jmf yX8_late mX8_late 6 := ⟨wc_yX8_late, wi_X8, by decide, by decide, by decide +kernel⟩
theorem mI_yX8_late : Cond.instanceMethod yX8_late ∈ gt := gt_of (List.mem_of_getElem? (i := 914) (by decide +kernel)) rfl
theorem mi_yX8_late : jmi yX8_late := ⟨mI_yX8_late, gt_of (List.mem_of_getElem? (i := 915) (by decide +kernel)) rfl⟩
theorem wc_yX8_lateOf : Cond.code yX8_lateOf mX8_lateOf.2.1 mX8_lateOf.2.2.1 mX8_lateOf.2.2.2 ∈ gt := gt_of (List.mem_of_getElem? (i := 920) (by decide +kernel)) rfl
theorem mf_yX8_lateOf : jmf yX8_lateOf mX8_lateOf 4 := ⟨wc_yX8_lateOf, wi_X8, by decide, by decide, by decide +kernel⟩
theorem mI_yX8_lateOf : Cond.instanceMethod yX8_lateOf ∈ gt := gt_of (List.mem_of_getElem? (i := 919) (by decide +kernel)) rfl
theorem mi_yX8_lateOf : jmi yX8_lateOf := ⟨mI_yX8_lateOf, gt_of (List.mem_of_getElem? (i := 58) (by decide +kernel)) rfl⟩
theorem wc_yX8_bent : Cond.code yX8_bent mX8_bent.2.1 mX8_bent.2.2.1 mX8_bent.2.2.2 ∈ gt := gt_of (List.mem_of_getElem? (i := 924) (by decide +kernel)) rfl
theorem mf_yX8_bent : jmf yX8_bent mX8_bent 6 := ⟨wc_yX8_bent, wi_X8, by decide, by decide, by decide +kernel⟩
theorem mI_yX8_bent : Cond.instanceMethod yX8_bent ∈ gt := gt_of (List.mem_of_getElem? (i := 922) (by decide +kernel)) rfl
theorem mi_yX8_bent : jmi yX8_bent := ⟨mI_yX8_bent, gt_of (List.mem_of_getElem? (i := 923) (by decide +kernel)) rfl⟩
theorem wc_yX8_rule : Cond.code yX8_rule mX8_rule.2.1 mX8_rule.2.2.1 mX8_rule.2.2.2 ∈ gt := gt_of (List.mem_of_getElem? (i := 928) (by decide +kernel)) rfl
theorem mf_yX8_rule : jmf yX8_rule mX8_rule 4 := ⟨wc_yX8_rule, wi_X8, by decide, by decide, by decide +kernel⟩
theorem mI_yX8_rule : Cond.instanceMethod yX8_rule ∈ gt := gt_of (List.mem_of_getElem? (i := 926) (by decide +kernel)) rfl
theorem mi_yX8_rule : jmi yX8_rule := ⟨mI_yX8_rule, gt_of (List.mem_of_getElem? (i := 927) (by decide +kernel)) rfl⟩
theorem wc_yX8_classOf : Cond.code yX8_classOf mX8_classOf.2.1 mX8_classOf.2.2.1 mX8_classOf.2.2.2 ∈ gt := gt_of (List.mem_of_getElem? (i := 932) (by decide +kernel)) rfl
theorem mf_yX8_classOf : jmf yX8_classOf mX8_classOf 1 := ⟨wc_yX8_classOf, wi_X8, by decide, by decide, by decide +kernel⟩
theorem mI_yX8_classOf : Cond.instanceMethod yX8_classOf ∈ gt := gt_of (List.mem_of_getElem? (i := 930) (by decide +kernel)) rfl
theorem mi_yX8_classOf : jmi yX8_classOf := ⟨mI_yX8_classOf, gt_of (List.mem_of_getElem? (i := 931) (by decide +kernel)) rfl⟩
theorem wc_yX8_classIs : Cond.code yX8_classIs mX8_classIs.2.1 mX8_classIs.2.2.1 mX8_classIs.2.2.2 ∈ gt := gt_of (List.mem_of_getElem? (i := 936) (by decide +kernel)) rfl
theorem mf_yX8_classIs : jmf yX8_classIs mX8_classIs 1 := ⟨wc_yX8_classIs, wi_X8, by decide, by decide, by decide +kernel⟩
theorem mI_yX8_classIs : Cond.instanceMethod yX8_classIs ∈ gt := gt_of (List.mem_of_getElem? (i := 935) (by decide +kernel)) rfl
theorem mi_yX8_classIs : jmi yX8_classIs := ⟨mI_yX8_classIs, gt_of (List.mem_of_getElem? (i := 59) (by decide +kernel)) rfl⟩
theorem wc_yX8_worth : Cond.code yX8_worth mX8_worth.2.1 mX8_worth.2.2.1 mX8_worth.2.2.2 ∈ gt := gt_of (List.mem_of_getElem? (i := 940) (by decide +kernel)) rfl
theorem mf_yX8_worth : jmf yX8_worth mX8_worth 2 := ⟨wc_yX8_worth, wi_X8, by decide, by decide, by decide +kernel⟩
theorem mI_yX8_worth : Cond.instanceMethod yX8_worth ∈ gt := gt_of (List.mem_of_getElem? (i := 939) (by decide +kernel)) rfl
theorem mi_yX8_worth : jmi yX8_worth := ⟨mI_yX8_worth, gt_of (List.mem_of_getElem? (i := 60) (by decide +kernel)) rfl⟩
theorem wc_yX8_watch : Cond.code yX8_watch mX8_watch.2.1 mX8_watch.2.2.1 mX8_watch.2.2.2 ∈ gt := gt_of (List.mem_of_getElem? (i := 944) (by decide +kernel)) rfl
theorem mf_yX8_watch : jmf yX8_watch mX8_watch 0 := ⟨wc_yX8_watch, wi_X8, by decide, by decide, by decide +kernel⟩
theorem mI_yX8_watch : Cond.instanceMethod yX8_watch ∈ gt := gt_of (List.mem_of_getElem? (i := 942) (by decide +kernel)) rfl
theorem mi_yX8_watch : jmi yX8_watch := ⟨mI_yX8_watch, gt_of (List.mem_of_getElem? (i := 943) (by decide +kernel)) rfl⟩
theorem wc_yX8_alarms : Cond.code yX8_alarms mX8_alarms.2.1 mX8_alarms.2.2.1 mX8_alarms.2.2.2 ∈ gt := gt_of (List.mem_of_getElem? (i := 948) (by decide +kernel)) rfl
theorem mf_yX8_alarms : jmf yX8_alarms mX8_alarms 0 := ⟨wc_yX8_alarms, wi_X8, by decide, by decide, by decide +kernel⟩
theorem mI_yX8_alarms : Cond.instanceMethod yX8_alarms ∈ gt := gt_of (List.mem_of_getElem? (i := 946) (by decide +kernel)) rfl
theorem mi_yX8_alarms : jmi yX8_alarms := ⟨mI_yX8_alarms, gt_of (List.mem_of_getElem? (i := 947) (by decide +kernel)) rfl⟩
theorem wc_yX8_asked : Cond.code yX8_asked mX8_asked.2.1 mX8_asked.2.2.1 mX8_asked.2.2.2 ∈ gt := gt_of (List.mem_of_getElem? (i := 952) (by decide +kernel)) rfl
theorem mf_yX8_asked : jmf yX8_asked mX8_asked 0 := ⟨wc_yX8_asked, wi_X8, by decide, by decide, by decide +kernel⟩
theorem mI_yX8_asked : Cond.instanceMethod yX8_asked ∈ gt := gt_of (List.mem_of_getElem? (i := 950) (by decide +kernel)) rfl
theorem mi_yX8_asked : jmi yX8_asked := ⟨mI_yX8_asked, gt_of (List.mem_of_getElem? (i := 951) (by decide +kernel)) rfl⟩
theorem wc_yX8_count : Cond.code yX8_count mX8_count.2.1 mX8_count.2.2.1 mX8_count.2.2.2 ∈ gt := gt_of (List.mem_of_getElem? (i := 956) (by decide +kernel)) rfl
theorem mf_yX8_count : jmf yX8_count mX8_count 1 := ⟨wc_yX8_count, wi_X8, by decide, by decide, by decide +kernel⟩
theorem mI_yX8_count : Cond.instanceMethod yX8_count ∈ gt := gt_of (List.mem_of_getElem? (i := 954) (by decide +kernel)) rfl
theorem mi_yX8_count : jmi yX8_count := ⟨mI_yX8_count, gt_of (List.mem_of_getElem? (i := 955) (by decide +kernel)) rfl⟩
theorem wc_yX8_finding : Cond.code yX8_finding mX8_finding.2.1 mX8_finding.2.2.1 mX8_finding.2.2.2 ∈ gt := gt_of (List.mem_of_getElem? (i := 960) (by decide +kernel)) rfl
theorem mf_yX8_finding : jmf yX8_finding mX8_finding 0 := ⟨wc_yX8_finding, wi_X8, by decide, by decide, by decide +kernel⟩
theorem mI_yX8_finding : Cond.instanceMethod yX8_finding ∈ gt := gt_of (List.mem_of_getElem? (i := 958) (by decide +kernel)) rfl
theorem mi_yX8_finding : jmi yX8_finding := ⟨mI_yX8_finding, gt_of (List.mem_of_getElem? (i := 959) (by decide +kernel)) rfl⟩
theorem wc_yX8_findings : Cond.code yX8_findings mX8_findings.2.1 mX8_findings.2.2.1 mX8_findings.2.2.2 ∈ gt := gt_of (List.mem_of_getElem? (i := 964) (by decide +kernel)) rfl
theorem mf_yX8_findings : jmf yX8_findings mX8_findings 1 := ⟨wc_yX8_findings, wi_X8, by decide, by decide, by decide +kernel⟩
theorem mI_yX8_findings : Cond.instanceMethod yX8_findings ∈ gt := gt_of (List.mem_of_getElem? (i := 962) (by decide +kernel)) rfl
theorem mi_yX8_findings : jmi yX8_findings := ⟨mI_yX8_findings, gt_of (List.mem_of_getElem? (i := 963) (by decide +kernel)) rfl⟩
theorem wc_yX8_digest : Cond.code yX8_digest mX8_digest.2.1 mX8_digest.2.2.1 mX8_digest.2.2.2 ∈ gt := gt_of (List.mem_of_getElem? (i := 968) (by decide +kernel)) rfl
theorem mf_yX8_digest : jmf yX8_digest mX8_digest 0 := ⟨wc_yX8_digest, wi_X8, by decide, by decide, by decide +kernel⟩
theorem mI_yX8_digest : Cond.instanceMethod yX8_digest ∈ gt := gt_of (List.mem_of_getElem? (i := 966) (by decide +kernel)) rfl
theorem mi_yX8_digest : jmi yX8_digest := ⟨mI_yX8_digest, gt_of (List.mem_of_getElem? (i := 967) (by decide +kernel)) rfl⟩
theorem ml_L_9 : jml RL 9 yX7_init := Or.inl (gt_of (List.mem_of_getElem? (i := 76) (by decide +kernel)) rfl)
theorem wo_X7_1 : Cond.methodLink RX7 1 Lib.objectInit ∈ gt := gt_of (List.mem_of_getElem? (i := 79) (by decide +kernel)) rfl
theorem ml_X7_27 : jml RX7 27 yX1_init := Or.inr ⟨"ChangingStars", nt_of (List.mem_of_getElem? (i := 88) (by decide +kernel)) rfl⟩
theorem wo_X1_3 : Cond.methodLink RX1 3 Lib.objectInit ∈ gt := gt_of (List.mem_of_getElem? (i := 91) (by decide +kernel)) rfl
theorem ml_X7_34 : jml RX7 34 yX0_init := Or.inr ⟨"ChangingStars", nt_of (List.mem_of_getElem? (i := 117) (by decide +kernel)) rfl⟩
theorem wo_X0_3 : Cond.methodLink RX0 3 Lib.objectInit ∈ gt := gt_of (List.mem_of_getElem? (i := 120) (by decide +kernel)) rfl
theorem ml_X7_41 : jml RX7 41 yX3_init := Or.inr ⟨"ChangingStars", nt_of (List.mem_of_getElem? (i := 130) (by decide +kernel)) rfl⟩
theorem wo_X3_3 : Cond.methodLink RX3 3 Lib.objectInit ∈ gt := gt_of (List.mem_of_getElem? (i := 133) (by decide +kernel)) rfl
theorem ml_X7_48 : jml RX7 48 yX4_init := Or.inr ⟨"ChangingStars", nt_of (List.mem_of_getElem? (i := 147) (by decide +kernel)) rfl⟩
theorem wo_X4_3 : Cond.methodLink RX4 3 Lib.objectInit ∈ gt := gt_of (List.mem_of_getElem? (i := 150) (by decide +kernel)) rfl
theorem ml_X7_55 : jml RX7 55 yX2_init := Or.inr ⟨"ChangingStars", nt_of (List.mem_of_getElem? (i := 162) (by decide +kernel)) rfl⟩
theorem wo_X2_3 : Cond.methodLink RX2 3 Lib.objectInit ∈ gt := gt_of (List.mem_of_getElem? (i := 165) (by decide +kernel)) rfl
theorem ml_L_13 : jml RL 13 yX7_star := Or.inl (gt_of (List.mem_of_getElem? (i := 249) (by decide +kernel)) rfl)
theorem ml_X7_69 : jml RX7 69 yX7_isKind := Or.inl (gt_of (List.mem_of_getElem? (i := 253) (by decide +kernel)) rfl)
theorem ml_X7_77 : jml RX7 77 yX6_init := Or.inr ⟨"ChangingStars", nt_of (List.mem_of_getElem? (i := 257) (by decide +kernel)) rfl⟩
theorem wo_X6_3 : Cond.methodLink RX6 3 Lib.objectInit ∈ gt := gt_of (List.mem_of_getElem? (i := 260) (by decide +kernel)) rfl
theorem ml_X6_22 : jml RX6 22 yJ7_fill_53178 := Or.inl (gt_of (List.mem_of_getElem? (i := 261) (by decide +kernel)) rfl)
theorem ml_L_18 : jml RL 18 yX7_is := Or.inl (gt_of (List.mem_of_getElem? (i := 282) (by decide +kernel)) rfl)
theorem ml_X7_80 : jml RX7 80 yX7_starNumbered := Or.inl (gt_of (List.mem_of_getElem? (i := 286) (by decide +kernel)) rfl)
theorem ml_X7_84 : jml RX7 84 yX6_isOfKind := Or.inr ⟨"ChangingStars", nt_of (List.mem_of_getElem? (i := 290) (by decide +kernel)) rfl⟩
theorem ml_L_23 : jml RL 23 yX7_mark := Or.inl (gt_of (List.mem_of_getElem? (i := 294) (by decide +kernel)) rfl)
theorem ml_X7_87 : jml RX7 87 yX7_found := Or.inl (gt_of (List.mem_of_getElem? (i := 298) (by decide +kernel)) rfl)
theorem ml_X7_94 : jml RX7 94 yX7_gatherRow := Or.inl (gt_of (List.mem_of_getElem? (i := 302) (by decide +kernel)) rfl)
theorem ml_X7_119 : jml RX7 119 yX7_lookAtRow := Or.inl (gt_of (List.mem_of_getElem? (i := 306) (by decide +kernel)) rfl)
theorem ml_X7_237 : jml RX7 237 yX1_gather := Or.inr ⟨"ChangingStars", nt_of (List.mem_of_getElem? (i := 310) (by decide +kernel)) rfl⟩
theorem ml_X7_97 : jml RX7 97 yX7_markOfCurve := Or.inl (gt_of (List.mem_of_getElem? (i := 314) (by decide +kernel)) rfl)
theorem ml_X7_284 : jml RX7 284 yX7_measureCurve := Or.inl (gt_of (List.mem_of_getElem? (i := 318) (by decide +kernel)) rfl)
theorem ml_X7_145 : jml RX7 145 yX7_levelOfCurve := Or.inl (gt_of (List.mem_of_getElem? (i := 322) (by decide +kernel)) rfl)
theorem ml_X7_272 : jml RX7 272 yX0_clear := Or.inr ⟨"ChangingStars", nt_of (List.mem_of_getElem? (i := 326) (by decide +kernel)) rfl⟩
theorem ml_X7_275 : jml RX7 275 yX0_put := Or.inr ⟨"ChangingStars", nt_of (List.mem_of_getElem? (i := 330) (by decide +kernel)) rfl⟩
theorem ml_X7_278 : jml RX7 278 yX0_middle := Or.inr ⟨"ChangingStars", nt_of (List.mem_of_getElem? (i := 334) (by decide +kernel)) rfl⟩
theorem ml_X7_281 : jml RX7 281 yX0_spread := Or.inr ⟨"ChangingStars", nt_of (List.mem_of_getElem? (i := 338) (by decide +kernel)) rfl⟩
theorem ml_X7_265 : jml RX7 265 yX4_gather := Or.inr ⟨"ChangingStars", nt_of (List.mem_of_getElem? (i := 342) (by decide +kernel)) rfl⟩
theorem ml_L_27 : jml RL 27 yX7_row := Or.inl (gt_of (List.mem_of_getElem? (i := 346) (by decide +kernel)) rfl)
theorem ml_X7_104 : jml RX7 104 yX6_emptyRow := Or.inr ⟨"ChangingStars", nt_of (List.mem_of_getElem? (i := 350) (by decide +kernel)) rfl⟩
theorem ml_L_31 : jml RL 31 yX7_lay := Or.inl (gt_of (List.mem_of_getElem? (i := 354) (by decide +kernel)) rfl)
theorem ml_X7_108 : jml RX7 108 yX7_lookAtNight := Or.inl (gt_of (List.mem_of_getElem? (i := 358) (by decide +kernel)) rfl)
theorem ml_X7_132 : jml RX7 132 yX7_isNight := Or.inl (gt_of (List.mem_of_getElem? (i := 362) (by decide +kernel)) rfl)
theorem ml_L_36 : jml RL 36 yX7_at := Or.inl (gt_of (List.mem_of_getElem? (i := 365) (by decide +kernel)) rfl)
theorem ml_L_40 : jml RL 40 yX7_light := Or.inl (gt_of (List.mem_of_getElem? (i := 369) (by decide +kernel)) rfl)
theorem ml_X7_115 : jml RX7 115 yX7_tell := Or.inl (gt_of (List.mem_of_getElem? (i := 373) (by decide +kernel)) rfl)
theorem ml_L_44 : jml RL 44 yX7_tear := Or.inl (gt_of (List.mem_of_getElem? (i := 377) (by decide +kernel)) rfl)
theorem ml_L_48 : jml RL 48 yX7_copy := Or.inl (gt_of (List.mem_of_getElem? (i := 381) (by decide +kernel)) rfl)
theorem ml_X7_122 : jml RX7 122 yX7_areNights := Or.inl (gt_of (List.mem_of_getElem? (i := 385) (by decide +kernel)) rfl)
theorem ml_L_53 : jml RL 53 yX7_foot := Or.inl (gt_of (List.mem_of_getElem? (i := 391) (by decide +kernel)) rfl)
theorem ml_L_57 : jml RL 57 yX7_footing := Or.inl (gt_of (List.mem_of_getElem? (i := 395) (by decide +kernel)) rfl)
theorem ml_L_61 : jml RL 61 yX7_level := Or.inl (gt_of (List.mem_of_getElem? (i := 399) (by decide +kernel)) rfl)
theorem ml_X7_135 : jml RX7 135 yX7_levelWithoutFootings := Or.inl (gt_of (List.mem_of_getElem? (i := 403) (by decide +kernel)) rfl)
theorem ml_X7_139 : jml RX7 139 yX7_middleDifference := Or.inl (gt_of (List.mem_of_getElem? (i := 407) (by decide +kernel)) rfl)
theorem ml_L_66 : jml RL 66 yX7_levelOf := Or.inl (gt_of (List.mem_of_getElem? (i := 411) (by decide +kernel)) rfl)
theorem ml_X7_142 : jml RX7 142 yX7_gatherLights := Or.inl (gt_of (List.mem_of_getElem? (i := 415) (by decide +kernel)) rfl)
theorem ml_L_70 : jml RL 70 yX7_mean := Or.inl (gt_of (List.mem_of_getElem? (i := 419) (by decide +kernel)) rfl)
theorem ml_X7_149 : jml RX7 149 yX1_average := Or.inr ⟨"ChangingStars", nt_of (List.mem_of_getElem? (i := 423) (by decide +kernel)) rfl⟩
theorem ml_X1_25 : jml RX1 25 yX1_sum := Or.inl (gt_of (List.mem_of_getElem? (i := 427) (by decide +kernel)) rfl)
theorem ml_L_74 : jml RL 74 yX7_phase := Or.inl (gt_of (List.mem_of_getElem? (i := 431) (by decide +kernel)) rfl)
theorem ml_X7_153 : jml RX7 153 yX7_isPeriod := Or.inl (gt_of (List.mem_of_getElem? (i := 435) (by decide +kernel)) rfl)
theorem ml_X7_156 : jml RX7 156 yX7_phaseOfTime := Or.inl (gt_of (List.mem_of_getElem? (i := 438) (by decide +kernel)) rfl)
theorem ml_L_78 : jml RL 78 yX7_string := Or.inl (gt_of (List.mem_of_getElem? (i := 441) (by decide +kernel)) rfl)
theorem ml_X7_160 : jml RX7 160 yX3_stringOf := Or.inr ⟨"ChangingStars", nt_of (List.mem_of_getElem? (i := 445) (by decide +kernel)) rfl⟩
theorem ml_X3_30 : jml RX3 30 yX7_phaseOfTime := Or.inr ⟨"ChangingStars", nt_of (List.mem_of_getElem? (i := 449) (by decide +kernel)) rfl⟩
theorem ml_X3_35 : jml RX3 35 yX3_put := Or.inl (gt_of (List.mem_of_getElem? (i := 450) (by decide +kernel)) rfl)
theorem ml_X3_39 : jml RX3 39 yJ9_abs_0f7a4 := Or.inl (gt_of (List.mem_of_getElem? (i := 454) (by decide +kernel)) rfl)
theorem ml_L_82 : jml RL 82 yX7_period := Or.inl (gt_of (List.mem_of_getElem? (i := 457) (by decide +kernel)) rfl)
theorem ml_X7_164 : jml RX7 164 yX7_foldFromTo := Or.inl (gt_of (List.mem_of_getElem? (i := 461) (by decide +kernel)) rfl)
theorem ml_X7_268 : jml RX7 268 yX3_stringsFromTo := Or.inr ⟨"ChangingStars", nt_of (List.mem_of_getElem? (i := 465) (by decide +kernel)) rfl⟩
theorem ml_X3_45 : jml RX3 45 yX3_stringOf := Or.inl (gt_of (List.mem_of_getElem? (i := 469) (by decide +kernel)) rfl)
theorem ml_X7_168 : jml RX7 168 yX3_leastFromTo := Or.inr ⟨"ChangingStars", nt_of (List.mem_of_getElem? (i := 470) (by decide +kernel)) rfl⟩
theorem ml_L_87 : jml RL 87 yX7_asWell := Or.inl (gt_of (List.mem_of_getElem? (i := 474) (by decide +kernel)) rfl)
theorem ml_L_91 : jml RL 91 yX7_depth := Or.inl (gt_of (List.mem_of_getElem? (i := 479) (by decide +kernel)) rfl)
theorem ml_X7_182 : jml RX7 182 yJ9_floorMod_7cf53 := Or.inl (gt_of (List.mem_of_getElem? (i := 483) (by decide +kernel)) rfl)
theorem ml_X7_188 : jml RX7 188 yX1_sum := Or.inr ⟨"ChangingStars", nt_of (List.mem_of_getElem? (i := 486) (by decide +kernel)) rfl⟩
theorem ml_L_95 : jml RL 95 yX7_dip := Or.inl (gt_of (List.mem_of_getElem? (i := 487) (by decide +kernel)) rfl)
theorem ml_X7_191 : jml RX7 191 yX2_search := Or.inr ⟨"ChangingStars", nt_of (List.mem_of_getElem? (i := 491) (by decide +kernel)) rfl⟩
theorem ml_X2_34 : jml RX2 34 yX2_share := Or.inl (gt_of (List.mem_of_getElem? (i := 495) (by decide +kernel)) rfl)
theorem ml_X2_59 : jml RX2 59 yJ7_fill_53178 := Or.inl (gt_of (List.mem_of_getElem? (i := 499) (by decide +kernel)) rfl)
theorem ml_X2_79 : jml RX2 79 yX7_phaseOfTime := Or.inr ⟨"ChangingStars", nt_of (List.mem_of_getElem? (i := 500) (by decide +kernel)) rfl⟩
theorem ml_X2_38 : jml RX2 38 yJ9_min_7cf53 := Or.inl (gt_of (List.mem_of_getElem? (i := 501) (by decide +kernel)) rfl)
theorem ml_X2_44 : jml RX2 44 yX2_widen := Or.inl (gt_of (List.mem_of_getElem? (i := 504) (by decide +kernel)) rfl)
theorem ml_X2_48 : jml RX2 48 yX2_countsHere := Or.inl (gt_of (List.mem_of_getElem? (i := 508) (by decide +kernel)) rfl)
theorem ml_X2_52 : jml RX2 52 yX2_depthFrom := Or.inl (gt_of (List.mem_of_getElem? (i := 512) (by decide +kernel)) rfl)
theorem ml_X2_56 : jml RX2 56 yX2_keep := Or.inl (gt_of (List.mem_of_getElem? (i := 516) (by decide +kernel)) rfl)
theorem ml_L_99 : jml RL 99 yX7_dipOf := Or.inl (gt_of (List.mem_of_getElem? (i := 520) (by decide +kernel)) rfl)
theorem ml_L_103 : jml RL 103 yX7_lows := Or.inl (gt_of (List.mem_of_getElem? (i := 524) (by decide +kernel)) rfl)
theorem ml_X7_204 : jml RX7 204 yX7_gatherLows := Or.inl (gt_of (List.mem_of_getElem? (i := 528) (by decide +kernel)) rfl)
theorem ml_L_107 : jml RL 107 yX7_low := Or.inl (gt_of (List.mem_of_getElem? (i := 532) (by decide +kernel)) rfl)
theorem ml_X7_208 : jml RX7 208 yX4_has := Or.inr ⟨"ChangingStars", nt_of (List.mem_of_getElem? (i := 536) (by decide +kernel)) rfl⟩
theorem ml_L_111 : jml RL 111 yX7_turn := Or.inl (gt_of (List.mem_of_getElem? (i := 540) (by decide +kernel)) rfl)
theorem ml_X7_212 : jml RX7 212 yX7_gatherLowsOnClock := Or.inl (gt_of (List.mem_of_getElem? (i := 544) (by decide +kernel)) rfl)
theorem ml_X7_216 : jml RX7 216 yX7_turnOfTime := Or.inl (gt_of (List.mem_of_getElem? (i := 548) (by decide +kernel)) rfl)
theorem ml_X7_294 : jml RX7 294 yJ9_floorDiv_7cf53 := Or.inl (gt_of (List.mem_of_getElem? (i := 551) (by decide +kernel)) rfl)
theorem ml_L_116 : jml RL 116 yX7_late := Or.inl (gt_of (List.mem_of_getElem? (i := 554) (by decide +kernel)) rfl)
theorem ml_X7_219 : jml RX7 219 yX7_lateOfTime := Or.inl (gt_of (List.mem_of_getElem? (i := 558) (by decide +kernel)) rfl)
theorem ml_L_120 : jml RL 120 yX7_bent := Or.inl (gt_of (List.mem_of_getElem? (i := 561) (by decide +kernel)) rfl)
theorem ml_L_124 : jml RL 124 yX7_rule := Or.inl (gt_of (List.mem_of_getElem? (i := 565) (by decide +kernel)) rfl)
theorem ml_X7_225 : jml RX7 225 yX5_init := Or.inr ⟨"ChangingStars", nt_of (List.mem_of_getElem? (i := 570) (by decide +kernel)) rfl⟩
theorem wo_X5_1 : Cond.methodLink RX5 1 Lib.objectInit ∈ gt := gt_of (List.mem_of_getElem? (i := 573) (by decide +kernel)) rfl
theorem ml_L_128 : jml RL 128 yX7_classOf := Or.inl (gt_of (List.mem_of_getElem? (i := 588) (by decide +kernel)) rfl)
theorem ml_X7_228 : jml RX7 228 yX7_classOfCurve := Or.inl (gt_of (List.mem_of_getElem? (i := 592) (by decide +kernel)) rfl)
theorem ml_X7_287 : jml RX7 287 yX5_fits := Or.inr ⟨"ChangingStars", nt_of (List.mem_of_getElem? (i := 596) (by decide +kernel)) rfl⟩
theorem ml_L_132 : jml RL 132 yX7_watch := Or.inl (gt_of (List.mem_of_getElem? (i := 600) (by decide +kernel)) rfl)
theorem ml_L_136 : jml RL 136 yX7_alarms := Or.inl (gt_of (List.mem_of_getElem? (i := 604) (by decide +kernel)) rfl)
theorem ml_L_140 : jml RL 140 yX7_asked := Or.inl (gt_of (List.mem_of_getElem? (i := 608) (by decide +kernel)) rfl)
theorem ml_L_145 : jml RL 145 yX7_count := Or.inl (gt_of (List.mem_of_getElem? (i := 612) (by decide +kernel)) rfl)
theorem ml_X7_248 : jml RX7 248 yX7_countOfRows := Or.inl (gt_of (List.mem_of_getElem? (i := 616) (by decide +kernel)) rfl)
theorem ml_X7_251 : jml RX7 251 yX7_countOfLights := Or.inl (gt_of (List.mem_of_getElem? (i := 620) (by decide +kernel)) rfl)
theorem ml_L_149 : jml RL 149 yX7_finding := Or.inl (gt_of (List.mem_of_getElem? (i := 624) (by decide +kernel)) rfl)
theorem ml_L_153 : jml RL 153 yX7_findings := Or.inl (gt_of (List.mem_of_getElem? (i := 628) (by decide +kernel)) rfl)
theorem ml_L_157 : jml RL 157 yX7_digest := Or.inl (gt_of (List.mem_of_getElem? (i := 632) (by decide +kernel)) rfl)
theorem ml_X7_259 : jml RX7 259 yX6_digestOnto := Or.inr ⟨"ChangingStars", nt_of (List.mem_of_getElem? (i := 637) (by decide +kernel)) rfl⟩
theorem ml_L_12 : jml RL 12 yX8_init := Or.inl (gt_of (List.mem_of_getElem? (i := 645) (by decide +kernel)) rfl)
theorem wo_X8_1 : Cond.methodLink RX8 1 Lib.objectInit ∈ gt := gt_of (List.mem_of_getElem? (i := 648) (by decide +kernel)) rfl
theorem ml_L_17 : jml RL 17 yX8_star := Or.inl (gt_of (List.mem_of_getElem? (i := 729) (by decide +kernel)) rfl)
theorem ml_X8_76 : jml RX8 76 yX8_in := Or.inl (gt_of (List.mem_of_getElem? (i := 733) (by decide +kernel)) rfl)
theorem ml_L_22 : jml RL 22 yX8_is := Or.inl (gt_of (List.mem_of_getElem? (i := 736) (by decide +kernel)) rfl)
theorem ml_X8_80 : jml RX8 80 yX8_isStar := Or.inl (gt_of (List.mem_of_getElem? (i := 740) (by decide +kernel)) rfl)
theorem ml_X8_84 : jml RX8 84 yX8_fits := Or.inl (gt_of (List.mem_of_getElem? (i := 744) (by decide +kernel)) rfl)
theorem ml_L_26 : jml RL 26 yX8_mark := Or.inl (gt_of (List.mem_of_getElem? (i := 748) (by decide +kernel)) rfl)
theorem ml_X8_95 : jml RX8 95 yX8_meets := Or.inl (gt_of (List.mem_of_getElem? (i := 752) (by decide +kernel)) rfl)
theorem ml_X8_99 : jml RX8 99 yX8_many := Or.inl (gt_of (List.mem_of_getElem? (i := 756) (by decide +kernel)) rfl)
theorem ml_X8_88 : jml RX8 88 yX8_has := Or.inl (gt_of (List.mem_of_getElem? (i := 760) (by decide +kernel)) rfl)
theorem ml_X8_102 : jml RX8 102 yX8_swing := Or.inl (gt_of (List.mem_of_getElem? (i := 764) (by decide +kernel)) rfl)
theorem ml_X8_91 : jml RX8 91 yX8_lightOf := Or.inl (gt_of (List.mem_of_getElem? (i := 768) (by decide +kernel)) rfl)
theorem ml_X8_105 : jml RX8 105 yX8_setLows := Or.inl (gt_of (List.mem_of_getElem? (i := 772) (by decide +kernel)) rfl)
theorem ml_X8_123 : jml RX8 123 yX8_middle := Or.inl (gt_of (List.mem_of_getElem? (i := 776) (by decide +kernel)) rfl)
theorem ml_X8_120 : jml RX8 120 yX8_sort := Or.inl (gt_of (List.mem_of_getElem? (i := 780) (by decide +kernel)) rfl)
theorem ml_L_30 : jml RL 30 yX8_row := Or.inl (gt_of (List.mem_of_getElem? (i := 784) (by decide +kernel)) rfl)
theorem ml_L_35 : jml RL 35 yX8_lay := Or.inl (gt_of (List.mem_of_getElem? (i := 788) (by decide +kernel)) rfl)
theorem ml_X8_108 : jml RX8 108 yX8_looked := Or.inl (gt_of (List.mem_of_getElem? (i := 792) (by decide +kernel)) rfl)
theorem ml_X8_111 : jml RX8 111 yX8_isNight := Or.inl (gt_of (List.mem_of_getElem? (i := 796) (by decide +kernel)) rfl)
theorem ml_L_39 : jml RL 39 yX8_at := Or.inl (gt_of (List.mem_of_getElem? (i := 799) (by decide +kernel)) rfl)
theorem ml_L_43 : jml RL 43 yX8_light := Or.inl (gt_of (List.mem_of_getElem? (i := 803) (by decide +kernel)) rfl)
theorem ml_X8_114 : jml RX8 114 yX8_tell := Or.inl (gt_of (List.mem_of_getElem? (i := 807) (by decide +kernel)) rfl)
theorem ml_L_47 : jml RL 47 yX8_tear := Or.inl (gt_of (List.mem_of_getElem? (i := 811) (by decide +kernel)) rfl)
theorem ml_L_52 : jml RL 52 yX8_copy := Or.inl (gt_of (List.mem_of_getElem? (i := 815) (by decide +kernel)) rfl)
theorem ml_L_56 : jml RL 56 yX8_foot := Or.inl (gt_of (List.mem_of_getElem? (i := 820) (by decide +kernel)) rfl)
theorem ml_L_60 : jml RL 60 yX8_footing := Or.inl (gt_of (List.mem_of_getElem? (i := 824) (by decide +kernel)) rfl)
theorem ml_L_65 : jml RL 65 yX8_level := Or.inl (gt_of (List.mem_of_getElem? (i := 828) (by decide +kernel)) rfl)
theorem ml_L_69 : jml RL 69 yX8_levelOf := Or.inl (gt_of (List.mem_of_getElem? (i := 832) (by decide +kernel)) rfl)
theorem ml_L_73 : jml RL 73 yX8_mean := Or.inl (gt_of (List.mem_of_getElem? (i := 836) (by decide +kernel)) rfl)
theorem ml_L_77 : jml RL 77 yX8_phase := Or.inl (gt_of (List.mem_of_getElem? (i := 840) (by decide +kernel)) rfl)
theorem ml_X8_127 : jml RX8 127 yX8_isPeriod := Or.inl (gt_of (List.mem_of_getElem? (i := 844) (by decide +kernel)) rfl)
theorem ml_X8_130 : jml RX8 130 yX8_isPart := Or.inl (gt_of (List.mem_of_getElem? (i := 847) (by decide +kernel)) rfl)
theorem ml_L_81 : jml RL 81 yX8_string := Or.inl (gt_of (List.mem_of_getElem? (i := 850) (by decide +kernel)) rfl)
theorem ml_X8_133 : jml RX8 133 yX8_stringOf := Or.inl (gt_of (List.mem_of_getElem? (i := 854) (by decide +kernel)) rfl)
theorem ml_L_86 : jml RL 86 yX8_period := Or.inl (gt_of (List.mem_of_getElem? (i := 858) (by decide +kernel)) rfl)
theorem ml_X8_137 : jml RX8 137 yX8_bestOf := Or.inl (gt_of (List.mem_of_getElem? (i := 862) (by decide +kernel)) rfl)
theorem ml_L_90 : jml RL 90 yX8_asWell := Or.inl (gt_of (List.mem_of_getElem? (i := 866) (by decide +kernel)) rfl)
theorem ml_L_94 : jml RL 94 yX8_depth := Or.inl (gt_of (List.mem_of_getElem? (i := 871) (by decide +kernel)) rfl)
theorem ml_X8_149 : jml RX8 149 yX8_dips := Or.inl (gt_of (List.mem_of_getElem? (i := 875) (by decide +kernel)) rfl)
theorem ml_L_98 : jml RL 98 yX8_dip := Or.inl (gt_of (List.mem_of_getElem? (i := 879) (by decide +kernel)) rfl)
theorem ml_L_102 : jml RL 102 yX8_dipOf := Or.inl (gt_of (List.mem_of_getElem? (i := 883) (by decide +kernel)) rfl)
theorem ml_L_106 : jml RL 106 yX8_lows := Or.inl (gt_of (List.mem_of_getElem? (i := 887) (by decide +kernel)) rfl)
theorem ml_X8_153 : jml RX8 153 yX8_lowsOf := Or.inl (gt_of (List.mem_of_getElem? (i := 891) (by decide +kernel)) rfl)
theorem ml_L_110 : jml RL 110 yX8_low := Or.inl (gt_of (List.mem_of_getElem? (i := 895) (by decide +kernel)) rfl)
theorem ml_L_115 : jml RL 115 yX8_turn := Or.inl (gt_of (List.mem_of_getElem? (i := 899) (by decide +kernel)) rfl)
theorem ml_X8_166 : jml RX8 166 yX8_isClock := Or.inl (gt_of (List.mem_of_getElem? (i := 903) (by decide +kernel)) rfl)
theorem ml_X8_162 : jml RX8 162 yX8_turnOf := Or.inl (gt_of (List.mem_of_getElem? (i := 906) (by decide +kernel)) rfl)
theorem ml_L_119 : jml RL 119 yX8_late := Or.inl (gt_of (List.mem_of_getElem? (i := 913) (by decide +kernel)) rfl)
theorem ml_X8_169 : jml RX8 169 yX8_lateOf := Or.inl (gt_of (List.mem_of_getElem? (i := 917) (by decide +kernel)) rfl)
theorem ml_L_123 : jml RL 123 yX8_bent := Or.inl (gt_of (List.mem_of_getElem? (i := 921) (by decide +kernel)) rfl)
theorem ml_L_127 : jml RL 127 yX8_rule := Or.inl (gt_of (List.mem_of_getElem? (i := 925) (by decide +kernel)) rfl)
theorem ml_L_131 : jml RL 131 yX8_classOf := Or.inl (gt_of (List.mem_of_getElem? (i := 929) (by decide +kernel)) rfl)
theorem ml_X8_178 : jml RX8 178 yX8_classIs := Or.inl (gt_of (List.mem_of_getElem? (i := 933) (by decide +kernel)) rfl)
theorem ml_X8_175 : jml RX8 175 yX8_worth := Or.inl (gt_of (List.mem_of_getElem? (i := 937) (by decide +kernel)) rfl)
theorem ml_L_135 : jml RL 135 yX8_watch := Or.inl (gt_of (List.mem_of_getElem? (i := 941) (by decide +kernel)) rfl)
theorem ml_L_139 : jml RL 139 yX8_alarms := Or.inl (gt_of (List.mem_of_getElem? (i := 945) (by decide +kernel)) rfl)
theorem ml_L_144 : jml RL 144 yX8_asked := Or.inl (gt_of (List.mem_of_getElem? (i := 949) (by decide +kernel)) rfl)
theorem ml_L_148 : jml RL 148 yX8_count := Or.inl (gt_of (List.mem_of_getElem? (i := 953) (by decide +kernel)) rfl)
theorem ml_L_152 : jml RL 152 yX8_finding := Or.inl (gt_of (List.mem_of_getElem? (i := 957) (by decide +kernel)) rfl)
theorem ml_L_156 : jml RL 156 yX8_findings := Or.inl (gt_of (List.mem_of_getElem? (i := 961) (by decide +kernel)) rfl)
theorem ml_L_160 : jml RL 160 yX8_digest := Or.inl (gt_of (List.mem_of_getElem? (i := 965) (by decide +kernel)) rfl)
theorem ck_L_7 : Cond.classLink RL 7 RX7 ∈ gt := gt_of (List.mem_of_getElem? (i := 74) (by decide +kernel)) rfl
theorem wn_X7 : Cond.instantiable RX7 17 ∈ gt := gt_of (List.mem_of_getElem? (i := 75) (by decide +kernel)) rfl
theorem ck_X7_9 : Cond.classLink RX7 9 RX6 ∈ gt := gt_of (List.mem_of_getElem? (i := 82) (by decide +kernel)) rfl
theorem ck_X7_15 : Cond.classLink RX7 15 RX5 ∈ gt := gt_of (List.mem_of_getElem? (i := 84) (by decide +kernel)) rfl
theorem ck_X7_25 : Cond.classLink RX7 25 RX1 ∈ gt := gt_of (List.mem_of_getElem? (i := 86) (by decide +kernel)) rfl
theorem wn_X1 : Cond.instantiable RX1 3 ∈ gt := gt_of (List.mem_of_getElem? (i := 87) (by decide +kernel)) rfl
theorem wa_int : Cond.arrayClass .int ∈ gt := gt_of (List.mem_of_getElem? (i := 114) (by decide +kernel)) rfl
theorem ck_X7_32 : Cond.classLink RX7 32 RX0 ∈ gt := gt_of (List.mem_of_getElem? (i := 115) (by decide +kernel)) rfl
theorem wn_X0 : Cond.instantiable RX0 2 ∈ gt := gt_of (List.mem_of_getElem? (i := 116) (by decide +kernel)) rfl
theorem ck_X7_39 : Cond.classLink RX7 39 RX3 ∈ gt := gt_of (List.mem_of_getElem? (i := 128) (by decide +kernel)) rfl
theorem wn_X3 : Cond.instantiable RX3 3 ∈ gt := gt_of (List.mem_of_getElem? (i := 129) (by decide +kernel)) rfl
theorem ck_X7_46 : Cond.classLink RX7 46 RX4 ∈ gt := gt_of (List.mem_of_getElem? (i := 145) (by decide +kernel)) rfl
theorem wn_X4 : Cond.instantiable RX4 2 ∈ gt := gt_of (List.mem_of_getElem? (i := 146) (by decide +kernel)) rfl
theorem ck_X7_53 : Cond.classLink RX7 53 RX2 ∈ gt := gt_of (List.mem_of_getElem? (i := 160) (by decide +kernel)) rfl
theorem wn_X2 : Cond.instantiable RX2 9 ∈ gt := gt_of (List.mem_of_getElem? (i := 161) (by decide +kernel)) rfl
theorem wn_X6 : Cond.instantiable RX6 4 ∈ gt := gt_of (List.mem_of_getElem? (i := 256) (by decide +kernel)) rfl
theorem kl_X7_174 : Cond.constantLong RX7 174 100 ∈ gt := gt_of (List.mem_of_getElem? (i := 478) (by decide +kernel)) rfl
theorem wn_X5 : Cond.instantiable RX5 4 ∈ gt := gt_of (List.mem_of_getElem? (i := 569) (by decide +kernel)) rfl
theorem kl_X7_257 : Cond.constantLong RX7 257 17 ∈ gt := gt_of (List.mem_of_getElem? (i := 636) (by decide +kernel)) rfl
theorem kl_X6_32 : Cond.constantLong RX6 32 31 ∈ gt := gt_of (List.mem_of_getElem? (i := 641) (by decide +kernel)) rfl
theorem kl_X7_263 : Cond.constantLong RX7 263 31 ∈ gt := gt_of (List.mem_of_getElem? (i := 642) (by decide +kernel)) rfl
theorem ck_L_10 : Cond.classLink RL 10 RX8 ∈ gt := gt_of (List.mem_of_getElem? (i := 643) (by decide +kernel)) rfl
theorem wn_X8 : Cond.instantiable RX8 26 ∈ gt := gt_of (List.mem_of_getElem? (i := 644) (by decide +kernel)) rfl
theorem wa_boolean : Cond.arrayClass .boolean ∈ gt := gt_of (List.mem_of_getElem? (i := 728) (by decide +kernel)) rfl
theorem kl_X8_118 : Cond.constantLong RX8 118 60 ∈ gt := gt_of (List.mem_of_getElem? (i := 819) (by decide +kernel)) rfl
theorem kl_X8_141 : Cond.constantLong RX8 141 100 ∈ gt := gt_of (List.mem_of_getElem? (i := 870) (by decide +kernel)) rfl
theorem kl_X8_156 : Cond.constantLong RX8 156 2 ∈ gt := gt_of (List.mem_of_getElem? (i := 910) (by decide +kernel)) rfl
theorem kl_X8_158 : Cond.constantLong RX8 158 20000 ∈ gt := gt_of (List.mem_of_getElem? (i := 911) (by decide +kernel)) rfl
theorem kl_X8_160 : Cond.constantLong RX8 160 10000 ∈ gt := gt_of (List.mem_of_getElem? (i := 912) (by decide +kernel)) rfl
theorem kl_X8_187 : Cond.constantLong RX8 187 17 ∈ gt := gt_of (List.mem_of_getElem? (i := 969) (by decide +kernel)) rfl
theorem kl_X8_189 : Cond.constantLong RX8 189 31 ∈ gt := gt_of (List.mem_of_getElem? (i := 970) (by decide +kernel)) rfl
theorem wo_I : Cond.instanceMethod Lib.objectInit ∈ gt := gt_of (List.mem_of_getElem? (i := 80) (by decide +kernel)) rfl
theorem wo_C : Cond.code Lib.objectInit ⟨#[0xb1]⟩ 1 none ∈ gt := gt_of (List.mem_of_getElem? (i := 81) (by decide +kernel)) rfl
theorem wac_l : Cond.methodLink RX7 126 arraycopyName ∈ gt := gt_of (List.mem_of_getElem? (i := 388) (by decide +kernel)) rfl
theorem wac_n : Cond.native arraycopyName ∈ gt := gt_of (List.mem_of_getElem? (i := 390) (by decide +kernel)) rfl
theorem wac_s : Cond.static arraycopyName ∈ gt := gt_of (List.mem_of_getElem? (i := 389) (by decide +kernel)) rfl
theorem wac_i : Cond.initialized "java/lang/System" ∈ gt := gt_of (List.mem_of_getElem? (i := 71) (by decide +kernel)) rfl
