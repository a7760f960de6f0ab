theorem df_X0 : jdf tyX0 [.null, .int 0] 2 := fun j hj => by
  match j, hj with
  | 0, _ => rfl
  | 1, _ => rfl
theorem df_X1 : jdf tyX1 [.null, .null, .int 0] 3 := fun j hj => by
  match j, hj with
  | 0, _ => rfl
  | 1, _ => rfl
  | 2, _ => rfl
theorem df_X2 : jdf tyX2 [.null, .null, .null, .null, .int 0, .int 0, .int 0, .int 0, .int 0] 9 := fun j hj => by
  match j, hj with
  | 0, _ => rfl
  | 1, _ => rfl
  | 2, _ => rfl
  | 3, _ => rfl
  | 4, _ => rfl
  | 5, _ => rfl
  | 6, _ => rfl
  | 7, _ => rfl
  | 8, _ => rfl
theorem df_X3 : jdf tyX3 [.null, .null, .null] 3 := fun j hj => by
  match j, hj with
  | 0, _ => rfl
  | 1, _ => rfl
  | 2, _ => rfl
theorem df_X4 : jdf tyX4 [.null, .int 0] 2 := fun j hj => by
  match j, hj with
  | 0, _ => rfl
  | 1, _ => rfl
theorem df_X5 : jdf tyX5 [.int 0, .int 0, .int 0, .int 0] 4 := fun j hj => by
  match j, hj with
  | 0, _ => rfl
  | 1, _ => rfl
  | 2, _ => rfl
  | 3, _ => rfl
theorem df_X6 : jdf tyX6 [.int 0, .null, .int 0, .int 0] 4 := fun j hj => by
  match j, hj with
  | 0, _ => rfl
  | 1, _ => rfl
  | 2, _ => rfl
  | 3, _ => rfl
theorem df_X7 : jdf tyX7 [.null, .int 0, .null, .int 0, .null, .null, .null, .null, .null, .null, .null, .null, .long 0, .int 0, .int 0, .int 0, .null] 17 := fun j hj => by
  match j, hj with
  | 0, _ => rfl
  | 1, _ => rfl
  | 2, _ => rfl
  | 3, _ => rfl
  | 4, _ => rfl
  | 5, _ => rfl
  | 6, _ => rfl
  | 7, _ => rfl
  | 8, _ => rfl
  | 9, _ => rfl
  | 10, _ => rfl
  | 11, _ => rfl
  | 12, _ => rfl
  | 13, _ => rfl
  | 14, _ => rfl
  | 15, _ => rfl
  | 16, _ => rfl
  | q + 17, h => exact absurd h (by omega)
theorem df_X8 : jdf tyX8 [.int 0, .null, .long 0, .int 0, .null, .null, .null, .null, .null, .null, .null, .null, .int 0, .long 0, .int 0, .int 0, .int 0, .null, .int 0, .null, .null, .null, .null, .null, .int 0, .int 0] 26 := fun j hj => by
  match j, hj with
  | 0, _ => rfl
  | 1, _ => rfl
  | 2, _ => rfl
  | 3, _ => rfl
  | 4, _ => rfl
  | 5, _ => rfl
  | 6, _ => rfl
  | 7, _ => rfl
  | 8, _ => rfl
  | 9, _ => rfl
  | 10, _ => rfl
  | 11, _ => rfl
  | 12, _ => rfl
  | 13, _ => rfl
  | 14, _ => rfl
  | 15, _ => rfl
  | 16, _ => rfl
  | 17, _ => rfl
  | 18, _ => rfl
  | 19, _ => rfl
  | 20, _ => rfl
  | 21, _ => rfl
  | 22, _ => rfl
  | 23, _ => rfl
  | 24, _ => rfl
  | 25, _ => rfl
  | q + 26, h => exact absurd h (by omega)
set_option maxHeartbeats 4000000 in
set_option maxRecDepth 100000 in
theorem c_X0_init (l : Launch) (G : jG) (r : va_W) {o : Nat}  : Mt l G yX0_init mX0_init 1 20 1 60 [.ref o] ((o, .inr (0, [.null, .int (0 : Int32)])) :: r) (fun v w => ∃ q0 : Nat, v = none ∧ w = (q0, .inl (G.2.1.1, 60, .inl (fun _ => 0))) :: (o, .inr (0, [.ref q0, .int (0 : Int32)])) :: r) := by
  refine Mt.of (by decide +kernel) rfl rfl (fun X B => ?_)
  show J G X mX0_init ((o, .inr (0, [.null, .int (0 : Int32)])) :: r) 0 0 0 [(0, .ref o)] []
  refine J.aload_n 0 dX0_init_0 rfl ?_
  refine J.objInit B dX0_init_1 wo_X0_3 wo_I wo_C rfl ?_
  refine J.aload_n 0 dX0_init_4 rfl ?_
  refine J.bipush (60 : Int32) dX0_init_5 rfl ?_
  refine J.newi 60 B dX0_init_7 wa_int rfl rfl rfl rfl (fun q_1 => ?_)
  refine J.putF 1 B fp_X0_9 dX0_init_9 rfl (rfl) (rfl) rfl (ws' := (q_1, .inl (G.2.1.1, 60, .inl (fun _ => 0))) :: (o, .inr (0, [.ref q_1, .int (0 : Int32)])) :: r) rfl ?_
  exact J.vret B dX0_init_12 rfl (⟨q_1, rfl, rfl⟩)
set_option maxHeartbeats 4000000 in
set_option maxRecDepth 100000 in
theorem c_X1_init (l : Launch) (G : jG) (r : va_W) {o : Nat}  : Mt l G yX1_init mX1_init 1 20 2 120 [.ref o] ((o, .inr (1, [.null, .null, .int (0 : Int32)])) :: r) (fun v w => ∃ q0 q1 : Nat, v = none ∧ w = (q1, .inl (G.2.1.1, 60, .inl (fun _ => 0))) :: (q0, .inl (G.2.1.1, 60, .inl (fun _ => 0))) :: (o, .inr (1, [.ref q0, .ref q1, .int (0 : Int32)])) :: r) := by
  refine Mt.of (by decide +kernel) rfl rfl (fun X B => ?_)
  show J G X mX1_init ((o, .inr (1, [.null, .null, .int (0 : Int32)])) :: r) 0 0 0 [(0, .ref o)] []
  refine J.aload_n 0 dX1_init_0 rfl ?_
  refine J.objInit B dX1_init_1 wo_X1_3 wo_I wo_C rfl ?_
  refine J.aload_n 0 dX1_init_4 rfl ?_
  refine J.bipush (60 : Int32) dX1_init_5 rfl ?_
  refine J.newi 60 B dX1_init_7 wa_int rfl rfl rfl rfl (fun q_1 => ?_)
  refine J.putF 1 B fp_X1_9 dX1_init_9 rfl (rfl) (rfl) rfl (ws' := (q_1, .inl (G.2.1.1, 60, .inl (fun _ => 0))) :: (o, .inr (1, [.ref q_1, .null, .int (0 : Int32)])) :: r) rfl ?_
  refine J.aload_n 0 dX1_init_12 rfl ?_
  refine J.bipush (60 : Int32) dX1_init_13 rfl ?_
  refine J.newi 60 B dX1_init_15 wa_int rfl rfl rfl rfl (fun q_2 => ?_)
  refine J.putF 2 B fp_X1_15 dX1_init_17 rfl (rfl) (rfl) rfl (ws' := (q_2, .inl (G.2.1.1, 60, .inl (fun _ => 0))) :: (q_1, .inl (G.2.1.1, 60, .inl (fun _ => 0))) :: (o, .inr (1, [.ref q_1, .ref q_2, .int (0 : Int32)])) :: r) rfl ?_
  exact J.vret B dX1_init_20 rfl (⟨q_1, q_2, rfl, rfl⟩)
set_option maxHeartbeats 4000000 in
set_option maxRecDepth 100000 in
theorem c_X2_init (l : Launch) (G : jG) (r : va_W) {o : Nat}  : Mt l G yX2_init mX2_init 1 20 4 2400 [.ref o] ((o, .inr (2, [.null, .null, .null, .null, .int (0 : Int32), .int (0 : Int32), .int (0 : Int32), .int (0 : Int32), .int (0 : Int32)])) :: r) (fun v w => ∃ q0 q1 q2 q3 : Nat, v = none ∧ w = (q3, .inl (G.2.1.1, 600, .inl (fun _ => 0))) :: (q2, .inl (G.2.1.1, 600, .inl (fun _ => 0))) :: (q1, .inl (G.2.1.1, 600, .inl (fun _ => 0))) :: (q0, .inl (G.2.1.1, 600, .inl (fun _ => 0))) :: (o, .inr (2, [.ref q0, .ref q1, .ref q2, .ref q3, .int (0 : Int32), .int (0 : Int32), .int (-9 : Int32), .int (-9 : Int32), .int (-9 : Int32)])) :: r) := by
  refine Mt.of (by decide +kernel) rfl rfl (fun X B => ?_)
  show J G X mX2_init ((o, .inr (2, [.null, .null, .null, .null, .int (0 : Int32), .int (0 : Int32), .int (0 : Int32), .int (0 : Int32), .int (0 : Int32)])) :: r) 0 0 0 [(0, .ref o)] []
  refine J.aload_n 0 dX2_init_0 rfl ?_
  refine J.objInit B dX2_init_1 wo_X2_3 wo_I wo_C rfl ?_
  refine J.aload_n 0 dX2_init_4 rfl ?_
  refine J.sipush (600 : Int32) dX2_init_5 rfl ?_
  refine J.newi 600 B dX2_init_8 wa_int rfl rfl rfl rfl (fun q_1 => ?_)
  refine J.putF 1 B fp_X2_9 dX2_init_10 rfl (rfl) (rfl) rfl (ws' := (q_1, .inl (G.2.1.1, 600, .inl (fun _ => 0))) :: (o, .inr (2, [.ref q_1, .null, .null, .null, .int (0 : Int32), .int (0 : Int32), .int (0 : Int32), .int (0 : Int32), .int (0 : Int32)])) :: r) rfl ?_
  refine J.aload_n 0 dX2_init_13 rfl ?_
  refine J.sipush (600 : Int32) dX2_init_14 rfl ?_
  refine J.newi 600 B dX2_init_17 wa_int rfl rfl rfl rfl (fun q_2 => ?_)
  refine J.putF 2 B fp_X2_15 dX2_init_19 rfl (rfl) (rfl) rfl (ws' := (q_2, .inl (G.2.1.1, 600, .inl (fun _ => 0))) :: (q_1, .inl (G.2.1.1, 600, .inl (fun _ => 0))) :: (o, .inr (2, [.ref q_1, .ref q_2, .null, .null, .int (0 : Int32), .int (0 : Int32), .int (0 : Int32), .int (0 : Int32), .int (0 : Int32)])) :: r) rfl ?_
  refine J.aload_n 0 dX2_init_22 rfl ?_
  refine J.sipush (600 : Int32) dX2_init_23 rfl ?_
  refine J.newi 600 B dX2_init_26 wa_int rfl rfl rfl rfl (fun q_3 => ?_)
  refine J.putF 3 B fp_X2_18 dX2_init_28 rfl (rfl) (rfl) rfl (ws' := (q_3, .inl (G.2.1.1, 600, .inl (fun _ => 0))) :: (q_2, .inl (G.2.1.1, 600, .inl (fun _ => 0))) :: (q_1, .inl (G.2.1.1, 600, .inl (fun _ => 0))) :: (o, .inr (2, [.ref q_1, .ref q_2, .ref q_3, .null, .int (0 : Int32), .int (0 : Int32), .int (0 : Int32), .int (0 : Int32), .int (0 : Int32)])) :: r) rfl ?_
  refine J.aload_n 0 dX2_init_31 rfl ?_
  refine J.sipush (600 : Int32) dX2_init_32 rfl ?_
  refine J.newi 600 B dX2_init_35 wa_int rfl rfl rfl rfl (fun q_4 => ?_)
  refine J.putF 4 B fp_X2_21 dX2_init_37 rfl (rfl) (rfl) rfl (ws' := (q_4, .inl (G.2.1.1, 600, .inl (fun _ => 0))) :: (q_3, .inl (G.2.1.1, 600, .inl (fun _ => 0))) :: (q_2, .inl (G.2.1.1, 600, .inl (fun _ => 0))) :: (q_1, .inl (G.2.1.1, 600, .inl (fun _ => 0))) :: (o, .inr (2, [.ref q_1, .ref q_2, .ref q_3, .ref q_4, .int (0 : Int32), .int (0 : Int32), .int (0 : Int32), .int (0 : Int32), .int (0 : Int32)])) :: r) rfl ?_
  refine J.aload_n 0 dX2_init_40 rfl ?_
  refine J.bipush (-9 : Int32) dX2_init_41 rfl ?_
  refine J.put 4 fp_X2_24 dX2_init_43 rfl (rfl) (rfl) rfl (ws' := (q_4, .inl (G.2.1.1, 600, .inl (fun _ => 0))) :: (q_3, .inl (G.2.1.1, 600, .inl (fun _ => 0))) :: (q_2, .inl (G.2.1.1, 600, .inl (fun _ => 0))) :: (q_1, .inl (G.2.1.1, 600, .inl (fun _ => 0))) :: (o, .inr (2, [.ref q_1, .ref q_2, .ref q_3, .ref q_4, .int (0 : Int32), .int (0 : Int32), .int (-9 : Int32), .int (0 : Int32), .int (0 : Int32)])) :: r) rfl ?_
  refine J.aload_n 0 dX2_init_46 rfl ?_
  refine J.bipush (-9 : Int32) dX2_init_47 rfl ?_
  refine J.put 4 fp_X2_28 dX2_init_49 rfl (rfl) (rfl) rfl (ws' := (q_4, .inl (G.2.1.1, 600, .inl (fun _ => 0))) :: (q_3, .inl (G.2.1.1, 600, .inl (fun _ => 0))) :: (q_2, .inl (G.2.1.1, 600, .inl (fun _ => 0))) :: (q_1, .inl (G.2.1.1, 600, .inl (fun _ => 0))) :: (o, .inr (2, [.ref q_1, .ref q_2, .ref q_3, .ref q_4, .int (0 : Int32), .int (0 : Int32), .int (-9 : Int32), .int (-9 : Int32), .int (0 : Int32)])) :: r) rfl ?_
  refine J.aload_n 0 dX2_init_52 rfl ?_
  refine J.bipush (-9 : Int32) dX2_init_53 rfl ?_
  refine J.put 4 fp_X2_31 dX2_init_55 rfl (rfl) (rfl) rfl (ws' := (q_4, .inl (G.2.1.1, 600, .inl (fun _ => 0))) :: (q_3, .inl (G.2.1.1, 600, .inl (fun _ => 0))) :: (q_2, .inl (G.2.1.1, 600, .inl (fun _ => 0))) :: (q_1, .inl (G.2.1.1, 600, .inl (fun _ => 0))) :: (o, .inr (2, [.ref q_1, .ref q_2, .ref q_3, .ref q_4, .int (0 : Int32), .int (0 : Int32), .int (-9 : Int32), .int (-9 : Int32), .int (-9 : Int32)])) :: r) rfl ?_
  exact J.vret B dX2_init_58 rfl (⟨q_1, q_2, q_3, q_4, rfl, rfl⟩)
set_option maxHeartbeats 4000000 in
set_option maxRecDepth 100000 in
theorem c_X3_init (l : Launch) (G : jG) (r : va_W) {o : Nat}  : Mt l G yX3_init mX3_init 1 20 3 721 [.ref o] ((o, .inr (3, [.null, .null, .null])) :: r) (fun v w => ∃ q0 q1 q2 : Nat, v = none ∧ w = (q2, .inl (G.2.1.1, 601, .inl (fun _ => 0))) :: (q1, .inl (G.2.1.1, 60, .inl (fun _ => 0))) :: (q0, .inl (G.2.1.1, 60, .inl (fun _ => 0))) :: (o, .inr (3, [.ref q0, .ref q1, .ref q2])) :: r) := by
  refine Mt.of (by decide +kernel) rfl rfl (fun X B => ?_)
  show J G X mX3_init ((o, .inr (3, [.null, .null, .null])) :: r) 0 0 0 [(0, .ref o)] []
  refine J.aload_n 0 dX3_init_0 rfl ?_
  refine J.objInit B dX3_init_1 wo_X3_3 wo_I wo_C rfl ?_
  refine J.aload_n 0 dX3_init_4 rfl ?_
  refine J.bipush (60 : Int32) dX3_init_5 rfl ?_
  refine J.newi 60 B dX3_init_7 wa_int rfl rfl rfl rfl (fun q_1 => ?_)
  refine J.putF 1 B fp_X3_9 dX3_init_9 rfl (rfl) (rfl) rfl (ws' := (q_1, .inl (G.2.1.1, 60, .inl (fun _ => 0))) :: (o, .inr (3, [.ref q_1, .null, .null])) :: r) rfl ?_
  refine J.aload_n 0 dX3_init_12 rfl ?_
  refine J.bipush (60 : Int32) dX3_init_13 rfl ?_
  refine J.newi 60 B dX3_init_15 wa_int rfl rfl rfl rfl (fun q_2 => ?_)
  refine J.putF 2 B fp_X3_15 dX3_init_17 rfl (rfl) (rfl) rfl (ws' := (q_2, .inl (G.2.1.1, 60, .inl (fun _ => 0))) :: (q_1, .inl (G.2.1.1, 60, .inl (fun _ => 0))) :: (o, .inr (3, [.ref q_1, .ref q_2, .null])) :: r) rfl ?_
  refine J.aload_n 0 dX3_init_20 rfl ?_
  refine J.sipush (601 : Int32) dX3_init_21 rfl ?_
  refine J.newi 601 B dX3_init_24 wa_int rfl rfl rfl rfl (fun q_3 => ?_)
  refine J.putF 3 B fp_X3_18 dX3_init_26 rfl (rfl) (rfl) rfl (ws' := (q_3, .inl (G.2.1.1, 601, .inl (fun _ => 0))) :: (q_2, .inl (G.2.1.1, 60, .inl (fun _ => 0))) :: (q_1, .inl (G.2.1.1, 60, .inl (fun _ => 0))) :: (o, .inr (3, [.ref q_1, .ref q_2, .ref q_3])) :: r) rfl ?_
  exact J.vret B dX3_init_29 rfl (⟨q_1, q_2, q_3, rfl, rfl⟩)
set_option maxHeartbeats 4000000 in
set_option maxRecDepth 100000 in
theorem c_X4_init (l : Launch) (G : jG) (r : va_W) {o : Nat}  : Mt l G yX4_init mX4_init 1 20 1 60 [.ref o] ((o, .inr (4, [.null, .int (0 : Int32)])) :: r) (fun v w => ∃ q0 : Nat, v = none ∧ w = (q0, .inl (G.2.1.1, 60, .inl (fun _ => 0))) :: (o, .inr (4, [.ref q0, .int (0 : Int32)])) :: r) := by
  refine Mt.of (by decide +kernel) rfl rfl (fun X B => ?_)
  show J G X mX4_init ((o, .inr (4, [.null, .int (0 : Int32)])) :: r) 0 0 0 [(0, .ref o)] []
  refine J.aload_n 0 dX4_init_0 rfl ?_
  refine J.objInit B dX4_init_1 wo_X4_3 wo_I wo_C rfl ?_
  refine J.aload_n 0 dX4_init_4 rfl ?_
  refine J.bipush (60 : Int32) dX4_init_5 rfl ?_
  refine J.newi 60 B dX4_init_7 wa_int rfl rfl rfl rfl (fun q_1 => ?_)
  refine J.putF 1 B fp_X4_9 dX4_init_9 rfl (rfl) (rfl) rfl (ws' := (q_1, .inl (G.2.1.1, 60, .inl (fun _ => 0))) :: (o, .inr (4, [.ref q_1, .int (0 : Int32)])) :: r) rfl ?_
  exact J.vret B dX4_init_12 rfl (⟨q_1, rfl, rfl⟩)
set_option maxHeartbeats 4000000 in
set_option maxRecDepth 100000 in
theorem c_X5_init (l : Launch) (G : jG) (r : va_W) {o : Nat} {a b c d : Int32} : Mt l G yX5_init mX5_init 1 20 0 0 [.ref o, .int a, .int b, .int c, .int d] ((o, .inr (5, [.int (0 : Int32), .int (0 : Int32), .int (0 : Int32), .int (0 : Int32)])) :: r) (fun v w => v = none ∧ w = (o, .inr (5, [.int a, .int b, .int c, .int d])) :: r) := by
  refine Mt.of (by decide +kernel) rfl rfl (fun X B => ?_)
  show J G X mX5_init ((o, .inr (5, [.int (0 : Int32), .int (0 : Int32), .int (0 : Int32), .int (0 : Int32)])) :: r) 0 0 0 [(0, .ref o), (1, .int a), (2, .int b), (3, .int c), (4, .int d)] []
  refine J.aload_n 0 dX5_init_0 rfl ?_
  refine J.objInit B dX5_init_1 wo_X5_1 wo_I wo_C rfl ?_
  refine J.aload_n 0 dX5_init_4 rfl ?_
  refine J.iload_n 1 dX5_init_5 rfl ?_
  refine J.putF 0 B fp_X5_7 dX5_init_6 rfl (rfl) (rfl) rfl (ws' := (o, .inr (5, [.int a, .int (0 : Int32), .int (0 : Int32), .int (0 : Int32)])) :: r) rfl ?_
  refine J.aload_n 0 dX5_init_9 rfl ?_
  refine J.iload_n 2 dX5_init_10 rfl ?_
  refine J.putF 0 B fp_X5_13 dX5_init_11 rfl (rfl) (rfl) rfl (ws' := (o, .inr (5, [.int a, .int b, .int (0 : Int32), .int (0 : Int32)])) :: r) rfl ?_
  refine J.aload_n 0 dX5_init_14 rfl ?_
  refine J.iload_n 3 dX5_init_15 rfl ?_
  refine J.putF 0 B fp_X5_16 dX5_init_16 rfl (rfl) (rfl) rfl (ws' := (o, .inr (5, [.int a, .int b, .int c, .int (0 : Int32)])) :: r) rfl ?_
  refine J.aload_n 0 dX5_init_19 rfl ?_
  refine J.iload 4 dX5_init_20 rfl ?_
  refine J.putF 0 B fp_X5_19 dX5_init_22 rfl (rfl) (rfl) rfl (ws' := (o, .inr (5, [.int a, .int b, .int c, .int d])) :: r) rfl ?_
  exact J.vret B dX5_init_25 rfl (⟨rfl, rfl⟩)
set_option maxHeartbeats 4000000 in
set_option maxRecDepth 100000 in
theorem c_X6_init (l : Launch) (G : jG) (r : va_W) {o : Nat} {kd : Int32} : Mt l G yX6_init mX6_init 1 23 1 60 [.ref o, .int kd] ((o, .inr (6, [.int (0 : Int32), .null, .int (0 : Int32), .int (0 : Int32)])) :: r) (fun v w => ∃ q0 : Nat, v = none ∧ w = (q0, .inl (G.2.1.1, 60, .inl (flA (fun _ => 0) (-9) 60))) :: (o, .inr (6, [.int kd, .ref q0, .int (0 : Int32), .int (-9 : Int32)])) :: r) := by
  refine Mt.of (by decide +kernel) rfl rfl (fun X B => ?_)
  show J G X mX6_init ((o, .inr (6, [.int (0 : Int32), .null, .int (0 : Int32), .int (0 : Int32)])) :: r) 0 0 0 [(0, .ref o), (1, .int kd)] []
  refine J.aload_n 0 dX6_init_0 rfl ?_
  refine J.objInit B dX6_init_1 wo_X6_3 wo_I wo_C rfl ?_
  refine J.aload_n 0 dX6_init_4 rfl ?_
  refine J.bipush (60 : Int32) dX6_init_5 rfl ?_
  refine J.newi 60 B dX6_init_7 wa_int rfl rfl rfl rfl (fun q_1 => ?_)
  refine J.putF 1 B fp_X6_9 dX6_init_9 rfl (rfl) (rfl) rfl (ws' := (q_1, .inl (G.2.1.1, 60, .inl (fun _ => 0))) :: (o, .inr (6, [.int (0 : Int32), .ref q_1, .int (0 : Int32), .int (0 : Int32)])) :: r) rfl ?_
  refine J.aload_n 0 dX6_init_12 rfl ?_
  refine J.bipush (-9 : Int32) dX6_init_13 rfl ?_
  refine J.put 1 fp_X6_15 dX6_init_15 rfl (rfl) (rfl) rfl (ws' := (q_1, .inl (G.2.1.1, 60, .inl (fun _ => 0))) :: (o, .inr (6, [.int (0 : Int32), .ref q_1, .int (0 : Int32), .int (-9 : Int32)])) :: r) rfl ?_
  refine J.aload_n 0 dX6_init_18 rfl ?_
  refine J.iload_n 1 dX6_init_19 rfl ?_
  refine J.putF 1 B fp_X6_19 dX6_init_20 rfl (rfl) (rfl) rfl (ws' := (q_1, .inl (G.2.1.1, 60, .inl (fun _ => 0))) :: (o, .inr (6, [.int kd, .ref q_1, .int (0 : Int32), .int (-9 : Int32)])) :: r) rfl ?_
  refine J.aload_n 0 dX6_init_23 rfl ?_
  refine J.get 1 fl_X6_9 dX6_init_24 rfl rfl ?_
  refine J.bipush (-9 : Int32) dX6_init_27 rfl ?_
  refine J.callS (st := []) B (c_J7_fill_53178 l G _ (n := 60) (by decide)) ml_X6_22 mf_yJ7_fill_53178 mS_yJ7_fill_53178 dX6_init_29 rfl rfl rfl (fun v_2 w_3 hp_4 => ?_)
  obtain ⟨rfl, rfl⟩ := hp_4
  show J G X mX6_init _ _ _ 32 _ []
  exact J.vret B dX6_init_32 rfl (⟨q_1, rfl, rfl⟩)
set_option maxHeartbeats 4000000 in
set_option maxRecDepth 100000 in
theorem c_X7_init (l : Launch) (G : jG) (r : va_W) {x : Nat} : Mt l G yX7_init mX7_init 2 40 22 3484 [.ref x] ((x, .inr (7, [.null, .int (0 : Int32), .null, .int (0 : Int32), .null, .null, .null, .null, .null, .null, .null, .null, .long (0 : Int64), .int (0 : Int32), .int (0 : Int32), .int (0 : Int32), .null])) :: r) (fun v w => ∃ A : Nat → Nat, v = none ∧ w = (A 10, .inl (G.2.1.1, 6, .inl (fun _ => 0))) :: (A 9, .inl (G.2.1.1, 12, .inl (fun _ => 0))) :: (A 8, .inl (G.2.1.1, 4, .inl (fun _ => 0))) :: (A 21, .inl (G.2.1.1, 600, .inl (fun _ => 0))) :: (A 20, .inl (G.2.1.1, 600, .inl (fun _ => 0))) :: (A 19, .inl (G.2.1.1, 600, .inl (fun _ => 0))) :: (A 18, .inl (G.2.1.1, 600, .inl (fun _ => 0))) :: (A 7, .inr (2, [.ref (A 18), .ref (A 19), .ref (A 20), .ref (A 21), .int (0 : Int32), .int (0 : Int32), .int (-9 : Int32), .int (-9 : Int32), .int (-9 : Int32)])) :: (A 17, .inl (G.2.1.1, 60, .inl (fun _ => 0))) :: (A 6, .inr (4, [.ref (A 17), .int (0 : Int32)])) :: (A 16, .inl (G.2.1.1, 601, .inl (fun _ => 0))) :: (A 15, .inl (G.2.1.1, 60, .inl (fun _ => 0))) :: (A 14, .inl (G.2.1.1, 60, .inl (fun _ => 0))) :: (A 5, .inr (3, [.ref (A 14), .ref (A 15), .ref (A 16)])) :: (A 13, .inl (G.2.1.1, 60, .inl (fun _ => 0))) :: (A 4, .inr (0, [.ref (A 13), .int (0 : Int32)])) :: (A 12, .inl (G.2.1.1, 60, .inl (fun _ => 0))) :: (A 11, .inl (G.2.1.1, 60, .inl (fun _ => 0))) :: (A 3, .inr (1, [.ref (A 11), .ref (A 12), .int (0 : Int32)])) :: (A 2, .inl (G.2.1.1, 60, .inl (fun _ => 0))) :: (A 1, .inl (G.2.1.2.2.2, 10, .inr (.inr (.inr (.inr (fun _ => none)))))) :: (A 0, .inl (G.2.1.2.2.1, 12, .inr (.inr (.inr (.inr (fun _ => none)))))) :: (x, .inr (7, [.ref (A 0), .int (0 : Int32), .ref (A 1), .int (0 : Int32), .ref (A 2), .ref (A 3), .ref (A 4), .ref (A 5), .ref (A 6), .ref (A 7), .ref (A 8), .ref (A 9), .long (0 : Int64), .int (0 : Int32), .int (0 : Int32), .int (0 : Int32), .ref (A 10)])) :: r) := by
  refine Mt.of (by decide +kernel) rfl rfl (fun X B => ?_)
  show J G X mX7_init ((x, .inr (7, [.null, .int (0 : Int32), .null, .int (0 : Int32), .null, .null, .null, .null, .null, .null, .null, .null, .long (0 : Int64), .int (0 : Int32), .int (0 : Int32), .int (0 : Int32), .null])) :: r) 0 0 0 [(0, .ref x)] []
  refine J.aload_n 0 dX7_init_0 rfl ?_
  refine J.objInit B dX7_init_1 wo_X7_1 wo_I wo_C rfl ?_
  refine J.aload_n 0 dX7_init_4 rfl ?_
  refine J.bipush (12 : Int32) dX7_init_5 rfl ?_
  refine J.newq6 12 B dX7_init_7 ck_X7_9 rfl rfl rfl rfl (fun q_1 => ?_)
  refine J.putF 1 B fp_X7_11 dX7_init_10 rfl (rfl) (rfl) rfl (ws' := (q_1, .inl (G.2.1.2.2.1, 12, .inr (.inr (.inr (.inr (fun _ => none)))))) :: (x, .inr (7, [.ref q_1, .int (0 : Int32), .null, .int (0 : Int32), .null, .null, .null, .null, .null, .null, .null, .null, .long (0 : Int64), .int (0 : Int32), .int (0 : Int32), .int (0 : Int32), .null])) :: r) rfl ?_
  refine J.aload_n 0 dX7_init_13 rfl ?_
  refine J.bipush (10 : Int32) dX7_init_14 rfl ?_
  refine J.newq5 10 B dX7_init_16 ck_X7_15 rfl rfl rfl rfl (fun q_2 => ?_)
  refine J.putF 2 B fp_X7_17 dX7_init_19 rfl (rfl) (rfl) rfl (ws' := (q_2, .inl (G.2.1.2.2.2, 10, .inr (.inr (.inr (.inr (fun _ => none)))))) :: (q_1, .inl (G.2.1.2.2.1, 12, .inr (.inr (.inr (.inr (fun _ => none)))))) :: (x, .inr (7, [.ref q_1, .int (0 : Int32), .ref q_2, .int (0 : Int32), .null, .null, .null, .null, .null, .null, .null, .null, .long (0 : Int64), .int (0 : Int32), .int (0 : Int32), .int (0 : Int32), .null])) :: r) rfl ?_
  refine J.aload_n 0 dX7_init_22 rfl ?_
  refine J.bipush (60 : Int32) dX7_init_23 rfl ?_
  refine J.newi 60 B dX7_init_25 wa_int rfl rfl rfl rfl (fun q_3 => ?_)
  refine J.putF 3 B fp_X7_21 dX7_init_27 rfl (rfl) (rfl) rfl (ws' := (q_3, .inl (G.2.1.1, 60, .inl (fun _ => 0))) :: (q_2, .inl (G.2.1.2.2.2, 10, .inr (.inr (.inr (.inr (fun _ => none)))))) :: (q_1, .inl (G.2.1.2.2.1, 12, .inr (.inr (.inr (.inr (fun _ => none)))))) :: (x, .inr (7, [.ref q_1, .int (0 : Int32), .ref q_2, .int (0 : Int32), .ref q_3, .null, .null, .null, .null, .null, .null, .null, .long (0 : Int64), .int (0 : Int32), .int (0 : Int32), .int (0 : Int32), .null])) :: r) rfl ?_
  refine J.aload_n 0 dX7_init_30 rfl ?_
  refine J.new B (fs := [.null, .null, .int (0 : Int32)]) dX7_init_31 clX1 tyX1_ok ck_X7_25 wn_X1 wi_X1 df_X1 rfl rfl (fun q_4 => ?_)
  refine J.dup dX7_init_34 rfl ?_
  refine J.callI (st := [.ref q_4, .ref x]) B (c_X1_init l G _) ml_X7_27 mf_yX1_init mI_yX1_init rfl dX7_init_35 rfl rfl rfl (fun v_5 w_6 hp_7 => ?_)
  obtain ⟨q_4_0, q_4_1, rfl, rfl⟩ := hp_7
  show J G X mX7_init ((q_4_1, .inl (G.2.1.1, 60, .inl (fun _ => 0))) :: (q_4_0, .inl (G.2.1.1, 60, .inl (fun _ => 0))) :: (q_4, .inr (1, [.ref q_4_0, .ref q_4_1, .int (0 : Int32)])) :: (q_3, .inl (G.2.1.1, 60, .inl (fun _ => 0))) :: (q_2, .inl (G.2.1.2.2.2, 10, .inr (.inr (.inr (.inr (fun _ => none)))))) :: (q_1, .inl (G.2.1.2.2.1, 12, .inr (.inr (.inr (.inr (fun _ => none)))))) :: (x, .inr (7, [.ref q_1, .int (0 : Int32), .ref q_2, .int (0 : Int32), .ref q_3, .null, .null, .null, .null, .null, .null, .null, .long (0 : Int64), .int (0 : Int32), .int (0 : Int32), .int (0 : Int32), .null])) :: r) _ _ 38 _ [.ref q_4, .ref x]
  refine J.putF 6 B fp_X7_28 dX7_init_38 rfl (rfl) (rfl) rfl (ws' := (q_4_1, .inl (G.2.1.1, 60, .inl (fun _ => 0))) :: (q_4_0, .inl (G.2.1.1, 60, .inl (fun _ => 0))) :: (q_4, .inr (1, [.ref q_4_0, .ref q_4_1, .int (0 : Int32)])) :: (q_3, .inl (G.2.1.1, 60, .inl (fun _ => 0))) :: (q_2, .inl (G.2.1.2.2.2, 10, .inr (.inr (.inr (.inr (fun _ => none)))))) :: (q_1, .inl (G.2.1.2.2.1, 12, .inr (.inr (.inr (.inr (fun _ => none)))))) :: (x, .inr (7, [.ref q_1, .int (0 : Int32), .ref q_2, .int (0 : Int32), .ref q_3, .ref q_4, .null, .null, .null, .null, .null, .null, .long (0 : Int64), .int (0 : Int32), .int (0 : Int32), .int (0 : Int32), .null])) :: r) rfl ?_
  refine J.aload_n 0 dX7_init_41 rfl ?_
  refine J.new B (fs := [.null, .int (0 : Int32)]) dX7_init_42 clX0 tyX0_ok ck_X7_32 wn_X0 wi_X0 df_X0 rfl rfl (fun q_8 => ?_)
  refine J.dup dX7_init_45 rfl ?_
  refine J.callI (st := [.ref q_8, .ref x]) B (c_X0_init l G _) ml_X7_34 mf_yX0_init mI_yX0_init rfl dX7_init_46 rfl rfl rfl (fun v_9 w_10 hp_11 => ?_)
  obtain ⟨q_8_0, rfl, rfl⟩ := hp_11
  show J G X mX7_init ((q_8_0, .inl (G.2.1.1, 60, .inl (fun _ => 0))) :: (q_8, .inr (0, [.ref q_8_0, .int (0 : Int32)])) :: (q_4_1, .inl (G.2.1.1, 60, .inl (fun _ => 0))) :: (q_4_0, .inl (G.2.1.1, 60, .inl (fun _ => 0))) :: (q_4, .inr (1, [.ref q_4_0, .ref q_4_1, .int (0 : Int32)])) :: (q_3, .inl (G.2.1.1, 60, .inl (fun _ => 0))) :: (q_2, .inl (G.2.1.2.2.2, 10, .inr (.inr (.inr (.inr (fun _ => none)))))) :: (q_1, .inl (G.2.1.2.2.1, 12, .inr (.inr (.inr (.inr (fun _ => none)))))) :: (x, .inr (7, [.ref q_1, .int (0 : Int32), .ref q_2, .int (0 : Int32), .ref q_3, .ref q_4, .null, .null, .null, .null, .null, .null, .long (0 : Int64), .int (0 : Int32), .int (0 : Int32), .int (0 : Int32), .null])) :: r) _ _ 49 _ [.ref q_8, .ref x]
  refine J.putF 8 B fp_X7_35 dX7_init_49 rfl (rfl) (rfl) rfl (ws' := (q_8_0, .inl (G.2.1.1, 60, .inl (fun _ => 0))) :: (q_8, .inr (0, [.ref q_8_0, .int (0 : Int32)])) :: (q_4_1, .inl (G.2.1.1, 60, .inl (fun _ => 0))) :: (q_4_0, .inl (G.2.1.1, 60, .inl (fun _ => 0))) :: (q_4, .inr (1, [.ref q_4_0, .ref q_4_1, .int (0 : Int32)])) :: (q_3, .inl (G.2.1.1, 60, .inl (fun _ => 0))) :: (q_2, .inl (G.2.1.2.2.2, 10, .inr (.inr (.inr (.inr (fun _ => none)))))) :: (q_1, .inl (G.2.1.2.2.1, 12, .inr (.inr (.inr (.inr (fun _ => none)))))) :: (x, .inr (7, [.ref q_1, .int (0 : Int32), .ref q_2, .int (0 : Int32), .ref q_3, .ref q_4, .ref q_8, .null, .null, .null, .null, .null, .long (0 : Int64), .int (0 : Int32), .int (0 : Int32), .int (0 : Int32), .null])) :: r) rfl ?_
  refine J.aload_n 0 dX7_init_52 rfl ?_
  refine J.new B (fs := [.null, .null, .null]) dX7_init_53 clX3 tyX3_ok ck_X7_39 wn_X3 wi_X3 df_X3 rfl rfl (fun q_12 => ?_)
  refine J.dup dX7_init_56 rfl ?_
  refine J.callI (st := [.ref q_12, .ref x]) B (c_X3_init l G _) ml_X7_41 mf_yX3_init mI_yX3_init rfl dX7_init_57 rfl rfl rfl (fun v_13 w_14 hp_15 => ?_)
  obtain ⟨q_12_0, q_12_1, q_12_2, rfl, rfl⟩ := hp_15
  show J G X mX7_init ((q_12_2, .inl (G.2.1.1, 601, .inl (fun _ => 0))) :: (q_12_1, .inl (G.2.1.1, 60, .inl (fun _ => 0))) :: (q_12_0, .inl (G.2.1.1, 60, .inl (fun _ => 0))) :: (q_12, .inr (3, [.ref q_12_0, .ref q_12_1, .ref q_12_2])) :: (q_8_0, .inl (G.2.1.1, 60, .inl (fun _ => 0))) :: (q_8, .inr (0, [.ref q_8_0, .int (0 : Int32)])) :: (q_4_1, .inl (G.2.1.1, 60, .inl (fun _ => 0))) :: (q_4_0, .inl (G.2.1.1, 60, .inl (fun _ => 0))) :: (q_4, .inr (1, [.ref q_4_0, .ref q_4_1, .int (0 : Int32)])) :: (q_3, .inl (G.2.1.1, 60, .inl (fun _ => 0))) :: (q_2, .inl (G.2.1.2.2.2, 10, .inr (.inr (.inr (.inr (fun _ => none)))))) :: (q_1, .inl (G.2.1.2.2.1, 12, .inr (.inr (.inr (.inr (fun _ => none)))))) :: (x, .inr (7, [.ref q_1, .int (0 : Int32), .ref q_2, .int (0 : Int32), .ref q_3, .ref q_4, .ref q_8, .null, .null, .null, .null, .null, .long (0 : Int64), .int (0 : Int32), .int (0 : Int32), .int (0 : Int32), .null])) :: r) _ _ 60 _ [.ref q_12, .ref x]
  refine J.putF 12 B fp_X7_42 dX7_init_60 rfl (rfl) (rfl) rfl (ws' := (q_12_2, .inl (G.2.1.1, 601, .inl (fun _ => 0))) :: (q_12_1, .inl (G.2.1.1, 60, .inl (fun _ => 0))) :: (q_12_0, .inl (G.2.1.1, 60, .inl (fun _ => 0))) :: (q_12, .inr (3, [.ref q_12_0, .ref q_12_1, .ref q_12_2])) :: (q_8_0, .inl (G.2.1.1, 60, .inl (fun _ => 0))) :: (q_8, .inr (0, [.ref q_8_0, .int (0 : Int32)])) :: (q_4_1, .inl (G.2.1.1, 60, .inl (fun _ => 0))) :: (q_4_0, .inl (G.2.1.1, 60, .inl (fun _ => 0))) :: (q_4, .inr (1, [.ref q_4_0, .ref q_4_1, .int (0 : Int32)])) :: (q_3, .inl (G.2.1.1, 60, .inl (fun _ => 0))) :: (q_2, .inl (G.2.1.2.2.2, 10, .inr (.inr (.inr (.inr (fun _ => none)))))) :: (q_1, .inl (G.2.1.2.2.1, 12, .inr (.inr (.inr (.inr (fun _ => none)))))) :: (x, .inr (7, [.ref q_1, .int (0 : Int32), .ref q_2, .int (0 : Int32), .ref q_3, .ref q_4, .ref q_8, .ref q_12, .null, .null, .null, .null, .long (0 : Int64), .int (0 : Int32), .int (0 : Int32), .int (0 : Int32), .null])) :: r) rfl ?_
  refine J.aload_n 0 dX7_init_63 rfl ?_
  refine J.new B (fs := [.null, .int (0 : Int32)]) dX7_init_64 clX4 tyX4_ok ck_X7_46 wn_X4 wi_X4 df_X4 rfl rfl (fun q_16 => ?_)
  refine J.dup dX7_init_67 rfl ?_
  refine J.callI (st := [.ref q_16, .ref x]) B (c_X4_init l G _) ml_X7_48 mf_yX4_init mI_yX4_init rfl dX7_init_68 rfl rfl rfl (fun v_17 w_18 hp_19 => ?_)
  obtain ⟨q_16_0, rfl, rfl⟩ := hp_19
  show J G X mX7_init ((q_16_0, .inl (G.2.1.1, 60, .inl (fun _ => 0))) :: (q_16, .inr (4, [.ref q_16_0, .int (0 : Int32)])) :: (q_12_2, .inl (G.2.1.1, 601, .inl (fun _ => 0))) :: (q_12_1, .inl (G.2.1.1, 60, .inl (fun _ => 0))) :: (q_12_0, .inl (G.2.1.1, 60, .inl (fun _ => 0))) :: (q_12, .inr (3, [.ref q_12_0, .ref q_12_1, .ref q_12_2])) :: (q_8_0, .inl (G.2.1.1, 60, .inl (fun _ => 0))) :: (q_8, .inr (0, [.ref q_8_0, .int (0 : Int32)])) :: (q_4_1, .inl (G.2.1.1, 60, .inl (fun _ => 0))) :: (q_4_0, .inl (G.2.1.1, 60, .inl (fun _ => 0))) :: (q_4, .inr (1, [.ref q_4_0, .ref q_4_1, .int (0 : Int32)])) :: (q_3, .inl (G.2.1.1, 60, .inl (fun _ => 0))) :: (q_2, .inl (G.2.1.2.2.2, 10, .inr (.inr (.inr (.inr (fun _ => none)))))) :: (q_1, .inl (G.2.1.2.2.1, 12, .inr (.inr (.inr (.inr (fun _ => none)))))) :: (x, .inr (7, [.ref q_1, .int (0 : Int32), .ref q_2, .int (0 : Int32), .ref q_3, .ref q_4, .ref q_8, .ref q_12, .null, .null, .null, .null, .long (0 : Int64), .int (0 : Int32), .int (0 : Int32), .int (0 : Int32), .null])) :: r) _ _ 71 _ [.ref q_16, .ref x]
  refine J.putF 14 B fp_X7_49 dX7_init_71 rfl (rfl) (rfl) rfl (ws' := (q_16_0, .inl (G.2.1.1, 60, .inl (fun _ => 0))) :: (q_16, .inr (4, [.ref q_16_0, .int (0 : Int32)])) :: (q_12_2, .inl (G.2.1.1, 601, .inl (fun _ => 0))) :: (q_12_1, .inl (G.2.1.1, 60, .inl (fun _ => 0))) :: (q_12_0, .inl (G.2.1.1, 60, .inl (fun _ => 0))) :: (q_12, .inr (3, [.ref q_12_0, .ref q_12_1, .ref q_12_2])) :: (q_8_0, .inl (G.2.1.1, 60, .inl (fun _ => 0))) :: (q_8, .inr (0, [.ref q_8_0, .int (0 : Int32)])) :: (q_4_1, .inl (G.2.1.1, 60, .inl (fun _ => 0))) :: (q_4_0, .inl (G.2.1.1, 60, .inl (fun _ => 0))) :: (q_4, .inr (1, [.ref q_4_0, .ref q_4_1, .int (0 : Int32)])) :: (q_3, .inl (G.2.1.1, 60, .inl (fun _ => 0))) :: (q_2, .inl (G.2.1.2.2.2, 10, .inr (.inr (.inr (.inr (fun _ => none)))))) :: (q_1, .inl (G.2.1.2.2.1, 12, .inr (.inr (.inr (.inr (fun _ => none)))))) :: (x, .inr (7, [.ref q_1, .int (0 : Int32), .ref q_2, .int (0 : Int32), .ref q_3, .ref q_4, .ref q_8, .ref q_12, .ref q_16, .null, .null, .null, .long (0 : Int64), .int (0 : Int32), .int (0 : Int32), .int (0 : Int32), .null])) :: r) rfl ?_
  refine J.aload_n 0 dX7_init_74 rfl ?_
  refine J.new B (fs := [.null, .null, .null, .null, .int (0 : Int32), .int (0 : Int32), .int (0 : Int32), .int (0 : Int32), .int (0 : Int32)]) dX7_init_75 clX2 tyX2_ok ck_X7_53 wn_X2 wi_X2 df_X2 rfl rfl (fun q_20 => ?_)
  refine J.dup dX7_init_78 rfl ?_
  refine J.callI (st := [.ref q_20, .ref x]) B (c_X2_init l G _) ml_X7_55 mf_yX2_init mI_yX2_init rfl dX7_init_79 rfl rfl rfl (fun v_21 w_22 hp_23 => ?_)
  obtain ⟨q_20_0, q_20_1, q_20_2, q_20_3, rfl, rfl⟩ := hp_23
  show J G X mX7_init ((q_20_3, .inl (G.2.1.1, 600, .inl (fun _ => 0))) :: (q_20_2, .inl (G.2.1.1, 600, .inl (fun _ => 0))) :: (q_20_1, .inl (G.2.1.1, 600, .inl (fun _ => 0))) :: (q_20_0, .inl (G.2.1.1, 600, .inl (fun _ => 0))) :: (q_20, .inr (2, [.ref q_20_0, .ref q_20_1, .ref q_20_2, .ref q_20_3, .int (0 : Int32), .int (0 : Int32), .int (-9 : Int32), .int (-9 : Int32), .int (-9 : Int32)])) :: (q_16_0, .inl (G.2.1.1, 60, .inl (fun _ => 0))) :: (q_16, .inr (4, [.ref q_16_0, .int (0 : Int32)])) :: (q_12_2, .inl (G.2.1.1, 601, .inl (fun _ => 0))) :: (q_12_1, .inl (G.2.1.1, 60, .inl (fun _ => 0))) :: (q_12_0, .inl (G.2.1.1, 60, .inl (fun _ => 0))) :: (q_12, .inr (3, [.ref q_12_0, .ref q_12_1, .ref q_12_2])) :: (q_8_0, .inl (G.2.1.1, 60, .inl (fun _ => 0))) :: (q_8, .inr (0, [.ref q_8_0, .int (0 : Int32)])) :: (q_4_1, .inl (G.2.1.1, 60, .inl (fun _ => 0))) :: (q_4_0, .inl (G.2.1.1, 60, .inl (fun _ => 0))) :: (q_4, .inr (1, [.ref q_4_0, .ref q_4_1, .int (0 : Int32)])) :: (q_3, .inl (G.2.1.1, 60, .inl (fun _ => 0))) :: (q_2, .inl (G.2.1.2.2.2, 10, .inr (.inr (.inr (.inr (fun _ => none)))))) :: (q_1, .inl (G.2.1.2.2.1, 12, .inr (.inr (.inr (.inr (fun _ => none)))))) :: (x, .inr (7, [.ref q_1, .int (0 : Int32), .ref q_2, .int (0 : Int32), .ref q_3, .ref q_4, .ref q_8, .ref q_12, .ref q_16, .null, .null, .null, .long (0 : Int64), .int (0 : Int32), .int (0 : Int32), .int (0 : Int32), .null])) :: r) _ _ 82 _ [.ref q_20, .ref x]
  refine J.putF 19 B fp_X7_56 dX7_init_82 rfl (rfl) (rfl) rfl (ws' := (q_20_3, .inl (G.2.1.1, 600, .inl (fun _ => 0))) :: (q_20_2, .inl (G.2.1.1, 600, .inl (fun _ => 0))) :: (q_20_1, .inl (G.2.1.1, 600, .inl (fun _ => 0))) :: (q_20_0, .inl (G.2.1.1, 600, .inl (fun _ => 0))) :: (q_20, .inr (2, [.ref q_20_0, .ref q_20_1, .ref q_20_2, .ref q_20_3, .int (0 : Int32), .int (0 : Int32), .int (-9 : Int32), .int (-9 : Int32), .int (-9 : Int32)])) :: (q_16_0, .inl (G.2.1.1, 60, .inl (fun _ => 0))) :: (q_16, .inr (4, [.ref q_16_0, .int (0 : Int32)])) :: (q_12_2, .inl (G.2.1.1, 601, .inl (fun _ => 0))) :: (q_12_1, .inl (G.2.1.1, 60, .inl (fun _ => 0))) :: (q_12_0, .inl (G.2.1.1, 60, .inl (fun _ => 0))) :: (q_12, .inr (3, [.ref q_12_0, .ref q_12_1, .ref q_12_2])) :: (q_8_0, .inl (G.2.1.1, 60, .inl (fun _ => 0))) :: (q_8, .inr (0, [.ref q_8_0, .int (0 : Int32)])) :: (q_4_1, .inl (G.2.1.1, 60, .inl (fun _ => 0))) :: (q_4_0, .inl (G.2.1.1, 60, .inl (fun _ => 0))) :: (q_4, .inr (1, [.ref q_4_0, .ref q_4_1, .int (0 : Int32)])) :: (q_3, .inl (G.2.1.1, 60, .inl (fun _ => 0))) :: (q_2, .inl (G.2.1.2.2.2, 10, .inr (.inr (.inr (.inr (fun _ => none)))))) :: (q_1, .inl (G.2.1.2.2.1, 12, .inr (.inr (.inr (.inr (fun _ => none)))))) :: (x, .inr (7, [.ref q_1, .int (0 : Int32), .ref q_2, .int (0 : Int32), .ref q_3, .ref q_4, .ref q_8, .ref q_12, .ref q_16, .ref q_20, .null, .null, .long (0 : Int64), .int (0 : Int32), .int (0 : Int32), .int (0 : Int32), .null])) :: r) rfl ?_
  refine J.aload_n 0 dX7_init_85 rfl ?_
  refine J.iconst (4 : Int32) dX7_init_86 rfl ?_
  refine J.newi 4 B dX7_init_87 wa_int rfl rfl rfl rfl (fun q_24 => ?_)
  refine J.putF 20 B fp_X7_60 dX7_init_89 rfl (rfl) (rfl) rfl (ws' := (q_24, .inl (G.2.1.1, 4, .inl (fun _ => 0))) :: (q_20_3, .inl (G.2.1.1, 600, .inl (fun _ => 0))) :: (q_20_2, .inl (G.2.1.1, 600, .inl (fun _ => 0))) :: (q_20_1, .inl (G.2.1.1, 600, .inl (fun _ => 0))) :: (q_20_0, .inl (G.2.1.1, 600, .inl (fun _ => 0))) :: (q_20, .inr (2, [.ref q_20_0, .ref q_20_1, .ref q_20_2, .ref q_20_3, .int (0 : Int32), .int (0 : Int32), .int (-9 : Int32), .int (-9 : Int32), .int (-9 : Int32)])) :: (q_16_0, .inl (G.2.1.1, 60, .inl (fun _ => 0))) :: (q_16, .inr (4, [.ref q_16_0, .int (0 : Int32)])) :: (q_12_2, .inl (G.2.1.1, 601, .inl (fun _ => 0))) :: (q_12_1, .inl (G.2.1.1, 60, .inl (fun _ => 0))) :: (q_12_0, .inl (G.2.1.1, 60, .inl (fun _ => 0))) :: (q_12, .inr (3, [.ref q_12_0, .ref q_12_1, .ref q_12_2])) :: (q_8_0, .inl (G.2.1.1, 60, .inl (fun _ => 0))) :: (q_8, .inr (0, [.ref q_8_0, .int (0 : Int32)])) :: (q_4_1, .inl (G.2.1.1, 60, .inl (fun _ => 0))) :: (q_4_0, .inl (G.2.1.1, 60, .inl (fun _ => 0))) :: (q_4, .inr (1, [.ref q_4_0, .ref q_4_1, .int (0 : Int32)])) :: (q_3, .inl (G.2.1.1, 60, .inl (fun _ => 0))) :: (q_2, .inl (G.2.1.2.2.2, 10, .inr (.inr (.inr (.inr (fun _ => none)))))) :: (q_1, .inl (G.2.1.2.2.1, 12, .inr (.inr (.inr (.inr (fun _ => none)))))) :: (x, .inr (7, [.ref q_1, .int (0 : Int32), .ref q_2, .int (0 : Int32), .ref q_3, .ref q_4, .ref q_8, .ref q_12, .ref q_16, .ref q_20, .ref q_24, .null, .long (0 : Int64), .int (0 : Int32), .int (0 : Int32), .int (0 : Int32), .null])) :: r) rfl ?_
  refine J.aload_n 0 dX7_init_92 rfl ?_
  refine J.bipush (12 : Int32) dX7_init_93 rfl ?_
  refine J.newi 12 B dX7_init_95 wa_int rfl rfl rfl rfl (fun q_25 => ?_)
  refine J.putF 21 B fp_X7_63 dX7_init_97 rfl (rfl) (rfl) rfl (ws' := (q_25, .inl (G.2.1.1, 12, .inl (fun _ => 0))) :: (q_24, .inl (G.2.1.1, 4, .inl (fun _ => 0))) :: (q_20_3, .inl (G.2.1.1, 600, .inl (fun _ => 0))) :: (q_20_2, .inl (G.2.1.1, 600, .inl (fun _ => 0))) :: (q_20_1, .inl (G.2.1.1, 600, .inl (fun _ => 0))) :: (q_20_0, .inl (G.2.1.1, 600, .inl (fun _ => 0))) :: (q_20, .inr (2, [.ref q_20_0, .ref q_20_1, .ref q_20_2, .ref q_20_3, .int (0 : Int32), .int (0 : Int32), .int (-9 : Int32), .int (-9 : Int32), .int (-9 : Int32)])) :: (q_16_0, .inl (G.2.1.1, 60, .inl (fun _ => 0))) :: (q_16, .inr (4, [.ref q_16_0, .int (0 : Int32)])) :: (q_12_2, .inl (G.2.1.1, 601, .inl (fun _ => 0))) :: (q_12_1, .inl (G.2.1.1, 60, .inl (fun _ => 0))) :: (q_12_0, .inl (G.2.1.1, 60, .inl (fun _ => 0))) :: (q_12, .inr (3, [.ref q_12_0, .ref q_12_1, .ref q_12_2])) :: (q_8_0, .inl (G.2.1.1, 60, .inl (fun _ => 0))) :: (q_8, .inr (0, [.ref q_8_0, .int (0 : Int32)])) :: (q_4_1, .inl (G.2.1.1, 60, .inl (fun _ => 0))) :: (q_4_0, .inl (G.2.1.1, 60, .inl (fun _ => 0))) :: (q_4, .inr (1, [.ref q_4_0, .ref q_4_1, .int (0 : Int32)])) :: (q_3, .inl (G.2.1.1, 60, .inl (fun _ => 0))) :: (q_2, .inl (G.2.1.2.2.2, 10, .inr (.inr (.inr (.inr (fun _ => none)))))) :: (q_1, .inl (G.2.1.2.2.1, 12, .inr (.inr (.inr (.inr (fun _ => none)))))) :: (x, .inr (7, [.ref q_1, .int (0 : Int32), .ref q_2, .int (0 : Int32), .ref q_3, .ref q_4, .ref q_8, .ref q_12, .ref q_16, .ref q_20, .ref q_24, .ref q_25, .long (0 : Int64), .int (0 : Int32), .int (0 : Int32), .int (0 : Int32), .null])) :: r) rfl ?_
  refine J.aload_n 0 dX7_init_100 rfl ?_
  refine J.bipush (6 : Int32) dX7_init_101 rfl ?_
  refine J.newi 6 B dX7_init_103 wa_int rfl rfl rfl rfl (fun q_26 => ?_)
  refine J.putF 22 B fp_X7_66 dX7_init_105 rfl (rfl) (rfl) rfl (ws' := (q_26, .inl (G.2.1.1, 6, .inl (fun _ => 0))) :: (q_25, .inl (G.2.1.1, 12, .inl (fun _ => 0))) :: (q_24, .inl (G.2.1.1, 4, .inl (fun _ => 0))) :: (q_20_3, .inl (G.2.1.1, 600, .inl (fun _ => 0))) :: (q_20_2, .inl (G.2.1.1, 600, .inl (fun _ => 0))) :: (q_20_1, .inl (G.2.1.1, 600, .inl (fun _ => 0))) :: (q_20_0, .inl (G.2.1.1, 600, .inl (fun _ => 0))) :: (q_20, .inr (2, [.ref q_20_0, .ref q_20_1, .ref q_20_2, .ref q_20_3, .int (0 : Int32), .int (0 : Int32), .int (-9 : Int32), .int (-9 : Int32), .int (-9 : Int32)])) :: (q_16_0, .inl (G.2.1.1, 60, .inl (fun _ => 0))) :: (q_16, .inr (4, [.ref q_16_0, .int (0 : Int32)])) :: (q_12_2, .inl (G.2.1.1, 601, .inl (fun _ => 0))) :: (q_12_1, .inl (G.2.1.1, 60, .inl (fun _ => 0))) :: (q_12_0, .inl (G.2.1.1, 60, .inl (fun _ => 0))) :: (q_12, .inr (3, [.ref q_12_0, .ref q_12_1, .ref q_12_2])) :: (q_8_0, .inl (G.2.1.1, 60, .inl (fun _ => 0))) :: (q_8, .inr (0, [.ref q_8_0, .int (0 : Int32)])) :: (q_4_1, .inl (G.2.1.1, 60, .inl (fun _ => 0))) :: (q_4_0, .inl (G.2.1.1, 60, .inl (fun _ => 0))) :: (q_4, .inr (1, [.ref q_4_0, .ref q_4_1, .int (0 : Int32)])) :: (q_3, .inl (G.2.1.1, 60, .inl (fun _ => 0))) :: (q_2, .inl (G.2.1.2.2.2, 10, .inr (.inr (.inr (.inr (fun _ => none)))))) :: (q_1, .inl (G.2.1.2.2.1, 12, .inr (.inr (.inr (.inr (fun _ => none)))))) :: (x, .inr (7, [.ref q_1, .int (0 : Int32), .ref q_2, .int (0 : Int32), .ref q_3, .ref q_4, .ref q_8, .ref q_12, .ref q_16, .ref q_20, .ref q_24, .ref q_25, .long (0 : Int64), .int (0 : Int32), .int (0 : Int32), .int (0 : Int32), .ref q_26])) :: r) rfl ?_
  exact J.vret B dX7_init_108 rfl (⟨fun i => ([q_1, q_2, q_3, q_4, q_8, q_12, q_16, q_20, q_24, q_25, q_26, q_4_0, q_4_1, q_8_0, q_12_0, q_12_1, q_12_2, q_16_0, q_20_0, q_20_1, q_20_2, q_20_3] : List Nat).getD i 0, rfl, rfl⟩)
set_option maxHeartbeats 4000000 in
set_option maxRecDepth 100000 in
theorem X8_init_lp {l : Launch} {G : jG} {X : jX} {r : va_W} {m : Nat} {D : Nat → Nat} (B : jB l G X 1 20 15 1114 (fun v w => ∃ D : Nat → Nat, v = none ∧ w = (D 14, .inl (G.2.1.1, 12, .inl (flA (fun _ => 0) (-9) 12))) :: (D 13, .inl (G.2.1.1, 10, .inl (fun _ => 0))) :: (D 12, .inl (G.2.1.1, 10, .inl (fun _ => 0))) :: (D 11, .inl (G.2.1.1, 10, .inl (fun _ => 0))) :: (D 10, .inl (G.2.1.1, 10, .inl (fun _ => 0))) :: (D 9, .inl (G.2.1.1, 60, .inl (fun _ => 0))) :: (D 8, .inl (G.2.1.1, 60, .inl (fun _ => 0))) :: (D 7, .inl (G.2.1.1, 12, .inl (fun _ => 0))) :: (D 6, .inl (G.2.1.1, 60, .inl (fun _ => 0))) :: (D 5, .inl (G.2.1.1, 60, .inl (fun _ => 0))) :: (D 4, .inl (G.2.1.1, 60, .inl (fun _ => 0))) :: (D 3, .inl (G.2.1.1, 720, .inl (fun _ => 0))) :: (D 2, .inl (G.2.1.2.1, 12, .inl (fun _ => 0))) :: (D 1, .inl (G.2.1.1, 12, .inl (fun _ => 0))) :: (D 0, .inl (G.2.1.1, 6, .inl (fun _ => 0))) :: (m, .inr (8, [.int (0 : Int32), .ref (D 0), .long (0 : Int64), .int (0 : Int32), .ref (D 1), .ref (D 2), .ref (D 3), .ref (D 4), .ref (D 5), .ref (D 6), .ref (D 7), .ref (D 8), .int (0 : Int32), .long (0 : Int64), .int (-9 : Int32), .int (-9 : Int32), .int (-9 : Int32), .ref (D 9), .int (0 : Int32), .ref (D 10), .ref (D 11), .ref (D 12), .ref (D 13), .ref (D 14), .int (0 : Int32), .int (0 : Int32)])) :: r) "<init>") (k : Nat) (hk : k ≤ 12) : J G X mX8_init ((D 14, .inl (G.2.1.1, 12, .inl (flA (fun _ => 0) (-9) k))) :: (D 13, .inl (G.2.1.1, 10, .inl (fun _ => 0))) :: (D 12, .inl (G.2.1.1, 10, .inl (fun _ => 0))) :: (D 11, .inl (G.2.1.1, 10, .inl (fun _ => 0))) :: (D 10, .inl (G.2.1.1, 10, .inl (fun _ => 0))) :: (D 9, .inl (G.2.1.1, 60, .inl (fun _ => 0))) :: (D 8, .inl (G.2.1.1, 60, .inl (fun _ => 0))) :: (D 7, .inl (G.2.1.1, 12, .inl (fun _ => 0))) :: (D 6, .inl (G.2.1.1, 60, .inl (fun _ => 0))) :: (D 5, .inl (G.2.1.1, 60, .inl (fun _ => 0))) :: (D 4, .inl (G.2.1.1, 60, .inl (fun _ => 0))) :: (D 3, .inl (G.2.1.1, 720, .inl (fun _ => 0))) :: (D 2, .inl (G.2.1.2.1, 12, .inl (fun _ => 0))) :: (D 1, .inl (G.2.1.1, 12, .inl (fun _ => 0))) :: (D 0, .inl (G.2.1.1, 6, .inl (fun _ => 0))) :: (m, .inr (8, [.int (0 : Int32), .ref (D 0), .long (0 : Int64), .int (0 : Int32), .ref (D 1), .ref (D 2), .ref (D 3), .ref (D 4), .ref (D 5), .ref (D 6), .ref (D 7), .ref (D 8), .int (0 : Int32), .long (0 : Int64), .int (-9 : Int32), .int (-9 : Int32), .int (-9 : Int32), .ref (D 9), .int (0 : Int32), .ref (D 10), .ref (D 11), .ref (D 12), .ref (D 13), .ref (D 14), .int (0 : Int32), .int (0 : Int32)])) :: r) 15 1114 145 [(0, .ref m), (1, .int (nI k))] [] := by
  refine J.iload_n 1 dX8_init_145 rfl ?_
  refine J.bipush (12 : Int32) dX8_init_146 rfl ?_
  refine J.icmp_ge dX8_init_148 (fun h9 => ?_) (fun h9 => ?_)
  · skip
    have h9 : 12 ≤ k := (nI_leI (a := 12) (b := k) (by omega) (by omega)).mp h9
    have e : k = 12 := by omega
    subst e
    exact J.vret B dX8_init_165 rfl (⟨D, rfl, rfl⟩)
  · skip
    have h9 : ¬ 12 ≤ k := fun z => h9 ((nI_leI (a := 12) (b := k) (by omega) (by omega)).mpr z)
    refine J.aload_n 0 dX8_init_151 rfl ?_
    refine J.get 15 fl_X8_63 dX8_init_152 rfl rfl ?_
    refine J.iload_n 1 dX8_init_155 rfl ?_
    refine J.bipush (-9 : Int32) dX8_init_156 rfl ?_
    refine J.iast 0 (k) dX8_init_158 rfl (rfl) (by omega) (by decide) (ws' := (D 14, .inl (G.2.1.1, 12, .inl (upd (flA (fun _ => 0) (-9) k) k (-9 : Int32)))) :: (D 13, .inl (G.2.1.1, 10, .inl (fun _ => 0))) :: (D 12, .inl (G.2.1.1, 10, .inl (fun _ => 0))) :: (D 11, .inl (G.2.1.1, 10, .inl (fun _ => 0))) :: (D 10, .inl (G.2.1.1, 10, .inl (fun _ => 0))) :: (D 9, .inl (G.2.1.1, 60, .inl (fun _ => 0))) :: (D 8, .inl (G.2.1.1, 60, .inl (fun _ => 0))) :: (D 7, .inl (G.2.1.1, 12, .inl (fun _ => 0))) :: (D 6, .inl (G.2.1.1, 60, .inl (fun _ => 0))) :: (D 5, .inl (G.2.1.1, 60, .inl (fun _ => 0))) :: (D 4, .inl (G.2.1.1, 60, .inl (fun _ => 0))) :: (D 3, .inl (G.2.1.1, 720, .inl (fun _ => 0))) :: (D 2, .inl (G.2.1.2.1, 12, .inl (fun _ => 0))) :: (D 1, .inl (G.2.1.1, 12, .inl (fun _ => 0))) :: (D 0, .inl (G.2.1.1, 6, .inl (fun _ => 0))) :: (m, .inr (8, [.int (0 : Int32), .ref (D 0), .long (0 : Int64), .int (0 : Int32), .ref (D 1), .ref (D 2), .ref (D 3), .ref (D 4), .ref (D 5), .ref (D 6), .ref (D 7), .ref (D 8), .int (0 : Int32), .long (0 : Int64), .int (-9 : Int32), .int (-9 : Int32), .int (-9 : Int32), .ref (D 9), .int (0 : Int32), .ref (D 10), .ref (D 11), .ref (D 12), .ref (D 13), .ref (D 14), .int (0 : Int32), .int (0 : Int32)])) :: r) rfl ?_
    rw [show upd (flA (fun _ => 0) (-9) k) k (-9 : Int32) = flA (fun _ => 0) (-9) (k + 1) from flA_s _ _ _]
    refine J.iinc 1 [1, 0] (lv' := [(0, .ref m), (1, .int (nI (k + 1)))]) dX8_init_159 rfl (jinc1 _) rfl rfl ?_
    refine J.goto dX8_init_162 ?_
    exact X8_init_lp B (k + 1) (by omega)
termination_by 12 - k
decreasing_by all_goals omega
set_option maxHeartbeats 4000000 in
set_option maxRecDepth 100000 in
theorem c_X8_init (l : Launch) (G : jG) (r : va_W) {m : Nat} : Mt l G yX8_init mX8_init 1 20 15 1114 [.ref m] ((m, .inr (8, [.int (0 : Int32), .null, .long (0 : Int64), .int (0 : Int32), .null, .null, .null, .null, .null, .null, .null, .null, .int (0 : Int32), .long (0 : Int64), .int (0 : Int32), .int (0 : Int32), .int (0 : Int32), .null, .int (0 : Int32), .null, .null, .null, .null, .null, .int (0 : Int32), .int (0 : Int32)])) :: r) (fun v w => ∃ D : Nat → Nat, v = none ∧ w = (D 14, .inl (G.2.1.1, 12, .inl (flA (fun _ => 0) (-9) 12))) :: (D 13, .inl (G.2.1.1, 10, .inl (fun _ => 0))) :: (D 12, .inl (G.2.1.1, 10, .inl (fun _ => 0))) :: (D 11, .inl (G.2.1.1, 10, .inl (fun _ => 0))) :: (D 10, .inl (G.2.1.1, 10, .inl (fun _ => 0))) :: (D 9, .inl (G.2.1.1, 60, .inl (fun _ => 0))) :: (D 8, .inl (G.2.1.1, 60, .inl (fun _ => 0))) :: (D 7, .inl (G.2.1.1, 12, .inl (fun _ => 0))) :: (D 6, .inl (G.2.1.1, 60, .inl (fun _ => 0))) :: (D 5, .inl (G.2.1.1, 60, .inl (fun _ => 0))) :: (D 4, .inl (G.2.1.1, 60, .inl (fun _ => 0))) :: (D 3, .inl (G.2.1.1, 720, .inl (fun _ => 0))) :: (D 2, .inl (G.2.1.2.1, 12, .inl (fun _ => 0))) :: (D 1, .inl (G.2.1.1, 12, .inl (fun _ => 0))) :: (D 0, .inl (G.2.1.1, 6, .inl (fun _ => 0))) :: (m, .inr (8, [.int (0 : Int32), .ref (D 0), .long (0 : Int64), .int (0 : Int32), .ref (D 1), .ref (D 2), .ref (D 3), .ref (D 4), .ref (D 5), .ref (D 6), .ref (D 7), .ref (D 8), .int (0 : Int32), .long (0 : Int64), .int (-9 : Int32), .int (-9 : Int32), .int (-9 : Int32), .ref (D 9), .int (0 : Int32), .ref (D 10), .ref (D 11), .ref (D 12), .ref (D 13), .ref (D 14), .int (0 : Int32), .int (0 : Int32)])) :: r) := by
  refine Mt.of (by decide +kernel) rfl rfl (fun X B => ?_)
  show J G X mX8_init ((m, .inr (8, [.int (0 : Int32), .null, .long (0 : Int64), .int (0 : Int32), .null, .null, .null, .null, .null, .null, .null, .null, .int (0 : Int32), .long (0 : Int64), .int (0 : Int32), .int (0 : Int32), .int (0 : Int32), .null, .int (0 : Int32), .null, .null, .null, .null, .null, .int (0 : Int32), .int (0 : Int32)])) :: r) 0 0 0 [(0, .ref m)] []
  refine J.aload_n 0 dX8_init_0 rfl ?_
  refine J.objInit B dX8_init_1 wo_X8_1 wo_I wo_C rfl ?_
  refine J.aload_n 0 dX8_init_4 rfl ?_
  refine J.bipush (6 : Int32) dX8_init_5 rfl ?_
  refine J.newi 6 B dX8_init_7 wa_int rfl rfl rfl rfl (fun q_1 => ?_)
  refine J.putF 1 B fp_X8_7 dX8_init_9 rfl (rfl) (rfl) rfl (ws' := (q_1, .inl (G.2.1.1, 6, .inl (fun _ => 0))) :: (m, .inr (8, [.int (0 : Int32), .ref q_1, .long (0 : Int64), .int (0 : Int32), .null, .null, .null, .null, .null, .null, .null, .null, .int (0 : Int32), .long (0 : Int64), .int (0 : Int32), .int (0 : Int32), .int (0 : Int32), .null, .int (0 : Int32), .null, .null, .null, .null, .null, .int (0 : Int32), .int (0 : Int32)])) :: r) rfl ?_
  refine J.aload_n 0 dX8_init_12 rfl ?_
  refine J.bipush (12 : Int32) dX8_init_13 rfl ?_
  refine J.newi 12 B dX8_init_15 wa_int rfl rfl rfl rfl (fun q_2 => ?_)
  refine J.putF 2 B fp_X8_13 dX8_init_17 rfl (rfl) (rfl) rfl (ws' := (q_2, .inl (G.2.1.1, 12, .inl (fun _ => 0))) :: (q_1, .inl (G.2.1.1, 6, .inl (fun _ => 0))) :: (m, .inr (8, [.int (0 : Int32), .ref q_1, .long (0 : Int64), .int (0 : Int32), .ref q_2, .null, .null, .null, .null, .null, .null, .null, .int (0 : Int32), .long (0 : Int64), .int (0 : Int32), .int (0 : Int32), .int (0 : Int32), .null, .int (0 : Int32), .null, .null, .null, .null, .null, .int (0 : Int32), .int (0 : Int32)])) :: r) rfl ?_
  refine J.aload_n 0 dX8_init_20 rfl ?_
  refine J.bipush (12 : Int32) dX8_init_21 rfl ?_
  refine J.newz 12 B dX8_init_23 wa_boolean rfl rfl rfl rfl (fun q_3 => ?_)
  refine J.putF 3 B fp_X8_16 dX8_init_25 rfl (rfl) (rfl) rfl (ws' := (q_3, .inl (G.2.1.2.1, 12, .inl (fun _ => 0))) :: (q_2, .inl (G.2.1.1, 12, .inl (fun _ => 0))) :: (q_1, .inl (G.2.1.1, 6, .inl (fun _ => 0))) :: (m, .inr (8, [.int (0 : Int32), .ref q_1, .long (0 : Int64), .int (0 : Int32), .ref q_2, .ref q_3, .null, .null, .null, .null, .null, .null, .int (0 : Int32), .long (0 : Int64), .int (0 : Int32), .int (0 : Int32), .int (0 : Int32), .null, .int (0 : Int32), .null, .null, .null, .null, .null, .int (0 : Int32), .int (0 : Int32)])) :: r) rfl ?_
  refine J.aload_n 0 dX8_init_28 rfl ?_
  refine J.sipush (720 : Int32) dX8_init_29 rfl ?_
  refine J.newi 720 B dX8_init_32 wa_int rfl rfl rfl rfl (fun q_4 => ?_)
  refine J.putF 4 B fp_X8_20 dX8_init_34 rfl (rfl) (rfl) rfl (ws' := (q_4, .inl (G.2.1.1, 720, .inl (fun _ => 0))) :: (q_3, .inl (G.2.1.2.1, 12, .inl (fun _ => 0))) :: (q_2, .inl (G.2.1.1, 12, .inl (fun _ => 0))) :: (q_1, .inl (G.2.1.1, 6, .inl (fun _ => 0))) :: (m, .inr (8, [.int (0 : Int32), .ref q_1, .long (0 : Int64), .int (0 : Int32), .ref q_2, .ref q_3, .ref q_4, .null, .null, .null, .null, .null, .int (0 : Int32), .long (0 : Int64), .int (0 : Int32), .int (0 : Int32), .int (0 : Int32), .null, .int (0 : Int32), .null, .null, .null, .null, .null, .int (0 : Int32), .int (0 : Int32)])) :: r) rfl ?_
  refine J.aload_n 0 dX8_init_37 rfl ?_
  refine J.bipush (60 : Int32) dX8_init_38 rfl ?_
  refine J.newi 60 B dX8_init_40 wa_int rfl rfl rfl rfl (fun q_5 => ?_)
  refine J.putF 5 B fp_X8_23 dX8_init_42 rfl (rfl) (rfl) rfl (ws' := (q_5, .inl (G.2.1.1, 60, .inl (fun _ => 0))) :: (q_4, .inl (G.2.1.1, 720, .inl (fun _ => 0))) :: (q_3, .inl (G.2.1.2.1, 12, .inl (fun _ => 0))) :: (q_2, .inl (G.2.1.1, 12, .inl (fun _ => 0))) :: (q_1, .inl (G.2.1.1, 6, .inl (fun _ => 0))) :: (m, .inr (8, [.int (0 : Int32), .ref q_1, .long (0 : Int64), .int (0 : Int32), .ref q_2, .ref q_3, .ref q_4, .ref q_5, .null, .null, .null, .null, .int (0 : Int32), .long (0 : Int64), .int (0 : Int32), .int (0 : Int32), .int (0 : Int32), .null, .int (0 : Int32), .null, .null, .null, .null, .null, .int (0 : Int32), .int (0 : Int32)])) :: r) rfl ?_
  refine J.aload_n 0 dX8_init_45 rfl ?_
  refine J.bipush (60 : Int32) dX8_init_46 rfl ?_
  refine J.newi 60 B dX8_init_48 wa_int rfl rfl rfl rfl (fun q_6 => ?_)
  refine J.putF 6 B fp_X8_26 dX8_init_50 rfl (rfl) (rfl) rfl (ws' := (q_6, .inl (G.2.1.1, 60, .inl (fun _ => 0))) :: (q_5, .inl (G.2.1.1, 60, .inl (fun _ => 0))) :: (q_4, .inl (G.2.1.1, 720, .inl (fun _ => 0))) :: (q_3, .inl (G.2.1.2.1, 12, .inl (fun _ => 0))) :: (q_2, .inl (G.2.1.1, 12, .inl (fun _ => 0))) :: (q_1, .inl (G.2.1.1, 6, .inl (fun _ => 0))) :: (m, .inr (8, [.int (0 : Int32), .ref q_1, .long (0 : Int64), .int (0 : Int32), .ref q_2, .ref q_3, .ref q_4, .ref q_5, .ref q_6, .null, .null, .null, .int (0 : Int32), .long (0 : Int64), .int (0 : Int32), .int (0 : Int32), .int (0 : Int32), .null, .int (0 : Int32), .null, .null, .null, .null, .null, .int (0 : Int32), .int (0 : Int32)])) :: r) rfl ?_
  refine J.aload_n 0 dX8_init_53 rfl ?_
  refine J.bipush (60 : Int32) dX8_init_54 rfl ?_
  refine J.newi 60 B dX8_init_56 wa_int rfl rfl rfl rfl (fun q_7 => ?_)
  refine J.putF 7 B fp_X8_29 dX8_init_58 rfl (rfl) (rfl) rfl (ws' := (q_7, .inl (G.2.1.1, 60, .inl (fun _ => 0))) :: (q_6, .inl (G.2.1.1, 60, .inl (fun _ => 0))) :: (q_5, .inl (G.2.1.1, 60, .inl (fun _ => 0))) :: (q_4, .inl (G.2.1.1, 720, .inl (fun _ => 0))) :: (q_3, .inl (G.2.1.2.1, 12, .inl (fun _ => 0))) :: (q_2, .inl (G.2.1.1, 12, .inl (fun _ => 0))) :: (q_1, .inl (G.2.1.1, 6, .inl (fun _ => 0))) :: (m, .inr (8, [.int (0 : Int32), .ref q_1, .long (0 : Int64), .int (0 : Int32), .ref q_2, .ref q_3, .ref q_4, .ref q_5, .ref q_6, .ref q_7, .null, .null, .int (0 : Int32), .long (0 : Int64), .int (0 : Int32), .int (0 : Int32), .int (0 : Int32), .null, .int (0 : Int32), .null, .null, .null, .null, .null, .int (0 : Int32), .int (0 : Int32)])) :: r) rfl ?_
  refine J.aload_n 0 dX8_init_61 rfl ?_
  refine J.bipush (12 : Int32) dX8_init_62 rfl ?_
  refine J.newi 12 B dX8_init_64 wa_int rfl rfl rfl rfl (fun q_8 => ?_)
  refine J.putF 8 B fp_X8_32 dX8_init_66 rfl (rfl) (rfl) rfl (ws' := (q_8, .inl (G.2.1.1, 12, .inl (fun _ => 0))) :: (q_7, .inl (G.2.1.1, 60, .inl (fun _ => 0))) :: (q_6, .inl (G.2.1.1, 60, .inl (fun _ => 0))) :: (q_5, .inl (G.2.1.1, 60, .inl (fun _ => 0))) :: (q_4, .inl (G.2.1.1, 720, .inl (fun _ => 0))) :: (q_3, .inl (G.2.1.2.1, 12, .inl (fun _ => 0))) :: (q_2, .inl (G.2.1.1, 12, .inl (fun _ => 0))) :: (q_1, .inl (G.2.1.1, 6, .inl (fun _ => 0))) :: (m, .inr (8, [.int (0 : Int32), .ref q_1, .long (0 : Int64), .int (0 : Int32), .ref q_2, .ref q_3, .ref q_4, .ref q_5, .ref q_6, .ref q_7, .ref q_8, .null, .int (0 : Int32), .long (0 : Int64), .int (0 : Int32), .int (0 : Int32), .int (0 : Int32), .null, .int (0 : Int32), .null, .null, .null, .null, .null, .int (0 : Int32), .int (0 : Int32)])) :: r) rfl ?_
  refine J.aload_n 0 dX8_init_69 rfl ?_
  refine J.bipush (60 : Int32) dX8_init_70 rfl ?_
  refine J.newi 60 B dX8_init_72 wa_int rfl rfl rfl rfl (fun q_9 => ?_)
  refine J.putF 9 B fp_X8_35 dX8_init_74 rfl (rfl) (rfl) rfl (ws' := (q_9, .inl (G.2.1.1, 60, .inl (fun _ => 0))) :: (q_8, .inl (G.2.1.1, 12, .inl (fun _ => 0))) :: (q_7, .inl (G.2.1.1, 60, .inl (fun _ => 0))) :: (q_6, .inl (G.2.1.1, 60, .inl (fun _ => 0))) :: (q_5, .inl (G.2.1.1, 60, .inl (fun _ => 0))) :: (q_4, .inl (G.2.1.1, 720, .inl (fun _ => 0))) :: (q_3, .inl (G.2.1.2.1, 12, .inl (fun _ => 0))) :: (q_2, .inl (G.2.1.1, 12, .inl (fun _ => 0))) :: (q_1, .inl (G.2.1.1, 6, .inl (fun _ => 0))) :: (m, .inr (8, [.int (0 : Int32), .ref q_1, .long (0 : Int64), .int (0 : Int32), .ref q_2, .ref q_3, .ref q_4, .ref q_5, .ref q_6, .ref q_7, .ref q_8, .ref q_9, .int (0 : Int32), .long (0 : Int64), .int (0 : Int32), .int (0 : Int32), .int (0 : Int32), .null, .int (0 : Int32), .null, .null, .null, .null, .null, .int (0 : Int32), .int (0 : Int32)])) :: r) rfl ?_
  refine J.aload_n 0 dX8_init_77 rfl ?_
  refine J.bipush (-9 : Int32) dX8_init_78 rfl ?_
  refine J.put 9 fp_X8_38 dX8_init_80 rfl (rfl) (rfl) rfl (ws' := (q_9, .inl (G.2.1.1, 60, .inl (fun _ => 0))) :: (q_8, .inl (G.2.1.1, 12, .inl (fun _ => 0))) :: (q_7, .inl (G.2.1.1, 60, .inl (fun _ => 0))) :: (q_6, .inl (G.2.1.1, 60, .inl (fun _ => 0))) :: (q_5, .inl (G.2.1.1, 60, .inl (fun _ => 0))) :: (q_4, .inl (G.2.1.1, 720, .inl (fun _ => 0))) :: (q_3, .inl (G.2.1.2.1, 12, .inl (fun _ => 0))) :: (q_2, .inl (G.2.1.1, 12, .inl (fun _ => 0))) :: (q_1, .inl (G.2.1.1, 6, .inl (fun _ => 0))) :: (m, .inr (8, [.int (0 : Int32), .ref q_1, .long (0 : Int64), .int (0 : Int32), .ref q_2, .ref q_3, .ref q_4, .ref q_5, .ref q_6, .ref q_7, .ref q_8, .ref q_9, .int (0 : Int32), .long (0 : Int64), .int (-9 : Int32), .int (0 : Int32), .int (0 : Int32), .null, .int (0 : Int32), .null, .null, .null, .null, .null, .int (0 : Int32), .int (0 : Int32)])) :: r) rfl ?_
  refine J.aload_n 0 dX8_init_83 rfl ?_
  refine J.bipush (-9 : Int32) dX8_init_84 rfl ?_
  refine J.put 9 fp_X8_42 dX8_init_86 rfl (rfl) (rfl) rfl (ws' := (q_9, .inl (G.2.1.1, 60, .inl (fun _ => 0))) :: (q_8, .inl (G.2.1.1, 12, .inl (fun _ => 0))) :: (q_7, .inl (G.2.1.1, 60, .inl (fun _ => 0))) :: (q_6, .inl (G.2.1.1, 60, .inl (fun _ => 0))) :: (q_5, .inl (G.2.1.1, 60, .inl (fun _ => 0))) :: (q_4, .inl (G.2.1.1, 720, .inl (fun _ => 0))) :: (q_3, .inl (G.2.1.2.1, 12, .inl (fun _ => 0))) :: (q_2, .inl (G.2.1.1, 12, .inl (fun _ => 0))) :: (q_1, .inl (G.2.1.1, 6, .inl (fun _ => 0))) :: (m, .inr (8, [.int (0 : Int32), .ref q_1, .long (0 : Int64), .int (0 : Int32), .ref q_2, .ref q_3, .ref q_4, .ref q_5, .ref q_6, .ref q_7, .ref q_8, .ref q_9, .int (0 : Int32), .long (0 : Int64), .int (-9 : Int32), .int (-9 : Int32), .int (0 : Int32), .null, .int (0 : Int32), .null, .null, .null, .null, .null, .int (0 : Int32), .int (0 : Int32)])) :: r) rfl ?_
  refine J.aload_n 0 dX8_init_89 rfl ?_
  refine J.bipush (-9 : Int32) dX8_init_90 rfl ?_
  refine J.put 9 fp_X8_45 dX8_init_92 rfl (rfl) (rfl) rfl (ws' := (q_9, .inl (G.2.1.1, 60, .inl (fun _ => 0))) :: (q_8, .inl (G.2.1.1, 12, .inl (fun _ => 0))) :: (q_7, .inl (G.2.1.1, 60, .inl (fun _ => 0))) :: (q_6, .inl (G.2.1.1, 60, .inl (fun _ => 0))) :: (q_5, .inl (G.2.1.1, 60, .inl (fun _ => 0))) :: (q_4, .inl (G.2.1.1, 720, .inl (fun _ => 0))) :: (q_3, .inl (G.2.1.2.1, 12, .inl (fun _ => 0))) :: (q_2, .inl (G.2.1.1, 12, .inl (fun _ => 0))) :: (q_1, .inl (G.2.1.1, 6, .inl (fun _ => 0))) :: (m, .inr (8, [.int (0 : Int32), .ref q_1, .long (0 : Int64), .int (0 : Int32), .ref q_2, .ref q_3, .ref q_4, .ref q_5, .ref q_6, .ref q_7, .ref q_8, .ref q_9, .int (0 : Int32), .long (0 : Int64), .int (-9 : Int32), .int (-9 : Int32), .int (-9 : Int32), .null, .int (0 : Int32), .null, .null, .null, .null, .null, .int (0 : Int32), .int (0 : Int32)])) :: r) rfl ?_
  refine J.aload_n 0 dX8_init_95 rfl ?_
  refine J.bipush (60 : Int32) dX8_init_96 rfl ?_
  refine J.newi 60 B dX8_init_98 wa_int rfl rfl rfl rfl (fun q_10 => ?_)
  refine J.putF 10 B fp_X8_48 dX8_init_100 rfl (rfl) (rfl) rfl (ws' := (q_10, .inl (G.2.1.1, 60, .inl (fun _ => 0))) :: (q_9, .inl (G.2.1.1, 60, .inl (fun _ => 0))) :: (q_8, .inl (G.2.1.1, 12, .inl (fun _ => 0))) :: (q_7, .inl (G.2.1.1, 60, .inl (fun _ => 0))) :: (q_6, .inl (G.2.1.1, 60, .inl (fun _ => 0))) :: (q_5, .inl (G.2.1.1, 60, .inl (fun _ => 0))) :: (q_4, .inl (G.2.1.1, 720, .inl (fun _ => 0))) :: (q_3, .inl (G.2.1.2.1, 12, .inl (fun _ => 0))) :: (q_2, .inl (G.2.1.1, 12, .inl (fun _ => 0))) :: (q_1, .inl (G.2.1.1, 6, .inl (fun _ => 0))) :: (m, .inr (8, [.int (0 : Int32), .ref q_1, .long (0 : Int64), .int (0 : Int32), .ref q_2, .ref q_3, .ref q_4, .ref q_5, .ref q_6, .ref q_7, .ref q_8, .ref q_9, .int (0 : Int32), .long (0 : Int64), .int (-9 : Int32), .int (-9 : Int32), .int (-9 : Int32), .ref q_10, .int (0 : Int32), .null, .null, .null, .null, .null, .int (0 : Int32), .int (0 : Int32)])) :: r) rfl ?_
  refine J.aload_n 0 dX8_init_103 rfl ?_
  refine J.bipush (10 : Int32) dX8_init_104 rfl ?_
  refine J.newi 10 B dX8_init_106 wa_int rfl rfl rfl rfl (fun q_11 => ?_)
  refine J.putF 11 B fp_X8_51 dX8_init_108 rfl (rfl) (rfl) rfl (ws' := (q_11, .inl (G.2.1.1, 10, .inl (fun _ => 0))) :: (q_10, .inl (G.2.1.1, 60, .inl (fun _ => 0))) :: (q_9, .inl (G.2.1.1, 60, .inl (fun _ => 0))) :: (q_8, .inl (G.2.1.1, 12, .inl (fun _ => 0))) :: (q_7, .inl (G.2.1.1, 60, .inl (fun _ => 0))) :: (q_6, .inl (G.2.1.1, 60, .inl (fun _ => 0))) :: (q_5, .inl (G.2.1.1, 60, .inl (fun _ => 0))) :: (q_4, .inl (G.2.1.1, 720, .inl (fun _ => 0))) :: (q_3, .inl (G.2.1.2.1, 12, .inl (fun _ => 0))) :: (q_2, .inl (G.2.1.1, 12, .inl (fun _ => 0))) :: (q_1, .inl (G.2.1.1, 6, .inl (fun _ => 0))) :: (m, .inr (8, [.int (0 : Int32), .ref q_1, .long (0 : Int64), .int (0 : Int32), .ref q_2, .ref q_3, .ref q_4, .ref q_5, .ref q_6, .ref q_7, .ref q_8, .ref q_9, .int (0 : Int32), .long (0 : Int64), .int (-9 : Int32), .int (-9 : Int32), .int (-9 : Int32), .ref q_10, .int (0 : Int32), .ref q_11, .null, .null, .null, .null, .int (0 : Int32), .int (0 : Int32)])) :: r) rfl ?_
  refine J.aload_n 0 dX8_init_111 rfl ?_
  refine J.bipush (10 : Int32) dX8_init_112 rfl ?_
  refine J.newi 10 B dX8_init_114 wa_int rfl rfl rfl rfl (fun q_12 => ?_)
  refine J.putF 12 B fp_X8_54 dX8_init_116 rfl (rfl) (rfl) rfl (ws' := (q_12, .inl (G.2.1.1, 10, .inl (fun _ => 0))) :: (q_11, .inl (G.2.1.1, 10, .inl (fun _ => 0))) :: (q_10, .inl (G.2.1.1, 60, .inl (fun _ => 0))) :: (q_9, .inl (G.2.1.1, 60, .inl (fun _ => 0))) :: (q_8, .inl (G.2.1.1, 12, .inl (fun _ => 0))) :: (q_7, .inl (G.2.1.1, 60, .inl (fun _ => 0))) :: (q_6, .inl (G.2.1.1, 60, .inl (fun _ => 0))) :: (q_5, .inl (G.2.1.1, 60, .inl (fun _ => 0))) :: (q_4, .inl (G.2.1.1, 720, .inl (fun _ => 0))) :: (q_3, .inl (G.2.1.2.1, 12, .inl (fun _ => 0))) :: (q_2, .inl (G.2.1.1, 12, .inl (fun _ => 0))) :: (q_1, .inl (G.2.1.1, 6, .inl (fun _ => 0))) :: (m, .inr (8, [.int (0 : Int32), .ref q_1, .long (0 : Int64), .int (0 : Int32), .ref q_2, .ref q_3, .ref q_4, .ref q_5, .ref q_6, .ref q_7, .ref q_8, .ref q_9, .int (0 : Int32), .long (0 : Int64), .int (-9 : Int32), .int (-9 : Int32), .int (-9 : Int32), .ref q_10, .int (0 : Int32), .ref q_11, .ref q_12, .null, .null, .null, .int (0 : Int32), .int (0 : Int32)])) :: r) rfl ?_
  refine J.aload_n 0 dX8_init_119 rfl ?_
  refine J.bipush (10 : Int32) dX8_init_120 rfl ?_
  refine J.newi 10 B dX8_init_122 wa_int rfl rfl rfl rfl (fun q_13 => ?_)
  refine J.putF 13 B fp_X8_57 dX8_init_124 rfl (rfl) (rfl) rfl (ws' := (q_13, .inl (G.2.1.1, 10, .inl (fun _ => 0))) :: (q_12, .inl (G.2.1.1, 10, .inl (fun _ => 0))) :: (q_11, .inl (G.2.1.1, 10, .inl (fun _ => 0))) :: (q_10, .inl (G.2.1.1, 60, .inl (fun _ => 0))) :: (q_9, .inl (G.2.1.1, 60, .inl (fun _ => 0))) :: (q_8, .inl (G.2.1.1, 12, .inl (fun _ => 0))) :: (q_7, .inl (G.2.1.1, 60, .inl (fun _ => 0))) :: (q_6, .inl (G.2.1.1, 60, .inl (fun _ => 0))) :: (q_5, .inl (G.2.1.1, 60, .inl (fun _ => 0))) :: (q_4, .inl (G.2.1.1, 720, .inl (fun _ => 0))) :: (q_3, .inl (G.2.1.2.1, 12, .inl (fun _ => 0))) :: (q_2, .inl (G.2.1.1, 12, .inl (fun _ => 0))) :: (q_1, .inl (G.2.1.1, 6, .inl (fun _ => 0))) :: (m, .inr (8, [.int (0 : Int32), .ref q_1, .long (0 : Int64), .int (0 : Int32), .ref q_2, .ref q_3, .ref q_4, .ref q_5, .ref q_6, .ref q_7, .ref q_8, .ref q_9, .int (0 : Int32), .long (0 : Int64), .int (-9 : Int32), .int (-9 : Int32), .int (-9 : Int32), .ref q_10, .int (0 : Int32), .ref q_11, .ref q_12, .ref q_13, .null, .null, .int (0 : Int32), .int (0 : Int32)])) :: r) rfl ?_
  refine J.aload_n 0 dX8_init_127 rfl ?_
  refine J.bipush (10 : Int32) dX8_init_128 rfl ?_
  refine J.newi 10 B dX8_init_130 wa_int rfl rfl rfl rfl (fun q_14 => ?_)
  refine J.putF 14 B fp_X8_60 dX8_init_132 rfl (rfl) (rfl) rfl (ws' := (q_14, .inl (G.2.1.1, 10, .inl (fun _ => 0))) :: (q_13, .inl (G.2.1.1, 10, .inl (fun _ => 0))) :: (q_12, .inl (G.2.1.1, 10, .inl (fun _ => 0))) :: (q_11, .inl (G.2.1.1, 10, .inl (fun _ => 0))) :: (q_10, .inl (G.2.1.1, 60, .inl (fun _ => 0))) :: (q_9, .inl (G.2.1.1, 60, .inl (fun _ => 0))) :: (q_8, .inl (G.2.1.1, 12, .inl (fun _ => 0))) :: (q_7, .inl (G.2.1.1, 60, .inl (fun _ => 0))) :: (q_6, .inl (G.2.1.1, 60, .inl (fun _ => 0))) :: (q_5, .inl (G.2.1.1, 60, .inl (fun _ => 0))) :: (q_4, .inl (G.2.1.1, 720, .inl (fun _ => 0))) :: (q_3, .inl (G.2.1.2.1, 12, .inl (fun _ => 0))) :: (q_2, .inl (G.2.1.1, 12, .inl (fun _ => 0))) :: (q_1, .inl (G.2.1.1, 6, .inl (fun _ => 0))) :: (m, .inr (8, [.int (0 : Int32), .ref q_1, .long (0 : Int64), .int (0 : Int32), .ref q_2, .ref q_3, .ref q_4, .ref q_5, .ref q_6, .ref q_7, .ref q_8, .ref q_9, .int (0 : Int32), .long (0 : Int64), .int (-9 : Int32), .int (-9 : Int32), .int (-9 : Int32), .ref q_10, .int (0 : Int32), .ref q_11, .ref q_12, .ref q_13, .ref q_14, .null, .int (0 : Int32), .int (0 : Int32)])) :: r) rfl ?_
  refine J.aload_n 0 dX8_init_135 rfl ?_
  refine J.bipush (12 : Int32) dX8_init_136 rfl ?_
  refine J.newi 12 B dX8_init_138 wa_int rfl rfl rfl rfl (fun q_15 => ?_)
  refine J.putF 15 B fp_X8_63 dX8_init_140 rfl (rfl) (rfl) rfl (ws' := (q_15, .inl (G.2.1.1, 12, .inl (fun _ => 0))) :: (q_14, .inl (G.2.1.1, 10, .inl (fun _ => 0))) :: (q_13, .inl (G.2.1.1, 10, .inl (fun _ => 0))) :: (q_12, .inl (G.2.1.1, 10, .inl (fun _ => 0))) :: (q_11, .inl (G.2.1.1, 10, .inl (fun _ => 0))) :: (q_10, .inl (G.2.1.1, 60, .inl (fun _ => 0))) :: (q_9, .inl (G.2.1.1, 60, .inl (fun _ => 0))) :: (q_8, .inl (G.2.1.1, 12, .inl (fun _ => 0))) :: (q_7, .inl (G.2.1.1, 60, .inl (fun _ => 0))) :: (q_6, .inl (G.2.1.1, 60, .inl (fun _ => 0))) :: (q_5, .inl (G.2.1.1, 60, .inl (fun _ => 0))) :: (q_4, .inl (G.2.1.1, 720, .inl (fun _ => 0))) :: (q_3, .inl (G.2.1.2.1, 12, .inl (fun _ => 0))) :: (q_2, .inl (G.2.1.1, 12, .inl (fun _ => 0))) :: (q_1, .inl (G.2.1.1, 6, .inl (fun _ => 0))) :: (m, .inr (8, [.int (0 : Int32), .ref q_1, .long (0 : Int64), .int (0 : Int32), .ref q_2, .ref q_3, .ref q_4, .ref q_5, .ref q_6, .ref q_7, .ref q_8, .ref q_9, .int (0 : Int32), .long (0 : Int64), .int (-9 : Int32), .int (-9 : Int32), .int (-9 : Int32), .ref q_10, .int (0 : Int32), .ref q_11, .ref q_12, .ref q_13, .ref q_14, .ref q_15, .int (0 : Int32), .int (0 : Int32)])) :: r) rfl ?_
  refine J.iconst (0 : Int32) dX8_init_143 rfl ?_
  refine J.istore_n [1, 0] (lv' := [(0, .ref m), (1, .int (0 : Int32))]) dX8_init_144 rfl rfl ?_
  refine J.world (w2 := (q_15, .inl (G.2.1.1, 12, .inl (flA (fun _ => 0) (-9) 0))) :: (q_14, .inl (G.2.1.1, 10, .inl (fun _ => 0))) :: (q_13, .inl (G.2.1.1, 10, .inl (fun _ => 0))) :: (q_12, .inl (G.2.1.1, 10, .inl (fun _ => 0))) :: (q_11, .inl (G.2.1.1, 10, .inl (fun _ => 0))) :: (q_10, .inl (G.2.1.1, 60, .inl (fun _ => 0))) :: (q_9, .inl (G.2.1.1, 60, .inl (fun _ => 0))) :: (q_8, .inl (G.2.1.1, 12, .inl (fun _ => 0))) :: (q_7, .inl (G.2.1.1, 60, .inl (fun _ => 0))) :: (q_6, .inl (G.2.1.1, 60, .inl (fun _ => 0))) :: (q_5, .inl (G.2.1.1, 60, .inl (fun _ => 0))) :: (q_4, .inl (G.2.1.1, 720, .inl (fun _ => 0))) :: (q_3, .inl (G.2.1.2.1, 12, .inl (fun _ => 0))) :: (q_2, .inl (G.2.1.1, 12, .inl (fun _ => 0))) :: (q_1, .inl (G.2.1.1, 6, .inl (fun _ => 0))) :: (m, .inr (8, [.int (0 : Int32), .ref q_1, .long (0 : Int64), .int (0 : Int32), .ref q_2, .ref q_3, .ref q_4, .ref q_5, .ref q_6, .ref q_7, .ref q_8, .ref q_9, .int (0 : Int32), .long (0 : Int64), .int (-9 : Int32), .int (-9 : Int32), .int (-9 : Int32), .ref q_10, .int (0 : Int32), .ref q_11, .ref q_12, .ref q_13, .ref q_14, .ref q_15, .int (0 : Int32), .int (0 : Int32)])) :: r) (by rw [flA_0]) ?_
  exact X8_init_lp (D := fun i => ([q_1, q_2, q_3, q_4, q_5, q_6, q_7, q_8, q_9, q_10, q_11, q_12, q_13, q_14, q_15] : List Nat).getD i 0) B 0 (by omega)
