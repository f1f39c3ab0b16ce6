/-! constructors -/
set_option maxHeartbeats 4000000 in
set_option maxRecDepth 100000 in
theorem c_X6_init (l : Launch) (D : va_G) (cI cZ cN : ClassId) (h0 : Nat) : CtN l yX6_init cX6_init 1 1 1 200 D (tyG cI cZ cN) h0 (.inr (6, [.null, .int 0])) (fun w => ∃ a : Nat → Nat, a 0 = h0 ∧ w = pTxt cI a zz) := by
  refine CtN.of rfl rfl (Nat.le_of_ble_eq_true rfl) ?_
  intro pg ev sx mx ax bx mt cx ls Qx Ax Sx hin hO hret hW hl
  have hx := Sx.1
  have hb := Sx.2.1
  refine lv_aload_n hx hb dX6_init_0 rfl (lv_at hl 0 rfl) ?_
  refine r_objI Sx mw50 hl.1 (Nat.le_of_ble_eq_true rfl) (Nat.le_of_ble_eq_true rfl) dX6_init_1 ?_
  refine lv_aload_n hx hb dX6_init_4 rfl (lv_at hl 0 rfl) ?_
  refine lv_sipush (v := (200 : Int32)) hx hb dX6_init_5 rfl ?_
  refine r_newI Sx hW (n := 200) (by decide) (Nat.le_of_ble_eq_true rfl) (Nat.le_of_ble_eq_true rfl) dX6_init_8 (fun q1 H hW => ?_)
  have hW : AtC D (tyG cI cZ cN) Ax [(h0, .inr (6, [.null, .int 0])), (q1, .inl (cI, 200, .inl (fun _ => 0)))] sx _ _ := hW
  refine r_putF Sx hin hW 0 rfl rfl bw_wsX60 tyX6_ok nmX6 0 (by decide) mw52 rfl rfl rfl rfl (Nat.le_of_ble_eq_true rfl) dX6_init_10 (ws' := [(h0, .inr (6, [.ref q1, .int 0])), (q1, .inl (cI, 200, .inl (fun _ => 0)))]) rfl (fun H locs hW => ?_)
  refine lv_aload_n hx hb dX6_init_13 rfl (lv_at hl 0 rfl) ?_
  refine lv_iconst (v := (0 : Int32)) hx hb dX6_init_14 rfl ?_
  refine r_put Sx hW 0 rfl rfl bw_wsX60 tyX6_ok nmX6 1 (by decide) mw53 rfl rfl rfl (Nat.le_of_ble_eq_true rfl) dX6_init_15 (ws' := [(h0, .inr (6, [.ref q1, .int 0])), (q1, .inl (cI, 200, .inl (fun _ => 0)))]) rfl (fun H locs hW => ?_)
  refine W.widen (k := 1) (n := 200) (Nat.le_of_ble_eq_true rfl) (Nat.le_of_ble_eq_true rfl) ?_
  exact hret _ _ _ _ _ hW dX6_init_18 ⟨(fun i => if i = 0 then h0 else q1), rfl, rfl⟩

set_option maxHeartbeats 4000000 in
set_option maxRecDepth 100000 in
theorem c_X0_init (l : Launch) (D : va_G) (cI cZ cN : ClassId) (h0 : Nat) : CtN l yX0_init cX0_init 1 1 2 12 D (tyG cI cZ cN) h0 (.inr (0, [.null, .null, .int 0])) (fun w => ∃ a : Nat → Nat, a 0 = h0 ∧ w = pClaims cI a zz) := by
  refine CtN.of rfl rfl (Nat.le_of_ble_eq_true rfl) ?_
  intro pg ev sx mx ax bx mt cx ls Qx Ax Sx hin hO hret hW hl
  have hx := Sx.1
  have hb := Sx.2.1
  refine lv_aload_n hx hb dX0_init_0 rfl (lv_at hl 0 rfl) ?_
  refine r_objI Sx mw94 hl.1 (Nat.le_of_ble_eq_true rfl) (Nat.le_of_ble_eq_true rfl) dX0_init_1 ?_
  refine lv_aload_n hx hb dX0_init_4 rfl (lv_at hl 0 rfl) ?_
  refine lv_bipush (v := (6 : Int32)) hx hb dX0_init_5 rfl ?_
  refine r_newI Sx hW (n := 6) (by decide) (Nat.le_of_ble_eq_true rfl) (Nat.le_of_ble_eq_true rfl) dX0_init_7 (fun q1 H hW => ?_)
  have hW : AtC D (tyG cI cZ cN) Ax [(h0, .inr (0, [.null, .null, .int 0])), (q1, .inl (cI, 6, .inl (fun _ => 0)))] sx _ _ := hW
  refine r_putF Sx hin hW 0 rfl rfl bw_wsX00 tyX0_ok nmX0 0 (by decide) mw95 rfl rfl rfl rfl (Nat.le_of_ble_eq_true rfl) dX0_init_9 (ws' := [(h0, .inr (0, [.ref q1, .null, .int 0])), (q1, .inl (cI, 6, .inl (fun _ => 0)))]) rfl (fun H locs hW => ?_)
  refine lv_aload_n hx hb dX0_init_12 rfl (lv_at hl 0 rfl) ?_
  refine lv_bipush (v := (6 : Int32)) hx hb dX0_init_13 rfl ?_
  refine r_newI Sx hW (n := 6) (by decide) (Nat.le_of_ble_eq_true rfl) (Nat.le_of_ble_eq_true rfl) dX0_init_15 (fun q2 H hW => ?_)
  have hW : AtC D (tyG cI cZ cN) Ax [(h0, .inr (0, [.ref q1, .null, .int 0])), (q1, .inl (cI, 6, .inl (fun _ => 0))), (q2, .inl (cI, 6, .inl (fun _ => 0)))] sx _ _ := hW
  refine r_putF Sx hin hW 0 rfl rfl bw_wsX00 tyX0_ok nmX0 1 (by decide) mw96 rfl rfl rfl rfl (Nat.le_of_ble_eq_true rfl) dX0_init_17 (ws' := [(h0, .inr (0, [.ref q1, .ref q2, .int 0])), (q1, .inl (cI, 6, .inl (fun _ => 0))), (q2, .inl (cI, 6, .inl (fun _ => 0)))]) rfl (fun H locs hW => ?_)
  refine lv_aload_n hx hb dX0_init_20 rfl (lv_at hl 0 rfl) ?_
  refine lv_iconst (v := (0 : Int32)) hx hb dX0_init_21 rfl ?_
  refine r_put Sx hW 0 rfl rfl bw_wsX00 tyX0_ok nmX0 2 (by decide) mw97 rfl rfl rfl (Nat.le_of_ble_eq_true rfl) dX0_init_22 (ws' := [(h0, .inr (0, [.ref q1, .ref q2, .int 0])), (q1, .inl (cI, 6, .inl (fun _ => 0))), (q2, .inl (cI, 6, .inl (fun _ => 0)))]) rfl (fun H locs hW => ?_)
  refine W.widen (k := 2) (n := 12) (Nat.le_of_ble_eq_true rfl) (Nat.le_of_ble_eq_true rfl) ?_
  exact hret _ _ _ _ _ hW dX0_init_25 ⟨(fun i => if i = 0 then h0 else if i = 1 then q1 else q2), rfl, rfl⟩

set_option maxHeartbeats 4000000 in
set_option maxRecDepth 100000 in
theorem c_X5_init (l : Launch) (D : va_G) (cI cZ cN : ClassId) (h0 : Nat) : CtN l yX5_init cX5_init 1 1 2 14 D (tyG cI cZ cN) h0 (.inr (5, [.null, .null, .int 0])) (fun w => ∃ a : Nat → Nat, a 0 = h0 ∧ w = pRen cI a zz) := by
  refine CtN.of rfl rfl (Nat.le_of_ble_eq_true rfl) ?_
  intro pg ev sx mx ax bx mt cx ls Qx Ax Sx hin hO hret hW hl
  have hx := Sx.1
  have hb := Sx.2.1
  refine lv_aload_n hx hb dX5_init_0 rfl (lv_at hl 0 rfl) ?_
  refine r_objI Sx mw100 hl.1 (Nat.le_of_ble_eq_true rfl) (Nat.le_of_ble_eq_true rfl) dX5_init_1 ?_
  refine lv_aload_n hx hb dX5_init_4 rfl (lv_at hl 0 rfl) ?_
  refine lv_bipush (v := (7 : Int32)) hx hb dX5_init_5 rfl ?_
  refine r_newI Sx hW (n := 7) (by decide) (Nat.le_of_ble_eq_true rfl) (Nat.le_of_ble_eq_true rfl) dX5_init_7 (fun q1 H hW => ?_)
  have hW : AtC D (tyG cI cZ cN) Ax [(h0, .inr (5, [.null, .null, .int 0])), (q1, .inl (cI, 7, .inl (fun _ => 0)))] sx _ _ := hW
  refine r_putF Sx hin hW 0 rfl rfl bw_wsX50 tyX5_ok nmX5 0 (by decide) mw101 rfl rfl rfl rfl (Nat.le_of_ble_eq_true rfl) dX5_init_9 (ws' := [(h0, .inr (5, [.ref q1, .null, .int 0])), (q1, .inl (cI, 7, .inl (fun _ => 0)))]) rfl (fun H locs hW => ?_)
  refine lv_aload_n hx hb dX5_init_12 rfl (lv_at hl 0 rfl) ?_
  refine lv_bipush (v := (7 : Int32)) hx hb dX5_init_13 rfl ?_
  refine r_newI Sx hW (n := 7) (by decide) (Nat.le_of_ble_eq_true rfl) (Nat.le_of_ble_eq_true rfl) dX5_init_15 (fun q2 H hW => ?_)
  have hW : AtC D (tyG cI cZ cN) Ax [(h0, .inr (5, [.ref q1, .null, .int 0])), (q1, .inl (cI, 7, .inl (fun _ => 0))), (q2, .inl (cI, 7, .inl (fun _ => 0)))] sx _ _ := hW
  refine r_putF Sx hin hW 0 rfl rfl bw_wsX50 tyX5_ok nmX5 1 (by decide) mw102 rfl rfl rfl rfl (Nat.le_of_ble_eq_true rfl) dX5_init_17 (ws' := [(h0, .inr (5, [.ref q1, .ref q2, .int 0])), (q1, .inl (cI, 7, .inl (fun _ => 0))), (q2, .inl (cI, 7, .inl (fun _ => 0)))]) rfl (fun H locs hW => ?_)
  refine lv_aload_n hx hb dX5_init_20 rfl (lv_at hl 0 rfl) ?_
  refine lv_iconst (v := (0 : Int32)) hx hb dX5_init_21 rfl ?_
  refine r_put Sx hW 0 rfl rfl bw_wsX50 tyX5_ok nmX5 2 (by decide) mw103 rfl rfl rfl (Nat.le_of_ble_eq_true rfl) dX5_init_22 (ws' := [(h0, .inr (5, [.ref q1, .ref q2, .int 0])), (q1, .inl (cI, 7, .inl (fun _ => 0))), (q2, .inl (cI, 7, .inl (fun _ => 0)))]) rfl (fun H locs hW => ?_)
  refine W.widen (k := 2) (n := 14) (Nat.le_of_ble_eq_true rfl) (Nat.le_of_ble_eq_true rfl) ?_
  exact hret _ _ _ _ _ hW dX5_init_25 ⟨(fun i => if i = 0 then h0 else if i = 1 then q1 else q2), rfl, rfl⟩

set_option maxHeartbeats 4000000 in
set_option maxRecDepth 100000 in
theorem c_X7_init (l : Launch) (D : va_G) (cI cZ cN : ClassId) (h0 : Nat) : CtN l yX7_init cX7_init 1 1 2 14 D (tyG cI cZ cN) h0 (.inr (7, [.null, .null, .int 0])) (fun w => ∃ a : Nat → Nat, a 0 = h0 ∧ w = pWed cI a zz) := by
  refine CtN.of rfl rfl (Nat.le_of_ble_eq_true rfl) ?_
  intro pg ev sx mx ax bx mt cx ls Qx Ax Sx hin hO hret hW hl
  have hx := Sx.1
  have hb := Sx.2.1
  refine lv_aload_n hx hb dX7_init_0 rfl (lv_at hl 0 rfl) ?_
  refine r_objI Sx mw106 hl.1 (Nat.le_of_ble_eq_true rfl) (Nat.le_of_ble_eq_true rfl) dX7_init_1 ?_
  refine lv_aload_n hx hb dX7_init_4 rfl (lv_at hl 0 rfl) ?_
  refine lv_bipush (v := (7 : Int32)) hx hb dX7_init_5 rfl ?_
  refine r_newI Sx hW (n := 7) (by decide) (Nat.le_of_ble_eq_true rfl) (Nat.le_of_ble_eq_true rfl) dX7_init_7 (fun q1 H hW => ?_)
  have hW : AtC D (tyG cI cZ cN) Ax [(h0, .inr (7, [.null, .null, .int 0])), (q1, .inl (cI, 7, .inl (fun _ => 0)))] sx _ _ := hW
  refine r_putF Sx hin hW 0 rfl rfl bw_wsX70 tyX7_ok nmX7 0 (by decide) mw107 rfl rfl rfl rfl (Nat.le_of_ble_eq_true rfl) dX7_init_9 (ws' := [(h0, .inr (7, [.ref q1, .null, .int 0])), (q1, .inl (cI, 7, .inl (fun _ => 0)))]) rfl (fun H locs hW => ?_)
  refine lv_aload_n hx hb dX7_init_12 rfl (lv_at hl 0 rfl) ?_
  refine lv_bipush (v := (7 : Int32)) hx hb dX7_init_13 rfl ?_
  refine r_newI Sx hW (n := 7) (by decide) (Nat.le_of_ble_eq_true rfl) (Nat.le_of_ble_eq_true rfl) dX7_init_15 (fun q2 H hW => ?_)
  have hW : AtC D (tyG cI cZ cN) Ax [(h0, .inr (7, [.ref q1, .null, .int 0])), (q1, .inl (cI, 7, .inl (fun _ => 0))), (q2, .inl (cI, 7, .inl (fun _ => 0)))] sx _ _ := hW
  refine r_putF Sx hin hW 0 rfl rfl bw_wsX70 tyX7_ok nmX7 1 (by decide) mw108 rfl rfl rfl rfl (Nat.le_of_ble_eq_true rfl) dX7_init_17 (ws' := [(h0, .inr (7, [.ref q1, .ref q2, .int 0])), (q1, .inl (cI, 7, .inl (fun _ => 0))), (q2, .inl (cI, 7, .inl (fun _ => 0)))]) rfl (fun H locs hW => ?_)
  refine lv_aload_n hx hb dX7_init_20 rfl (lv_at hl 0 rfl) ?_
  refine lv_iconst (v := (0 : Int32)) hx hb dX7_init_21 rfl ?_
  refine r_put Sx hW 0 rfl rfl bw_wsX70 tyX7_ok nmX7 2 (by decide) mw109 rfl rfl rfl (Nat.le_of_ble_eq_true rfl) dX7_init_22 (ws' := [(h0, .inr (7, [.ref q1, .ref q2, .int 0])), (q1, .inl (cI, 7, .inl (fun _ => 0))), (q2, .inl (cI, 7, .inl (fun _ => 0)))]) rfl (fun H locs hW => ?_)
  refine W.widen (k := 2) (n := 14) (Nat.le_of_ble_eq_true rfl) (Nat.le_of_ble_eq_true rfl) ?_
  exact hret _ _ _ _ _ hW dX7_init_25 ⟨(fun i => if i = 0 then h0 else if i = 1 then q1 else q2), rfl, rfl⟩

set_option maxHeartbeats 4000000 in
set_option maxRecDepth 100000 in
theorem c_X2_init (l : Launch) (D : va_G) (cI cZ cN : ClassId) (h0 : Nat) : CtN l yX2_init cX2_init 1 1 3 21 D (tyG cI cZ cN) h0 (.inr (2, [.null, .null, .null, .int 0, .int 0, .int 0, .int 0])) (fun w => ∃ a : Nat → Nat, a 0 = h0 ∧ w = pNow cI a nw0) := by
  refine CtN.of rfl rfl (Nat.le_of_ble_eq_true rfl) ?_
  intro pg ev sx mx ax bx mt cx ls Qx Ax Sx hin hO hret hW hl
  have hx := Sx.1
  have hb := Sx.2.1
  refine lv_aload_n hx hb dX2_init_0 rfl (lv_at hl 0 rfl) ?_
  refine r_objI Sx mw76 hl.1 (Nat.le_of_ble_eq_true rfl) (Nat.le_of_ble_eq_true rfl) dX2_init_1 ?_
  refine lv_aload_n hx hb dX2_init_4 rfl (lv_at hl 0 rfl) ?_
  refine lv_bipush (v := (7 : Int32)) hx hb dX2_init_5 rfl ?_
  refine r_newI Sx hW (n := 7) (by decide) (Nat.le_of_ble_eq_true rfl) (Nat.le_of_ble_eq_true rfl) dX2_init_7 (fun q1 H hW => ?_)
  have hW : AtC D (tyG cI cZ cN) Ax [(h0, .inr (2, [.null, .null, .null, .int 0, .int 0, .int 0, .int 0])), (q1, .inl (cI, 7, .inl (fun _ => 0)))] sx _ _ := hW
  refine r_putF Sx hin hW 0 rfl rfl bw_wsX20 tyX2_ok nmX2 0 (by decide) mw77 rfl rfl rfl rfl (Nat.le_of_ble_eq_true rfl) dX2_init_9 (ws' := [(h0, .inr (2, [.ref q1, .null, .null, .int 0, .int 0, .int 0, .int 0])), (q1, .inl (cI, 7, .inl (fun _ => 0)))]) rfl (fun H locs hW => ?_)
  refine lv_aload_n hx hb dX2_init_12 rfl (lv_at hl 0 rfl) ?_
  refine lv_bipush (v := (7 : Int32)) hx hb dX2_init_13 rfl ?_
  refine r_newI Sx hW (n := 7) (by decide) (Nat.le_of_ble_eq_true rfl) (Nat.le_of_ble_eq_true rfl) dX2_init_15 (fun q2 H hW => ?_)
  have hW : AtC D (tyG cI cZ cN) Ax [(h0, .inr (2, [.ref q1, .null, .null, .int 0, .int 0, .int 0, .int 0])), (q1, .inl (cI, 7, .inl (fun _ => 0))), (q2, .inl (cI, 7, .inl (fun _ => 0)))] sx _ _ := hW
  refine r_putF Sx hin hW 0 rfl rfl bw_wsX20 tyX2_ok nmX2 1 (by decide) mw78 rfl rfl rfl rfl (Nat.le_of_ble_eq_true rfl) dX2_init_17 (ws' := [(h0, .inr (2, [.ref q1, .ref q2, .null, .int 0, .int 0, .int 0, .int 0])), (q1, .inl (cI, 7, .inl (fun _ => 0))), (q2, .inl (cI, 7, .inl (fun _ => 0)))]) rfl (fun H locs hW => ?_)
  refine lv_aload_n hx hb dX2_init_20 rfl (lv_at hl 0 rfl) ?_
  refine lv_bipush (v := (7 : Int32)) hx hb dX2_init_21 rfl ?_
  refine r_newI Sx hW (n := 7) (by decide) (Nat.le_of_ble_eq_true rfl) (Nat.le_of_ble_eq_true rfl) dX2_init_23 (fun q3 H hW => ?_)
  have hW : AtC D (tyG cI cZ cN) Ax [(h0, .inr (2, [.ref q1, .ref q2, .null, .int 0, .int 0, .int 0, .int 0])), (q1, .inl (cI, 7, .inl (fun _ => 0))), (q2, .inl (cI, 7, .inl (fun _ => 0))), (q3, .inl (cI, 7, .inl (fun _ => 0)))] sx _ _ := hW
  refine r_putF Sx hin hW 0 rfl rfl bw_wsX20 tyX2_ok nmX2 2 (by decide) mw79 rfl rfl rfl rfl (Nat.le_of_ble_eq_true rfl) dX2_init_25 (ws' := [(h0, .inr (2, [.ref q1, .ref q2, .ref q3, .int 0, .int 0, .int 0, .int 0])), (q1, .inl (cI, 7, .inl (fun _ => 0))), (q2, .inl (cI, 7, .inl (fun _ => 0))), (q3, .inl (cI, 7, .inl (fun _ => 0)))]) rfl (fun H locs hW => ?_)
  refine lv_aload_n hx hb dX2_init_28 rfl (lv_at hl 0 rfl) ?_
  refine lv_iconst (v := (0 : Int32)) hx hb dX2_init_29 rfl ?_
  refine r_put Sx hW 0 rfl rfl bw_wsX20 tyX2_ok nmX2 3 (by decide) mw80 rfl rfl rfl (Nat.le_of_ble_eq_true rfl) dX2_init_30 (ws' := [(h0, .inr (2, [.ref q1, .ref q2, .ref q3, .int 0, .int 0, .int 0, .int 0])), (q1, .inl (cI, 7, .inl (fun _ => 0))), (q2, .inl (cI, 7, .inl (fun _ => 0))), (q3, .inl (cI, 7, .inl (fun _ => 0)))]) rfl (fun H locs hW => ?_)
  refine lv_aload_n hx hb dX2_init_33 rfl (lv_at hl 0 rfl) ?_
  refine lv_bipush (v := (15 : Int32)) hx hb dX2_init_34 rfl ?_
  refine r_put Sx hW 0 rfl rfl bw_wsX20 tyX2_ok nmX2 4 (by decide) mw81 rfl rfl rfl (Nat.le_of_ble_eq_true rfl) dX2_init_36 (ws' := [(h0, .inr (2, [.ref q1, .ref q2, .ref q3, .int 0, .int 15, .int 0, .int 0])), (q1, .inl (cI, 7, .inl (fun _ => 0))), (q2, .inl (cI, 7, .inl (fun _ => 0))), (q3, .inl (cI, 7, .inl (fun _ => 0)))]) rfl (fun H locs hW => ?_)
  refine lv_aload_n hx hb dX2_init_39 rfl (lv_at hl 0 rfl) ?_
  refine lv_iconst (v := (0 : Int32)) hx hb dX2_init_40 rfl ?_
  refine r_put Sx hW 0 rfl rfl bw_wsX20 tyX2_ok nmX2 5 (by decide) mw82 rfl rfl rfl (Nat.le_of_ble_eq_true rfl) dX2_init_41 (ws' := [(h0, .inr (2, [.ref q1, .ref q2, .ref q3, .int 0, .int 15, .int 0, .int 0])), (q1, .inl (cI, 7, .inl (fun _ => 0))), (q2, .inl (cI, 7, .inl (fun _ => 0))), (q3, .inl (cI, 7, .inl (fun _ => 0)))]) rfl (fun H locs hW => ?_)
  refine lv_aload_n hx hb dX2_init_44 rfl (lv_at hl 0 rfl) ?_
  refine lv_iconst (v := (0 : Int32)) hx hb dX2_init_45 rfl ?_
  refine r_put Sx hW 0 rfl rfl bw_wsX20 tyX2_ok nmX2 6 (by decide) mw83 rfl rfl rfl (Nat.le_of_ble_eq_true rfl) dX2_init_46 (ws' := [(h0, .inr (2, [.ref q1, .ref q2, .ref q3, .int 0, .int 15, .int 0, .int 0])), (q1, .inl (cI, 7, .inl (fun _ => 0))), (q2, .inl (cI, 7, .inl (fun _ => 0))), (q3, .inl (cI, 7, .inl (fun _ => 0)))]) rfl (fun H locs hW => ?_)
  refine W.widen (k := 3) (n := 21) (Nat.le_of_ble_eq_true rfl) (Nat.le_of_ble_eq_true rfl) ?_
  exact hret _ _ _ _ _ hW dX2_init_49 ⟨(fun i => if i = 0 then h0 else if i = 1 then q1 else if i = 2 then q2 else q3), rfl, rfl⟩

set_option maxHeartbeats 4000000 in
set_option maxRecDepth 100000 in
theorem c_X9_init (l : Launch) (D : va_G) (cI cZ cN : ClassId) (h0 : Nat) : CtN l yX9_init cX9_init 1 1 17 759 D (tyG cI cZ cN) h0 (.inr (9, [.int 0, .long 0, .null, .int 0, .int 0, .int 0, .int 0, .int 0, .int 0, .null, .null, .null, .null, .null, .int 0, .null, .null, .null, .null, .null, .int 0, .null, .null, .int 0, .null, .null, .int 0, .null, .null])) (fun w => ∃ a : Nat → Nat, a 0 = h0 ∧ w = pMod cI cZ a md0 0) := by
  refine CtN.of rfl rfl (Nat.le_of_ble_eq_true rfl) ?_
  intro pg ev sx mx ax bx mt cx ls Qx Ax Sx hin hO hret hW hl
  have hx := Sx.1
  have hb := Sx.2.1
  refine lv_aload_n hx hb dX9_init_0 rfl (lv_at hl 0 rfl) ?_
  refine r_objI Sx mw113 hl.1 (Nat.le_of_ble_eq_true rfl) (Nat.le_of_ble_eq_true rfl) dX9_init_1 ?_
  refine lv_aload_n hx hb dX9_init_4 rfl (lv_at hl 0 rfl) ?_
  refine lv_sipush (v := (200 : Int32)) hx hb dX9_init_5 rfl ?_
  refine r_newI Sx hW (n := 200) (by decide) (Nat.le_of_ble_eq_true rfl) (Nat.le_of_ble_eq_true rfl) dX9_init_8 (fun q1 H hW => ?_)
  have hW : AtC D (tyG cI cZ cN) Ax [(h0, .inr (9, [.int 0, .long 0, .null, .int 0, .int 0, .int 0, .int 0, .int 0, .int 0, .null, .null, .null, .null, .null, .int 0, .null, .null, .null, .null, .null, .int 0, .null, .null, .int 0, .null, .null, .int 0, .null, .null])), (q1, .inl (cI, 200, .inl (fun _ => 0)))] sx _ _ := hW
  refine r_putF Sx hin hW 0 rfl rfl bw_wsX90 tyX9_ok nmX9 2 (by decide) mw114 rfl rfl rfl rfl (Nat.le_of_ble_eq_true rfl) dX9_init_10 (ws' := [(h0, .inr (9, [.int 0, .long 0, .ref q1, .int 0, .int 0, .int 0, .int 0, .int 0, .int 0, .null, .null, .null, .null, .null, .int 0, .null, .null, .null, .null, .null, .int 0, .null, .null, .int 0, .null, .null, .int 0, .null, .null])), (q1, .inl (cI, 200, .inl (fun _ => 0)))]) rfl (fun H locs hW => ?_)
  refine lv_aload_n hx hb dX9_init_13 rfl (lv_at hl 0 rfl) ?_
  refine lv_bipush (v := (6 : Int32)) hx hb dX9_init_14 rfl ?_
  refine r_newI Sx hW (n := 6) (by decide) (Nat.le_of_ble_eq_true rfl) (Nat.le_of_ble_eq_true rfl) dX9_init_16 (fun q2 H hW => ?_)
  have hW : AtC D (tyG cI cZ cN) Ax [(h0, .inr (9, [.int 0, .long 0, .ref q1, .int 0, .int 0, .int 0, .int 0, .int 0, .int 0, .null, .null, .null, .null, .null, .int 0, .null, .null, .null, .null, .null, .int 0, .null, .null, .int 0, .null, .null, .int 0, .null, .null])), (q1, .inl (cI, 200, .inl (fun _ => 0))), (q2, .inl (cI, 6, .inl (fun _ => 0)))] sx _ _ := hW
  refine r_putF Sx hin hW 0 rfl rfl bw_wsX90 tyX9_ok nmX9 9 (by decide) mw115 rfl rfl rfl rfl (Nat.le_of_ble_eq_true rfl) dX9_init_18 (ws' := [(h0, .inr (9, [.int 0, .long 0, .ref q1, .int 0, .int 0, .int 0, .int 0, .int 0, .int 0, .ref q2, .null, .null, .null, .null, .int 0, .null, .null, .null, .null, .null, .int 0, .null, .null, .int 0, .null, .null, .int 0, .null, .null])), (q1, .inl (cI, 200, .inl (fun _ => 0))), (q2, .inl (cI, 6, .inl (fun _ => 0)))]) rfl (fun H locs hW => ?_)
  refine lv_aload_n hx hb dX9_init_21 rfl (lv_at hl 0 rfl) ?_
  refine lv_bipush (v := (7 : Int32)) hx hb dX9_init_22 rfl ?_
  refine r_newI Sx hW (n := 7) (by decide) (Nat.le_of_ble_eq_true rfl) (Nat.le_of_ble_eq_true rfl) dX9_init_24 (fun q3 H hW => ?_)
  have hW : AtC D (tyG cI cZ cN) Ax [(h0, .inr (9, [.int 0, .long 0, .ref q1, .int 0, .int 0, .int 0, .int 0, .int 0, .int 0, .ref q2, .null, .null, .null, .null, .int 0, .null, .null, .null, .null, .null, .int 0, .null, .null, .int 0, .null, .null, .int 0, .null, .null])), (q1, .inl (cI, 200, .inl (fun _ => 0))), (q2, .inl (cI, 6, .inl (fun _ => 0))), (q3, .inl (cI, 7, .inl (fun _ => 0)))] sx _ _ := hW
  refine r_putF Sx hin hW 0 rfl rfl bw_wsX90 tyX9_ok nmX9 10 (by decide) mw116 rfl rfl rfl rfl (Nat.le_of_ble_eq_true rfl) dX9_init_26 (ws' := [(h0, .inr (9, [.int 0, .long 0, .ref q1, .int 0, .int 0, .int 0, .int 0, .int 0, .int 0, .ref q2, .ref q3, .null, .null, .null, .int 0, .null, .null, .null, .null, .null, .int 0, .null, .null, .int 0, .null, .null, .int 0, .null, .null])), (q1, .inl (cI, 200, .inl (fun _ => 0))), (q2, .inl (cI, 6, .inl (fun _ => 0))), (q3, .inl (cI, 7, .inl (fun _ => 0)))]) rfl (fun H locs hW => ?_)
  refine lv_aload_n hx hb dX9_init_29 rfl (lv_at hl 0 rfl) ?_
  refine lv_bipush (v := (7 : Int32)) hx hb dX9_init_30 rfl ?_
  refine r_newI Sx hW (n := 7) (by decide) (Nat.le_of_ble_eq_true rfl) (Nat.le_of_ble_eq_true rfl) dX9_init_32 (fun q4 H hW => ?_)
  have hW : AtC D (tyG cI cZ cN) Ax [(h0, .inr (9, [.int 0, .long 0, .ref q1, .int 0, .int 0, .int 0, .int 0, .int 0, .int 0, .ref q2, .ref q3, .null, .null, .null, .int 0, .null, .null, .null, .null, .null, .int 0, .null, .null, .int 0, .null, .null, .int 0, .null, .null])), (q1, .inl (cI, 200, .inl (fun _ => 0))), (q2, .inl (cI, 6, .inl (fun _ => 0))), (q3, .inl (cI, 7, .inl (fun _ => 0))), (q4, .inl (cI, 7, .inl (fun _ => 0)))] sx _ _ := hW
  refine r_putF Sx hin hW 0 rfl rfl bw_wsX90 tyX9_ok nmX9 11 (by decide) mw117 rfl rfl rfl rfl (Nat.le_of_ble_eq_true rfl) dX9_init_34 (ws' := [(h0, .inr (9, [.int 0, .long 0, .ref q1, .int 0, .int 0, .int 0, .int 0, .int 0, .int 0, .ref q2, .ref q3, .ref q4, .null, .null, .int 0, .null, .null, .null, .null, .null, .int 0, .null, .null, .int 0, .null, .null, .int 0, .null, .null])), (q1, .inl (cI, 200, .inl (fun _ => 0))), (q2, .inl (cI, 6, .inl (fun _ => 0))), (q3, .inl (cI, 7, .inl (fun _ => 0))), (q4, .inl (cI, 7, .inl (fun _ => 0)))]) rfl (fun H locs hW => ?_)
  refine lv_aload_n hx hb dX9_init_37 rfl (lv_at hl 0 rfl) ?_
  refine lv_bipush (v := (14 : Int32)) hx hb dX9_init_38 rfl ?_
  refine r_newI Sx hW (n := 14) (by decide) (Nat.le_of_ble_eq_true rfl) (Nat.le_of_ble_eq_true rfl) dX9_init_40 (fun q5 H hW => ?_)
  have hW : AtC D (tyG cI cZ cN) Ax [(h0, .inr (9, [.int 0, .long 0, .ref q1, .int 0, .int 0, .int 0, .int 0, .int 0, .int 0, .ref q2, .ref q3, .ref q4, .null, .null, .int 0, .null, .null, .null, .null, .null, .int 0, .null, .null, .int 0, .null, .null, .int 0, .null, .null])), (q1, .inl (cI, 200, .inl (fun _ => 0))), (q2, .inl (cI, 6, .inl (fun _ => 0))), (q3, .inl (cI, 7, .inl (fun _ => 0))), (q4, .inl (cI, 7, .inl (fun _ => 0))), (q5, .inl (cI, 14, .inl (fun _ => 0)))] sx _ _ := hW
  refine r_putF Sx hin hW 0 rfl rfl bw_wsX90 tyX9_ok nmX9 12 (by decide) mw118 rfl rfl rfl rfl (Nat.le_of_ble_eq_true rfl) dX9_init_42 (ws' := [(h0, .inr (9, [.int 0, .long 0, .ref q1, .int 0, .int 0, .int 0, .int 0, .int 0, .int 0, .ref q2, .ref q3, .ref q4, .ref q5, .null, .int 0, .null, .null, .null, .null, .null, .int 0, .null, .null, .int 0, .null, .null, .int 0, .null, .null])), (q1, .inl (cI, 200, .inl (fun _ => 0))), (q2, .inl (cI, 6, .inl (fun _ => 0))), (q3, .inl (cI, 7, .inl (fun _ => 0))), (q4, .inl (cI, 7, .inl (fun _ => 0))), (q5, .inl (cI, 14, .inl (fun _ => 0)))]) rfl (fun H locs hW => ?_)
  refine lv_aload_n hx hb dX9_init_45 rfl (lv_at hl 0 rfl) ?_
  refine lv_bipush (v := (14 : Int32)) hx hb dX9_init_46 rfl ?_
  refine r_newI Sx hW (n := 14) (by decide) (Nat.le_of_ble_eq_true rfl) (Nat.le_of_ble_eq_true rfl) dX9_init_48 (fun q6 H hW => ?_)
  have hW : AtC D (tyG cI cZ cN) Ax [(h0, .inr (9, [.int 0, .long 0, .ref q1, .int 0, .int 0, .int 0, .int 0, .int 0, .int 0, .ref q2, .ref q3, .ref q4, .ref q5, .null, .int 0, .null, .null, .null, .null, .null, .int 0, .null, .null, .int 0, .null, .null, .int 0, .null, .null])), (q1, .inl (cI, 200, .inl (fun _ => 0))), (q2, .inl (cI, 6, .inl (fun _ => 0))), (q3, .inl (cI, 7, .inl (fun _ => 0))), (q4, .inl (cI, 7, .inl (fun _ => 0))), (q5, .inl (cI, 14, .inl (fun _ => 0))), (q6, .inl (cI, 14, .inl (fun _ => 0)))] sx _ _ := hW
  refine r_putF Sx hin hW 0 rfl rfl bw_wsX90 tyX9_ok nmX9 13 (by decide) mw119 rfl rfl rfl rfl (Nat.le_of_ble_eq_true rfl) dX9_init_50 (ws' := [(h0, .inr (9, [.int 0, .long 0, .ref q1, .int 0, .int 0, .int 0, .int 0, .int 0, .int 0, .ref q2, .ref q3, .ref q4, .ref q5, .ref q6, .int 0, .null, .null, .null, .null, .null, .int 0, .null, .null, .int 0, .null, .null, .int 0, .null, .null])), (q1, .inl (cI, 200, .inl (fun _ => 0))), (q2, .inl (cI, 6, .inl (fun _ => 0))), (q3, .inl (cI, 7, .inl (fun _ => 0))), (q4, .inl (cI, 7, .inl (fun _ => 0))), (q5, .inl (cI, 14, .inl (fun _ => 0))), (q6, .inl (cI, 14, .inl (fun _ => 0)))]) rfl (fun H locs hW => ?_)
  refine lv_aload_n hx hb dX9_init_53 rfl (lv_at hl 0 rfl) ?_
  refine lv_bipush (v := (25 : Int32)) hx hb dX9_init_54 rfl ?_
  refine r_newI Sx hW (n := 25) (by decide) (Nat.le_of_ble_eq_true rfl) (Nat.le_of_ble_eq_true rfl) dX9_init_56 (fun q7 H hW => ?_)
  have hW : AtC D (tyG cI cZ cN) Ax [(h0, .inr (9, [.int 0, .long 0, .ref q1, .int 0, .int 0, .int 0, .int 0, .int 0, .int 0, .ref q2, .ref q3, .ref q4, .ref q5, .ref q6, .int 0, .null, .null, .null, .null, .null, .int 0, .null, .null, .int 0, .null, .null, .int 0, .null, .null])), (q1, .inl (cI, 200, .inl (fun _ => 0))), (q2, .inl (cI, 6, .inl (fun _ => 0))), (q3, .inl (cI, 7, .inl (fun _ => 0))), (q4, .inl (cI, 7, .inl (fun _ => 0))), (q5, .inl (cI, 14, .inl (fun _ => 0))), (q6, .inl (cI, 14, .inl (fun _ => 0))), (q7, .inl (cI, 25, .inl (fun _ => 0)))] sx _ _ := hW
  refine r_putF Sx hin hW 0 rfl rfl bw_wsX90 tyX9_ok nmX9 15 (by decide) mw120 rfl rfl rfl rfl (Nat.le_of_ble_eq_true rfl) dX9_init_58 (ws' := [(h0, .inr (9, [.int 0, .long 0, .ref q1, .int 0, .int 0, .int 0, .int 0, .int 0, .int 0, .ref q2, .ref q3, .ref q4, .ref q5, .ref q6, .int 0, .ref q7, .null, .null, .null, .null, .int 0, .null, .null, .int 0, .null, .null, .int 0, .null, .null])), (q1, .inl (cI, 200, .inl (fun _ => 0))), (q2, .inl (cI, 6, .inl (fun _ => 0))), (q3, .inl (cI, 7, .inl (fun _ => 0))), (q4, .inl (cI, 7, .inl (fun _ => 0))), (q5, .inl (cI, 14, .inl (fun _ => 0))), (q6, .inl (cI, 14, .inl (fun _ => 0))), (q7, .inl (cI, 25, .inl (fun _ => 0)))]) rfl (fun H locs hW => ?_)
  refine lv_aload_n hx hb dX9_init_61 rfl (lv_at hl 0 rfl) ?_
  refine lv_bipush (v := (25 : Int32)) hx hb dX9_init_62 rfl ?_
  refine r_newI Sx hW (n := 25) (by decide) (Nat.le_of_ble_eq_true rfl) (Nat.le_of_ble_eq_true rfl) dX9_init_64 (fun q8 H hW => ?_)
  have hW : AtC D (tyG cI cZ cN) Ax [(h0, .inr (9, [.int 0, .long 0, .ref q1, .int 0, .int 0, .int 0, .int 0, .int 0, .int 0, .ref q2, .ref q3, .ref q4, .ref q5, .ref q6, .int 0, .ref q7, .null, .null, .null, .null, .int 0, .null, .null, .int 0, .null, .null, .int 0, .null, .null])), (q1, .inl (cI, 200, .inl (fun _ => 0))), (q2, .inl (cI, 6, .inl (fun _ => 0))), (q3, .inl (cI, 7, .inl (fun _ => 0))), (q4, .inl (cI, 7, .inl (fun _ => 0))), (q5, .inl (cI, 14, .inl (fun _ => 0))), (q6, .inl (cI, 14, .inl (fun _ => 0))), (q7, .inl (cI, 25, .inl (fun _ => 0))), (q8, .inl (cI, 25, .inl (fun _ => 0)))] sx _ _ := hW
  refine r_putF Sx hin hW 0 rfl rfl bw_wsX90 tyX9_ok nmX9 16 (by decide) mw121 rfl rfl rfl rfl (Nat.le_of_ble_eq_true rfl) dX9_init_66 (ws' := [(h0, .inr (9, [.int 0, .long 0, .ref q1, .int 0, .int 0, .int 0, .int 0, .int 0, .int 0, .ref q2, .ref q3, .ref q4, .ref q5, .ref q6, .int 0, .ref q7, .ref q8, .null, .null, .null, .int 0, .null, .null, .int 0, .null, .null, .int 0, .null, .null])), (q1, .inl (cI, 200, .inl (fun _ => 0))), (q2, .inl (cI, 6, .inl (fun _ => 0))), (q3, .inl (cI, 7, .inl (fun _ => 0))), (q4, .inl (cI, 7, .inl (fun _ => 0))), (q5, .inl (cI, 14, .inl (fun _ => 0))), (q6, .inl (cI, 14, .inl (fun _ => 0))), (q7, .inl (cI, 25, .inl (fun _ => 0))), (q8, .inl (cI, 25, .inl (fun _ => 0)))]) rfl (fun H locs hW => ?_)
  refine lv_aload_n hx hb dX9_init_69 rfl (lv_at hl 0 rfl) ?_
  refine lv_bipush (v := (50 : Int32)) hx hb dX9_init_70 rfl ?_
  refine r_newI Sx hW (n := 50) (by decide) (Nat.le_of_ble_eq_true rfl) (Nat.le_of_ble_eq_true rfl) dX9_init_72 (fun q9 H hW => ?_)
  have hW : AtC D (tyG cI cZ cN) Ax [(h0, .inr (9, [.int 0, .long 0, .ref q1, .int 0, .int 0, .int 0, .int 0, .int 0, .int 0, .ref q2, .ref q3, .ref q4, .ref q5, .ref q6, .int 0, .ref q7, .ref q8, .null, .null, .null, .int 0, .null, .null, .int 0, .null, .null, .int 0, .null, .null])), (q1, .inl (cI, 200, .inl (fun _ => 0))), (q2, .inl (cI, 6, .inl (fun _ => 0))), (q3, .inl (cI, 7, .inl (fun _ => 0))), (q4, .inl (cI, 7, .inl (fun _ => 0))), (q5, .inl (cI, 14, .inl (fun _ => 0))), (q6, .inl (cI, 14, .inl (fun _ => 0))), (q7, .inl (cI, 25, .inl (fun _ => 0))), (q8, .inl (cI, 25, .inl (fun _ => 0))), (q9, .inl (cI, 50, .inl (fun _ => 0)))] sx _ _ := hW
  refine r_putF Sx hin hW 0 rfl rfl bw_wsX90 tyX9_ok nmX9 17 (by decide) mw122 rfl rfl rfl rfl (Nat.le_of_ble_eq_true rfl) dX9_init_74 (ws' := [(h0, .inr (9, [.int 0, .long 0, .ref q1, .int 0, .int 0, .int 0, .int 0, .int 0, .int 0, .ref q2, .ref q3, .ref q4, .ref q5, .ref q6, .int 0, .ref q7, .ref q8, .ref q9, .null, .null, .int 0, .null, .null, .int 0, .null, .null, .int 0, .null, .null])), (q1, .inl (cI, 200, .inl (fun _ => 0))), (q2, .inl (cI, 6, .inl (fun _ => 0))), (q3, .inl (cI, 7, .inl (fun _ => 0))), (q4, .inl (cI, 7, .inl (fun _ => 0))), (q5, .inl (cI, 14, .inl (fun _ => 0))), (q6, .inl (cI, 14, .inl (fun _ => 0))), (q7, .inl (cI, 25, .inl (fun _ => 0))), (q8, .inl (cI, 25, .inl (fun _ => 0))), (q9, .inl (cI, 50, .inl (fun _ => 0)))]) rfl (fun H locs hW => ?_)
  refine lv_aload_n hx hb dX9_init_77 rfl (lv_at hl 0 rfl) ?_
  refine lv_iconst (v := (2 : Int32)) hx hb dX9_init_78 rfl ?_
  refine r_newZ Sx hW (n := 2) (by decide) (Nat.le_of_ble_eq_true rfl) (Nat.le_of_ble_eq_true rfl) dX9_init_79 (fun q10 H hW => ?_)
  have hW : AtC D (tyG cI cZ cN) Ax [(h0, .inr (9, [.int 0, .long 0, .ref q1, .int 0, .int 0, .int 0, .int 0, .int 0, .int 0, .ref q2, .ref q3, .ref q4, .ref q5, .ref q6, .int 0, .ref q7, .ref q8, .ref q9, .null, .null, .int 0, .null, .null, .int 0, .null, .null, .int 0, .null, .null])), (q1, .inl (cI, 200, .inl (fun _ => 0))), (q2, .inl (cI, 6, .inl (fun _ => 0))), (q3, .inl (cI, 7, .inl (fun _ => 0))), (q4, .inl (cI, 7, .inl (fun _ => 0))), (q5, .inl (cI, 14, .inl (fun _ => 0))), (q6, .inl (cI, 14, .inl (fun _ => 0))), (q7, .inl (cI, 25, .inl (fun _ => 0))), (q8, .inl (cI, 25, .inl (fun _ => 0))), (q9, .inl (cI, 50, .inl (fun _ => 0))), (q10, .inl (cZ, 2, .inl (fun _ => 0)))] sx _ _ := hW
  refine r_putF Sx hin hW 0 rfl rfl bw_wsX90 tyX9_ok nmX9 18 (by decide) mw123 rfl rfl rfl rfl (Nat.le_of_ble_eq_true rfl) dX9_init_81 (ws' := [(h0, .inr (9, [.int 0, .long 0, .ref q1, .int 0, .int 0, .int 0, .int 0, .int 0, .int 0, .ref q2, .ref q3, .ref q4, .ref q5, .ref q6, .int 0, .ref q7, .ref q8, .ref q9, .ref q10, .null, .int 0, .null, .null, .int 0, .null, .null, .int 0, .null, .null])), (q1, .inl (cI, 200, .inl (fun _ => 0))), (q2, .inl (cI, 6, .inl (fun _ => 0))), (q3, .inl (cI, 7, .inl (fun _ => 0))), (q4, .inl (cI, 7, .inl (fun _ => 0))), (q5, .inl (cI, 14, .inl (fun _ => 0))), (q6, .inl (cI, 14, .inl (fun _ => 0))), (q7, .inl (cI, 25, .inl (fun _ => 0))), (q8, .inl (cI, 25, .inl (fun _ => 0))), (q9, .inl (cI, 50, .inl (fun _ => 0))), (q10, .inl (cZ, 2, .inl (fun _ => 0)))]) rfl (fun H locs hW => ?_)
  refine lv_aload_n hx hb dX9_init_84 rfl (lv_at hl 0 rfl) ?_
  refine lv_sipush (v := (250 : Int32)) hx hb dX9_init_85 rfl ?_
  refine r_newI Sx hW (n := 250) (by decide) (Nat.le_of_ble_eq_true rfl) (Nat.le_of_ble_eq_true rfl) dX9_init_88 (fun q11 H hW => ?_)
  have hW : AtC D (tyG cI cZ cN) Ax [(h0, .inr (9, [.int 0, .long 0, .ref q1, .int 0, .int 0, .int 0, .int 0, .int 0, .int 0, .ref q2, .ref q3, .ref q4, .ref q5, .ref q6, .int 0, .ref q7, .ref q8, .ref q9, .ref q10, .null, .int 0, .null, .null, .int 0, .null, .null, .int 0, .null, .null])), (q1, .inl (cI, 200, .inl (fun _ => 0))), (q2, .inl (cI, 6, .inl (fun _ => 0))), (q3, .inl (cI, 7, .inl (fun _ => 0))), (q4, .inl (cI, 7, .inl (fun _ => 0))), (q5, .inl (cI, 14, .inl (fun _ => 0))), (q6, .inl (cI, 14, .inl (fun _ => 0))), (q7, .inl (cI, 25, .inl (fun _ => 0))), (q8, .inl (cI, 25, .inl (fun _ => 0))), (q9, .inl (cI, 50, .inl (fun _ => 0))), (q10, .inl (cZ, 2, .inl (fun _ => 0))), (q11, .inl (cI, 250, .inl (fun _ => 0)))] sx _ _ := hW
  refine r_putF Sx hin hW 0 rfl rfl bw_wsX90 tyX9_ok nmX9 19 (by decide) mw124 rfl rfl rfl rfl (Nat.le_of_ble_eq_true rfl) dX9_init_90 (ws' := [(h0, .inr (9, [.int 0, .long 0, .ref q1, .int 0, .int 0, .int 0, .int 0, .int 0, .int 0, .ref q2, .ref q3, .ref q4, .ref q5, .ref q6, .int 0, .ref q7, .ref q8, .ref q9, .ref q10, .ref q11, .int 0, .null, .null, .int 0, .null, .null, .int 0, .null, .null])), (q1, .inl (cI, 200, .inl (fun _ => 0))), (q2, .inl (cI, 6, .inl (fun _ => 0))), (q3, .inl (cI, 7, .inl (fun _ => 0))), (q4, .inl (cI, 7, .inl (fun _ => 0))), (q5, .inl (cI, 14, .inl (fun _ => 0))), (q6, .inl (cI, 14, .inl (fun _ => 0))), (q7, .inl (cI, 25, .inl (fun _ => 0))), (q8, .inl (cI, 25, .inl (fun _ => 0))), (q9, .inl (cI, 50, .inl (fun _ => 0))), (q10, .inl (cZ, 2, .inl (fun _ => 0))), (q11, .inl (cI, 250, .inl (fun _ => 0)))]) rfl (fun H locs hW => ?_)
  refine lv_aload_n hx hb dX9_init_93 rfl (lv_at hl 0 rfl) ?_
  refine lv_bipush (v := (6 : Int32)) hx hb dX9_init_94 rfl ?_
  refine r_newI Sx hW (n := 6) (by decide) (Nat.le_of_ble_eq_true rfl) (Nat.le_of_ble_eq_true rfl) dX9_init_96 (fun q12 H hW => ?_)
  have hW : AtC D (tyG cI cZ cN) Ax [(h0, .inr (9, [.int 0, .long 0, .ref q1, .int 0, .int 0, .int 0, .int 0, .int 0, .int 0, .ref q2, .ref q3, .ref q4, .ref q5, .ref q6, .int 0, .ref q7, .ref q8, .ref q9, .ref q10, .ref q11, .int 0, .null, .null, .int 0, .null, .null, .int 0, .null, .null])), (q1, .inl (cI, 200, .inl (fun _ => 0))), (q2, .inl (cI, 6, .inl (fun _ => 0))), (q3, .inl (cI, 7, .inl (fun _ => 0))), (q4, .inl (cI, 7, .inl (fun _ => 0))), (q5, .inl (cI, 14, .inl (fun _ => 0))), (q6, .inl (cI, 14, .inl (fun _ => 0))), (q7, .inl (cI, 25, .inl (fun _ => 0))), (q8, .inl (cI, 25, .inl (fun _ => 0))), (q9, .inl (cI, 50, .inl (fun _ => 0))), (q10, .inl (cZ, 2, .inl (fun _ => 0))), (q11, .inl (cI, 250, .inl (fun _ => 0))), (q12, .inl (cI, 6, .inl (fun _ => 0)))] sx _ _ := hW
  refine r_putF Sx hin hW 0 rfl rfl bw_wsX90 tyX9_ok nmX9 21 (by decide) mw125 rfl rfl rfl rfl (Nat.le_of_ble_eq_true rfl) dX9_init_98 (ws' := [(h0, .inr (9, [.int 0, .long 0, .ref q1, .int 0, .int 0, .int 0, .int 0, .int 0, .int 0, .ref q2, .ref q3, .ref q4, .ref q5, .ref q6, .int 0, .ref q7, .ref q8, .ref q9, .ref q10, .ref q11, .int 0, .ref q12, .null, .int 0, .null, .null, .int 0, .null, .null])), (q1, .inl (cI, 200, .inl (fun _ => 0))), (q2, .inl (cI, 6, .inl (fun _ => 0))), (q3, .inl (cI, 7, .inl (fun _ => 0))), (q4, .inl (cI, 7, .inl (fun _ => 0))), (q5, .inl (cI, 14, .inl (fun _ => 0))), (q6, .inl (cI, 14, .inl (fun _ => 0))), (q7, .inl (cI, 25, .inl (fun _ => 0))), (q8, .inl (cI, 25, .inl (fun _ => 0))), (q9, .inl (cI, 50, .inl (fun _ => 0))), (q10, .inl (cZ, 2, .inl (fun _ => 0))), (q11, .inl (cI, 250, .inl (fun _ => 0))), (q12, .inl (cI, 6, .inl (fun _ => 0)))]) rfl (fun H locs hW => ?_)
  refine lv_aload_n hx hb dX9_init_101 rfl (lv_at hl 0 rfl) ?_
  refine lv_bipush (v := (6 : Int32)) hx hb dX9_init_102 rfl ?_
  refine r_newI Sx hW (n := 6) (by decide) (Nat.le_of_ble_eq_true rfl) (Nat.le_of_ble_eq_true rfl) dX9_init_104 (fun q13 H hW => ?_)
  have hW : AtC D (tyG cI cZ cN) Ax [(h0, .inr (9, [.int 0, .long 0, .ref q1, .int 0, .int 0, .int 0, .int 0, .int 0, .int 0, .ref q2, .ref q3, .ref q4, .ref q5, .ref q6, .int 0, .ref q7, .ref q8, .ref q9, .ref q10, .ref q11, .int 0, .ref q12, .null, .int 0, .null, .null, .int 0, .null, .null])), (q1, .inl (cI, 200, .inl (fun _ => 0))), (q2, .inl (cI, 6, .inl (fun _ => 0))), (q3, .inl (cI, 7, .inl (fun _ => 0))), (q4, .inl (cI, 7, .inl (fun _ => 0))), (q5, .inl (cI, 14, .inl (fun _ => 0))), (q6, .inl (cI, 14, .inl (fun _ => 0))), (q7, .inl (cI, 25, .inl (fun _ => 0))), (q8, .inl (cI, 25, .inl (fun _ => 0))), (q9, .inl (cI, 50, .inl (fun _ => 0))), (q10, .inl (cZ, 2, .inl (fun _ => 0))), (q11, .inl (cI, 250, .inl (fun _ => 0))), (q12, .inl (cI, 6, .inl (fun _ => 0))), (q13, .inl (cI, 6, .inl (fun _ => 0)))] sx _ _ := hW
  refine r_putF Sx hin hW 0 rfl rfl bw_wsX90 tyX9_ok nmX9 22 (by decide) mw126 rfl rfl rfl rfl (Nat.le_of_ble_eq_true rfl) dX9_init_106 (ws' := [(h0, .inr (9, [.int 0, .long 0, .ref q1, .int 0, .int 0, .int 0, .int 0, .int 0, .int 0, .ref q2, .ref q3, .ref q4, .ref q5, .ref q6, .int 0, .ref q7, .ref q8, .ref q9, .ref q10, .ref q11, .int 0, .ref q12, .ref q13, .int 0, .null, .null, .int 0, .null, .null])), (q1, .inl (cI, 200, .inl (fun _ => 0))), (q2, .inl (cI, 6, .inl (fun _ => 0))), (q3, .inl (cI, 7, .inl (fun _ => 0))), (q4, .inl (cI, 7, .inl (fun _ => 0))), (q5, .inl (cI, 14, .inl (fun _ => 0))), (q6, .inl (cI, 14, .inl (fun _ => 0))), (q7, .inl (cI, 25, .inl (fun _ => 0))), (q8, .inl (cI, 25, .inl (fun _ => 0))), (q9, .inl (cI, 50, .inl (fun _ => 0))), (q10, .inl (cZ, 2, .inl (fun _ => 0))), (q11, .inl (cI, 250, .inl (fun _ => 0))), (q12, .inl (cI, 6, .inl (fun _ => 0))), (q13, .inl (cI, 6, .inl (fun _ => 0)))]) rfl (fun H locs hW => ?_)
  refine lv_aload_n hx hb dX9_init_109 rfl (lv_at hl 0 rfl) ?_
  refine lv_bipush (v := (6 : Int32)) hx hb dX9_init_110 rfl ?_
  refine r_newI Sx hW (n := 6) (by decide) (Nat.le_of_ble_eq_true rfl) (Nat.le_of_ble_eq_true rfl) dX9_init_112 (fun q14 H hW => ?_)
  have hW : AtC D (tyG cI cZ cN) Ax [(h0, .inr (9, [.int 0, .long 0, .ref q1, .int 0, .int 0, .int 0, .int 0, .int 0, .int 0, .ref q2, .ref q3, .ref q4, .ref q5, .ref q6, .int 0, .ref q7, .ref q8, .ref q9, .ref q10, .ref q11, .int 0, .ref q12, .ref q13, .int 0, .null, .null, .int 0, .null, .null])), (q1, .inl (cI, 200, .inl (fun _ => 0))), (q2, .inl (cI, 6, .inl (fun _ => 0))), (q3, .inl (cI, 7, .inl (fun _ => 0))), (q4, .inl (cI, 7, .inl (fun _ => 0))), (q5, .inl (cI, 14, .inl (fun _ => 0))), (q6, .inl (cI, 14, .inl (fun _ => 0))), (q7, .inl (cI, 25, .inl (fun _ => 0))), (q8, .inl (cI, 25, .inl (fun _ => 0))), (q9, .inl (cI, 50, .inl (fun _ => 0))), (q10, .inl (cZ, 2, .inl (fun _ => 0))), (q11, .inl (cI, 250, .inl (fun _ => 0))), (q12, .inl (cI, 6, .inl (fun _ => 0))), (q13, .inl (cI, 6, .inl (fun _ => 0))), (q14, .inl (cI, 6, .inl (fun _ => 0)))] sx _ _ := hW
  refine r_putF Sx hin hW 0 rfl rfl bw_wsX90 tyX9_ok nmX9 24 (by decide) mw127 rfl rfl rfl rfl (Nat.le_of_ble_eq_true rfl) dX9_init_114 (ws' := [(h0, .inr (9, [.int 0, .long 0, .ref q1, .int 0, .int 0, .int 0, .int 0, .int 0, .int 0, .ref q2, .ref q3, .ref q4, .ref q5, .ref q6, .int 0, .ref q7, .ref q8, .ref q9, .ref q10, .ref q11, .int 0, .ref q12, .ref q13, .int 0, .ref q14, .null, .int 0, .null, .null])), (q1, .inl (cI, 200, .inl (fun _ => 0))), (q2, .inl (cI, 6, .inl (fun _ => 0))), (q3, .inl (cI, 7, .inl (fun _ => 0))), (q4, .inl (cI, 7, .inl (fun _ => 0))), (q5, .inl (cI, 14, .inl (fun _ => 0))), (q6, .inl (cI, 14, .inl (fun _ => 0))), (q7, .inl (cI, 25, .inl (fun _ => 0))), (q8, .inl (cI, 25, .inl (fun _ => 0))), (q9, .inl (cI, 50, .inl (fun _ => 0))), (q10, .inl (cZ, 2, .inl (fun _ => 0))), (q11, .inl (cI, 250, .inl (fun _ => 0))), (q12, .inl (cI, 6, .inl (fun _ => 0))), (q13, .inl (cI, 6, .inl (fun _ => 0))), (q14, .inl (cI, 6, .inl (fun _ => 0)))]) rfl (fun H locs hW => ?_)
  refine lv_aload_n hx hb dX9_init_117 rfl (lv_at hl 0 rfl) ?_
  refine lv_bipush (v := (6 : Int32)) hx hb dX9_init_118 rfl ?_
  refine r_newI Sx hW (n := 6) (by decide) (Nat.le_of_ble_eq_true rfl) (Nat.le_of_ble_eq_true rfl) dX9_init_120 (fun q15 H hW => ?_)
  have hW : AtC D (tyG cI cZ cN) Ax [(h0, .inr (9, [.int 0, .long 0, .ref q1, .int 0, .int 0, .int 0, .int 0, .int 0, .int 0, .ref q2, .ref q3, .ref q4, .ref q5, .ref q6, .int 0, .ref q7, .ref q8, .ref q9, .ref q10, .ref q11, .int 0, .ref q12, .ref q13, .int 0, .ref q14, .null, .int 0, .null, .null])), (q1, .inl (cI, 200, .inl (fun _ => 0))), (q2, .inl (cI, 6, .inl (fun _ => 0))), (q3, .inl (cI, 7, .inl (fun _ => 0))), (q4, .inl (cI, 7, .inl (fun _ => 0))), (q5, .inl (cI, 14, .inl (fun _ => 0))), (q6, .inl (cI, 14, .inl (fun _ => 0))), (q7, .inl (cI, 25, .inl (fun _ => 0))), (q8, .inl (cI, 25, .inl (fun _ => 0))), (q9, .inl (cI, 50, .inl (fun _ => 0))), (q10, .inl (cZ, 2, .inl (fun _ => 0))), (q11, .inl (cI, 250, .inl (fun _ => 0))), (q12, .inl (cI, 6, .inl (fun _ => 0))), (q13, .inl (cI, 6, .inl (fun _ => 0))), (q14, .inl (cI, 6, .inl (fun _ => 0))), (q15, .inl (cI, 6, .inl (fun _ => 0)))] sx _ _ := hW
  refine r_putF Sx hin hW 0 rfl rfl bw_wsX90 tyX9_ok nmX9 25 (by decide) mw128 rfl rfl rfl rfl (Nat.le_of_ble_eq_true rfl) dX9_init_122 (ws' := [(h0, .inr (9, [.int 0, .long 0, .ref q1, .int 0, .int 0, .int 0, .int 0, .int 0, .int 0, .ref q2, .ref q3, .ref q4, .ref q5, .ref q6, .int 0, .ref q7, .ref q8, .ref q9, .ref q10, .ref q11, .int 0, .ref q12, .ref q13, .int 0, .ref q14, .ref q15, .int 0, .null, .null])), (q1, .inl (cI, 200, .inl (fun _ => 0))), (q2, .inl (cI, 6, .inl (fun _ => 0))), (q3, .inl (cI, 7, .inl (fun _ => 0))), (q4, .inl (cI, 7, .inl (fun _ => 0))), (q5, .inl (cI, 14, .inl (fun _ => 0))), (q6, .inl (cI, 14, .inl (fun _ => 0))), (q7, .inl (cI, 25, .inl (fun _ => 0))), (q8, .inl (cI, 25, .inl (fun _ => 0))), (q9, .inl (cI, 50, .inl (fun _ => 0))), (q10, .inl (cZ, 2, .inl (fun _ => 0))), (q11, .inl (cI, 250, .inl (fun _ => 0))), (q12, .inl (cI, 6, .inl (fun _ => 0))), (q13, .inl (cI, 6, .inl (fun _ => 0))), (q14, .inl (cI, 6, .inl (fun _ => 0))), (q15, .inl (cI, 6, .inl (fun _ => 0)))]) rfl (fun H locs hW => ?_)
  refine lv_aload_n hx hb dX9_init_125 rfl (lv_at hl 0 rfl) ?_
  refine lv_bipush (v := (7 : Int32)) hx hb dX9_init_126 rfl ?_
  refine r_newI Sx hW (n := 7) (by decide) (Nat.le_of_ble_eq_true rfl) (Nat.le_of_ble_eq_true rfl) dX9_init_128 (fun q16 H hW => ?_)
  have hW : AtC D (tyG cI cZ cN) Ax [(h0, .inr (9, [.int 0, .long 0, .ref q1, .int 0, .int 0, .int 0, .int 0, .int 0, .int 0, .ref q2, .ref q3, .ref q4, .ref q5, .ref q6, .int 0, .ref q7, .ref q8, .ref q9, .ref q10, .ref q11, .int 0, .ref q12, .ref q13, .int 0, .ref q14, .ref q15, .int 0, .null, .null])), (q1, .inl (cI, 200, .inl (fun _ => 0))), (q2, .inl (cI, 6, .inl (fun _ => 0))), (q3, .inl (cI, 7, .inl (fun _ => 0))), (q4, .inl (cI, 7, .inl (fun _ => 0))), (q5, .inl (cI, 14, .inl (fun _ => 0))), (q6, .inl (cI, 14, .inl (fun _ => 0))), (q7, .inl (cI, 25, .inl (fun _ => 0))), (q8, .inl (cI, 25, .inl (fun _ => 0))), (q9, .inl (cI, 50, .inl (fun _ => 0))), (q10, .inl (cZ, 2, .inl (fun _ => 0))), (q11, .inl (cI, 250, .inl (fun _ => 0))), (q12, .inl (cI, 6, .inl (fun _ => 0))), (q13, .inl (cI, 6, .inl (fun _ => 0))), (q14, .inl (cI, 6, .inl (fun _ => 0))), (q15, .inl (cI, 6, .inl (fun _ => 0))), (q16, .inl (cI, 7, .inl (fun _ => 0)))] sx _ _ := hW
  refine r_putF Sx hin hW 0 rfl rfl bw_wsX90 tyX9_ok nmX9 27 (by decide) mw129 rfl rfl rfl rfl (Nat.le_of_ble_eq_true rfl) dX9_init_130 (ws' := [(h0, .inr (9, [.int 0, .long 0, .ref q1, .int 0, .int 0, .int 0, .int 0, .int 0, .int 0, .ref q2, .ref q3, .ref q4, .ref q5, .ref q6, .int 0, .ref q7, .ref q8, .ref q9, .ref q10, .ref q11, .int 0, .ref q12, .ref q13, .int 0, .ref q14, .ref q15, .int 0, .ref q16, .null])), (q1, .inl (cI, 200, .inl (fun _ => 0))), (q2, .inl (cI, 6, .inl (fun _ => 0))), (q3, .inl (cI, 7, .inl (fun _ => 0))), (q4, .inl (cI, 7, .inl (fun _ => 0))), (q5, .inl (cI, 14, .inl (fun _ => 0))), (q6, .inl (cI, 14, .inl (fun _ => 0))), (q7, .inl (cI, 25, .inl (fun _ => 0))), (q8, .inl (cI, 25, .inl (fun _ => 0))), (q9, .inl (cI, 50, .inl (fun _ => 0))), (q10, .inl (cZ, 2, .inl (fun _ => 0))), (q11, .inl (cI, 250, .inl (fun _ => 0))), (q12, .inl (cI, 6, .inl (fun _ => 0))), (q13, .inl (cI, 6, .inl (fun _ => 0))), (q14, .inl (cI, 6, .inl (fun _ => 0))), (q15, .inl (cI, 6, .inl (fun _ => 0))), (q16, .inl (cI, 7, .inl (fun _ => 0)))]) rfl (fun H locs hW => ?_)
  refine lv_aload_n hx hb dX9_init_133 rfl (lv_at hl 0 rfl) ?_
  refine lv_sipush (v := (128 : Int32)) hx hb dX9_init_134 rfl ?_
  refine r_newI Sx hW (n := 128) (by decide) (Nat.le_of_ble_eq_true rfl) (Nat.le_of_ble_eq_true rfl) dX9_init_137 (fun q17 H hW => ?_)
  have hW : AtC D (tyG cI cZ cN) Ax [(h0, .inr (9, [.int 0, .long 0, .ref q1, .int 0, .int 0, .int 0, .int 0, .int 0, .int 0, .ref q2, .ref q3, .ref q4, .ref q5, .ref q6, .int 0, .ref q7, .ref q8, .ref q9, .ref q10, .ref q11, .int 0, .ref q12, .ref q13, .int 0, .ref q14, .ref q15, .int 0, .ref q16, .null])), (q1, .inl (cI, 200, .inl (fun _ => 0))), (q2, .inl (cI, 6, .inl (fun _ => 0))), (q3, .inl (cI, 7, .inl (fun _ => 0))), (q4, .inl (cI, 7, .inl (fun _ => 0))), (q5, .inl (cI, 14, .inl (fun _ => 0))), (q6, .inl (cI, 14, .inl (fun _ => 0))), (q7, .inl (cI, 25, .inl (fun _ => 0))), (q8, .inl (cI, 25, .inl (fun _ => 0))), (q9, .inl (cI, 50, .inl (fun _ => 0))), (q10, .inl (cZ, 2, .inl (fun _ => 0))), (q11, .inl (cI, 250, .inl (fun _ => 0))), (q12, .inl (cI, 6, .inl (fun _ => 0))), (q13, .inl (cI, 6, .inl (fun _ => 0))), (q14, .inl (cI, 6, .inl (fun _ => 0))), (q15, .inl (cI, 6, .inl (fun _ => 0))), (q16, .inl (cI, 7, .inl (fun _ => 0))), (q17, .inl (cI, 128, .inl (fun _ => 0)))] sx _ _ := hW
  refine r_putF Sx hin hW 0 rfl rfl bw_wsX90 tyX9_ok nmX9 28 (by decide) mw130 rfl rfl rfl rfl (Nat.le_of_ble_eq_true rfl) dX9_init_139 (ws' := [(h0, .inr (9, [.int 0, .long 0, .ref q1, .int 0, .int 0, .int 0, .int 0, .int 0, .int 0, .ref q2, .ref q3, .ref q4, .ref q5, .ref q6, .int 0, .ref q7, .ref q8, .ref q9, .ref q10, .ref q11, .int 0, .ref q12, .ref q13, .int 0, .ref q14, .ref q15, .int 0, .ref q16, .ref q17])), (q1, .inl (cI, 200, .inl (fun _ => 0))), (q2, .inl (cI, 6, .inl (fun _ => 0))), (q3, .inl (cI, 7, .inl (fun _ => 0))), (q4, .inl (cI, 7, .inl (fun _ => 0))), (q5, .inl (cI, 14, .inl (fun _ => 0))), (q6, .inl (cI, 14, .inl (fun _ => 0))), (q7, .inl (cI, 25, .inl (fun _ => 0))), (q8, .inl (cI, 25, .inl (fun _ => 0))), (q9, .inl (cI, 50, .inl (fun _ => 0))), (q10, .inl (cZ, 2, .inl (fun _ => 0))), (q11, .inl (cI, 250, .inl (fun _ => 0))), (q12, .inl (cI, 6, .inl (fun _ => 0))), (q13, .inl (cI, 6, .inl (fun _ => 0))), (q14, .inl (cI, 6, .inl (fun _ => 0))), (q15, .inl (cI, 6, .inl (fun _ => 0))), (q16, .inl (cI, 7, .inl (fun _ => 0))), (q17, .inl (cI, 128, .inl (fun _ => 0)))]) rfl (fun H locs hW => ?_)
  refine lv_aload_n hx hb dX9_init_142 rfl (lv_at hl 0 rfl) ?_
  refine r_get Sx hW 0 rfl rfl bw_wsX90 9 (by decide) (v := .ref q2) rfl mw115 dX9_init_143 ?_
  refine lv_iconst (v := (0 : Int32)) hx hb dX9_init_146 rfl ?_
  refine lv_iconst (v := (4 : Int32)) hx hb dX9_init_147 rfl ?_
  refine r_iast Sx hW 2 0 rfl rfl (j := 0) rfl (by decide) (by decide) dX9_init_148 (ws' := [(h0, .inr (9, [.int 0, .long 0, .ref q1, .int 0, .int 0, .int 0, .int 0, .int 0, .int 0, .ref q2, .ref q3, .ref q4, .ref q5, .ref q6, .int 0, .ref q7, .ref q8, .ref q9, .ref q10, .ref q11, .int 0, .ref q12, .ref q13, .int 0, .ref q14, .ref q15, .int 0, .ref q16, .ref q17])), (q1, .inl (cI, 200, .inl (fun _ => 0))), (q2, .inl (cI, 6, .inl (upd (fun _ => 0) 0 4))), (q3, .inl (cI, 7, .inl (fun _ => 0))), (q4, .inl (cI, 7, .inl (fun _ => 0))), (q5, .inl (cI, 14, .inl (fun _ => 0))), (q6, .inl (cI, 14, .inl (fun _ => 0))), (q7, .inl (cI, 25, .inl (fun _ => 0))), (q8, .inl (cI, 25, .inl (fun _ => 0))), (q9, .inl (cI, 50, .inl (fun _ => 0))), (q10, .inl (cZ, 2, .inl (fun _ => 0))), (q11, .inl (cI, 250, .inl (fun _ => 0))), (q12, .inl (cI, 6, .inl (fun _ => 0))), (q13, .inl (cI, 6, .inl (fun _ => 0))), (q14, .inl (cI, 6, .inl (fun _ => 0))), (q15, .inl (cI, 6, .inl (fun _ => 0))), (q16, .inl (cI, 7, .inl (fun _ => 0))), (q17, .inl (cI, 128, .inl (fun _ => 0)))]) rfl (fun H locs hW => ?_)
  refine lv_aload_n hx hb dX9_init_149 rfl (lv_at hl 0 rfl) ?_
  refine r_get Sx hW 0 rfl rfl bw_wsX90 15 (by decide) (v := .ref q7) rfl mw120 dX9_init_150 ?_
  refine lv_bipush (v := (22 : Int32)) hx hb dX9_init_153 rfl ?_
  refine lv_bipush (v := (15 : Int32)) hx hb dX9_init_155 rfl ?_
  refine r_iast Sx hW 7 0 rfl rfl (j := 22) rfl (by decide) (by decide) dX9_init_157 (ws' := [(h0, .inr (9, [.int 0, .long 0, .ref q1, .int 0, .int 0, .int 0, .int 0, .int 0, .int 0, .ref q2, .ref q3, .ref q4, .ref q5, .ref q6, .int 0, .ref q7, .ref q8, .ref q9, .ref q10, .ref q11, .int 0, .ref q12, .ref q13, .int 0, .ref q14, .ref q15, .int 0, .ref q16, .ref q17])), (q1, .inl (cI, 200, .inl (fun _ => 0))), (q2, .inl (cI, 6, .inl (upd (fun _ => 0) 0 4))), (q3, .inl (cI, 7, .inl (fun _ => 0))), (q4, .inl (cI, 7, .inl (fun _ => 0))), (q5, .inl (cI, 14, .inl (fun _ => 0))), (q6, .inl (cI, 14, .inl (fun _ => 0))), (q7, .inl (cI, 25, .inl (upd (fun _ => 0) 22 15))), (q8, .inl (cI, 25, .inl (fun _ => 0))), (q9, .inl (cI, 50, .inl (fun _ => 0))), (q10, .inl (cZ, 2, .inl (fun _ => 0))), (q11, .inl (cI, 250, .inl (fun _ => 0))), (q12, .inl (cI, 6, .inl (fun _ => 0))), (q13, .inl (cI, 6, .inl (fun _ => 0))), (q14, .inl (cI, 6, .inl (fun _ => 0))), (q15, .inl (cI, 6, .inl (fun _ => 0))), (q16, .inl (cI, 7, .inl (fun _ => 0))), (q17, .inl (cI, 128, .inl (fun _ => 0)))]) rfl (fun H locs hW => ?_)
  refine W.widen (k := 17) (n := 759) (Nat.le_of_ble_eq_true rfl) (Nat.le_of_ble_eq_true rfl) ?_
  exact hret _ _ _ _ _ hW dX9_init_158 ⟨(fun i => if i = 0 then h0 else if i = 1 then q1 else if i = 2 then q2 else if i = 3 then q3 else if i = 4 then q4 else if i = 5 then q5 else if i = 6 then q6 else if i = 7 then q7 else if i = 8 then q8 else if i = 9 then q9 else if i = 10 then q10 else if i = 11 then q11 else if i = 12 then q12 else if i = 13 then q13 else if i = 14 then q14 else if i = 15 then q15 else if i = 16 then q16 else q17), rfl, rfl⟩

set_option maxHeartbeats 4000000 in
set_option maxRecDepth 100000 in
theorem c_X1_init (l : Launch) (D : va_G) (cI cZ cN : ClassId) (h0 : Nat) : CtN l yX1_init cX1_init 1 2 7 49 D (tyG cI cZ cN) h0 (.inr (1, [.null, .null, .null, .null, .int 0, .int 0])) (fun w => ∃ a : Nat → Nat, a 0 = h0 ∧ w = pLand cI a ld0 nw0) := by
  refine CtN.of rfl rfl (Nat.le_of_ble_eq_true rfl) ?_
  intro pg ev sx mx ax bx mt cx ls Qx Ax Sx hin hO hret hW hl
  have hx := Sx.1
  have hb := Sx.2.1
  refine lv_aload_n hx hb dX1_init_0 rfl (lv_at hl 0 rfl) ?_
  refine r_objI Sx mw66 hl.1 (Nat.le_of_ble_eq_true rfl) (Nat.le_of_ble_eq_true rfl) dX1_init_1 ?_
  refine lv_aload_n hx hb dX1_init_4 rfl (lv_at hl 0 rfl) ?_
  refine lv_bipush (v := (7 : Int32)) hx hb dX1_init_5 rfl ?_
  refine r_newI Sx hW (n := 7) (by decide) (Nat.le_of_ble_eq_true rfl) (Nat.le_of_ble_eq_true rfl) dX1_init_7 (fun q1 H hW => ?_)
  have hW : AtC D (tyG cI cZ cN) Ax [(h0, .inr (1, [.null, .null, .null, .null, .int 0, .int 0])), (q1, .inl (cI, 7, .inl (fun _ => 0)))] sx _ _ := hW
  refine r_putF Sx hin hW 0 rfl rfl bw_wsX10 tyX1_ok nmX1 0 (by decide) mw67 rfl rfl rfl rfl (Nat.le_of_ble_eq_true rfl) dX1_init_9 (ws' := [(h0, .inr (1, [.ref q1, .null, .null, .null, .int 0, .int 0])), (q1, .inl (cI, 7, .inl (fun _ => 0)))]) rfl (fun H locs hW => ?_)
  refine lv_aload_n hx hb dX1_init_12 rfl (lv_at hl 0 rfl) ?_
  refine lv_bipush (v := (7 : Int32)) hx hb dX1_init_13 rfl ?_
  refine r_newI Sx hW (n := 7) (by decide) (Nat.le_of_ble_eq_true rfl) (Nat.le_of_ble_eq_true rfl) dX1_init_15 (fun q2 H hW => ?_)
  have hW : AtC D (tyG cI cZ cN) Ax [(h0, .inr (1, [.ref q1, .null, .null, .null, .int 0, .int 0])), (q1, .inl (cI, 7, .inl (fun _ => 0))), (q2, .inl (cI, 7, .inl (fun _ => 0)))] sx _ _ := hW
  refine r_putF Sx hin hW 0 rfl rfl bw_wsX10 tyX1_ok nmX1 1 (by decide) mw68 rfl rfl rfl rfl (Nat.le_of_ble_eq_true rfl) dX1_init_17 (ws' := [(h0, .inr (1, [.ref q1, .ref q2, .null, .null, .int 0, .int 0])), (q1, .inl (cI, 7, .inl (fun _ => 0))), (q2, .inl (cI, 7, .inl (fun _ => 0)))]) rfl (fun H locs hW => ?_)
  refine lv_aload_n hx hb dX1_init_20 rfl (lv_at hl 0 rfl) ?_
  refine lv_bipush (v := (7 : Int32)) hx hb dX1_init_21 rfl ?_
  refine r_newI Sx hW (n := 7) (by decide) (Nat.le_of_ble_eq_true rfl) (Nat.le_of_ble_eq_true rfl) dX1_init_23 (fun q3 H hW => ?_)
  have hW : AtC D (tyG cI cZ cN) Ax [(h0, .inr (1, [.ref q1, .ref q2, .null, .null, .int 0, .int 0])), (q1, .inl (cI, 7, .inl (fun _ => 0))), (q2, .inl (cI, 7, .inl (fun _ => 0))), (q3, .inl (cI, 7, .inl (fun _ => 0)))] sx _ _ := hW
  refine r_putF Sx hin hW 0 rfl rfl bw_wsX10 tyX1_ok nmX1 2 (by decide) mw69 rfl rfl rfl rfl (Nat.le_of_ble_eq_true rfl) dX1_init_25 (ws' := [(h0, .inr (1, [.ref q1, .ref q2, .ref q3, .null, .int 0, .int 0])), (q1, .inl (cI, 7, .inl (fun _ => 0))), (q2, .inl (cI, 7, .inl (fun _ => 0))), (q3, .inl (cI, 7, .inl (fun _ => 0)))]) rfl (fun H locs hW => ?_)
  refine lv_aload_n hx hb dX1_init_28 rfl (lv_at hl 0 rfl) ?_
  refine r_newO Sx hW (ci := 2) (fs := [.null, .null, .null, .int 0, .int 0, .int 0, .int 0]) rfl bw_wsX20 tyX2_ok mw70 mw46 mw47 (fun j hj => by rcases (show j = 0 ∨ j = 1 ∨ j = 2 ∨ j = 3 ∨ j = 4 ∨ j = 5 ∨ j = 6 by omega) with rfl | rfl | rfl | rfl | rfl | rfl | rfl <;> rfl) (Nat.le_of_ble_eq_true rfl) (Nat.le_of_ble_eq_true rfl) dX1_init_29 (fun q4 H hW => ?_)
  refine lv_dup hx hb dX1_init_32 rfl ?_
  refine callIN Sx hO hW (c_X2_init l D cI cZ cN q4) mw74 mw47 mw75 rfl ⟨by decide, by decide, by decide +kernel⟩ 3 rfl hl.1 (rest := [.ref q4, .ref h0]) (Nat.le_of_ble_eq_true rfl) ⟨(Nat.le_of_ble_eq_true rfl), (Nat.le_of_ble_eq_true rfl)⟩ ⟨(Nat.le_of_ble_eq_true rfl), (Nat.le_of_ble_eq_true rfl)⟩ dX1_init_33 (fun wx H locs hqx hV => ?_)
  obtain ⟨a5, ea5, rfl⟩ := hqx
  subst ea5
  have hW : AtC D (tyG cI cZ cN) Ax ((h0, .inr (1, [.ref q1, .ref q2, .ref q3, .null, .int 0, .int 0])) :: (q1, .inl (cI, 7, .inl (fun _ => 0))) :: (q2, .inl (cI, 7, .inl (fun _ => 0))) :: (q3, .inl (cI, 7, .inl (fun _ => 0))) :: ([] ++ pNow cI a5 nw0)) sx H locs := hV
  refine r_putF Sx hin hW 0 rfl rfl bw_wsX10 tyX1_ok nmX1 3 (by decide) mw71 rfl rfl rfl rfl (Nat.le_of_ble_eq_true rfl) dX1_init_36 (ws' := ((h0, .inr (1, [.ref q1, .ref q2, .ref q3, .ref (a5 0), .int 0, .int 0])) :: (q1, .inl (cI, 7, .inl (fun _ => 0))) :: (q2, .inl (cI, 7, .inl (fun _ => 0))) :: (q3, .inl (cI, 7, .inl (fun _ => 0))) :: ([] ++ pNow cI a5 nw0))) rfl (fun H locs hW => ?_)
  refine lv_aload_n hx hb dX1_init_39 rfl (lv_at hl 0 rfl) ?_
  refine lv_iconst (v := (4 : Int32)) hx hb dX1_init_40 rfl ?_
  refine r_put Sx hW 0 rfl rfl bw_wsX10 tyX1_ok nmX1 4 (by decide) mw72 rfl rfl rfl (Nat.le_of_ble_eq_true rfl) dX1_init_41 (ws' := ((h0, .inr (1, [.ref q1, .ref q2, .ref q3, .ref (a5 0), .int 4, .int 0])) :: (q1, .inl (cI, 7, .inl (fun _ => 0))) :: (q2, .inl (cI, 7, .inl (fun _ => 0))) :: (q3, .inl (cI, 7, .inl (fun _ => 0))) :: ([] ++ pNow cI a5 nw0))) rfl (fun H locs hW => ?_)
  refine lv_aload_n hx hb dX1_init_44 rfl (lv_at hl 0 rfl) ?_
  refine lv_iconst (v := (0 : Int32)) hx hb dX1_init_45 rfl ?_
  refine r_put Sx hW 0 rfl rfl bw_wsX10 tyX1_ok nmX1 5 (by decide) mw73 rfl rfl rfl (Nat.le_of_ble_eq_true rfl) dX1_init_46 (ws' := ((h0, .inr (1, [.ref q1, .ref q2, .ref q3, .ref (a5 0), .int 4, .int 0])) :: (q1, .inl (cI, 7, .inl (fun _ => 0))) :: (q2, .inl (cI, 7, .inl (fun _ => 0))) :: (q3, .inl (cI, 7, .inl (fun _ => 0))) :: ([] ++ pNow cI a5 nw0))) rfl (fun H locs hW => ?_)
  refine W.widen (k := 7) (n := 49) (Nat.le_of_ble_eq_true rfl) (Nat.le_of_ble_eq_true rfl) ?_
  exact hret _ _ _ _ _ hW dX1_init_49 ⟨(fun i => if i = 0 then h0 else if i = 1 then q1 else if i = 2 then q2 else if i = 3 then q3 else a5 (i - 4)), rfl, rfl⟩

set_option maxHeartbeats 4000000 in
set_option maxRecDepth 100000 in
theorem c_X4_init (l : Launch) (D : va_G) (cI cZ cN : ClassId) (h0 : Nat) : CtN l yX4_init cX4_init 1 3 8 55 D (tyG cI cZ cN) h0 (.inr (4, [.null, .int 0, .int 0, .int 0, .int 0, .int 0])) (fun w => ∃ a : Nat → Nat, a 0 = h0 ∧ w = pRdr cI a rd0 ld0 nw0) := by
  refine CtN.of rfl rfl (Nat.le_of_ble_eq_true rfl) ?_
  intro pg ev sx mx ax bx mt cx ls Qx Ax Sx hin hO hret hW hl
  have hx := Sx.1
  have hb := Sx.2.1
  refine lv_aload_n hx hb dX4_init_0 rfl (lv_at hl 0 rfl) ?_
  refine r_objI Sx mw56 hl.1 (Nat.le_of_ble_eq_true rfl) (Nat.le_of_ble_eq_true rfl) dX4_init_1 ?_
  refine lv_aload_n hx hb dX4_init_4 rfl (lv_at hl 0 rfl) ?_
  refine r_newO Sx hW (ci := 1) (fs := [.null, .null, .null, .null, .int 0, .int 0]) rfl bw_wsX10 tyX1_ok mw57 mw21 mw22 (fun j hj => by rcases (show j = 0 ∨ j = 1 ∨ j = 2 ∨ j = 3 ∨ j = 4 ∨ j = 5 by omega) with rfl | rfl | rfl | rfl | rfl | rfl <;> rfl) (Nat.le_of_ble_eq_true rfl) (Nat.le_of_ble_eq_true rfl) dX4_init_5 (fun q1 H hW => ?_)
  refine lv_dup hx hb dX4_init_8 rfl ?_
  refine callIN Sx hO hW (c_X1_init l D cI cZ cN q1) mw64 mw22 mw65 rfl ⟨by decide, by decide, by decide +kernel⟩ 2 rfl hl.1 (rest := [.ref q1, .ref h0]) (Nat.le_of_ble_eq_true rfl) ⟨(Nat.le_of_ble_eq_true rfl), (Nat.le_of_ble_eq_true rfl)⟩ ⟨(Nat.le_of_ble_eq_true rfl), (Nat.le_of_ble_eq_true rfl)⟩ dX4_init_9 (fun wx H locs hqx hV => ?_)
  obtain ⟨a2, ea2, rfl⟩ := hqx
  subst ea2
  have hW : AtC D (tyG cI cZ cN) Ax ((h0, .inr (4, [.null, .int 0, .int 0, .int 0, .int 0, .int 0])) :: ([] ++ pLand cI a2 ld0 nw0)) sx H locs := hV
  refine r_putF Sx hin hW 0 rfl rfl bw_wsX40 tyX4_ok nmX4 0 (by decide) mw58 rfl rfl rfl rfl (Nat.le_of_ble_eq_true rfl) dX4_init_12 (ws' := ((h0, .inr (4, [.ref (a2 0), .int 0, .int 0, .int 0, .int 0, .int 0])) :: ([] ++ pLand cI a2 ld0 nw0))) rfl (fun H locs hW => ?_)
  refine lv_aload_n hx hb dX4_init_15 rfl (lv_at hl 0 rfl) ?_
  refine lv_iconst (v := (0 : Int32)) hx hb dX4_init_16 rfl ?_
  refine r_put Sx hW 0 rfl rfl bw_wsX40 tyX4_ok nmX4 1 (by decide) mw59 rfl rfl rfl (Nat.le_of_ble_eq_true rfl) dX4_init_17 (ws' := ((h0, .inr (4, [.ref (a2 0), .int 0, .int 0, .int 0, .int 0, .int 0])) :: ([] ++ pLand cI a2 ld0 nw0))) rfl (fun H locs hW => ?_)
  refine lv_aload_n hx hb dX4_init_20 rfl (lv_at hl 0 rfl) ?_
  refine lv_iconst (v := (0 : Int32)) hx hb dX4_init_21 rfl ?_
  refine r_put Sx hW 0 rfl rfl bw_wsX40 tyX4_ok nmX4 2 (by decide) mw60 rfl rfl rfl (Nat.le_of_ble_eq_true rfl) dX4_init_22 (ws' := ((h0, .inr (4, [.ref (a2 0), .int 0, .int 0, .int 0, .int 0, .int 0])) :: ([] ++ pLand cI a2 ld0 nw0))) rfl (fun H locs hW => ?_)
  refine lv_aload_n hx hb dX4_init_25 rfl (lv_at hl 0 rfl) ?_
  refine lv_sipush (v := (257 : Int32)) hx hb dX4_init_26 rfl ?_
  refine r_put Sx hW 0 rfl rfl bw_wsX40 tyX4_ok nmX4 3 (by decide) mw61 rfl rfl rfl (Nat.le_of_ble_eq_true rfl) dX4_init_29 (ws' := ((h0, .inr (4, [.ref (a2 0), .int 0, .int 0, .int 257, .int 0, .int 0])) :: ([] ++ pLand cI a2 ld0 nw0))) rfl (fun H locs hW => ?_)
  refine lv_aload_n hx hb dX4_init_32 rfl (lv_at hl 0 rfl) ?_
  refine lv_iconst (v := (0 : Int32)) hx hb dX4_init_33 rfl ?_
  refine r_put Sx hW 0 rfl rfl bw_wsX40 tyX4_ok nmX4 4 (by decide) mw62 rfl rfl rfl (Nat.le_of_ble_eq_true rfl) dX4_init_34 (ws' := ((h0, .inr (4, [.ref (a2 0), .int 0, .int 0, .int 257, .int 0, .int 0])) :: ([] ++ pLand cI a2 ld0 nw0))) rfl (fun H locs hW => ?_)
  refine lv_aload_n hx hb dX4_init_37 rfl (lv_at hl 0 rfl) ?_
  refine lv_iconst (v := (0 : Int32)) hx hb dX4_init_38 rfl ?_
  refine r_put Sx hW 0 rfl rfl bw_wsX40 tyX4_ok nmX4 5 (by decide) mw63 rfl rfl rfl (Nat.le_of_ble_eq_true rfl) dX4_init_39 (ws' := ((h0, .inr (4, [.ref (a2 0), .int 0, .int 0, .int 257, .int 0, .int 0])) :: ([] ++ pLand cI a2 ld0 nw0))) rfl (fun H locs hW => ?_)
  refine W.widen (k := 8) (n := 55) (Nat.le_of_ble_eq_true rfl) (Nat.le_of_ble_eq_true rfl) ?_
  exact hret _ _ _ _ _ hW dX4_init_42 ⟨(fun i => if i = 0 then h0 else a2 (i - 1)), rfl, rfl⟩

theorem nows_cong {cI : ClassId} {G G' : Nat → Nat → Nat} : ∀ i, (∀ j, j < i → G' j = G j) → nows cI G' i = nows cI G i
  | 0, _ => rfl
  | i + 1, h => by rw [nows, nows, nows_cong i (fun j hj => h j (by omega)), h i (by omega)]
def rowsF (G : Nat → Nat → Nat) (i : Nat) : Nat → Option Nat := fun j => if j < i then some (G j 0) else none
theorem rowsF_up (G : Nat → Nat → Nat) (i : Nat) (b : Nat → Nat) : va_up (rowsF G i) i (some (b 0)) = rowsF (fun j => if j = i then b else G j) (i + 1) := by
  funext j
  unfold rowsF va_up
  by_cases e : j = i
  · subst e; simp
  · by_cases h : j < i
    · simp [e, h, show j < i + 1 by omega]
    · simp [e, h, show ¬ j < i + 1 by omega]
theorem nows_up (cI : ClassId) (G : Nat → Nat → Nat) (i : Nat) (b : Nat → Nat) : nows cI (fun j => if j = i then b else G j) (i + 1) = nows cI G i ++ pNow cI b nw0 := by
  rw [nows, nows_cong (G := G) i (fun j hj => by rw [if_neg (by omega)]), if_pos rfl]

set_option maxHeartbeats 4000000 in
set_option maxRecDepth 100000 in
theorem c_X3_init (l : Launch) (D : va_G) (cI cZ cN : ClassId) (h0 : Nat) : CtN l yX3_init cX3_init 2 2 41 290 D (tyG cI cZ cN) h0 (.inr (3, [.null, .int 0, .int 0])) (fun w => ∃ a : Nat → Nat, a 0 = h0 ∧ w = pPast cI cN a zz (fun _ => nw0)) := by
  refine CtN.of rfl rfl (Nat.le_of_ble_eq_true rfl) ?_
  intro pg ev sx mx ax bx mt cx ls Qx Ax Sx hin hO hret hW hl
  have hx := Sx.1
  have hb := Sx.2.1
  refine lv_aload_n hx hb dX3_init_0 rfl (lv_at hl 0 rfl) ?_
  refine r_objI Sx mw87 hl.1 (Nat.le_of_ble_eq_true rfl) (Nat.le_of_ble_eq_true rfl) dX3_init_1 ?_
  refine lv_aload_n hx hb dX3_init_4 rfl (lv_at hl 0 rfl) ?_
  refine lv_bipush (v := (10 : Int32)) hx hb dX3_init_5 rfl ?_
  refine r_newQ Sx hO hW (n := 10) (by decide) mw88 (Nat.le_of_ble_eq_true rfl) (Nat.le_of_ble_eq_true rfl) dX3_init_7 (fun q1 H hW => ?_)
  have hW : AtC D (tyG cI cZ cN) Ax [(h0, .inr (3, [.null, .int 0, .int 0])), (q1, .inl (cN, 10, .inr (.inr (.inr (.inr (fun _ => none))))))] sx _ _ := hW
  refine r_putF Sx hin hW 0 rfl rfl bw_wsX30 tyX3_ok nmX3 0 (by decide) mw89 rfl rfl rfl rfl (Nat.le_of_ble_eq_true rfl) dX3_init_10 (ws' := [(h0, .inr (3, [.ref q1, .int 0, .int 0])), (q1, .inl (cN, 10, .inr (.inr (.inr (.inr (fun _ => none))))))]) rfl (fun H locs hW => ?_)
  refine lv_aload_n hx hb dX3_init_13 rfl (lv_at hl 0 rfl) ?_
  refine lv_iconst (v := (0 : Int32)) hx hb dX3_init_14 rfl ?_
  refine r_put Sx hW 0 rfl rfl bw_wsX30 tyX3_ok nmX3 1 (by decide) mw90 rfl rfl rfl (Nat.le_of_ble_eq_true rfl) dX3_init_15 (ws' := [(h0, .inr (3, [.ref q1, .int 0, .int 0])), (q1, .inl (cN, 10, .inr (.inr (.inr (.inr (fun _ => none))))))]) rfl (fun H locs hW => ?_)
  refine lv_aload_n hx hb dX3_init_18 rfl (lv_at hl 0 rfl) ?_
  refine lv_iconst (v := (0 : Int32)) hx hb dX3_init_19 rfl ?_
  refine r_put Sx hW 0 rfl rfl bw_wsX30 tyX3_ok nmX3 2 (by decide) mw91 rfl rfl rfl (Nat.le_of_ble_eq_true rfl) dX3_init_20 (ws' := [(h0, .inr (3, [.ref q1, .int 0, .int 0])), (q1, .inl (cN, 10, .inr (.inr (.inr (.inr (fun _ => none))))))]) rfl (fun H locs hW => ?_)
  refine lv_iconst (v := (0 : Int32)) hx hb dX3_init_23 rfl ?_
  refine lv_istore_n (lv' := [(1, .int (0 : Int32)), (0, .ref h0)]) hx hb dX3_init_24 rfl hl (by decide) rfl (fun ls hl => ?_)
  have lp : ∀ (n i : Nat) (G : Nat → Nat → Nat), i + n = 10 → ∀ (H : Heap) (locs : List Loc) (ls : Array Slot), AtC D (tyG cI cZ cN) Ax ((h0, .inr (3, [.ref q1, .int 0, .int 0])) :: (q1, .inl (cN, 10, .inr (.inr (.inr (.inr (rowsF G i)))))) :: nows cI G i) sx H locs → lv_has ls 2 [(1, .int (nI i)), (0, .ref h0)] → W pg l ev (rmC 2 41 290) sx mx ax bx mt cx H locs (1 + 4 * i) (10 + 28 * i) Qx (F0 mx 25 ls []) := by
    intro n
    induction n with
    | zero =>
      intro i G hi H locs ls hW hl
      obtain rfl : i = 10 := by omega
      refine lv_iload_n hx hb dX3_init_25 rfl (lv_at hl 0 rfl) ?_
      refine lv_bipush (v := (10 : Int32)) hx hb dX3_init_26 rfl ?_
      refine lv_icmp_ge (tgt := 50) hx hb dX3_init_28 rfl (fun c_28 => ?_) (fun c_28 => absurd (by decide) c_28)
      have hW := hW.fcong 1 (g := fun i => some ((fun k => if k = 0 then h0 else if k = 1 then q1 else G ((k - 2) / 4) ((k - 2) % 4)) (4 * i + 2))) rfl (fun j hj => by
        show rowsF G 10 j = some (if 4 * j + 2 = 0 then h0 else if 4 * j + 2 = 1 then q1 else G ((4 * j + 2 - 2) / 4) ((4 * j + 2 - 2) % 4))
        unfold rowsF
        rw [if_pos hj, if_neg (by omega), if_neg (by omega), show (4 * j + 2 - 2) / 4 = j from by omega, show (4 * j + 2 - 2) % 4 = 0 from by omega])
      exact hret _ _ _ _ _ hW dX3_init_50 ⟨(fun k => if k = 0 then h0 else if k = 1 then q1 else G ((k - 2) / 4) ((k - 2) % 4)), rfl, rfl⟩
    | succ n ih =>
      intro i G hi H locs ls hW hl
      refine lv_iload_n hx hb dX3_init_25 rfl (lv_at hl 0 rfl) ?_
      refine lv_bipush (v := (10 : Int32)) hx hb dX3_init_26 rfl ?_
      refine lv_icmp_ge (tgt := 50) hx hb dX3_init_28 rfl (fun c_28 => ?_) (fun c_28 => ?_)
      · have := (nI_leI (a := 10) (b := i) (by decide) (by omega)).mp c_28
        omega
      · refine lv_aload_n hx hb dX3_init_31 rfl (lv_at hl 1 rfl) ?_
        refine r_get Sx hW 0 rfl rfl bw_wsX30 0 (by decide) (v := .ref q1) rfl mw89 dX3_init_32 ?_
        refine lv_iload_n hx hb dX3_init_35 rfl (lv_at hl 0 rfl) ?_
        refine r_newO Sx hW (ci := 2) (fs := [.null, .null, .null, .int 0, .int 0, .int 0, .int 0]) rfl bw_wsX20 tyX2_ok mw88 mw46 mw47 (fun j hj => by rcases (show j = 0 ∨ j = 1 ∨ j = 2 ∨ j = 3 ∨ j = 4 ∨ j = 5 ∨ j = 6 by omega) with rfl | rfl | rfl | rfl | rfl | rfl | rfl <;> rfl) (show 1 + 4 * i + 1 ≤ 41 by omega) (show 10 + 28 * i + 7 ≤ 290 by omega) dX3_init_36 (fun q H hW => ?_)
        refine lv_dup hx hb dX3_init_39 rfl ?_
        refine callIN Sx hO hW (c_X2_init l D cI cZ cN q) mw74 mw47 mw75 rfl ⟨by decide, by decide, by decide +kernel⟩ 5 rfl hl.1 (rest := [.ref q, .int (nI i), .ref q1]) (Nat.le_of_ble_eq_true rfl) ⟨Nat.le_of_ble_eq_true rfl, Nat.le_of_ble_eq_true rfl⟩ ⟨(show 1 + 4 * i + 1 + 3 ≤ 41 by omega), (show 10 + 28 * i + 7 + 21 ≤ 290 by omega)⟩ dX3_init_40 (fun wx H locs hqx hV => ?_)
        obtain ⟨b, eb, rfl⟩ := hqx
        subst eb
        have hW : AtC D (tyG cI cZ cN) Ax ((h0, .inr (3, [.ref q1, .int 0, .int 0])) :: (q1, .inl (cN, 10, .inr (.inr (.inr (.inr (rowsF G i)))))) :: (nows cI G i ++ pNow cI b nw0)) sx H locs := hV
        refine r_aastN Sx hW 1 (2 + (nows cI G i).length) (vs := [.ref (b 1), .ref (b 2), .ref (b 3), .int (nw0 3 0), .int (nw0 3 1), .int (nw0 3 2), .int (nw0 3 3)]) (i := i) rfl ?_ (by omega) (by decide) dX3_init_43 (ws' := ((h0, .inr (3, [.ref q1, .int 0, .int 0])) :: (q1, .inl (cN, 10, .inr (.inr (.inr (.inr (va_up (rowsF G i) i (some (b 0)))))))) :: (nows cI G i ++ pNow cI b nw0))) rfl (fun H locs hW => ?_)
        · rw [Nat.add_comm]; exact app_at (nows cI G i) (b 0, .inr (2, _)) _
        rw [rowsF_up, ← nows_up] at hW
        refine lv_iinc (v := (nI (i + 1))) (lv' := [(1, .int (nI (i + 1))), (0, .ref h0)]) hx hb dX3_init_44 hl (k := 0) rfl (inc_n i 1) (by decide) rfl (fun ls hl => ?_)
        refine lv_goto (tgt := 25) hx hb dX3_init_47 rfl ?_
        refine W.widen (k := 1 + 4 * (i + 1)) (n := 10 + 28 * (i + 1)) (by omega) (by omega) ?_
        exact ih (i + 1) _ (by omega) _ _ _ hW hl
  refine W.widen (k := 1 + 4 * 0) (n := 10 + 28 * 0) (Nat.le_of_ble_eq_true rfl) (Nat.le_of_ble_eq_true rfl) ?_
  exact lp 10 0 (fun _ _ => 0) rfl _ _ _ (hW.fcong 1 (g := rowsF (fun _ _ => 0) 0) rfl (fun j hj => by unfold rowsF; rw [if_neg (by omega)])) hl
