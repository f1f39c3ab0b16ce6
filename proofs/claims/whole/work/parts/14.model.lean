set_option maxHeartbeats 4000000 in
set_option maxRecDepth 100000 in
theorem c_X9_in (l : Launch) (D : va_G) (cI cZ cN : ClassId) (x lo hi : Int32) : CtI l yX9_in cX9_in 3 (some .boolean) 0 D (tyG cI cZ cN) [.int x, .int lo, .int hi] [] (fun r w => r = inI x lo hi ∧ w = []) := by
  refine CtI.of rfl (Nat.le_of_ble_eq_true rfl) ?_
  intro pg ev sx mx ax bx mt cx ls Qx Ax Sx hret hW hl
  have hx := Sx.1
  have hb := Sx.2.1
  have hl : lv_has ls 3 [(0, .int x), (1, .int lo), (2, .int hi)] := hl
  refine lv_iload_n hx hb dX9_in_0 rfl (lv_at hl 0 rfl) ?_
  refine lv_iload_n hx hb dX9_in_1 rfl (lv_at hl 1 rfl) ?_
  refine lv_icmp_lt (tgt := 14) hx hb dX9_in_2 rfl (fun c_2 => ?_) (fun c_2 => ?_)
  · refine lv_iconst (v := (0 : Int32)) hx hb dX9_in_14 rfl ?_
    exact hret _ _ _ _ _ _ hW rfl rfl dX9_in_15 (⟨by simp [inI, c_2], rfl⟩)
  · refine lv_iload_n hx hb dX9_in_5 rfl (lv_at hl 0 rfl) ?_
    refine lv_iload_n hx hb dX9_in_6 rfl (lv_at hl 2 rfl) ?_
    refine lv_icmp_gt (tgt := 14) hx hb dX9_in_7 rfl (fun c_7 => ?_) (fun c_7 => ?_)
    · refine lv_iconst (v := (0 : Int32)) hx hb dX9_in_14 rfl ?_
      exact hret _ _ _ _ _ _ hW rfl rfl dX9_in_15 (⟨by simp [inI, c_2, c_7], rfl⟩)
    · refine lv_iconst (v := (1 : Int32)) hx hb dX9_in_10 rfl ?_
      refine lv_goto (tgt := 15) hx hb dX9_in_11 rfl ?_
      exact hret _ _ _ _ _ _ hW rfl rfl dX9_in_15 (⟨by simp [inI, c_2, c_7], rfl⟩)

set_option maxHeartbeats 4000000 in
set_option maxRecDepth 100000 in
theorem c_X9_ones (l : Launch) (D : va_G) (cI cZ cN : ClassId) (x : Int32) : CtI l yX9_ones cX9_ones 3 (some .int) 0 D (tyG cI cZ cN) [.int x] [] (fun r w => r = onI x 7 ∧ w = []) := by
  refine CtI.of rfl (Nat.le_of_ble_eq_true rfl) ?_
  intro pg ev sx mx ax bx mt cx ls Qx Ax Sx hret hW hl
  have hx := Sx.1
  have hb := Sx.2.1
  have hl : lv_has ls 3 [(0, .int x)] := hl
  refine lv_iconst (v := (0 : Int32)) hx hb dX9_ones_0 rfl ?_
  refine lv_istore_n (lv' := [(1, .int (0 : Int32)), (0, .int x)]) hx hb dX9_ones_1 rfl hl (by decide) rfl (fun ls hl => ?_)
  refine lv_iconst (v := (0 : Int32)) hx hb dX9_ones_2 rfl ?_
  refine lv_istore_n (lv' := [(2, .int (0 : Int32)), (1, .int (0 : Int32)), (0, .int x)]) hx hb dX9_ones_3 rfl hl (by decide) rfl (fun ls hl => ?_)
  have lp_4 : ∀ (n : Nat) (i : Nat), ((i ≤ 7)) → ((7 + 1 ≤ i + n)) → ∀ (H : Heap) (locs : List Loc) (ls : Array Slot), AtC D (tyG cI cZ cN) Ax [] sx H locs → lv_has ls 3 [(0, .int x), (1, .int (onI x i)), (2, .int (nI i))] → W pg l ev (rmN 0) sx mx ax bx mt cx H locs 0 0 Qx (F0 mx 4 ls []) := by
    intro n
    induction n with
    | zero =>
      intro i hi_4 hn_4 H locs ls hW hl
      exact absurd hn_4 (by omega)
    | succ n ih4 =>
      intro i hi_4 hn_4 H locs ls hW hl
      refine lv_iload_n hx hb dX9_ones_4 rfl (lv_at hl 2 rfl) ?_
      refine lv_bipush (v := (7 : Int32)) hx hb dX9_ones_5 rfl ?_
      refine lv_icmp_ge (tgt := 24) hx hb dX9_ones_7 rfl (fun c_7 => ?_) (fun c_7 => ?_)
      · have ge_7 : 7 ≤ i := (nI_leI (a := 7) (b := i) (by omega) (by omega)).mp c_7
        have ee_7 : 7 = i := by omega
        subst ee_7
        refine lv_iload_n hx hb dX9_ones_24 rfl (lv_at hl 1 rfl) ?_
        exact hret _ _ _ _ _ _ hW rfl rfl dX9_ones_25 (⟨rfl, rfl⟩)
      · have lt_7 : i < 7 := Nat.not_le.mp (fun h => c_7 ((nI_leI (a := 7) (b := i) (by omega) (by omega)).mpr h))
        refine lv_iload_n hx hb dX9_ones_10 rfl (lv_at hl 1 rfl) ?_
        refine lv_iload_n hx hb dX9_ones_11 rfl (lv_at hl 0 rfl) ?_
        refine lv_iload_n hx hb dX9_ones_12 rfl (lv_at hl 2 rfl) ?_
        refine lv_ishr hx hb dX9_ones_13 ?_
        refine lv_iconst (v := (1 : Int32)) hx hb dX9_ones_14 rfl ?_
        refine lv_iand hx hb dX9_ones_15 ?_
        refine lv_iadd hx hb dX9_ones_16 ?_
        refine lv_istore_n (lv' := [(1, .int ((onI x i) + ((x >>> ((nI i) &&& 31)) &&& (1 : Int32)))), (0, .int x), (2, .int (nI i))]) hx hb dX9_ones_17 rfl hl (by decide) rfl (fun ls hl => ?_)
        refine lv_iinc (v := (nI (i + 1))) (lv' := [(2, .int (nI (i + 1))), (1, .int ((onI x i) + ((x >>> ((nI i) &&& 31)) &&& (1 : Int32)))), (0, .int x)]) hx hb dX9_ones_18 hl (k := 2) rfl (inc_n i 1) (by decide) rfl (fun ls hl => ?_)
        refine lv_goto (tgt := 4) hx hb dX9_ones_21 rfl ?_
        exact ih4 (i + 1) (by omega) (by omega) _ _ _ hW (lv_sub hl [2, 1, 0] rfl)
  exact lp_4 (7 + 1) 0 (by omega) (by omega) _ _ _ hW (lv_sub hl [2, 1, 0] rfl)

set_option maxHeartbeats 4000000 in
set_option maxRecDepth 100000 in
theorem c_X9_isPerson (l : Launch) (D : va_G) (cI cZ cN : ClassId) (b : Nat → Nat) (M : NV) (tr : Int64) (N C : Nat) (hN : M 2 1 = nI N) (hN7 : N ≤ 7) (hC : M 2 0 = nI C) (hC4 : C ≤ 4) (hC1 : 1 ≤ C) (p0 : Int32) : CtI l yX9_isPerson cX9_isPerson 2 (some .boolean) 1 D (tyG cI cZ cN) [.ref (b 0), .int p0] (pMod cI cZ b M tr) (fun r w => r = inI p0 0 (nI N - 1) ∧ w = (pMod cI cZ b M tr)) := by
  refine CtI.of rfl (Nat.le_of_ble_eq_true rfl) ?_
  intro pg ev sx mx ax bx mt cx ls Qx Ax Sx hret hW hl
  have hx := Sx.1
  have hb := Sx.2.1
  have hl : lv_has ls 2 [(0, .ref (b 0)), (1, .int p0)] := hl
  refine lv_iload_n hx hb dX9_isPerson_0 rfl (lv_at hl 1 rfl) ?_
  refine lv_iconst (v := (0 : Int32)) hx hb dX9_isPerson_1 rfl ?_
  refine lv_aload_n hx hb dX9_isPerson_2 rfl (lv_at hl 0 rfl) ?_
  refine r_get Sx hW 0 rfl rfl bw_wsX90 9 (by decide) (v := .ref (b 2)) rfl mw115 dX9_isPerson_3 ?_
  refine lv_iconst (v := (1 : Int32)) hx hb dX9_isPerson_6 rfl ?_
  refine r_iald Sx hW 2 0 rfl rfl (j := 1) rfl (by decide) (by decide) dX9_isPerson_7 ?_
  refine r_eq (y := (nI N)) hN ?_
  refine lv_iconst (v := (1 : Int32)) hx hb dX9_isPerson_8 rfl ?_
  refine lv_isub hx hb dX9_isPerson_9 ?_
  refine callSI Sx hW (c_X9_in l D cI cZ cN p0 (0 : Int32) ((nI N) - (1 : Int32))) smX9_in mw146 (As := [.int p0, .int (0 : Int32), .int ((nI N) - (1 : Int32))]) (rest := []) rfl rfl hl.1 (Nat.le_of_ble_eq_true rfl) ⟨Nat.le_of_ble_eq_true rfl, Nat.le_of_ble_eq_true rfl⟩ ⟨Nat.le_refl _, Nat.le_refl _⟩ dX9_isPerson_10 (fun rx H locs hqx hW => ?_)
  obtain ⟨hrx, -⟩ := hqx
  refine r_eq (y := (inI p0 (0 : Int32) ((nI N) - (1 : Int32)))) hrx ?_
  exact hret _ _ _ _ _ _ hW rfl (inI_nar _ _ _) dX9_isPerson_13 (⟨rfl, rfl⟩)

set_option maxHeartbeats 4000000 in
set_option maxRecDepth 100000 in
theorem c_X9_isName (l : Launch) (D : va_G) (cI cZ cN : ClassId) (b : Nat → Nat) (M : NV) (tr : Int64) (N C : Nat) (hN : M 2 1 = nI N) (hN7 : N ≤ 7) (hC : M 2 0 = nI C) (hC4 : C ≤ 4) (hC1 : 1 ≤ C) (p0 : Int32) : CtI l yX9_isName cX9_isName 2 (some .boolean) 1 D (tyG cI cZ cN) [.ref (b 0), .int p0] (pMod cI cZ b M tr) (fun r w => r = inI p0 0 (nI C - 1) ∧ w = (pMod cI cZ b M tr)) := by
  refine CtI.of rfl (Nat.le_of_ble_eq_true rfl) ?_
  intro pg ev sx mx ax bx mt cx ls Qx Ax Sx hret hW hl
  have hx := Sx.1
  have hb := Sx.2.1
  have hl : lv_has ls 2 [(0, .ref (b 0)), (1, .int p0)] := hl
  refine lv_iload_n hx hb dX9_isName_0 rfl (lv_at hl 1 rfl) ?_
  refine lv_iconst (v := (0 : Int32)) hx hb dX9_isName_1 rfl ?_
  refine lv_aload_n hx hb dX9_isName_2 rfl (lv_at hl 0 rfl) ?_
  refine r_get Sx hW 0 rfl rfl bw_wsX90 9 (by decide) (v := .ref (b 2)) rfl mw115 dX9_isName_3 ?_
  refine lv_iconst (v := (0 : Int32)) hx hb dX9_isName_6 rfl ?_
  refine r_iald Sx hW 2 0 rfl rfl (j := 0) rfl (by decide) (by decide) dX9_isName_7 ?_
  refine r_eq (y := (nI C)) hC ?_
  refine lv_iconst (v := (1 : Int32)) hx hb dX9_isName_8 rfl ?_
  refine lv_isub hx hb dX9_isName_9 ?_
  refine callSI Sx hW (c_X9_in l D cI cZ cN p0 (0 : Int32) ((nI C) - (1 : Int32))) smX9_in mw146 (As := [.int p0, .int (0 : Int32), .int ((nI C) - (1 : Int32))]) (rest := []) rfl rfl hl.1 (Nat.le_of_ble_eq_true rfl) ⟨Nat.le_of_ble_eq_true rfl, Nat.le_of_ble_eq_true rfl⟩ ⟨Nat.le_refl _, Nat.le_refl _⟩ dX9_isName_10 (fun rx H locs hqx hW => ?_)
  obtain ⟨hrx, -⟩ := hqx
  refine r_eq (y := (inI p0 (0 : Int32) ((nI C) - (1 : Int32)))) hrx ?_
  exact hret _ _ _ _ _ _ hW rfl (inI_nar _ _ _) dX9_isName_13 (⟨rfl, rfl⟩)

set_option maxHeartbeats 4000000 in
set_option maxRecDepth 100000 in
theorem c_X9_everybody (l : Launch) (D : va_G) (cI cZ cN : ClassId) (b : Nat → Nat) (M : NV) (tr : Int64) (N C : Nat) (hN : M 2 1 = nI N) (hN7 : N ≤ 7) (hC : M 2 0 = nI C) (hC4 : C ≤ 4) (hC1 : 1 ≤ C) : CtI l yX9_everybody cX9_everybody 1 (some .int) 0 D (tyG cI cZ cN) [.ref (b 0)] (pMod cI cZ b M tr) (fun r w => r = evM N ∧ w = (pMod cI cZ b M tr)) := by
  refine CtI.of rfl (Nat.le_of_ble_eq_true rfl) ?_
  intro pg ev sx mx ax bx mt cx ls Qx Ax Sx hret hW hl
  have hx := Sx.1
  have hb := Sx.2.1
  have hl : lv_has ls 1 [(0, .ref (b 0))] := hl
  refine lv_iconst (v := (1 : Int32)) hx hb dX9_everybody_0 rfl ?_
  refine lv_aload_n hx hb dX9_everybody_1 rfl (lv_at hl 0 rfl) ?_
  refine r_get Sx hW 0 rfl rfl bw_wsX90 9 (by decide) (v := .ref (b 2)) rfl mw115 dX9_everybody_2 ?_
  refine lv_iconst (v := (1 : Int32)) hx hb dX9_everybody_5 rfl ?_
  refine r_iald Sx hW 2 0 rfl rfl (j := 1) rfl (by decide) (by decide) dX9_everybody_6 ?_
  refine r_eq (y := (nI N)) hN ?_
  refine lv_ishl hx hb dX9_everybody_7 ?_
  refine lv_iconst (v := (1 : Int32)) hx hb dX9_everybody_8 rfl ?_
  refine lv_isub hx hb dX9_everybody_9 ?_
  exact hret _ _ _ _ _ _ hW rfl rfl dX9_everybody_10 (⟨rfl, rfl⟩)

set_option maxHeartbeats 4000000 in
set_option maxRecDepth 100000 in
theorem c_X9_peopleOf_s (l : Launch) (D : va_G) (cI cZ cN : ClassId) (b : Nat → Nat) (M : NV) (tr : Int64) (N C : Nat) (hN : M 2 1 = nI N) (hN7 : N ≤ 7) (hC : M 2 0 = nI C) (hC4 : C ≤ 4) (hC1 : 1 ≤ C) (k : Int32) : CtI l yX9_peopleOf cX9_peopleOf 5 (some .int) 0 D (tyG cI cZ cN) [.ref (b 0), .ref (b 7), .int k] (pMod cI cZ b M tr) (fun r w => r = ppO (M 7) k N ∧ w = (pMod cI cZ b M tr)) := by
  refine CtI.of rfl (Nat.le_of_ble_eq_true rfl) ?_
  intro pg ev sx mx ax bx mt cx ls Qx Ax Sx hret hW hl
  have hx := Sx.1
  have hb := Sx.2.1
  have hl : lv_has ls 5 [(0, .ref (b 0)), (1, .ref (b 7)), (2, .int k)] := hl
  refine lv_iconst (v := (0 : Int32)) hx hb dX9_peopleOf_0 rfl ?_
  refine lv_istore_n (lv' := [(3, .int (0 : Int32)), (0, .ref (b 0)), (1, .ref (b 7)), (2, .int k)]) hx hb dX9_peopleOf_1 rfl hl (by decide) rfl (fun ls hl => ?_)
  refine lv_iconst (v := (0 : Int32)) hx hb dX9_peopleOf_2 rfl ?_
  refine lv_istore (lv' := [(4, .int (0 : Int32)), (3, .int (0 : Int32)), (0, .ref (b 0)), (1, .ref (b 7)), (2, .int k)]) hx hb dX9_peopleOf_3 hl (by decide) rfl (fun ls hl => ?_)
  have lp_5 : ∀ (n : Nat) (i : Nat), ((i ≤ N)) → ((N + 1 ≤ i + n)) → ∀ (H : Heap) (locs : List Loc) (ls : Array Slot), AtC D (tyG cI cZ cN) Ax (pMod cI cZ b M tr) sx H locs → lv_has ls 5 [(0, .ref (b 0)), (1, .ref (b 7)), (2, .int k), (3, .int (ppO (M 7) k i)), (4, .int (nI i))] → W pg l ev (rmN 0) sx mx ax bx mt cx H locs 0 0 Qx (F0 mx 5 ls []) := by
    intro n
    induction n with
    | zero =>
      intro i hi_5 hn_5 H locs ls hW hl
      exact absurd hn_5 (by omega)
    | succ n ih5 =>
      intro i hi_5 hn_5 H locs ls hW hl
      refine lv_iload hx hb dX9_peopleOf_5 (lv_at hl 4 rfl) ?_
      refine lv_aload_n hx hb dX9_peopleOf_7 rfl (lv_at hl 0 rfl) ?_
      refine r_get Sx hW 0 rfl rfl bw_wsX90 9 (by decide) (v := .ref (b 2)) rfl mw115 dX9_peopleOf_8 ?_
      refine lv_iconst (v := (1 : Int32)) hx hb dX9_peopleOf_11 rfl ?_
      refine r_iald Sx hW 2 0 rfl rfl (j := 1) rfl (by decide) (by decide) dX9_peopleOf_12 ?_
      refine r_eq (y := (nI N)) hN ?_
      refine lv_icmp_ge (tgt := 43) hx hb dX9_peopleOf_13 rfl (fun c_13 => ?_) (fun c_13 => ?_)
      · have ge_13 : N ≤ i := (nI_leI (a := N) (b := i) (by omega) (by omega)).mp c_13
        have ee_13 : N = i := by omega
        subst ee_13
        refine lv_iload_n hx hb dX9_peopleOf_43 rfl (lv_at hl 3 rfl) ?_
        exact hret _ _ _ _ _ _ hW rfl rfl dX9_peopleOf_44 (⟨rfl, rfl⟩)
      · have lt_13 : i < N := Nat.not_le.mp (fun h => c_13 ((nI_leI (a := N) (b := i) (by omega) (by omega)).mpr h))
        refine lv_iload_n hx hb dX9_peopleOf_16 rfl (lv_at hl 3 rfl) ?_
        refine lv_aload_n hx hb dX9_peopleOf_17 rfl (lv_at hl 1 rfl) ?_
        refine lv_iconst (v := (0 : Int32)) hx hb dX9_peopleOf_18 rfl ?_
        refine lv_iload hx hb dX9_peopleOf_19 (lv_at hl 4 rfl) ?_
        refine lv_iadd hx hb dX9_peopleOf_21 ?_
        refine r_eq (y := (nI i)) ((nI_add 0 i).trans (congrArg nI (Nat.zero_add i))) ?_
        refine r_iald Sx hW 7 0 rfl rfl (j := i) rfl (by omega) (by decide) dX9_peopleOf_22 ?_
        refine lv_iload_n hx hb dX9_peopleOf_23 rfl (lv_at hl 2 rfl) ?_
        refine lv_icmp_ne (tgt := 34) hx hb dX9_peopleOf_24 rfl (fun c_24 => ?_) (fun c_24 => ?_)
        · refine lv_iconst (v := (0 : Int32)) hx hb dX9_peopleOf_34 rfl ?_
          refine lv_ior hx hb dX9_peopleOf_35 ?_
          refine lv_istore_n (lv' := [(3, .int ((ppO (M 7) k i) ||| (0 : Int32))), (0, .ref (b 0)), (1, .ref (b 7)), (2, .int k), (4, .int (nI i))]) hx hb dX9_peopleOf_36 rfl hl (by decide) rfl (fun ls hl => ?_)
          refine lv_iinc (v := (nI (i + 1))) (lv' := [(4, .int (nI (i + 1))), (3, .int ((ppO (M 7) k i) ||| (0 : Int32))), (0, .ref (b 0)), (1, .ref (b 7)), (2, .int k)]) hx hb dX9_peopleOf_37 hl (k := 4) rfl (inc_n i 1) (by decide) rfl (fun ls hl => ?_)
          refine lv_goto (tgt := 5) hx hb dX9_peopleOf_40 rfl ?_
          have hl_1 : lv_has ls 5 [(0, .ref (b 0)), (1, .ref (b 7)), (2, .int k), (3, .int (ppO (M 7) k (i + 1))), (4, .int (nI (i + 1)))] := by
            rw [show (ppO (M 7) k (i + 1)) = ((ppO (M 7) k i) ||| (0 : Int32)) from by rw [ppO, if_neg c_24]]
            exact lv_sub hl [2, 3, 4, 1, 0] rfl
          exact ih5 (i + 1) (by omega) (by omega) _ _ _ hW hl_1
        · refine lv_iconst (v := (1 : Int32)) hx hb dX9_peopleOf_27 rfl ?_
          refine lv_iload hx hb dX9_peopleOf_28 (lv_at hl 4 rfl) ?_
          refine lv_ishl hx hb dX9_peopleOf_30 ?_
          refine lv_goto (tgt := 35) hx hb dX9_peopleOf_31 rfl ?_
          refine lv_ior hx hb dX9_peopleOf_35 ?_
          refine lv_istore_n (lv' := [(3, .int ((ppO (M 7) k i) ||| ((1 : Int32) <<< ((nI i) &&& 31)))), (0, .ref (b 0)), (1, .ref (b 7)), (2, .int k), (4, .int (nI i))]) hx hb dX9_peopleOf_36 rfl hl (by decide) rfl (fun ls hl => ?_)
          refine lv_iinc (v := (nI (i + 1))) (lv' := [(4, .int (nI (i + 1))), (3, .int ((ppO (M 7) k i) ||| ((1 : Int32) <<< ((nI i) &&& 31)))), (0, .ref (b 0)), (1, .ref (b 7)), (2, .int k)]) hx hb dX9_peopleOf_37 hl (k := 4) rfl (inc_n i 1) (by decide) rfl (fun ls hl => ?_)
          refine lv_goto (tgt := 5) hx hb dX9_peopleOf_40 rfl ?_
          have hl_2 : lv_has ls 5 [(0, .ref (b 0)), (1, .ref (b 7)), (2, .int k), (3, .int (ppO (M 7) k (i + 1))), (4, .int (nI (i + 1)))] := by
            rw [show (ppO (M 7) k (i + 1)) = ((ppO (M 7) k i) ||| ((1 : Int32) <<< ((nI i) &&& 31))) from by rw [ppO, if_pos c_24]]
            exact lv_sub hl [2, 3, 4, 1, 0] rfl
          exact ih5 (i + 1) (by omega) (by omega) _ _ _ hW hl_2
  exact lp_5 (N + 1) 0 (by omega) (by omega) _ _ _ hW (lv_sub hl [2, 3, 4, 1, 0] rfl)

set_option maxHeartbeats 4000000 in
set_option maxRecDepth 100000 in
theorem c_X9_peopleOf_w (l : Launch) (D : va_G) (cI cZ cN : ClassId) (b : Nat → Nat) (M : NV) (tr : Int64) (N C : Nat) (hN : M 2 1 = nI N) (hN7 : N ≤ 7) (hC : M 2 0 = nI C) (hC4 : C ≤ 4) (hC1 : 1 ≤ C) (k : Int32) : CtI l yX9_peopleOf cX9_peopleOf 5 (some .int) 0 D (tyG cI cZ cN) [.ref (b 0), .ref (b 8), .int k] (pMod cI cZ b M tr) (fun r w => r = ppO (M 8) k N ∧ w = (pMod cI cZ b M tr)) := by
  refine CtI.of rfl (Nat.le_of_ble_eq_true rfl) ?_
  intro pg ev sx mx ax bx mt cx ls Qx Ax Sx hret hW hl
  have hx := Sx.1
  have hb := Sx.2.1
  have hl : lv_has ls 5 [(0, .ref (b 0)), (1, .ref (b 8)), (2, .int k)] := hl
  refine lv_iconst (v := (0 : Int32)) hx hb dX9_peopleOf_0 rfl ?_
  refine lv_istore_n (lv' := [(3, .int (0 : Int32)), (0, .ref (b 0)), (1, .ref (b 8)), (2, .int k)]) hx hb dX9_peopleOf_1 rfl hl (by decide) rfl (fun ls hl => ?_)
  refine lv_iconst (v := (0 : Int32)) hx hb dX9_peopleOf_2 rfl ?_
  refine lv_istore (lv' := [(4, .int (0 : Int32)), (3, .int (0 : Int32)), (0, .ref (b 0)), (1, .ref (b 8)), (2, .int k)]) hx hb dX9_peopleOf_3 hl (by decide) rfl (fun ls hl => ?_)
  have lp_5 : ∀ (n : Nat) (i : Nat), ((i ≤ N)) → ((N + 1 ≤ i + n)) → ∀ (H : Heap) (locs : List Loc) (ls : Array Slot), AtC D (tyG cI cZ cN) Ax (pMod cI cZ b M tr) sx H locs → lv_has ls 5 [(0, .ref (b 0)), (1, .ref (b 8)), (2, .int k), (3, .int (ppO (M 8) k i)), (4, .int (nI i))] → W pg l ev (rmN 0) sx mx ax bx mt cx H locs 0 0 Qx (F0 mx 5 ls []) := by
    intro n
    induction n with
    | zero =>
      intro i hi_5 hn_5 H locs ls hW hl
      exact absurd hn_5 (by omega)
    | succ n ih5 =>
      intro i hi_5 hn_5 H locs ls hW hl
      refine lv_iload hx hb dX9_peopleOf_5 (lv_at hl 4 rfl) ?_
      refine lv_aload_n hx hb dX9_peopleOf_7 rfl (lv_at hl 0 rfl) ?_
      refine r_get Sx hW 0 rfl rfl bw_wsX90 9 (by decide) (v := .ref (b 2)) rfl mw115 dX9_peopleOf_8 ?_
      refine lv_iconst (v := (1 : Int32)) hx hb dX9_peopleOf_11 rfl ?_
      refine r_iald Sx hW 2 0 rfl rfl (j := 1) rfl (by decide) (by decide) dX9_peopleOf_12 ?_
      refine r_eq (y := (nI N)) hN ?_
      refine lv_icmp_ge (tgt := 43) hx hb dX9_peopleOf_13 rfl (fun c_13 => ?_) (fun c_13 => ?_)
      · have ge_13 : N ≤ i := (nI_leI (a := N) (b := i) (by omega) (by omega)).mp c_13
        have ee_13 : N = i := by omega
        subst ee_13
        refine lv_iload_n hx hb dX9_peopleOf_43 rfl (lv_at hl 3 rfl) ?_
        exact hret _ _ _ _ _ _ hW rfl rfl dX9_peopleOf_44 (⟨rfl, rfl⟩)
      · have lt_13 : i < N := Nat.not_le.mp (fun h => c_13 ((nI_leI (a := N) (b := i) (by omega) (by omega)).mpr h))
        refine lv_iload_n hx hb dX9_peopleOf_16 rfl (lv_at hl 3 rfl) ?_
        refine lv_aload_n hx hb dX9_peopleOf_17 rfl (lv_at hl 1 rfl) ?_
        refine lv_iconst (v := (0 : Int32)) hx hb dX9_peopleOf_18 rfl ?_
        refine lv_iload hx hb dX9_peopleOf_19 (lv_at hl 4 rfl) ?_
        refine lv_iadd hx hb dX9_peopleOf_21 ?_
        refine r_eq (y := (nI i)) ((nI_add 0 i).trans (congrArg nI (Nat.zero_add i))) ?_
        refine r_iald Sx hW 8 0 rfl rfl (j := i) rfl (by omega) (by decide) dX9_peopleOf_22 ?_
        refine lv_iload_n hx hb dX9_peopleOf_23 rfl (lv_at hl 2 rfl) ?_
        refine lv_icmp_ne (tgt := 34) hx hb dX9_peopleOf_24 rfl (fun c_24 => ?_) (fun c_24 => ?_)
        · refine lv_iconst (v := (0 : Int32)) hx hb dX9_peopleOf_34 rfl ?_
          refine lv_ior hx hb dX9_peopleOf_35 ?_
          refine lv_istore_n (lv' := [(3, .int ((ppO (M 8) k i) ||| (0 : Int32))), (0, .ref (b 0)), (1, .ref (b 8)), (2, .int k), (4, .int (nI i))]) hx hb dX9_peopleOf_36 rfl hl (by decide) rfl (fun ls hl => ?_)
          refine lv_iinc (v := (nI (i + 1))) (lv' := [(4, .int (nI (i + 1))), (3, .int ((ppO (M 8) k i) ||| (0 : Int32))), (0, .ref (b 0)), (1, .ref (b 8)), (2, .int k)]) hx hb dX9_peopleOf_37 hl (k := 4) rfl (inc_n i 1) (by decide) rfl (fun ls hl => ?_)
          refine lv_goto (tgt := 5) hx hb dX9_peopleOf_40 rfl ?_
          have hl_1 : lv_has ls 5 [(0, .ref (b 0)), (1, .ref (b 8)), (2, .int k), (3, .int (ppO (M 8) k (i + 1))), (4, .int (nI (i + 1)))] := by
            rw [show (ppO (M 8) k (i + 1)) = ((ppO (M 8) k i) ||| (0 : Int32)) from by rw [ppO, if_neg c_24]]
            exact lv_sub hl [2, 3, 4, 1, 0] rfl
          exact ih5 (i + 1) (by omega) (by omega) _ _ _ hW hl_1
        · refine lv_iconst (v := (1 : Int32)) hx hb dX9_peopleOf_27 rfl ?_
          refine lv_iload hx hb dX9_peopleOf_28 (lv_at hl 4 rfl) ?_
          refine lv_ishl hx hb dX9_peopleOf_30 ?_
          refine lv_goto (tgt := 35) hx hb dX9_peopleOf_31 rfl ?_
          refine lv_ior hx hb dX9_peopleOf_35 ?_
          refine lv_istore_n (lv' := [(3, .int ((ppO (M 8) k i) ||| ((1 : Int32) <<< ((nI i) &&& 31)))), (0, .ref (b 0)), (1, .ref (b 8)), (2, .int k), (4, .int (nI i))]) hx hb dX9_peopleOf_36 rfl hl (by decide) rfl (fun ls hl => ?_)
          refine lv_iinc (v := (nI (i + 1))) (lv' := [(4, .int (nI (i + 1))), (3, .int ((ppO (M 8) k i) ||| ((1 : Int32) <<< ((nI i) &&& 31)))), (0, .ref (b 0)), (1, .ref (b 8)), (2, .int k)]) hx hb dX9_peopleOf_37 hl (k := 4) rfl (inc_n i 1) (by decide) rfl (fun ls hl => ?_)
          refine lv_goto (tgt := 5) hx hb dX9_peopleOf_40 rfl ?_
          have hl_2 : lv_has ls 5 [(0, .ref (b 0)), (1, .ref (b 8)), (2, .int k), (3, .int (ppO (M 8) k (i + 1))), (4, .int (nI (i + 1)))] := by
            rw [show (ppO (M 8) k (i + 1)) = ((ppO (M 8) k i) ||| ((1 : Int32) <<< ((nI i) &&& 31))) from by rw [ppO, if_pos c_24]]
            exact lv_sub hl [2, 3, 4, 1, 0] rfl
          exact ih5 (i + 1) (by omega) (by omega) _ _ _ hW hl_2
  exact lp_5 (N + 1) 0 (by omega) (by omega) _ _ _ hW (lv_sub hl [2, 3, 4, 1, 0] rfl)

set_option maxHeartbeats 4000000 in
set_option maxRecDepth 100000 in
theorem c_X9_isLaw (l : Launch) (D : va_G) (cI cZ cN : ClassId) (c : Nat → Nat) (X : NV) (la : Int32) : CtI l yX9_isLaw cX9_isLaw 2 (some .boolean) 0 D (tyG cI cZ cN) [.ref (c 0), .int la] [((c 0), .inl (cI, 25, .inl (X 0)))] (fun r w => r = lwI (X 0) la ∧ w = [((c 0), .inl (cI, 25, .inl (X 0)))]) := by
  refine CtI.of rfl (Nat.le_of_ble_eq_true rfl) ?_
  intro pg ev sx mx ax bx mt cx ls Qx Ax Sx hret hW hl
  have hx := Sx.1
  have hb := Sx.2.1
  have hl : lv_has ls 2 [(0, .ref (c 0)), (1, .int la)] := hl
  refine lv_aload_n hx hb dX9_isLaw_0 rfl (lv_at hl 0 rfl) ?_
  refine lv_bipush (v := (22 : Int32)) hx hb dX9_isLaw_1 rfl ?_
  refine r_iald Sx hW 0 0 rfl rfl (j := 22) rfl (by decide) (by decide) dX9_isLaw_3 ?_
  refine lv_iload_n hx hb dX9_isLaw_4 rfl (lv_at hl 1 rfl) ?_
  refine lv_iand hx hb dX9_isLaw_5 ?_
  refine lv_if_eq (tgt := 13) hx hb dX9_isLaw_6 rfl (fun c_6 => ?_) (fun c_6 => ?_)
  · refine lv_iconst (v := (0 : Int32)) hx hb dX9_isLaw_13 rfl ?_
    exact hret _ _ _ _ _ _ hW rfl rfl dX9_isLaw_14 (⟨by simp [lwI, c_6], rfl⟩)
  · refine lv_iconst (v := (1 : Int32)) hx hb dX9_isLaw_9 rfl ?_
    refine lv_goto (tgt := 14) hx hb dX9_isLaw_10 rfl ?_
    exact hret _ _ _ _ _ _ hW rfl rfl dX9_isLaw_14 (⟨by simp [lwI, c_6], rfl⟩)

set_option maxHeartbeats 4000000 in
set_option maxRecDepth 100000 in
theorem c_X9_sumOf_s (l : Launch) (D : va_G) (cI cZ cN : ClassId) (b : Nat → Nat) (M : NV) (tr : Int64) (N C : Nat) (hN : M 2 1 = nI N) (hN7 : N ≤ 7) (hC : M 2 0 = nI C) (hC4 : C ≤ 4) (hC1 : 1 ≤ C) (F : Nat) (g : Int32) (hF : F < 19) : CtI l yX9_sumOf cX9_sumOf 6 (some .int) 0 D (tyG cI cZ cN) [.ref (b 0), .ref (b 7), .int (nI F), .int g] (pMod cI cZ b M tr) (fun r w => r = smO (M 7) F g N ∧ w = (pMod cI cZ b M tr)) := by
  refine CtI.of rfl (Nat.le_of_ble_eq_true rfl) ?_
  intro pg ev sx mx ax bx mt cx ls Qx Ax Sx hret hW hl
  have hx := Sx.1
  have hb := Sx.2.1
  have hl : lv_has ls 6 [(0, .ref (b 0)), (1, .ref (b 7)), (2, .int (nI F)), (3, .int g)] := hl
  refine lv_iconst (v := (0 : Int32)) hx hb dX9_sumOf_0 rfl ?_
  refine lv_istore (lv' := [(4, .int (0 : Int32)), (0, .ref (b 0)), (1, .ref (b 7)), (2, .int (nI F)), (3, .int g)]) hx hb dX9_sumOf_1 hl (by decide) rfl (fun ls hl => ?_)
  refine lv_iconst (v := (0 : Int32)) hx hb dX9_sumOf_3 rfl ?_
  refine lv_istore (lv' := [(5, .int (0 : Int32)), (4, .int (0 : Int32)), (0, .ref (b 0)), (1, .ref (b 7)), (2, .int (nI F)), (3, .int g)]) hx hb dX9_sumOf_4 hl (by decide) rfl (fun ls hl => ?_)
  have lp_6 : ∀ (n : Nat) (i : Nat), ((i ≤ N)) → ((N + 1 ≤ i + n)) → ∀ (H : Heap) (locs : List Loc) (ls : Array Slot), AtC D (tyG cI cZ cN) Ax (pMod cI cZ b M tr) sx H locs → lv_has ls 6 [(0, .ref (b 0)), (1, .ref (b 7)), (2, .int (nI F)), (3, .int g), (4, .int (smO (M 7) F g i)), (5, .int (nI i))] → W pg l ev (rmN 0) sx mx ax bx mt cx H locs 0 0 Qx (F0 mx 6 ls []) := by
    intro n
    induction n with
    | zero =>
      intro i hi_6 hn_6 H locs ls hW hl
      exact absurd hn_6 (by omega)
    | succ n ih6 =>
      intro i hi_6 hn_6 H locs ls hW hl
      refine lv_iload hx hb dX9_sumOf_6 (lv_at hl 5 rfl) ?_
      refine lv_aload_n hx hb dX9_sumOf_8 rfl (lv_at hl 0 rfl) ?_
      refine r_get Sx hW 0 rfl rfl bw_wsX90 9 (by decide) (v := .ref (b 2)) rfl mw115 dX9_sumOf_9 ?_
      refine lv_iconst (v := (1 : Int32)) hx hb dX9_sumOf_12 rfl ?_
      refine r_iald Sx hW 2 0 rfl rfl (j := 1) rfl (by decide) (by decide) dX9_sumOf_13 ?_
      refine r_eq (y := (nI N)) hN ?_
      refine lv_icmp_ge (tgt := 48) hx hb dX9_sumOf_14 rfl (fun c_14 => ?_) (fun c_14 => ?_)
      · have ge_14 : N ≤ i := (nI_leI (a := N) (b := i) (by omega) (by omega)).mp c_14
        have ee_14 : N = i := by omega
        subst ee_14
        refine lv_iload hx hb dX9_sumOf_48 (lv_at hl 4 rfl) ?_
        exact hret _ _ _ _ _ _ hW rfl rfl dX9_sumOf_50 (⟨rfl, rfl⟩)
      · have lt_14 : i < N := Nat.not_le.mp (fun h => c_14 ((nI_leI (a := N) (b := i) (by omega) (by omega)).mpr h))
        refine lv_iload hx hb dX9_sumOf_17 (lv_at hl 4 rfl) ?_
        refine lv_iload_n hx hb dX9_sumOf_19 rfl (lv_at hl 3 rfl) ?_
        refine lv_iload hx hb dX9_sumOf_20 (lv_at hl 5 rfl) ?_
        refine lv_ishr hx hb dX9_sumOf_22 ?_
        refine lv_iconst (v := (1 : Int32)) hx hb dX9_sumOf_23 rfl ?_
        refine lv_iand hx hb dX9_sumOf_24 ?_
        refine lv_iconst (v := (1 : Int32)) hx hb dX9_sumOf_25 rfl ?_
        refine lv_icmp_ne (tgt := 38) hx hb dX9_sumOf_26 rfl (fun c_26 => ?_) (fun c_26 => ?_)
        · refine lv_iconst (v := (0 : Int32)) hx hb dX9_sumOf_38 rfl ?_
          refine lv_iadd hx hb dX9_sumOf_39 ?_
          refine lv_istore (lv' := [(4, .int ((smO (M 7) F g i) + (0 : Int32))), (0, .ref (b 0)), (1, .ref (b 7)), (2, .int (nI F)), (3, .int g), (5, .int (nI i))]) hx hb dX9_sumOf_40 hl (by decide) rfl (fun ls hl => ?_)
          refine lv_iinc (v := (nI (i + 1))) (lv' := [(5, .int (nI (i + 1))), (4, .int ((smO (M 7) F g i) + (0 : Int32))), (0, .ref (b 0)), (1, .ref (b 7)), (2, .int (nI F)), (3, .int g)]) hx hb dX9_sumOf_42 hl (k := 5) rfl (inc_n i 1) (by decide) rfl (fun ls hl => ?_)
          refine lv_goto (tgt := 6) hx hb dX9_sumOf_45 rfl ?_
          have hl_1 : lv_has ls 6 [(0, .ref (b 0)), (1, .ref (b 7)), (2, .int (nI F)), (3, .int g), (4, .int (smO (M 7) F g (i + 1))), (5, .int (nI (i + 1)))] := by
            rw [show (smO (M 7) F g (i + 1)) = ((smO (M 7) F g i) + (0 : Int32)) from by rw [smO, if_neg c_26]]
            exact lv_sub hl [2, 3, 4, 5, 1, 0] rfl
          exact ih6 (i + 1) (by omega) (by omega) _ _ _ hW hl_1
        · refine lv_aload_n hx hb dX9_sumOf_29 rfl (lv_at hl 1 rfl) ?_
          refine lv_iload_n hx hb dX9_sumOf_30 rfl (lv_at hl 2 rfl) ?_
          refine lv_iload hx hb dX9_sumOf_31 (lv_at hl 5 rfl) ?_
          refine lv_iadd hx hb dX9_sumOf_33 ?_
          refine r_eq (y := (nI (F + i))) (nI_add F i) ?_
          refine r_iald Sx hW 7 0 rfl rfl (j := F + i) rfl (by omega) (by decide) dX9_sumOf_34 ?_
          refine lv_goto (tgt := 39) hx hb dX9_sumOf_35 rfl ?_
          refine lv_iadd hx hb dX9_sumOf_39 ?_
          refine lv_istore (lv' := [(4, .int ((smO (M 7) F g i) + ((M 7) (F + i)))), (0, .ref (b 0)), (1, .ref (b 7)), (2, .int (nI F)), (3, .int g), (5, .int (nI i))]) hx hb dX9_sumOf_40 hl (by decide) rfl (fun ls hl => ?_)
          refine lv_iinc (v := (nI (i + 1))) (lv' := [(5, .int (nI (i + 1))), (4, .int ((smO (M 7) F g i) + ((M 7) (F + i)))), (0, .ref (b 0)), (1, .ref (b 7)), (2, .int (nI F)), (3, .int g)]) hx hb dX9_sumOf_42 hl (k := 5) rfl (inc_n i 1) (by decide) rfl (fun ls hl => ?_)
          refine lv_goto (tgt := 6) hx hb dX9_sumOf_45 rfl ?_
          have hl_2 : lv_has ls 6 [(0, .ref (b 0)), (1, .ref (b 7)), (2, .int (nI F)), (3, .int g), (4, .int (smO (M 7) F g (i + 1))), (5, .int (nI (i + 1)))] := by
            rw [show (smO (M 7) F g (i + 1)) = ((smO (M 7) F g i) + ((M 7) (F + i))) from by rw [smO, if_pos c_26]]
            exact lv_sub hl [2, 3, 4, 5, 1, 0] rfl
          exact ih6 (i + 1) (by omega) (by omega) _ _ _ hW hl_2
  exact lp_6 (N + 1) 0 (by omega) (by omega) _ _ _ hW (lv_sub hl [2, 3, 4, 5, 1, 0] rfl)

set_option maxHeartbeats 4000000 in
set_option maxRecDepth 100000 in
theorem c_X9_sumOf_w (l : Launch) (D : va_G) (cI cZ cN : ClassId) (b : Nat → Nat) (M : NV) (tr : Int64) (N C : Nat) (hN : M 2 1 = nI N) (hN7 : N ≤ 7) (hC : M 2 0 = nI C) (hC4 : C ≤ 4) (hC1 : 1 ≤ C) (F : Nat) (g : Int32) (hF : F < 19) : CtI l yX9_sumOf cX9_sumOf 6 (some .int) 0 D (tyG cI cZ cN) [.ref (b 0), .ref (b 8), .int (nI F), .int g] (pMod cI cZ b M tr) (fun r w => r = smO (M 8) F g N ∧ w = (pMod cI cZ b M tr)) := by
  refine CtI.of rfl (Nat.le_of_ble_eq_true rfl) ?_
  intro pg ev sx mx ax bx mt cx ls Qx Ax Sx hret hW hl
  have hx := Sx.1
  have hb := Sx.2.1
  have hl : lv_has ls 6 [(0, .ref (b 0)), (1, .ref (b 8)), (2, .int (nI F)), (3, .int g)] := hl
  refine lv_iconst (v := (0 : Int32)) hx hb dX9_sumOf_0 rfl ?_
  refine lv_istore (lv' := [(4, .int (0 : Int32)), (0, .ref (b 0)), (1, .ref (b 8)), (2, .int (nI F)), (3, .int g)]) hx hb dX9_sumOf_1 hl (by decide) rfl (fun ls hl => ?_)
  refine lv_iconst (v := (0 : Int32)) hx hb dX9_sumOf_3 rfl ?_
  refine lv_istore (lv' := [(5, .int (0 : Int32)), (4, .int (0 : Int32)), (0, .ref (b 0)), (1, .ref (b 8)), (2, .int (nI F)), (3, .int g)]) hx hb dX9_sumOf_4 hl (by decide) rfl (fun ls hl => ?_)
  have lp_6 : ∀ (n : Nat) (i : Nat), ((i ≤ N)) → ((N + 1 ≤ i + n)) → ∀ (H : Heap) (locs : List Loc) (ls : Array Slot), AtC D (tyG cI cZ cN) Ax (pMod cI cZ b M tr) sx H locs → lv_has ls 6 [(0, .ref (b 0)), (1, .ref (b 8)), (2, .int (nI F)), (3, .int g), (4, .int (smO (M 8) F g i)), (5, .int (nI i))] → W pg l ev (rmN 0) sx mx ax bx mt cx H locs 0 0 Qx (F0 mx 6 ls []) := by
    intro n
    induction n with
    | zero =>
      intro i hi_6 hn_6 H locs ls hW hl
      exact absurd hn_6 (by omega)
    | succ n ih6 =>
      intro i hi_6 hn_6 H locs ls hW hl
      refine lv_iload hx hb dX9_sumOf_6 (lv_at hl 5 rfl) ?_
      refine lv_aload_n hx hb dX9_sumOf_8 rfl (lv_at hl 0 rfl) ?_
      refine r_get Sx hW 0 rfl rfl bw_wsX90 9 (by decide) (v := .ref (b 2)) rfl mw115 dX9_sumOf_9 ?_
      refine lv_iconst (v := (1 : Int32)) hx hb dX9_sumOf_12 rfl ?_
      refine r_iald Sx hW 2 0 rfl rfl (j := 1) rfl (by decide) (by decide) dX9_sumOf_13 ?_
      refine r_eq (y := (nI N)) hN ?_
      refine lv_icmp_ge (tgt := 48) hx hb dX9_sumOf_14 rfl (fun c_14 => ?_) (fun c_14 => ?_)
      · have ge_14 : N ≤ i := (nI_leI (a := N) (b := i) (by omega) (by omega)).mp c_14
        have ee_14 : N = i := by omega
        subst ee_14
        refine lv_iload hx hb dX9_sumOf_48 (lv_at hl 4 rfl) ?_
        exact hret _ _ _ _ _ _ hW rfl rfl dX9_sumOf_50 (⟨rfl, rfl⟩)
      · have lt_14 : i < N := Nat.not_le.mp (fun h => c_14 ((nI_leI (a := N) (b := i) (by omega) (by omega)).mpr h))
        refine lv_iload hx hb dX9_sumOf_17 (lv_at hl 4 rfl) ?_
        refine lv_iload_n hx hb dX9_sumOf_19 rfl (lv_at hl 3 rfl) ?_
        refine lv_iload hx hb dX9_sumOf_20 (lv_at hl 5 rfl) ?_
        refine lv_ishr hx hb dX9_sumOf_22 ?_
        refine lv_iconst (v := (1 : Int32)) hx hb dX9_sumOf_23 rfl ?_
        refine lv_iand hx hb dX9_sumOf_24 ?_
        refine lv_iconst (v := (1 : Int32)) hx hb dX9_sumOf_25 rfl ?_
        refine lv_icmp_ne (tgt := 38) hx hb dX9_sumOf_26 rfl (fun c_26 => ?_) (fun c_26 => ?_)
        · refine lv_iconst (v := (0 : Int32)) hx hb dX9_sumOf_38 rfl ?_
          refine lv_iadd hx hb dX9_sumOf_39 ?_
          refine lv_istore (lv' := [(4, .int ((smO (M 8) F g i) + (0 : Int32))), (0, .ref (b 0)), (1, .ref (b 8)), (2, .int (nI F)), (3, .int g), (5, .int (nI i))]) hx hb dX9_sumOf_40 hl (by decide) rfl (fun ls hl => ?_)
          refine lv_iinc (v := (nI (i + 1))) (lv' := [(5, .int (nI (i + 1))), (4, .int ((smO (M 8) F g i) + (0 : Int32))), (0, .ref (b 0)), (1, .ref (b 8)), (2, .int (nI F)), (3, .int g)]) hx hb dX9_sumOf_42 hl (k := 5) rfl (inc_n i 1) (by decide) rfl (fun ls hl => ?_)
          refine lv_goto (tgt := 6) hx hb dX9_sumOf_45 rfl ?_
          have hl_1 : lv_has ls 6 [(0, .ref (b 0)), (1, .ref (b 8)), (2, .int (nI F)), (3, .int g), (4, .int (smO (M 8) F g (i + 1))), (5, .int (nI (i + 1)))] := by
            rw [show (smO (M 8) F g (i + 1)) = ((smO (M 8) F g i) + (0 : Int32)) from by rw [smO, if_neg c_26]]
            exact lv_sub hl [2, 3, 4, 5, 1, 0] rfl
          exact ih6 (i + 1) (by omega) (by omega) _ _ _ hW hl_1
        · refine lv_aload_n hx hb dX9_sumOf_29 rfl (lv_at hl 1 rfl) ?_
          refine lv_iload_n hx hb dX9_sumOf_30 rfl (lv_at hl 2 rfl) ?_
          refine lv_iload hx hb dX9_sumOf_31 (lv_at hl 5 rfl) ?_
          refine lv_iadd hx hb dX9_sumOf_33 ?_
          refine r_eq (y := (nI (F + i))) (nI_add F i) ?_
          refine r_iald Sx hW 8 0 rfl rfl (j := F + i) rfl (by omega) (by decide) dX9_sumOf_34 ?_
          refine lv_goto (tgt := 39) hx hb dX9_sumOf_35 rfl ?_
          refine lv_iadd hx hb dX9_sumOf_39 ?_
          refine lv_istore (lv' := [(4, .int ((smO (M 8) F g i) + ((M 8) (F + i)))), (0, .ref (b 0)), (1, .ref (b 8)), (2, .int (nI F)), (3, .int g), (5, .int (nI i))]) hx hb dX9_sumOf_40 hl (by decide) rfl (fun ls hl => ?_)
          refine lv_iinc (v := (nI (i + 1))) (lv' := [(5, .int (nI (i + 1))), (4, .int ((smO (M 8) F g i) + ((M 8) (F + i)))), (0, .ref (b 0)), (1, .ref (b 8)), (2, .int (nI F)), (3, .int g)]) hx hb dX9_sumOf_42 hl (k := 5) rfl (inc_n i 1) (by decide) rfl (fun ls hl => ?_)
          refine lv_goto (tgt := 6) hx hb dX9_sumOf_45 rfl ?_
          have hl_2 : lv_has ls 6 [(0, .ref (b 0)), (1, .ref (b 8)), (2, .int (nI F)), (3, .int g), (4, .int (smO (M 8) F g (i + 1))), (5, .int (nI (i + 1)))] := by
            rw [show (smO (M 8) F g (i + 1)) = ((smO (M 8) F g i) + ((M 8) (F + i))) from by rw [smO, if_pos c_26]]
            exact lv_sub hl [2, 3, 4, 5, 1, 0] rfl
          exact ih6 (i + 1) (by omega) (by omega) _ _ _ hW hl_2
  exact lp_6 (N + 1) 0 (by omega) (by omega) _ _ _ hW (lv_sub hl [2, 3, 4, 5, 1, 0] rfl)

set_option maxHeartbeats 4000000 in
set_option maxRecDepth 100000 in
theorem c_X9_limps_s (l : Launch) (D : va_G) (cI cZ cN : ClassId) (b : Nat → Nat) (M : NV) (tr : Int64) (N C : Nat) (hN : M 2 1 = nI N) (hN7 : N ≤ 7) (hC : M 2 0 = nI C) (hC4 : C ≤ 4) (hC1 : 1 ≤ C) (P : Nat) (hP : P < N) : CtI l yX9_limps cX9_limps 4 (some .boolean) 2 D (tyG cI cZ cN) [.ref (b 0), .ref (b 7), .int (nI P)] (pMod cI cZ b M tr) (fun r w => r = liM (M 7) N P ∧ w = (pMod cI cZ b M tr)) := by
  refine CtI.of rfl (Nat.le_of_ble_eq_true rfl) ?_
  intro pg ev sx mx ax bx mt cx ls Qx Ax Sx hret hW hl
  have hx := Sx.1
  have hb := Sx.2.1
  have hl : lv_has ls 4 [(0, .ref (b 0)), (1, .ref (b 7)), (2, .int (nI P))] := hl
  refine lv_aload_n hx hb dX9_limps_0 rfl (lv_at hl 1 rfl) ?_
  refine lv_iconst (v := (1 : Int32)) hx hb dX9_limps_1 rfl ?_
  refine callSC Sx hW (c_X9_isLaw l D cI cZ cN (fun _ => b 7) (fun _ => M 7) (1 : Int32)) smX9_isLaw mw355 [7] rfl (by decide) (As := [.ref (b 7), .int (1 : Int32)]) (rest := []) rfl rfl hl.1 (Nat.le_of_ble_eq_true rfl) ⟨Nat.le_of_ble_eq_true rfl, Nat.le_of_ble_eq_true rfl⟩ ⟨Nat.le_refl _, Nat.le_refl _⟩ dX9_limps_2 (fun rx wx H locs hqx hW => ?_)
  obtain ⟨hrx, rfl⟩ := hqx
  have hW : AtC D (tyG cI cZ cN) Ax (pMod cI cZ b M tr) sx H locs := hW.re [0, 1, 2, 3, 4, 5, 6, 8, 9, 10, 11, 12, 13, 14, 15, 16, 17] 18 (by decide) rfl rfl ⟨rfl, rfl, rfl, rfl, rfl, rfl, rfl, rfl, rfl, rfl, rfl, rfl, rfl, rfl, rfl, rfl, rfl, trivial⟩ (by decide +kernel) rfl rfl
  refine r_eq (y := (lwI (M 7) (1 : Int32))) hrx ?_
  refine lv_if_eq (tgt := 21) hx hb dX9_limps_5 rfl (fun c_5 => ?_) (fun c_5 => ?_)
  · have c_5 := fd_0 c_5
    refine lv_iconst (v := (1 : Int32)) hx hb dX9_limps_21 rfl ?_
    refine lv_iload_n hx hb dX9_limps_22 rfl (lv_at hl 2 rfl) ?_
    refine lv_ishl hx hb dX9_limps_23 ?_
    refine lv_istore_n (lv' := [(3, .int ((1 : Int32) <<< ((nI P) &&& 31))), (0, .ref (b 0)), (1, .ref (b 7)), (2, .int (nI P))]) hx hb dX9_limps_24 rfl hl (by decide) rfl (fun ls hl => ?_)
    refine lv_iload_n hx hb dX9_limps_25 rfl (lv_at hl 0 rfl) ?_
    refine lv_aload_n hx hb dX9_limps_26 rfl (lv_at hl 2 rfl) ?_
    refine lv_bipush (v := (21 : Int32)) hx hb dX9_limps_27 rfl ?_
    refine r_iald Sx hW 7 0 rfl rfl (j := 21) rfl (by decide) (by decide) dX9_limps_29 ?_
    refine lv_iand hx hb dX9_limps_30 ?_
    refine lv_if_eq (tgt := 38) hx hb dX9_limps_31 rfl (fun c_31 => ?_) (fun c_31 => ?_)
    · refine lv_iconst (v := (0 : Int32)) hx hb dX9_limps_38 rfl ?_
      exact hret _ _ _ _ _ _ hW rfl rfl dX9_limps_39 (⟨by rw [liM, ofM, if_pos c_5, if_pos c_31], rfl⟩)
    · refine lv_iconst (v := (1 : Int32)) hx hb dX9_limps_34 rfl ?_
      refine lv_goto (tgt := 39) hx hb dX9_limps_35 rfl ?_
      exact hret _ _ _ _ _ _ hW rfl rfl dX9_limps_39 (⟨by rw [liM, ofM, if_pos c_5, if_neg c_31], rfl⟩)
  · have c_5 := fd_1 c_5
    refine lv_aload_n hx hb dX9_limps_8 rfl (lv_at hl 0 rfl) ?_
    refine lv_aload_n hx hb dX9_limps_9 rfl (lv_at hl 1 rfl) ?_
    refine lv_aload_n hx hb dX9_limps_10 rfl (lv_at hl 1 rfl) ?_
    refine lv_iconst (v := (0 : Int32)) hx hb dX9_limps_11 rfl ?_
    refine lv_iload_n hx hb dX9_limps_12 rfl (lv_at hl 2 rfl) ?_
    refine lv_iadd hx hb dX9_limps_13 ?_
    refine r_eq (y := (nI P)) ((nI_add 0 P).trans (congrArg nI (Nat.zero_add P))) ?_
    refine r_iald Sx hW 7 0 rfl rfl (j := P) rfl (by omega) (by decide) dX9_limps_14 ?_
    refine callVI Sx hW (c_X9_peopleOf_s l D cI cZ cN b M tr N C hN hN7 hC hC4 hC1 ((M 7) P) ) vmX9_peopleOf mw358 [0, 1, 2, 3, 4, 5, 6, 7, 8, 9, 10, 11, 12, 13, 14, 15, 16, 17] rfl (by decide) 0 rfl rfl (As := [.ref (b 7), .int ((M 7) P)]) (rest := []) rfl rfl hl.1 (Nat.le_of_ble_eq_true rfl) ⟨Nat.le_of_ble_eq_true rfl, Nat.le_of_ble_eq_true rfl⟩ ⟨Nat.le_refl _, Nat.le_refl _⟩ dX9_limps_15 (fun rx wx H locs hqx hW => ?_)
    obtain ⟨hrx, rfl⟩ := hqx
    have hW : AtC D (tyG cI cZ cN) Ax (pMod cI cZ b M tr) sx H locs := hW.re [] 18 (by decide) rfl rfl trivial (by decide +kernel) rfl rfl
    refine r_eq (y := (ppO (M 7) ((M 7) P) N)) hrx ?_
    refine lv_goto (tgt := 24) hx hb dX9_limps_18 rfl ?_
    refine lv_istore_n (lv' := [(3, .int (ppO (M 7) ((M 7) P) N)), (0, .ref (b 0)), (1, .ref (b 7)), (2, .int (nI P))]) hx hb dX9_limps_24 rfl hl (by decide) rfl (fun ls hl => ?_)
    refine lv_iload_n hx hb dX9_limps_25 rfl (lv_at hl 0 rfl) ?_
    refine lv_aload_n hx hb dX9_limps_26 rfl (lv_at hl 2 rfl) ?_
    refine lv_bipush (v := (21 : Int32)) hx hb dX9_limps_27 rfl ?_
    refine r_iald Sx hW 7 0 rfl rfl (j := 21) rfl (by decide) (by decide) dX9_limps_29 ?_
    refine lv_iand hx hb dX9_limps_30 ?_
    refine lv_if_eq (tgt := 38) hx hb dX9_limps_31 rfl (fun c_31 => ?_) (fun c_31 => ?_)
    · refine lv_iconst (v := (0 : Int32)) hx hb dX9_limps_38 rfl ?_
      exact hret _ _ _ _ _ _ hW rfl rfl dX9_limps_39 (⟨by rw [liM, ofM, if_neg c_5, if_pos c_31], rfl⟩)
    · refine lv_iconst (v := (1 : Int32)) hx hb dX9_limps_34 rfl ?_
      refine lv_goto (tgt := 39) hx hb dX9_limps_35 rfl ?_
      exact hret _ _ _ _ _ _ hW rfl rfl dX9_limps_39 (⟨by rw [liM, ofM, if_neg c_5, if_neg c_31], rfl⟩)

set_option maxHeartbeats 4000000 in
set_option maxRecDepth 100000 in
theorem c_X9_limps_w (l : Launch) (D : va_G) (cI cZ cN : ClassId) (b : Nat → Nat) (M : NV) (tr : Int64) (N C : Nat) (hN : M 2 1 = nI N) (hN7 : N ≤ 7) (hC : M 2 0 = nI C) (hC4 : C ≤ 4) (hC1 : 1 ≤ C) (P : Nat) (hP : P < N) : CtI l yX9_limps cX9_limps 4 (some .boolean) 2 D (tyG cI cZ cN) [.ref (b 0), .ref (b 8), .int (nI P)] (pMod cI cZ b M tr) (fun r w => r = liM (M 8) N P ∧ w = (pMod cI cZ b M tr)) := by
  refine CtI.of rfl (Nat.le_of_ble_eq_true rfl) ?_
  intro pg ev sx mx ax bx mt cx ls Qx Ax Sx hret hW hl
  have hx := Sx.1
  have hb := Sx.2.1
  have hl : lv_has ls 4 [(0, .ref (b 0)), (1, .ref (b 8)), (2, .int (nI P))] := hl
  refine lv_aload_n hx hb dX9_limps_0 rfl (lv_at hl 1 rfl) ?_
  refine lv_iconst (v := (1 : Int32)) hx hb dX9_limps_1 rfl ?_
  refine callSC Sx hW (c_X9_isLaw l D cI cZ cN (fun _ => b 8) (fun _ => M 8) (1 : Int32)) smX9_isLaw mw355 [8] rfl (by decide) (As := [.ref (b 8), .int (1 : Int32)]) (rest := []) rfl rfl hl.1 (Nat.le_of_ble_eq_true rfl) ⟨Nat.le_of_ble_eq_true rfl, Nat.le_of_ble_eq_true rfl⟩ ⟨Nat.le_refl _, Nat.le_refl _⟩ dX9_limps_2 (fun rx wx H locs hqx hW => ?_)
  obtain ⟨hrx, rfl⟩ := hqx
  have hW : AtC D (tyG cI cZ cN) Ax (pMod cI cZ b M tr) sx H locs := hW.re [0, 1, 2, 3, 4, 5, 6, 7, 9, 10, 11, 12, 13, 14, 15, 16, 17] 18 (by decide) rfl rfl ⟨rfl, rfl, rfl, rfl, rfl, rfl, rfl, rfl, rfl, rfl, rfl, rfl, rfl, rfl, rfl, rfl, rfl, trivial⟩ (by decide +kernel) rfl rfl
  refine r_eq (y := (lwI (M 8) (1 : Int32))) hrx ?_
  refine lv_if_eq (tgt := 21) hx hb dX9_limps_5 rfl (fun c_5 => ?_) (fun c_5 => ?_)
  · have c_5 := fd_0 c_5
    refine lv_iconst (v := (1 : Int32)) hx hb dX9_limps_21 rfl ?_
    refine lv_iload_n hx hb dX9_limps_22 rfl (lv_at hl 2 rfl) ?_
    refine lv_ishl hx hb dX9_limps_23 ?_
    refine lv_istore_n (lv' := [(3, .int ((1 : Int32) <<< ((nI P) &&& 31))), (0, .ref (b 0)), (1, .ref (b 8)), (2, .int (nI P))]) hx hb dX9_limps_24 rfl hl (by decide) rfl (fun ls hl => ?_)
    refine lv_iload_n hx hb dX9_limps_25 rfl (lv_at hl 0 rfl) ?_
    refine lv_aload_n hx hb dX9_limps_26 rfl (lv_at hl 2 rfl) ?_
    refine lv_bipush (v := (21 : Int32)) hx hb dX9_limps_27 rfl ?_
    refine r_iald Sx hW 8 0 rfl rfl (j := 21) rfl (by decide) (by decide) dX9_limps_29 ?_
    refine lv_iand hx hb dX9_limps_30 ?_
    refine lv_if_eq (tgt := 38) hx hb dX9_limps_31 rfl (fun c_31 => ?_) (fun c_31 => ?_)
    · refine lv_iconst (v := (0 : Int32)) hx hb dX9_limps_38 rfl ?_
      exact hret _ _ _ _ _ _ hW rfl rfl dX9_limps_39 (⟨by rw [liM, ofM, if_pos c_5, if_pos c_31], rfl⟩)
    · refine lv_iconst (v := (1 : Int32)) hx hb dX9_limps_34 rfl ?_
      refine lv_goto (tgt := 39) hx hb dX9_limps_35 rfl ?_
      exact hret _ _ _ _ _ _ hW rfl rfl dX9_limps_39 (⟨by rw [liM, ofM, if_pos c_5, if_neg c_31], rfl⟩)
  · have c_5 := fd_1 c_5
    refine lv_aload_n hx hb dX9_limps_8 rfl (lv_at hl 0 rfl) ?_
    refine lv_aload_n hx hb dX9_limps_9 rfl (lv_at hl 1 rfl) ?_
    refine lv_aload_n hx hb dX9_limps_10 rfl (lv_at hl 1 rfl) ?_
    refine lv_iconst (v := (0 : Int32)) hx hb dX9_limps_11 rfl ?_
    refine lv_iload_n hx hb dX9_limps_12 rfl (lv_at hl 2 rfl) ?_
    refine lv_iadd hx hb dX9_limps_13 ?_
    refine r_eq (y := (nI P)) ((nI_add 0 P).trans (congrArg nI (Nat.zero_add P))) ?_
    refine r_iald Sx hW 8 0 rfl rfl (j := P) rfl (by omega) (by decide) dX9_limps_14 ?_
    refine callVI Sx hW (c_X9_peopleOf_w l D cI cZ cN b M tr N C hN hN7 hC hC4 hC1 ((M 8) P) ) vmX9_peopleOf mw358 [0, 1, 2, 3, 4, 5, 6, 7, 8, 9, 10, 11, 12, 13, 14, 15, 16, 17] rfl (by decide) 0 rfl rfl (As := [.ref (b 8), .int ((M 8) P)]) (rest := []) rfl rfl hl.1 (Nat.le_of_ble_eq_true rfl) ⟨Nat.le_of_ble_eq_true rfl, Nat.le_of_ble_eq_true rfl⟩ ⟨Nat.le_refl _, Nat.le_refl _⟩ dX9_limps_15 (fun rx wx H locs hqx hW => ?_)
    obtain ⟨hrx, rfl⟩ := hqx
    have hW : AtC D (tyG cI cZ cN) Ax (pMod cI cZ b M tr) sx H locs := hW.re [] 18 (by decide) rfl rfl trivial (by decide +kernel) rfl rfl
    refine r_eq (y := (ppO (M 8) ((M 8) P) N)) hrx ?_
    refine lv_goto (tgt := 24) hx hb dX9_limps_18 rfl ?_
    refine lv_istore_n (lv' := [(3, .int (ppO (M 8) ((M 8) P) N)), (0, .ref (b 0)), (1, .ref (b 8)), (2, .int (nI P))]) hx hb dX9_limps_24 rfl hl (by decide) rfl (fun ls hl => ?_)
    refine lv_iload_n hx hb dX9_limps_25 rfl (lv_at hl 0 rfl) ?_
    refine lv_aload_n hx hb dX9_limps_26 rfl (lv_at hl 2 rfl) ?_
    refine lv_bipush (v := (21 : Int32)) hx hb dX9_limps_27 rfl ?_
    refine r_iald Sx hW 8 0 rfl rfl (j := 21) rfl (by decide) (by decide) dX9_limps_29 ?_
    refine lv_iand hx hb dX9_limps_30 ?_
    refine lv_if_eq (tgt := 38) hx hb dX9_limps_31 rfl (fun c_31 => ?_) (fun c_31 => ?_)
    · refine lv_iconst (v := (0 : Int32)) hx hb dX9_limps_38 rfl ?_
      exact hret _ _ _ _ _ _ hW rfl rfl dX9_limps_39 (⟨by rw [liM, ofM, if_neg c_5, if_pos c_31], rfl⟩)
    · refine lv_iconst (v := (1 : Int32)) hx hb dX9_limps_34 rfl ?_
      refine lv_goto (tgt := 39) hx hb dX9_limps_35 rfl ?_
      exact hret _ _ _ _ _ _ hW rfl rfl dX9_limps_39 (⟨by rw [liM, ofM, if_neg c_5, if_neg c_31], rfl⟩)

set_option maxHeartbeats 4000000 in
set_option maxRecDepth 100000 in
theorem c_X9_fame_s (l : Launch) (D : va_G) (cI cZ cN : ClassId) (b : Nat → Nat) (M : NV) (tr : Int64) (N C : Nat) (hN : M 2 1 = nI N) (hN7 : N ≤ 7) (hC : M 2 0 = nI C) (hC4 : C ≤ 4) (hC1 : 1 ≤ C) (P : Nat) (hP : P < N) : CtI l yX9_fame cX9_fame 3 (some .int) 2 D (tyG cI cZ cN) [.ref (b 0), .ref (b 7), .int (nI P)] (pMod cI cZ b M tr) (fun r w => r = fmM (M 7) N P ∧ w = (pMod cI cZ b M tr)) := by
  refine CtI.of rfl (Nat.le_of_ble_eq_true rfl) ?_
  intro pg ev sx mx ax bx mt cx ls Qx Ax Sx hret hW hl
  have hx := Sx.1
  have hb := Sx.2.1
  have hl : lv_has ls 3 [(0, .ref (b 0)), (1, .ref (b 7)), (2, .int (nI P))] := hl
  refine lv_aload_n hx hb dX9_fame_0 rfl (lv_at hl 1 rfl) ?_
  refine lv_bipush (v := (8 : Int32)) hx hb dX9_fame_1 rfl ?_
  refine callSC Sx hW (c_X9_isLaw l D cI cZ cN (fun _ => b 7) (fun _ => M 7) (8 : Int32)) smX9_isLaw mw355 [7] rfl (by decide) (As := [.ref (b 7), .int (8 : Int32)]) (rest := []) rfl rfl hl.1 (Nat.le_of_ble_eq_true rfl) ⟨Nat.le_of_ble_eq_true rfl, Nat.le_of_ble_eq_true rfl⟩ ⟨Nat.le_refl _, Nat.le_refl _⟩ dX9_fame_3 (fun rx wx H locs hqx hW => ?_)
  obtain ⟨hrx, rfl⟩ := hqx
  have hW : AtC D (tyG cI cZ cN) Ax (pMod cI cZ b M tr) sx H locs := hW.re [0, 1, 2, 3, 4, 5, 6, 8, 9, 10, 11, 12, 13, 14, 15, 16, 17] 18 (by decide) rfl rfl ⟨rfl, rfl, rfl, rfl, rfl, rfl, rfl, rfl, rfl, rfl, rfl, rfl, rfl, rfl, rfl, rfl, rfl, trivial⟩ (by decide +kernel) rfl rfl
  refine r_eq (y := (lwI (M 7) (8 : Int32))) hrx ?_
  refine lv_if_eq (tgt := 29) hx hb dX9_fame_6 rfl (fun c_6 => ?_) (fun c_6 => ?_)
  · have c_6 := fd_0 c_6
    refine lv_aload_n hx hb dX9_fame_29 rfl (lv_at hl 1 rfl) ?_
    refine lv_bipush (v := (14 : Int32)) hx hb dX9_fame_30 rfl ?_
    refine lv_iload_n hx hb dX9_fame_32 rfl (lv_at hl 2 rfl) ?_
    refine lv_iadd hx hb dX9_fame_33 ?_
    refine r_eq (y := (nI (14 + P))) (nI_add 14 P) ?_
    refine r_iald Sx hW 7 0 rfl rfl (j := 14 + P) rfl (by omega) (by decide) dX9_fame_34 ?_
    exact hret _ _ _ _ _ _ hW rfl rfl dX9_fame_35 (⟨by rw [fmM, if_pos c_6], rfl⟩)
  · have c_6 := fd_1 c_6
    refine lv_aload_n hx hb dX9_fame_9 rfl (lv_at hl 0 rfl) ?_
    refine lv_aload_n hx hb dX9_fame_10 rfl (lv_at hl 1 rfl) ?_
    refine lv_bipush (v := (14 : Int32)) hx hb dX9_fame_11 rfl ?_
    refine lv_aload_n hx hb dX9_fame_13 rfl (lv_at hl 0 rfl) ?_
    refine lv_aload_n hx hb dX9_fame_14 rfl (lv_at hl 1 rfl) ?_
    refine lv_aload_n hx hb dX9_fame_15 rfl (lv_at hl 1 rfl) ?_
    refine lv_iconst (v := (0 : Int32)) hx hb dX9_fame_16 rfl ?_
    refine lv_iload_n hx hb dX9_fame_17 rfl (lv_at hl 2 rfl) ?_
    refine lv_iadd hx hb dX9_fame_18 ?_
    refine r_eq (y := (nI P)) ((nI_add 0 P).trans (congrArg nI (Nat.zero_add P))) ?_
    refine r_iald Sx hW 7 0 rfl rfl (j := P) rfl (by omega) (by decide) dX9_fame_19 ?_
    refine callVI Sx hW (c_X9_peopleOf_s l D cI cZ cN b M tr N C hN hN7 hC hC4 hC1 ((M 7) P) ) vmX9_peopleOf mw358 [0, 1, 2, 3, 4, 5, 6, 7, 8, 9, 10, 11, 12, 13, 14, 15, 16, 17] rfl (by decide) 0 rfl rfl (As := [.ref (b 7), .int ((M 7) P)]) (rest := [.int (14 : Int32), .ref (b 7), .ref (b 0)]) rfl rfl hl.1 (Nat.le_of_ble_eq_true rfl) ⟨Nat.le_of_ble_eq_true rfl, Nat.le_of_ble_eq_true rfl⟩ ⟨Nat.le_refl _, Nat.le_refl _⟩ dX9_fame_20 (fun rx wx H locs hqx hW => ?_)
    obtain ⟨hrx, rfl⟩ := hqx
    have hW : AtC D (tyG cI cZ cN) Ax (pMod cI cZ b M tr) sx H locs := hW.re [] 18 (by decide) rfl rfl trivial (by decide +kernel) rfl rfl
    refine r_eq (y := (ppO (M 7) ((M 7) P) N)) hrx ?_
    refine callVI Sx hW (c_X9_sumOf_s l D cI cZ cN b M tr N C hN hN7 hC hC4 hC1 14 (ppO (M 7) ((M 7) P) N) (by omega) ) vmX9_sumOf mw366 [0, 1, 2, 3, 4, 5, 6, 7, 8, 9, 10, 11, 12, 13, 14, 15, 16, 17] rfl (by decide) 0 rfl rfl (As := [.ref (b 7), .int (14 : Int32), .int (ppO (M 7) ((M 7) P) N)]) (rest := []) rfl rfl hl.1 (Nat.le_of_ble_eq_true rfl) ⟨Nat.le_of_ble_eq_true rfl, Nat.le_of_ble_eq_true rfl⟩ ⟨Nat.le_refl _, Nat.le_refl _⟩ dX9_fame_23 (fun rx wx H locs hqx hW => ?_)
    obtain ⟨hrx, rfl⟩ := hqx
    have hW : AtC D (tyG cI cZ cN) Ax (pMod cI cZ b M tr) sx H locs := hW.re [] 18 (by decide) rfl rfl trivial (by decide +kernel) rfl rfl
    refine r_eq (y := (smO (M 7) 14 (ppO (M 7) ((M 7) P) N) N)) hrx ?_
    refine lv_goto (tgt := 35) hx hb dX9_fame_26 rfl ?_
    exact hret _ _ _ _ _ _ hW rfl rfl dX9_fame_35 (⟨by rw [fmM, if_neg c_6], rfl⟩)

set_option maxHeartbeats 4000000 in
set_option maxRecDepth 100000 in
theorem c_X9_fame_w (l : Launch) (D : va_G) (cI cZ cN : ClassId) (b : Nat → Nat) (M : NV) (tr : Int64) (N C : Nat) (hN : M 2 1 = nI N) (hN7 : N ≤ 7) (hC : M 2 0 = nI C) (hC4 : C ≤ 4) (hC1 : 1 ≤ C) (P : Nat) (hP : P < N) : CtI l yX9_fame cX9_fame 3 (some .int) 2 D (tyG cI cZ cN) [.ref (b 0), .ref (b 8), .int (nI P)] (pMod cI cZ b M tr) (fun r w => r = fmM (M 8) N P ∧ w = (pMod cI cZ b M tr)) := by
  refine CtI.of rfl (Nat.le_of_ble_eq_true rfl) ?_
  intro pg ev sx mx ax bx mt cx ls Qx Ax Sx hret hW hl
  have hx := Sx.1
  have hb := Sx.2.1
  have hl : lv_has ls 3 [(0, .ref (b 0)), (1, .ref (b 8)), (2, .int (nI P))] := hl
  refine lv_aload_n hx hb dX9_fame_0 rfl (lv_at hl 1 rfl) ?_
  refine lv_bipush (v := (8 : Int32)) hx hb dX9_fame_1 rfl ?_
  refine callSC Sx hW (c_X9_isLaw l D cI cZ cN (fun _ => b 8) (fun _ => M 8) (8 : Int32)) smX9_isLaw mw355 [8] rfl (by decide) (As := [.ref (b 8), .int (8 : Int32)]) (rest := []) rfl rfl hl.1 (Nat.le_of_ble_eq_true rfl) ⟨Nat.le_of_ble_eq_true rfl, Nat.le_of_ble_eq_true rfl⟩ ⟨Nat.le_refl _, Nat.le_refl _⟩ dX9_fame_3 (fun rx wx H locs hqx hW => ?_)
  obtain ⟨hrx, rfl⟩ := hqx
  have hW : AtC D (tyG cI cZ cN) Ax (pMod cI cZ b M tr) sx H locs := hW.re [0, 1, 2, 3, 4, 5, 6, 7, 9, 10, 11, 12, 13, 14, 15, 16, 17] 18 (by decide) rfl rfl ⟨rfl, rfl, rfl, rfl, rfl, rfl, rfl, rfl, rfl, rfl, rfl, rfl, rfl, rfl, rfl, rfl, rfl, trivial⟩ (by decide +kernel) rfl rfl
  refine r_eq (y := (lwI (M 8) (8 : Int32))) hrx ?_
  refine lv_if_eq (tgt := 29) hx hb dX9_fame_6 rfl (fun c_6 => ?_) (fun c_6 => ?_)
  · have c_6 := fd_0 c_6
    refine lv_aload_n hx hb dX9_fame_29 rfl (lv_at hl 1 rfl) ?_
    refine lv_bipush (v := (14 : Int32)) hx hb dX9_fame_30 rfl ?_
    refine lv_iload_n hx hb dX9_fame_32 rfl (lv_at hl 2 rfl) ?_
    refine lv_iadd hx hb dX9_fame_33 ?_
    refine r_eq (y := (nI (14 + P))) (nI_add 14 P) ?_
    refine r_iald Sx hW 8 0 rfl rfl (j := 14 + P) rfl (by omega) (by decide) dX9_fame_34 ?_
    exact hret _ _ _ _ _ _ hW rfl rfl dX9_fame_35 (⟨by rw [fmM, if_pos c_6], rfl⟩)
  · have c_6 := fd_1 c_6
    refine lv_aload_n hx hb dX9_fame_9 rfl (lv_at hl 0 rfl) ?_
    refine lv_aload_n hx hb dX9_fame_10 rfl (lv_at hl 1 rfl) ?_
    refine lv_bipush (v := (14 : Int32)) hx hb dX9_fame_11 rfl ?_
    refine lv_aload_n hx hb dX9_fame_13 rfl (lv_at hl 0 rfl) ?_
    refine lv_aload_n hx hb dX9_fame_14 rfl (lv_at hl 1 rfl) ?_
    refine lv_aload_n hx hb dX9_fame_15 rfl (lv_at hl 1 rfl) ?_
    refine lv_iconst (v := (0 : Int32)) hx hb dX9_fame_16 rfl ?_
    refine lv_iload_n hx hb dX9_fame_17 rfl (lv_at hl 2 rfl) ?_
    refine lv_iadd hx hb dX9_fame_18 ?_
    refine r_eq (y := (nI P)) ((nI_add 0 P).trans (congrArg nI (Nat.zero_add P))) ?_
    refine r_iald Sx hW 8 0 rfl rfl (j := P) rfl (by omega) (by decide) dX9_fame_19 ?_
    refine callVI Sx hW (c_X9_peopleOf_w l D cI cZ cN b M tr N C hN hN7 hC hC4 hC1 ((M 8) P) ) vmX9_peopleOf mw358 [0, 1, 2, 3, 4, 5, 6, 7, 8, 9, 10, 11, 12, 13, 14, 15, 16, 17] rfl (by decide) 0 rfl rfl (As := [.ref (b 8), .int ((M 8) P)]) (rest := [.int (14 : Int32), .ref (b 8), .ref (b 0)]) rfl rfl hl.1 (Nat.le_of_ble_eq_true rfl) ⟨Nat.le_of_ble_eq_true rfl, Nat.le_of_ble_eq_true rfl⟩ ⟨Nat.le_refl _, Nat.le_refl _⟩ dX9_fame_20 (fun rx wx H locs hqx hW => ?_)
    obtain ⟨hrx, rfl⟩ := hqx
    have hW : AtC D (tyG cI cZ cN) Ax (pMod cI cZ b M tr) sx H locs := hW.re [] 18 (by decide) rfl rfl trivial (by decide +kernel) rfl rfl
    refine r_eq (y := (ppO (M 8) ((M 8) P) N)) hrx ?_
    refine callVI Sx hW (c_X9_sumOf_w l D cI cZ cN b M tr N C hN hN7 hC hC4 hC1 14 (ppO (M 8) ((M 8) P) N) (by omega) ) vmX9_sumOf mw366 [0, 1, 2, 3, 4, 5, 6, 7, 8, 9, 10, 11, 12, 13, 14, 15, 16, 17] rfl (by decide) 0 rfl rfl (As := [.ref (b 8), .int (14 : Int32), .int (ppO (M 8) ((M 8) P) N)]) (rest := []) rfl rfl hl.1 (Nat.le_of_ble_eq_true rfl) ⟨Nat.le_of_ble_eq_true rfl, Nat.le_of_ble_eq_true rfl⟩ ⟨Nat.le_refl _, Nat.le_refl _⟩ dX9_fame_23 (fun rx wx H locs hqx hW => ?_)
    obtain ⟨hrx, rfl⟩ := hqx
    have hW : AtC D (tyG cI cZ cN) Ax (pMod cI cZ b M tr) sx H locs := hW.re [] 18 (by decide) rfl rfl trivial (by decide +kernel) rfl rfl
    refine r_eq (y := (smO (M 8) 14 (ppO (M 8) ((M 8) P) N) N)) hrx ?_
    refine lv_goto (tgt := 35) hx hb dX9_fame_26 rfl ?_
    exact hret _ _ _ _ _ _ hW rfl rfl dX9_fame_35 (⟨by rw [fmM, if_neg c_6], rfl⟩)

set_option maxHeartbeats 4000000 in
set_option maxRecDepth 100000 in
theorem c_X9_tax_s (l : Launch) (D : va_G) (cI cZ cN : ClassId) (b : Nat → Nat) (M : NV) (tr : Int64) (N C : Nat) (hN : M 2 1 = nI N) (hN7 : N ≤ 7) (hC : M 2 0 = nI C) (hC4 : C ≤ 4) (hC1 : 1 ≤ C) (P : Nat) (hP : P < N) : CtI l yX9_tax cX9_tax 4 (some .int) 2 D (tyG cI cZ cN) [.ref (b 0), .ref (b 7), .int (nI P)] (pMod cI cZ b M tr) (fun r w => r = txM (M 7) N P ∧ w = (pMod cI cZ b M tr)) := by
  refine CtI.of rfl (Nat.le_of_ble_eq_true rfl) ?_
  intro pg ev sx mx ax bx mt cx ls Qx Ax Sx hret hW hl
  have hx := Sx.1
  have hb := Sx.2.1
  have hl : lv_has ls 4 [(0, .ref (b 0)), (1, .ref (b 7)), (2, .int (nI P))] := hl
  refine lv_aload_n hx hb dX9_tax_0 rfl (lv_at hl 1 rfl) ?_
  refine lv_iconst (v := (4 : Int32)) hx hb dX9_tax_1 rfl ?_
  refine callSC Sx hW (c_X9_isLaw l D cI cZ cN (fun _ => b 7) (fun _ => M 7) (4 : Int32)) smX9_isLaw mw355 [7] rfl (by decide) (As := [.ref (b 7), .int (4 : Int32)]) (rest := []) rfl rfl hl.1 (Nat.le_of_ble_eq_true rfl) ⟨Nat.le_of_ble_eq_true rfl, Nat.le_of_ble_eq_true rfl⟩ ⟨Nat.le_refl _, Nat.le_refl _⟩ dX9_tax_2 (fun rx wx H locs hqx hW => ?_)
  obtain ⟨hrx, rfl⟩ := hqx
  have hW : AtC D (tyG cI cZ cN) Ax (pMod cI cZ b M tr) sx H locs := hW.re [0, 1, 2, 3, 4, 5, 6, 8, 9, 10, 11, 12, 13, 14, 15, 16, 17] 18 (by decide) rfl rfl ⟨rfl, rfl, rfl, rfl, rfl, rfl, rfl, rfl, rfl, rfl, rfl, rfl, rfl, rfl, rfl, rfl, rfl, trivial⟩ (by decide +kernel) rfl rfl
  refine r_eq (y := (lwI (M 7) (4 : Int32))) hrx ?_
  refine lv_if_eq (tgt := 21) hx hb dX9_tax_5 rfl (fun c_5 => ?_) (fun c_5 => ?_)
  · have c_5 := fd_0 c_5
    refine lv_iconst (v := (1 : Int32)) hx hb dX9_tax_21 rfl ?_
    refine lv_iload_n hx hb dX9_tax_22 rfl (lv_at hl 2 rfl) ?_
    refine lv_ishl hx hb dX9_tax_23 ?_
    refine lv_istore_n (lv' := [(3, .int ((1 : Int32) <<< ((nI P) &&& 31))), (0, .ref (b 0)), (1, .ref (b 7)), (2, .int (nI P))]) hx hb dX9_tax_24 rfl hl (by decide) rfl (fun ls hl => ?_)
    refine lv_aload_n hx hb dX9_tax_25 rfl (lv_at hl 1 rfl) ?_
    refine lv_aload_n hx hb dX9_tax_26 rfl (lv_at hl 2 rfl) ?_
    refine lv_bipush (v := (7 : Int32)) hx hb dX9_tax_27 rfl ?_
    refine lv_iload_n hx hb dX9_tax_29 rfl (lv_at hl 0 rfl) ?_
    refine callVI Sx hW (c_X9_sumOf_s l D cI cZ cN b M tr N C hN hN7 hC hC4 hC1 7 ((1 : Int32) <<< ((nI P) &&& 31)) (by omega) ) vmX9_sumOf mw366 [0, 1, 2, 3, 4, 5, 6, 7, 8, 9, 10, 11, 12, 13, 14, 15, 16, 17] rfl (by decide) 0 rfl rfl (As := [.ref (b 7), .int (7 : Int32), .int ((1 : Int32) <<< ((nI P) &&& 31))]) (rest := []) rfl rfl hl.1 (Nat.le_of_ble_eq_true rfl) ⟨Nat.le_of_ble_eq_true rfl, Nat.le_of_ble_eq_true rfl⟩ ⟨Nat.le_refl _, Nat.le_refl _⟩ dX9_tax_30 (fun rx wx H locs hqx hW => ?_)
    obtain ⟨hrx, rfl⟩ := hqx
    have hW : AtC D (tyG cI cZ cN) Ax (pMod cI cZ b M tr) sx H locs := hW.re [] 18 (by decide) rfl rfl trivial (by decide +kernel) rfl rfl
    refine r_eq (y := (smO (M 7) 7 ((1 : Int32) <<< ((nI P) &&& 31)) N)) hrx ?_
    refine lv_iload_n hx hb dX9_tax_33 rfl (lv_at hl 0 rfl) ?_
    refine callSI Sx hW (c_X9_ones l D cI cZ cN ((1 : Int32) <<< ((nI P) &&& 31))) smX9_ones mw374 (As := [.int ((1 : Int32) <<< ((nI P) &&& 31))]) (rest := [.int (smO (M 7) 7 ((1 : Int32) <<< ((nI P) &&& 31)) N)]) rfl rfl hl.1 (Nat.le_of_ble_eq_true rfl) ⟨Nat.le_of_ble_eq_true rfl, Nat.le_of_ble_eq_true rfl⟩ ⟨Nat.le_refl _, Nat.le_refl _⟩ dX9_tax_34 (fun rx H locs hqx hW => ?_)
    obtain ⟨hrx, -⟩ := hqx
    refine r_eq (y := (onI ((1 : Int32) <<< ((nI P) &&& 31)) 7)) hrx ?_
    refine lv_idiv hx hb dX9_tax_37 (on_one (by omega)) ?_
    refine lv_bipush (v := (10 : Int32)) hx hb dX9_tax_38 rfl ?_
    refine lv_idiv hx hb dX9_tax_40 (by decide) ?_
    exact hret _ _ _ _ _ _ hW rfl rfl dX9_tax_41 (⟨by rw [txM, ofM, if_pos c_5], rfl⟩)
  · have c_5 := fd_1 c_5
    refine lv_aload_n hx hb dX9_tax_8 rfl (lv_at hl 0 rfl) ?_
    refine lv_aload_n hx hb dX9_tax_9 rfl (lv_at hl 1 rfl) ?_
    refine lv_aload_n hx hb dX9_tax_10 rfl (lv_at hl 1 rfl) ?_
    refine lv_iconst (v := (0 : Int32)) hx hb dX9_tax_11 rfl ?_
    refine lv_iload_n hx hb dX9_tax_12 rfl (lv_at hl 2 rfl) ?_
    refine lv_iadd hx hb dX9_tax_13 ?_
    refine r_eq (y := (nI P)) ((nI_add 0 P).trans (congrArg nI (Nat.zero_add P))) ?_
    refine r_iald Sx hW 7 0 rfl rfl (j := P) rfl (by omega) (by decide) dX9_tax_14 ?_
    refine callVI Sx hW (c_X9_peopleOf_s l D cI cZ cN b M tr N C hN hN7 hC hC4 hC1 ((M 7) P) ) vmX9_peopleOf mw358 [0, 1, 2, 3, 4, 5, 6, 7, 8, 9, 10, 11, 12, 13, 14, 15, 16, 17] rfl (by decide) 0 rfl rfl (As := [.ref (b 7), .int ((M 7) P)]) (rest := []) rfl rfl hl.1 (Nat.le_of_ble_eq_true rfl) ⟨Nat.le_of_ble_eq_true rfl, Nat.le_of_ble_eq_true rfl⟩ ⟨Nat.le_refl _, Nat.le_refl _⟩ dX9_tax_15 (fun rx wx H locs hqx hW => ?_)
    obtain ⟨hrx, rfl⟩ := hqx
    have hW : AtC D (tyG cI cZ cN) Ax (pMod cI cZ b M tr) sx H locs := hW.re [] 18 (by decide) rfl rfl trivial (by decide +kernel) rfl rfl
    refine r_eq (y := (ppO (M 7) ((M 7) P) N)) hrx ?_
    refine lv_goto (tgt := 24) hx hb dX9_tax_18 rfl ?_
    refine lv_istore_n (lv' := [(3, .int (ppO (M 7) ((M 7) P) N)), (0, .ref (b 0)), (1, .ref (b 7)), (2, .int (nI P))]) hx hb dX9_tax_24 rfl hl (by decide) rfl (fun ls hl => ?_)
    refine lv_aload_n hx hb dX9_tax_25 rfl (lv_at hl 1 rfl) ?_
    refine lv_aload_n hx hb dX9_tax_26 rfl (lv_at hl 2 rfl) ?_
    refine lv_bipush (v := (7 : Int32)) hx hb dX9_tax_27 rfl ?_
    refine lv_iload_n hx hb dX9_tax_29 rfl (lv_at hl 0 rfl) ?_
    refine callVI Sx hW (c_X9_sumOf_s l D cI cZ cN b M tr N C hN hN7 hC hC4 hC1 7 (ppO (M 7) ((M 7) P) N) (by omega) ) vmX9_sumOf mw366 [0, 1, 2, 3, 4, 5, 6, 7, 8, 9, 10, 11, 12, 13, 14, 15, 16, 17] rfl (by decide) 0 rfl rfl (As := [.ref (b 7), .int (7 : Int32), .int (ppO (M 7) ((M 7) P) N)]) (rest := []) rfl rfl hl.1 (Nat.le_of_ble_eq_true rfl) ⟨Nat.le_of_ble_eq_true rfl, Nat.le_of_ble_eq_true rfl⟩ ⟨Nat.le_refl _, Nat.le_refl _⟩ dX9_tax_30 (fun rx wx H locs hqx hW => ?_)
    obtain ⟨hrx, rfl⟩ := hqx
    have hW : AtC D (tyG cI cZ cN) Ax (pMod cI cZ b M tr) sx H locs := hW.re [] 18 (by decide) rfl rfl trivial (by decide +kernel) rfl rfl
    refine r_eq (y := (smO (M 7) 7 (ppO (M 7) ((M 7) P) N) N)) hrx ?_
    refine lv_iload_n hx hb dX9_tax_33 rfl (lv_at hl 0 rfl) ?_
    refine callSI Sx hW (c_X9_ones l D cI cZ cN (ppO (M 7) ((M 7) P) N)) smX9_ones mw374 (As := [.int (ppO (M 7) ((M 7) P) N)]) (rest := [.int (smO (M 7) 7 (ppO (M 7) ((M 7) P) N) N)]) rfl rfl hl.1 (Nat.le_of_ble_eq_true rfl) ⟨Nat.le_of_ble_eq_true rfl, Nat.le_of_ble_eq_true rfl⟩ ⟨Nat.le_refl _, Nat.le_refl _⟩ dX9_tax_34 (fun rx H locs hqx hW => ?_)
    obtain ⟨hrx, -⟩ := hqx
    refine r_eq (y := (onI (ppO (M 7) ((M 7) P) N) 7)) hrx ?_
    refine lv_idiv hx hb dX9_tax_37 (on_pp hN7 hP) ?_
    refine lv_bipush (v := (10 : Int32)) hx hb dX9_tax_38 rfl ?_
    refine lv_idiv hx hb dX9_tax_40 (by decide) ?_
    exact hret _ _ _ _ _ _ hW rfl rfl dX9_tax_41 (⟨by rw [txM, ofM, if_neg c_5], rfl⟩)

set_option maxHeartbeats 4000000 in
set_option maxRecDepth 100000 in
theorem c_X9_tax_w (l : Launch) (D : va_G) (cI cZ cN : ClassId) (b : Nat → Nat) (M : NV) (tr : Int64) (N C : Nat) (hN : M 2 1 = nI N) (hN7 : N ≤ 7) (hC : M 2 0 = nI C) (hC4 : C ≤ 4) (hC1 : 1 ≤ C) (P : Nat) (hP : P < N) : CtI l yX9_tax cX9_tax 4 (some .int) 2 D (tyG cI cZ cN) [.ref (b 0), .ref (b 8), .int (nI P)] (pMod cI cZ b M tr) (fun r w => r = txM (M 8) N P ∧ w = (pMod cI cZ b M tr)) := by
  refine CtI.of rfl (Nat.le_of_ble_eq_true rfl) ?_
  intro pg ev sx mx ax bx mt cx ls Qx Ax Sx hret hW hl
  have hx := Sx.1
  have hb := Sx.2.1
  have hl : lv_has ls 4 [(0, .ref (b 0)), (1, .ref (b 8)), (2, .int (nI P))] := hl
  refine lv_aload_n hx hb dX9_tax_0 rfl (lv_at hl 1 rfl) ?_
  refine lv_iconst (v := (4 : Int32)) hx hb dX9_tax_1 rfl ?_
  refine callSC Sx hW (c_X9_isLaw l D cI cZ cN (fun _ => b 8) (fun _ => M 8) (4 : Int32)) smX9_isLaw mw355 [8] rfl (by decide) (As := [.ref (b 8), .int (4 : Int32)]) (rest := []) rfl rfl hl.1 (Nat.le_of_ble_eq_true rfl) ⟨Nat.le_of_ble_eq_true rfl, Nat.le_of_ble_eq_true rfl⟩ ⟨Nat.le_refl _, Nat.le_refl _⟩ dX9_tax_2 (fun rx wx H locs hqx hW => ?_)
  obtain ⟨hrx, rfl⟩ := hqx
  have hW : AtC D (tyG cI cZ cN) Ax (pMod cI cZ b M tr) sx H locs := hW.re [0, 1, 2, 3, 4, 5, 6, 7, 9, 10, 11, 12, 13, 14, 15, 16, 17] 18 (by decide) rfl rfl ⟨rfl, rfl, rfl, rfl, rfl, rfl, rfl, rfl, rfl, rfl, rfl, rfl, rfl, rfl, rfl, rfl, rfl, trivial⟩ (by decide +kernel) rfl rfl
  refine r_eq (y := (lwI (M 8) (4 : Int32))) hrx ?_
  refine lv_if_eq (tgt := 21) hx hb dX9_tax_5 rfl (fun c_5 => ?_) (fun c_5 => ?_)
  · have c_5 := fd_0 c_5
    refine lv_iconst (v := (1 : Int32)) hx hb dX9_tax_21 rfl ?_
    refine lv_iload_n hx hb dX9_tax_22 rfl (lv_at hl 2 rfl) ?_
    refine lv_ishl hx hb dX9_tax_23 ?_
    refine lv_istore_n (lv' := [(3, .int ((1 : Int32) <<< ((nI P) &&& 31))), (0, .ref (b 0)), (1, .ref (b 8)), (2, .int (nI P))]) hx hb dX9_tax_24 rfl hl (by decide) rfl (fun ls hl => ?_)
    refine lv_aload_n hx hb dX9_tax_25 rfl (lv_at hl 1 rfl) ?_
    refine lv_aload_n hx hb dX9_tax_26 rfl (lv_at hl 2 rfl) ?_
    refine lv_bipush (v := (7 : Int32)) hx hb dX9_tax_27 rfl ?_
    refine lv_iload_n hx hb dX9_tax_29 rfl (lv_at hl 0 rfl) ?_
    refine callVI Sx hW (c_X9_sumOf_w l D cI cZ cN b M tr N C hN hN7 hC hC4 hC1 7 ((1 : Int32) <<< ((nI P) &&& 31)) (by omega) ) vmX9_sumOf mw366 [0, 1, 2, 3, 4, 5, 6, 7, 8, 9, 10, 11, 12, 13, 14, 15, 16, 17] rfl (by decide) 0 rfl rfl (As := [.ref (b 8), .int (7 : Int32), .int ((1 : Int32) <<< ((nI P) &&& 31))]) (rest := []) rfl rfl hl.1 (Nat.le_of_ble_eq_true rfl) ⟨Nat.le_of_ble_eq_true rfl, Nat.le_of_ble_eq_true rfl⟩ ⟨Nat.le_refl _, Nat.le_refl _⟩ dX9_tax_30 (fun rx wx H locs hqx hW => ?_)
    obtain ⟨hrx, rfl⟩ := hqx
    have hW : AtC D (tyG cI cZ cN) Ax (pMod cI cZ b M tr) sx H locs := hW.re [] 18 (by decide) rfl rfl trivial (by decide +kernel) rfl rfl
    refine r_eq (y := (smO (M 8) 7 ((1 : Int32) <<< ((nI P) &&& 31)) N)) hrx ?_
    refine lv_iload_n hx hb dX9_tax_33 rfl (lv_at hl 0 rfl) ?_
    refine callSI Sx hW (c_X9_ones l D cI cZ cN ((1 : Int32) <<< ((nI P) &&& 31))) smX9_ones mw374 (As := [.int ((1 : Int32) <<< ((nI P) &&& 31))]) (rest := [.int (smO (M 8) 7 ((1 : Int32) <<< ((nI P) &&& 31)) N)]) rfl rfl hl.1 (Nat.le_of_ble_eq_true rfl) ⟨Nat.le_of_ble_eq_true rfl, Nat.le_of_ble_eq_true rfl⟩ ⟨Nat.le_refl _, Nat.le_refl _⟩ dX9_tax_34 (fun rx H locs hqx hW => ?_)
    obtain ⟨hrx, -⟩ := hqx
    refine r_eq (y := (onI ((1 : Int32) <<< ((nI P) &&& 31)) 7)) hrx ?_
    refine lv_idiv hx hb dX9_tax_37 (on_one (by omega)) ?_
    refine lv_bipush (v := (10 : Int32)) hx hb dX9_tax_38 rfl ?_
    refine lv_idiv hx hb dX9_tax_40 (by decide) ?_
    exact hret _ _ _ _ _ _ hW rfl rfl dX9_tax_41 (⟨by rw [txM, ofM, if_pos c_5], rfl⟩)
  · have c_5 := fd_1 c_5
    refine lv_aload_n hx hb dX9_tax_8 rfl (lv_at hl 0 rfl) ?_
    refine lv_aload_n hx hb dX9_tax_9 rfl (lv_at hl 1 rfl) ?_
    refine lv_aload_n hx hb dX9_tax_10 rfl (lv_at hl 1 rfl) ?_
    refine lv_iconst (v := (0 : Int32)) hx hb dX9_tax_11 rfl ?_
    refine lv_iload_n hx hb dX9_tax_12 rfl (lv_at hl 2 rfl) ?_
    refine lv_iadd hx hb dX9_tax_13 ?_
    refine r_eq (y := (nI P)) ((nI_add 0 P).trans (congrArg nI (Nat.zero_add P))) ?_
    refine r_iald Sx hW 8 0 rfl rfl (j := P) rfl (by omega) (by decide) dX9_tax_14 ?_
    refine callVI Sx hW (c_X9_peopleOf_w l D cI cZ cN b M tr N C hN hN7 hC hC4 hC1 ((M 8) P) ) vmX9_peopleOf mw358 [0, 1, 2, 3, 4, 5, 6, 7, 8, 9, 10, 11, 12, 13, 14, 15, 16, 17] rfl (by decide) 0 rfl rfl (As := [.ref (b 8), .int ((M 8) P)]) (rest := []) rfl rfl hl.1 (Nat.le_of_ble_eq_true rfl) ⟨Nat.le_of_ble_eq_true rfl, Nat.le_of_ble_eq_true rfl⟩ ⟨Nat.le_refl _, Nat.le_refl _⟩ dX9_tax_15 (fun rx wx H locs hqx hW => ?_)
    obtain ⟨hrx, rfl⟩ := hqx
    have hW : AtC D (tyG cI cZ cN) Ax (pMod cI cZ b M tr) sx H locs := hW.re [] 18 (by decide) rfl rfl trivial (by decide +kernel) rfl rfl
    refine r_eq (y := (ppO (M 8) ((M 8) P) N)) hrx ?_
    refine lv_goto (tgt := 24) hx hb dX9_tax_18 rfl ?_
    refine lv_istore_n (lv' := [(3, .int (ppO (M 8) ((M 8) P) N)), (0, .ref (b 0)), (1, .ref (b 8)), (2, .int (nI P))]) hx hb dX9_tax_24 rfl hl (by decide) rfl (fun ls hl => ?_)
    refine lv_aload_n hx hb dX9_tax_25 rfl (lv_at hl 1 rfl) ?_
    refine lv_aload_n hx hb dX9_tax_26 rfl (lv_at hl 2 rfl) ?_
    refine lv_bipush (v := (7 : Int32)) hx hb dX9_tax_27 rfl ?_
    refine lv_iload_n hx hb dX9_tax_29 rfl (lv_at hl 0 rfl) ?_
    refine callVI Sx hW (c_X9_sumOf_w l D cI cZ cN b M tr N C hN hN7 hC hC4 hC1 7 (ppO (M 8) ((M 8) P) N) (by omega) ) vmX9_sumOf mw366 [0, 1, 2, 3, 4, 5, 6, 7, 8, 9, 10, 11, 12, 13, 14, 15, 16, 17] rfl (by decide) 0 rfl rfl (As := [.ref (b 8), .int (7 : Int32), .int (ppO (M 8) ((M 8) P) N)]) (rest := []) rfl rfl hl.1 (Nat.le_of_ble_eq_true rfl) ⟨Nat.le_of_ble_eq_true rfl, Nat.le_of_ble_eq_true rfl⟩ ⟨Nat.le_refl _, Nat.le_refl _⟩ dX9_tax_30 (fun rx wx H locs hqx hW => ?_)
    obtain ⟨hrx, rfl⟩ := hqx
    have hW : AtC D (tyG cI cZ cN) Ax (pMod cI cZ b M tr) sx H locs := hW.re [] 18 (by decide) rfl rfl trivial (by decide +kernel) rfl rfl
    refine r_eq (y := (smO (M 8) 7 (ppO (M 8) ((M 8) P) N) N)) hrx ?_
    refine lv_iload_n hx hb dX9_tax_33 rfl (lv_at hl 0 rfl) ?_
    refine callSI Sx hW (c_X9_ones l D cI cZ cN (ppO (M 8) ((M 8) P) N)) smX9_ones mw374 (As := [.int (ppO (M 8) ((M 8) P) N)]) (rest := [.int (smO (M 8) 7 (ppO (M 8) ((M 8) P) N) N)]) rfl rfl hl.1 (Nat.le_of_ble_eq_true rfl) ⟨Nat.le_of_ble_eq_true rfl, Nat.le_of_ble_eq_true rfl⟩ ⟨Nat.le_refl _, Nat.le_refl _⟩ dX9_tax_34 (fun rx H locs hqx hW => ?_)
    obtain ⟨hrx, -⟩ := hqx
    refine r_eq (y := (onI (ppO (M 8) ((M 8) P) N) 7)) hrx ?_
    refine lv_idiv hx hb dX9_tax_37 (on_pp hN7 hP) ?_
    refine lv_bipush (v := (10 : Int32)) hx hb dX9_tax_38 rfl ?_
    refine lv_idiv hx hb dX9_tax_40 (by decide) ?_
    exact hret _ _ _ _ _ _ hW rfl rfl dX9_tax_41 (⟨by rw [txM, ofM, if_neg c_5], rfl⟩)

set_option maxHeartbeats 4000000 in
set_option maxRecDepth 100000 in
theorem c_X9_leadOf (l : Launch) (D : va_G) (cI cZ cN : ClassId) (b : Nat → Nat) (M : NV) (tr : Int64) (N C : Nat) (hN : M 2 1 = nI N) (hN7 : N ≤ 7) (hC : M 2 0 = nI C) (hC4 : C ≤ 4) (hC1 : 1 ≤ C) (g : Int32) (bi : Int32) : CtI l yX9_leadOf cX9_leadOf 5 (some .int) 0 D (tyG cI cZ cN) [.ref (b 0), .int g, .int bi] (pMod cI cZ b M tr) (fun r w => r = ldO (M 5) g bi N ∧ w = (pMod cI cZ b M tr)) := by
  refine CtI.of rfl (Nat.le_of_ble_eq_true rfl) ?_
  intro pg ev sx mx ax bx mt cx ls Qx Ax Sx hret hW hl
  have hx := Sx.1
  have hb := Sx.2.1
  have hl : lv_has ls 5 [(0, .ref (b 0)), (1, .int g), (2, .int bi)] := hl
  refine lv_iconst (v := (0 : Int32)) hx hb dX9_leadOf_0 rfl ?_
  refine lv_istore_n (lv' := [(3, .int (0 : Int32)), (0, .ref (b 0)), (1, .int g), (2, .int bi)]) hx hb dX9_leadOf_1 rfl hl (by decide) rfl (fun ls hl => ?_)
  refine lv_iconst (v := (0 : Int32)) hx hb dX9_leadOf_2 rfl ?_
  refine lv_istore (lv' := [(4, .int (0 : Int32)), (3, .int (0 : Int32)), (0, .ref (b 0)), (1, .int g), (2, .int bi)]) hx hb dX9_leadOf_3 hl (by decide) rfl (fun ls hl => ?_)
  have lp_5 : ∀ (n : Nat) (i : Nat), ((i ≤ N)) → ((N + 1 ≤ i + n)) → ∀ (H : Heap) (locs : List Loc) (ls : Array Slot), AtC D (tyG cI cZ cN) Ax (pMod cI cZ b M tr) sx H locs → lv_has ls 5 [(0, .ref (b 0)), (1, .int g), (2, .int bi), (3, .int (ldO (M 5) g bi i)), (4, .int (nI i))] → W pg l ev (rmN 0) sx mx ax bx mt cx H locs 0 0 Qx (F0 mx 5 ls []) := by
    intro n
    induction n with
    | zero =>
      intro i hi_5 hn_5 H locs ls hW hl
      exact absurd hn_5 (by omega)
    | succ n ih5 =>
      intro i hi_5 hn_5 H locs ls hW hl
      refine lv_iload hx hb dX9_leadOf_5 (lv_at hl 4 rfl) ?_
      refine lv_aload_n hx hb dX9_leadOf_7 rfl (lv_at hl 0 rfl) ?_
      refine r_get Sx hW 0 rfl rfl bw_wsX90 9 (by decide) (v := .ref (b 2)) rfl mw115 dX9_leadOf_8 ?_
      refine lv_iconst (v := (1 : Int32)) hx hb dX9_leadOf_11 rfl ?_
      refine r_iald Sx hW 2 0 rfl rfl (j := 1) rfl (by decide) (by decide) dX9_leadOf_12 ?_
      refine r_eq (y := (nI N)) hN ?_
      refine lv_icmp_ge (tgt := 58) hx hb dX9_leadOf_13 rfl (fun c_13 => ?_) (fun c_13 => ?_)
      · have ge_13 : N ≤ i := (nI_leI (a := N) (b := i) (by omega) (by omega)).mp c_13
        have ee_13 : N = i := by omega
        subst ee_13
        refine lv_iload_n hx hb dX9_leadOf_58 rfl (lv_at hl 3 rfl) ?_
        exact hret _ _ _ _ _ _ hW rfl rfl dX9_leadOf_59 (⟨rfl, rfl⟩)
      · have lt_13 : i < N := Nat.not_le.mp (fun h => c_13 ((nI_leI (a := N) (b := i) (by omega) (by omega)).mpr h))
        refine lv_iload_n hx hb dX9_leadOf_16 rfl (lv_at hl 3 rfl) ?_
        refine lv_iload_n hx hb dX9_leadOf_17 rfl (lv_at hl 1 rfl) ?_
        refine lv_iload hx hb dX9_leadOf_18 (lv_at hl 4 rfl) ?_
        refine lv_ishr hx hb dX9_leadOf_20 ?_
        refine lv_iconst (v := (1 : Int32)) hx hb dX9_leadOf_21 rfl ?_
        refine lv_iand hx hb dX9_leadOf_22 ?_
        refine lv_if_ne (tgt := 30) hx hb dX9_leadOf_23 rfl (fun c_23 => ?_) (fun c_23 => ?_)
        · refine lv_aload_n hx hb dX9_leadOf_30 rfl (lv_at hl 0 rfl) ?_
          refine r_get Sx hW 0 rfl rfl bw_wsX90 12 (by decide) (v := .ref (b 5)) rfl mw118 dX9_leadOf_31 ?_
          refine lv_iload hx hb dX9_leadOf_34 (lv_at hl 4 rfl) ?_
          refine r_iald Sx hW 5 0 rfl rfl (j := i) rfl (by omega) (by decide) dX9_leadOf_36 ?_
          refine lv_iload_n hx hb dX9_leadOf_37 rfl (lv_at hl 2 rfl) ?_
          refine lv_ishr hx hb dX9_leadOf_38 ?_
          refine lv_iconst (v := (1 : Int32)) hx hb dX9_leadOf_39 rfl ?_
          refine lv_iand hx hb dX9_leadOf_40 ?_
          refine lv_iconst (v := (1 : Int32)) hx hb dX9_leadOf_41 rfl ?_
          refine lv_icmp_ne (tgt := 49) hx hb dX9_leadOf_42 rfl (fun c_42 => ?_) (fun c_42 => ?_)
          · refine lv_iconst (v := (-1 : Int32)) hx hb dX9_leadOf_49 rfl ?_
            refine lv_iadd hx hb dX9_leadOf_50 ?_
            refine lv_istore_n (lv' := [(3, .int ((ldO (M 5) g bi i) + (-1 : Int32))), (0, .ref (b 0)), (1, .int g), (2, .int bi), (4, .int (nI i))]) hx hb dX9_leadOf_51 rfl hl (by decide) rfl (fun ls hl => ?_)
            refine lv_iinc (v := (nI (i + 1))) (lv' := [(4, .int (nI (i + 1))), (3, .int ((ldO (M 5) g bi i) + (-1 : Int32))), (0, .ref (b 0)), (1, .int g), (2, .int bi)]) hx hb dX9_leadOf_52 hl (k := 4) rfl (inc_n i 1) (by decide) rfl (fun ls hl => ?_)
            refine lv_goto (tgt := 5) hx hb dX9_leadOf_55 rfl ?_
            have hl_1 : lv_has ls 5 [(0, .ref (b 0)), (1, .int g), (2, .int bi), (3, .int (ldO (M 5) g bi (i + 1))), (4, .int (nI (i + 1)))] := by
              rw [show (ldO (M 5) g bi (i + 1)) = ((ldO (M 5) g bi i) + (-1 : Int32)) from by rw [ldO, if_neg c_23, if_neg c_42]]
              exact lv_sub hl [2, 3, 4, 1, 0] rfl
            exact ih5 (i + 1) (by omega) (by omega) _ _ _ hW hl_1
          · refine lv_iconst (v := (1 : Int32)) hx hb dX9_leadOf_45 rfl ?_
            refine lv_goto (tgt := 50) hx hb dX9_leadOf_46 rfl ?_
            refine lv_iadd hx hb dX9_leadOf_50 ?_
            refine lv_istore_n (lv' := [(3, .int ((ldO (M 5) g bi i) + (1 : Int32))), (0, .ref (b 0)), (1, .int g), (2, .int bi), (4, .int (nI i))]) hx hb dX9_leadOf_51 rfl hl (by decide) rfl (fun ls hl => ?_)
            refine lv_iinc (v := (nI (i + 1))) (lv' := [(4, .int (nI (i + 1))), (3, .int ((ldO (M 5) g bi i) + (1 : Int32))), (0, .ref (b 0)), (1, .int g), (2, .int bi)]) hx hb dX9_leadOf_52 hl (k := 4) rfl (inc_n i 1) (by decide) rfl (fun ls hl => ?_)
            refine lv_goto (tgt := 5) hx hb dX9_leadOf_55 rfl ?_
            have hl_2 : lv_has ls 5 [(0, .ref (b 0)), (1, .int g), (2, .int bi), (3, .int (ldO (M 5) g bi (i + 1))), (4, .int (nI (i + 1)))] := by
              rw [show (ldO (M 5) g bi (i + 1)) = ((ldO (M 5) g bi i) + (1 : Int32)) from by rw [ldO, if_neg c_23, if_pos c_42]]
              exact lv_sub hl [2, 3, 4, 1, 0] rfl
            exact ih5 (i + 1) (by omega) (by omega) _ _ _ hW hl_2
        · refine lv_iconst (v := (0 : Int32)) hx hb dX9_leadOf_26 rfl ?_
          refine lv_goto (tgt := 50) hx hb dX9_leadOf_27 rfl ?_
          refine lv_iadd hx hb dX9_leadOf_50 ?_
          refine lv_istore_n (lv' := [(3, .int ((ldO (M 5) g bi i) + (0 : Int32))), (0, .ref (b 0)), (1, .int g), (2, .int bi), (4, .int (nI i))]) hx hb dX9_leadOf_51 rfl hl (by decide) rfl (fun ls hl => ?_)
          refine lv_iinc (v := (nI (i + 1))) (lv' := [(4, .int (nI (i + 1))), (3, .int ((ldO (M 5) g bi i) + (0 : Int32))), (0, .ref (b 0)), (1, .int g), (2, .int bi)]) hx hb dX9_leadOf_52 hl (k := 4) rfl (inc_n i 1) (by decide) rfl (fun ls hl => ?_)
          refine lv_goto (tgt := 5) hx hb dX9_leadOf_55 rfl ?_
          have hl_3 : lv_has ls 5 [(0, .ref (b 0)), (1, .int g), (2, .int bi), (3, .int (ldO (M 5) g bi (i + 1))), (4, .int (nI (i + 1)))] := by
            rw [show (ldO (M 5) g bi (i + 1)) = ((ldO (M 5) g bi i) + (0 : Int32)) from by rw [ldO, if_pos c_23]]
            exact lv_sub hl [2, 3, 4, 1, 0] rfl
          exact ih5 (i + 1) (by omega) (by omega) _ _ _ hW hl_3
  exact lp_5 (N + 1) 0 (by omega) (by omega) _ _ _ hW (lv_sub hl [2, 3, 4, 1, 0] rfl)

set_option maxHeartbeats 4000000 in
set_option maxRecDepth 100000 in
theorem c_X9_voices_s (l : Launch) (D : va_G) (cI cZ cN : ClassId) (b : Nat → Nat) (M : NV) (tr : Int64) (N C : Nat) (hN : M 2 1 = nI N) (hN7 : N ≤ 7) (hC : M 2 0 = nI C) (hC4 : C ≤ 4) (hC1 : 1 ≤ C) (bi : Int32) (am : Int32) (th : Int32) : CtI l yX9_voices cX9_voices 7 (some .int) 1 D (tyG cI cZ cN) [.ref (b 0), .ref (b 7), .int bi, .int am, .int th] (pMod cI cZ b M tr) (fun r w => r = voM (M 7) (M 5) N C bi am th ∧ w = (pMod cI cZ b M tr)) := by
  refine CtI.of rfl (Nat.le_of_ble_eq_true rfl) ?_
  intro pg ev sx mx ax bx mt cx ls Qx Ax Sx hret hW hl
  have hx := Sx.1
  have hb := Sx.2.1
  have hl : lv_has ls 7 [(0, .ref (b 0)), (1, .ref (b 7)), (2, .int bi), (3, .int am), (4, .int th)] := hl
  refine lv_iconst (v := (0 : Int32)) hx hb dX9_voices_0 rfl ?_
  refine lv_istore (lv' := [(5, .int (0 : Int32)), (0, .ref (b 0)), (1, .ref (b 7)), (2, .int bi), (3, .int am), (4, .int th)]) hx hb dX9_voices_1 hl (by decide) rfl (fun ls hl => ?_)
  refine lv_aload_n hx hb dX9_voices_3 rfl (lv_at hl 2 rfl) ?_
  refine lv_iconst (v := (2 : Int32)) hx hb dX9_voices_4 rfl ?_
  refine callSC Sx hW (c_X9_isLaw l D cI cZ cN (fun _ => b 7) (fun _ => M 7) (2 : Int32)) smX9_isLaw mw355 [7] rfl (by decide) (As := [.ref (b 7), .int (2 : Int32)]) (rest := []) rfl rfl hl.1 (Nat.le_of_ble_eq_true rfl) ⟨Nat.le_of_ble_eq_true rfl, Nat.le_of_ble_eq_true rfl⟩ ⟨Nat.le_refl _, Nat.le_refl _⟩ dX9_voices_5 (fun rx wx H locs hqx hW => ?_)
  obtain ⟨hrx, rfl⟩ := hqx
  have hW : AtC D (tyG cI cZ cN) Ax (pMod cI cZ b M tr) sx H locs := hW.re [0, 1, 2, 3, 4, 5, 6, 8, 9, 10, 11, 12, 13, 14, 15, 16, 17] 18 (by decide) rfl rfl ⟨rfl, rfl, rfl, rfl, rfl, rfl, rfl, rfl, rfl, rfl, rfl, rfl, rfl, rfl, rfl, rfl, rfl, trivial⟩ (by decide +kernel) rfl rfl
  refine r_eq (y := (lwI (M 7) (2 : Int32))) hrx ?_
  refine lv_if_eq (tgt := 64) hx hb dX9_voices_8 rfl (fun c_8 => ?_) (fun c_8 => ?_)
  · have c_8 := fd_0 c_8
    refine lv_iconst (v := (0 : Int32)) hx hb dX9_voices_64 rfl ?_
    refine lv_istore (lv' := [(6, .int (0 : Int32)), (5, .int (0 : Int32)), (0, .ref (b 0)), (1, .ref (b 7)), (2, .int bi), (3, .int am), (4, .int th)]) hx hb dX9_voices_65 hl (by decide) rfl (fun ls hl => ?_)
    have lp_67 : ∀ (n : Nat) (i : Nat), ((i ≤ N)) → ((N + 1 ≤ i + n)) → ∀ (H : Heap) (locs : List Loc) (ls : Array Slot), AtC D (tyG cI cZ cN) Ax (pMod cI cZ b M tr) sx H locs → lv_has ls 7 [(0, .ref (b 0)), (1, .ref (b 7)), (2, .int bi), (3, .int am), (4, .int th), (5, .int (vP (M 5) N bi am th i)), (6, .int (nI i))] → W pg l ev (rmN 1) sx mx ax bx mt cx H locs 0 0 Qx (F0 mx 67 ls []) := by
      intro n
      induction n with
      | zero =>
        intro i hi_67 hn_67 H locs ls hW hl
        exact absurd hn_67 (by omega)
      | succ n ih67 =>
        intro i hi_67 hn_67 H locs ls hW hl
        refine lv_iload hx hb dX9_voices_67 (lv_at hl 6 rfl) ?_
        refine lv_aload_n hx hb dX9_voices_69 rfl (lv_at hl 0 rfl) ?_
        refine r_get Sx hW 0 rfl rfl bw_wsX90 9 (by decide) (v := .ref (b 2)) rfl mw115 dX9_voices_70 ?_
        refine lv_iconst (v := (1 : Int32)) hx hb dX9_voices_73 rfl ?_
        refine r_iald Sx hW 2 0 rfl rfl (j := 1) rfl (by decide) (by decide) dX9_voices_74 ?_
        refine r_eq (y := (nI N)) hN ?_
        refine lv_icmp_ge (tgt := 110) hx hb dX9_voices_75 rfl (fun c_75 => ?_) (fun c_75 => ?_)
        · have ge_75 : N ≤ i := (nI_leI (a := N) (b := i) (by omega) (by omega)).mp c_75
          have ee_75 : N = i := by omega
          subst ee_75
          refine lv_iload hx hb dX9_voices_110 (lv_at hl 5 rfl) ?_
          exact hret _ _ _ _ _ _ hW rfl rfl dX9_voices_112 (⟨by rw [voM, if_pos c_8], rfl⟩)
        · have lt_75 : i < N := Nat.not_le.mp (fun h => c_75 ((nI_leI (a := N) (b := i) (by omega) (by omega)).mpr h))
          refine lv_iload hx hb dX9_voices_78 (lv_at hl 5 rfl) ?_
          refine lv_aload_n hx hb dX9_voices_80 rfl (lv_at hl 0 rfl) ?_
          refine lv_iload_n hx hb dX9_voices_81 rfl (lv_at hl 3 rfl) ?_
          refine lv_iconst (v := (1 : Int32)) hx hb dX9_voices_82 rfl ?_
          refine lv_iload hx hb dX9_voices_83 (lv_at hl 6 rfl) ?_
          refine lv_ishl hx hb dX9_voices_85 ?_
          refine lv_iand hx hb dX9_voices_86 ?_
          refine lv_iload_n hx hb dX9_voices_87 rfl (lv_at hl 2 rfl) ?_
          refine callVI Sx hW (c_X9_leadOf l D cI cZ cN b M tr N C hN hN7 hC hC4 hC1 (am &&& ((1 : Int32) <<< ((nI i) &&& 31))) bi ) vmX9_leadOf mw462 [0, 1, 2, 3, 4, 5, 6, 7, 8, 9, 10, 11, 12, 13, 14, 15, 16, 17] rfl (by decide) 0 rfl rfl (As := [.int (am &&& ((1 : Int32) <<< ((nI i) &&& 31))), .int bi]) (rest := [.int (vP (M 5) N bi am th i)]) rfl rfl hl.1 (Nat.le_of_ble_eq_true rfl) ⟨Nat.le_of_ble_eq_true rfl, Nat.le_of_ble_eq_true rfl⟩ ⟨Nat.le_refl _, Nat.le_refl _⟩ dX9_voices_88 (fun rx wx H locs hqx hW => ?_)
          obtain ⟨hrx, rfl⟩ := hqx
          have hW : AtC D (tyG cI cZ cN) Ax (pMod cI cZ b M tr) sx H locs := hW.re [] 18 (by decide) rfl rfl trivial (by decide +kernel) rfl rfl
          refine r_eq (y := (ldO (M 5) (am &&& ((1 : Int32) <<< ((nI i) &&& 31))) bi N)) hrx ?_
          refine lv_iload hx hb dX9_voices_91 (lv_at hl 4 rfl) ?_
          refine lv_icmp_ne (tgt := 100) hx hb dX9_voices_93 rfl (fun c_93 => ?_) (fun c_93 => ?_)
          · refine lv_iconst (v := (0 : Int32)) hx hb dX9_voices_100 rfl ?_
            refine lv_iadd hx hb dX9_voices_101 ?_
            refine lv_istore (lv' := [(5, .int ((vP (M 5) N bi am th i) + (0 : Int32))), (0, .ref (b 0)), (1, .ref (b 7)), (2, .int bi), (3, .int am), (4, .int th), (6, .int (nI i))]) hx hb dX9_voices_102 hl (by decide) rfl (fun ls hl => ?_)
            refine lv_iinc (v := (nI (i + 1))) (lv' := [(6, .int (nI (i + 1))), (5, .int ((vP (M 5) N bi am th i) + (0 : Int32))), (0, .ref (b 0)), (1, .ref (b 7)), (2, .int bi), (3, .int am), (4, .int th)]) hx hb dX9_voices_104 hl (k := 6) rfl (inc_n i 1) (by decide) rfl (fun ls hl => ?_)
            refine lv_goto (tgt := 67) hx hb dX9_voices_107 rfl ?_
            have hl_1 : lv_has ls 7 [(0, .ref (b 0)), (1, .ref (b 7)), (2, .int bi), (3, .int am), (4, .int th), (5, .int (vP (M 5) N bi am th (i + 1))), (6, .int (nI (i + 1)))] := by
              rw [show (vP (M 5) N bi am th (i + 1)) = ((vP (M 5) N bi am th i) + (0 : Int32)) from by rw [vP, if_neg c_93]]
              exact lv_sub hl [2, 3, 4, 5, 6, 1, 0] rfl
            exact ih67 (i + 1) (by omega) (by omega) _ _ _ hW hl_1
          · refine lv_iconst (v := (1 : Int32)) hx hb dX9_voices_96 rfl ?_
            refine lv_goto (tgt := 101) hx hb dX9_voices_97 rfl ?_
            refine lv_iadd hx hb dX9_voices_101 ?_
            refine lv_istore (lv' := [(5, .int ((vP (M 5) N bi am th i) + (1 : Int32))), (0, .ref (b 0)), (1, .ref (b 7)), (2, .int bi), (3, .int am), (4, .int th), (6, .int (nI i))]) hx hb dX9_voices_102 hl (by decide) rfl (fun ls hl => ?_)
            refine lv_iinc (v := (nI (i + 1))) (lv' := [(6, .int (nI (i + 1))), (5, .int ((vP (M 5) N bi am th i) + (1 : Int32))), (0, .ref (b 0)), (1, .ref (b 7)), (2, .int bi), (3, .int am), (4, .int th)]) hx hb dX9_voices_104 hl (k := 6) rfl (inc_n i 1) (by decide) rfl (fun ls hl => ?_)
            refine lv_goto (tgt := 67) hx hb dX9_voices_107 rfl ?_
            have hl_2 : lv_has ls 7 [(0, .ref (b 0)), (1, .ref (b 7)), (2, .int bi), (3, .int am), (4, .int th), (5, .int (vP (M 5) N bi am th (i + 1))), (6, .int (nI (i + 1)))] := by
              rw [show (vP (M 5) N bi am th (i + 1)) = ((vP (M 5) N bi am th i) + (1 : Int32)) from by rw [vP, if_pos c_93]]
              exact lv_sub hl [2, 3, 4, 5, 6, 1, 0] rfl
            exact ih67 (i + 1) (by omega) (by omega) _ _ _ hW hl_2
    exact lp_67 (N + 1) 0 (by omega) (by omega) _ _ _ hW (lv_sub hl [2, 3, 4, 5, 6, 1, 0] rfl)
  · have c_8 := fd_1 c_8
    refine lv_iconst (v := (0 : Int32)) hx hb dX9_voices_11 rfl ?_
    refine lv_istore (lv' := [(6, .int (0 : Int32)), (5, .int (0 : Int32)), (0, .ref (b 0)), (1, .ref (b 7)), (2, .int bi), (3, .int am), (4, .int th)]) hx hb dX9_voices_12 hl (by decide) rfl (fun ls hl => ?_)
    have lp_14 : ∀ (n : Nat) (j : Nat), ((j ≤ C)) → ((C + 1 ≤ j + n)) → ∀ (H : Heap) (locs : List Loc) (ls : Array Slot), AtC D (tyG cI cZ cN) Ax (pMod cI cZ b M tr) sx H locs → lv_has ls 7 [(0, .ref (b 0)), (1, .ref (b 7)), (2, .int bi), (3, .int am), (4, .int th), (5, .int (vK (M 7) (M 5) N bi am th j)), (6, .int (nI j))] → W pg l ev (rmN 1) sx mx ax bx mt cx H locs 0 0 Qx (F0 mx 14 ls []) := by
      intro n
      induction n with
      | zero =>
        intro j hj_14 hn_14 H locs ls hW hl
        exact absurd hn_14 (by omega)
      | succ n ih14 =>
        intro j hj_14 hn_14 H locs ls hW hl
        refine lv_iload hx hb dX9_voices_14 (lv_at hl 6 rfl) ?_
        refine lv_aload_n hx hb dX9_voices_16 rfl (lv_at hl 0 rfl) ?_
        refine r_get Sx hW 0 rfl rfl bw_wsX90 9 (by decide) (v := .ref (b 2)) rfl mw115 dX9_voices_17 ?_
        refine lv_iconst (v := (0 : Int32)) hx hb dX9_voices_20 rfl ?_
        refine r_iald Sx hW 2 0 rfl rfl (j := 0) rfl (by decide) (by decide) dX9_voices_21 ?_
        refine r_eq (y := (nI C)) hC ?_
        refine lv_icmp_ge (tgt := 61) hx hb dX9_voices_22 rfl (fun c_22 => ?_) (fun c_22 => ?_)
        · have ge_22 : C ≤ j := (nI_leI (a := C) (b := j) (by omega) (by omega)).mp c_22
          have ee_22 : C = j := by omega
          subst ee_22
          refine lv_iload hx hb dX9_voices_61 (lv_at hl 5 rfl) ?_
          exact hret _ _ _ _ _ _ hW rfl rfl dX9_voices_63 (⟨by rw [voM, if_neg c_8], rfl⟩)
        · have lt_22 : j < C := Nat.not_le.mp (fun h => c_22 ((nI_leI (a := C) (b := j) (by omega) (by omega)).mpr h))
          refine lv_iload hx hb dX9_voices_25 (lv_at hl 5 rfl) ?_
          refine lv_aload_n hx hb dX9_voices_27 rfl (lv_at hl 0 rfl) ?_
          refine lv_aload_n hx hb dX9_voices_28 rfl (lv_at hl 0 rfl) ?_
          refine lv_aload_n hx hb dX9_voices_29 rfl (lv_at hl 1 rfl) ?_
          refine lv_iload hx hb dX9_voices_30 (lv_at hl 6 rfl) ?_
          refine callVI Sx hW (c_X9_peopleOf_s l D cI cZ cN b M tr N C hN hN7 hC hC4 hC1 (nI j) ) vmX9_peopleOf mw358 [0, 1, 2, 3, 4, 5, 6, 7, 8, 9, 10, 11, 12, 13, 14, 15, 16, 17] rfl (by decide) 0 rfl rfl (As := [.ref (b 7), .int (nI j)]) (rest := [.ref (b 0), .int (vK (M 7) (M 5) N bi am th j)]) rfl rfl hl.1 (Nat.le_of_ble_eq_true rfl) ⟨Nat.le_of_ble_eq_true rfl, Nat.le_of_ble_eq_true rfl⟩ ⟨Nat.le_refl _, Nat.le_refl _⟩ dX9_voices_32 (fun rx wx H locs hqx hW => ?_)
          obtain ⟨hrx, rfl⟩ := hqx
          have hW : AtC D (tyG cI cZ cN) Ax (pMod cI cZ b M tr) sx H locs := hW.re [] 18 (by decide) rfl rfl trivial (by decide +kernel) rfl rfl
          refine r_eq (y := (ppO (M 7) (nI j) N)) hrx ?_
          refine lv_iload_n hx hb dX9_voices_35 rfl (lv_at hl 3 rfl) ?_
          refine lv_iand hx hb dX9_voices_36 ?_
          refine lv_iload_n hx hb dX9_voices_37 rfl (lv_at hl 2 rfl) ?_
          refine callVI Sx hW (c_X9_leadOf l D cI cZ cN b M tr N C hN hN7 hC hC4 hC1 ((ppO (M 7) (nI j) N) &&& am) bi ) vmX9_leadOf mw462 [0, 1, 2, 3, 4, 5, 6, 7, 8, 9, 10, 11, 12, 13, 14, 15, 16, 17] rfl (by decide) 0 rfl rfl (As := [.int ((ppO (M 7) (nI j) N) &&& am), .int bi]) (rest := [.int (vK (M 7) (M 5) N bi am th j)]) rfl rfl hl.1 (Nat.le_of_ble_eq_true rfl) ⟨Nat.le_of_ble_eq_true rfl, Nat.le_of_ble_eq_true rfl⟩ ⟨Nat.le_refl _, Nat.le_refl _⟩ dX9_voices_38 (fun rx wx H locs hqx hW => ?_)
          obtain ⟨hrx, rfl⟩ := hqx
          have hW : AtC D (tyG cI cZ cN) Ax (pMod cI cZ b M tr) sx H locs := hW.re [] 18 (by decide) rfl rfl trivial (by decide +kernel) rfl rfl
          refine r_eq (y := (ldO (M 5) ((ppO (M 7) (nI j) N) &&& am) bi N)) hrx ?_
          refine lv_iload hx hb dX9_voices_41 (lv_at hl 4 rfl) ?_
          refine lv_imul hx hb dX9_voices_43 ?_
          refine lv_if_le (tgt := 51) hx hb dX9_voices_44 rfl (fun c_44 => ?_) (fun c_44 => ?_)
          · refine lv_iconst (v := (0 : Int32)) hx hb dX9_voices_51 rfl ?_
            refine lv_iadd hx hb dX9_voices_52 ?_
            refine lv_istore (lv' := [(5, .int ((vK (M 7) (M 5) N bi am th j) + (0 : Int32))), (0, .ref (b 0)), (1, .ref (b 7)), (2, .int bi), (3, .int am), (4, .int th), (6, .int (nI j))]) hx hb dX9_voices_53 hl (by decide) rfl (fun ls hl => ?_)
            refine lv_iinc (v := (nI (j + 1))) (lv' := [(6, .int (nI (j + 1))), (5, .int ((vK (M 7) (M 5) N bi am th j) + (0 : Int32))), (0, .ref (b 0)), (1, .ref (b 7)), (2, .int bi), (3, .int am), (4, .int th)]) hx hb dX9_voices_55 hl (k := 6) rfl (inc_n j 1) (by decide) rfl (fun ls hl => ?_)
            refine lv_goto (tgt := 14) hx hb dX9_voices_58 rfl ?_
            have hl_3 : lv_has ls 7 [(0, .ref (b 0)), (1, .ref (b 7)), (2, .int bi), (3, .int am), (4, .int th), (5, .int (vK (M 7) (M 5) N bi am th (j + 1))), (6, .int (nI (j + 1)))] := by
              rw [show (vK (M 7) (M 5) N bi am th (j + 1)) = ((vK (M 7) (M 5) N bi am th j) + (0 : Int32)) from by rw [vK, if_pos c_44]]
              exact lv_sub hl [2, 3, 4, 5, 6, 1, 0] rfl
            exact ih14 (j + 1) (by omega) (by omega) _ _ _ hW hl_3
          · refine lv_iconst (v := (1 : Int32)) hx hb dX9_voices_47 rfl ?_
            refine lv_goto (tgt := 52) hx hb dX9_voices_48 rfl ?_
            refine lv_iadd hx hb dX9_voices_52 ?_
            refine lv_istore (lv' := [(5, .int ((vK (M 7) (M 5) N bi am th j) + (1 : Int32))), (0, .ref (b 0)), (1, .ref (b 7)), (2, .int bi), (3, .int am), (4, .int th), (6, .int (nI j))]) hx hb dX9_voices_53 hl (by decide) rfl (fun ls hl => ?_)
            refine lv_iinc (v := (nI (j + 1))) (lv' := [(6, .int (nI (j + 1))), (5, .int ((vK (M 7) (M 5) N bi am th j) + (1 : Int32))), (0, .ref (b 0)), (1, .ref (b 7)), (2, .int bi), (3, .int am), (4, .int th)]) hx hb dX9_voices_55 hl (k := 6) rfl (inc_n j 1) (by decide) rfl (fun ls hl => ?_)
            refine lv_goto (tgt := 14) hx hb dX9_voices_58 rfl ?_
            have hl_4 : lv_has ls 7 [(0, .ref (b 0)), (1, .ref (b 7)), (2, .int bi), (3, .int am), (4, .int th), (5, .int (vK (M 7) (M 5) N bi am th (j + 1))), (6, .int (nI (j + 1)))] := by
              rw [show (vK (M 7) (M 5) N bi am th (j + 1)) = ((vK (M 7) (M 5) N bi am th j) + (1 : Int32)) from by rw [vK, if_neg c_44]]
              exact lv_sub hl [2, 3, 4, 5, 6, 1, 0] rfl
            exact ih14 (j + 1) (by omega) (by omega) _ _ _ hW hl_4
    exact lp_14 (C + 1) 0 (by omega) (by omega) _ _ _ hW (lv_sub hl [2, 3, 4, 5, 6, 1, 0] rfl)

set_option maxHeartbeats 4000000 in
set_option maxRecDepth 100000 in
theorem c_X9_voices_w (l : Launch) (D : va_G) (cI cZ cN : ClassId) (b : Nat → Nat) (M : NV) (tr : Int64) (N C : Nat) (hN : M 2 1 = nI N) (hN7 : N ≤ 7) (hC : M 2 0 = nI C) (hC4 : C ≤ 4) (hC1 : 1 ≤ C) (bi : Int32) (am : Int32) (th : Int32) : CtI l yX9_voices cX9_voices 7 (some .int) 1 D (tyG cI cZ cN) [.ref (b 0), .ref (b 8), .int bi, .int am, .int th] (pMod cI cZ b M tr) (fun r w => r = voM (M 8) (M 5) N C bi am th ∧ w = (pMod cI cZ b M tr)) := by
  refine CtI.of rfl (Nat.le_of_ble_eq_true rfl) ?_
  intro pg ev sx mx ax bx mt cx ls Qx Ax Sx hret hW hl
  have hx := Sx.1
  have hb := Sx.2.1
  have hl : lv_has ls 7 [(0, .ref (b 0)), (1, .ref (b 8)), (2, .int bi), (3, .int am), (4, .int th)] := hl
  refine lv_iconst (v := (0 : Int32)) hx hb dX9_voices_0 rfl ?_
  refine lv_istore (lv' := [(5, .int (0 : Int32)), (0, .ref (b 0)), (1, .ref (b 8)), (2, .int bi), (3, .int am), (4, .int th)]) hx hb dX9_voices_1 hl (by decide) rfl (fun ls hl => ?_)
  refine lv_aload_n hx hb dX9_voices_3 rfl (lv_at hl 2 rfl) ?_
  refine lv_iconst (v := (2 : Int32)) hx hb dX9_voices_4 rfl ?_
  refine callSC Sx hW (c_X9_isLaw l D cI cZ cN (fun _ => b 8) (fun _ => M 8) (2 : Int32)) smX9_isLaw mw355 [8] rfl (by decide) (As := [.ref (b 8), .int (2 : Int32)]) (rest := []) rfl rfl hl.1 (Nat.le_of_ble_eq_true rfl) ⟨Nat.le_of_ble_eq_true rfl, Nat.le_of_ble_eq_true rfl⟩ ⟨Nat.le_refl _, Nat.le_refl _⟩ dX9_voices_5 (fun rx wx H locs hqx hW => ?_)
  obtain ⟨hrx, rfl⟩ := hqx
  have hW : AtC D (tyG cI cZ cN) Ax (pMod cI cZ b M tr) sx H locs := hW.re [0, 1, 2, 3, 4, 5, 6, 7, 9, 10, 11, 12, 13, 14, 15, 16, 17] 18 (by decide) rfl rfl ⟨rfl, rfl, rfl, rfl, rfl, rfl, rfl, rfl, rfl, rfl, rfl, rfl, rfl, rfl, rfl, rfl, rfl, trivial⟩ (by decide +kernel) rfl rfl
  refine r_eq (y := (lwI (M 8) (2 : Int32))) hrx ?_
  refine lv_if_eq (tgt := 64) hx hb dX9_voices_8 rfl (fun c_8 => ?_) (fun c_8 => ?_)
  · have c_8 := fd_0 c_8
    refine lv_iconst (v := (0 : Int32)) hx hb dX9_voices_64 rfl ?_
    refine lv_istore (lv' := [(6, .int (0 : Int32)), (5, .int (0 : Int32)), (0, .ref (b 0)), (1, .ref (b 8)), (2, .int bi), (3, .int am), (4, .int th)]) hx hb dX9_voices_65 hl (by decide) rfl (fun ls hl => ?_)
    have lp_67 : ∀ (n : Nat) (i : Nat), ((i ≤ N)) → ((N + 1 ≤ i + n)) → ∀ (H : Heap) (locs : List Loc) (ls : Array Slot), AtC D (tyG cI cZ cN) Ax (pMod cI cZ b M tr) sx H locs → lv_has ls 7 [(0, .ref (b 0)), (1, .ref (b 8)), (2, .int bi), (3, .int am), (4, .int th), (5, .int (vP (M 5) N bi am th i)), (6, .int (nI i))] → W pg l ev (rmN 1) sx mx ax bx mt cx H locs 0 0 Qx (F0 mx 67 ls []) := by
      intro n
      induction n with
      | zero =>
        intro i hi_67 hn_67 H locs ls hW hl
        exact absurd hn_67 (by omega)
      | succ n ih67 =>
        intro i hi_67 hn_67 H locs ls hW hl
        refine lv_iload hx hb dX9_voices_67 (lv_at hl 6 rfl) ?_
        refine lv_aload_n hx hb dX9_voices_69 rfl (lv_at hl 0 rfl) ?_
        refine r_get Sx hW 0 rfl rfl bw_wsX90 9 (by decide) (v := .ref (b 2)) rfl mw115 dX9_voices_70 ?_
        refine lv_iconst (v := (1 : Int32)) hx hb dX9_voices_73 rfl ?_
        refine r_iald Sx hW 2 0 rfl rfl (j := 1) rfl (by decide) (by decide) dX9_voices_74 ?_
        refine r_eq (y := (nI N)) hN ?_
        refine lv_icmp_ge (tgt := 110) hx hb dX9_voices_75 rfl (fun c_75 => ?_) (fun c_75 => ?_)
        · have ge_75 : N ≤ i := (nI_leI (a := N) (b := i) (by omega) (by omega)).mp c_75
          have ee_75 : N = i := by omega
          subst ee_75
          refine lv_iload hx hb dX9_voices_110 (lv_at hl 5 rfl) ?_
          exact hret _ _ _ _ _ _ hW rfl rfl dX9_voices_112 (⟨by rw [voM, if_pos c_8], rfl⟩)
        · have lt_75 : i < N := Nat.not_le.mp (fun h => c_75 ((nI_leI (a := N) (b := i) (by omega) (by omega)).mpr h))
          refine lv_iload hx hb dX9_voices_78 (lv_at hl 5 rfl) ?_
          refine lv_aload_n hx hb dX9_voices_80 rfl (lv_at hl 0 rfl) ?_
          refine lv_iload_n hx hb dX9_voices_81 rfl (lv_at hl 3 rfl) ?_
          refine lv_iconst (v := (1 : Int32)) hx hb dX9_voices_82 rfl ?_
          refine lv_iload hx hb dX9_voices_83 (lv_at hl 6 rfl) ?_
          refine lv_ishl hx hb dX9_voices_85 ?_
          refine lv_iand hx hb dX9_voices_86 ?_
          refine lv_iload_n hx hb dX9_voices_87 rfl (lv_at hl 2 rfl) ?_
          refine callVI Sx hW (c_X9_leadOf l D cI cZ cN b M tr N C hN hN7 hC hC4 hC1 (am &&& ((1 : Int32) <<< ((nI i) &&& 31))) bi ) vmX9_leadOf mw462 [0, 1, 2, 3, 4, 5, 6, 7, 8, 9, 10, 11, 12, 13, 14, 15, 16, 17] rfl (by decide) 0 rfl rfl (As := [.int (am &&& ((1 : Int32) <<< ((nI i) &&& 31))), .int bi]) (rest := [.int (vP (M 5) N bi am th i)]) rfl rfl hl.1 (Nat.le_of_ble_eq_true rfl) ⟨Nat.le_of_ble_eq_true rfl, Nat.le_of_ble_eq_true rfl⟩ ⟨Nat.le_refl _, Nat.le_refl _⟩ dX9_voices_88 (fun rx wx H locs hqx hW => ?_)
          obtain ⟨hrx, rfl⟩ := hqx
          have hW : AtC D (tyG cI cZ cN) Ax (pMod cI cZ b M tr) sx H locs := hW.re [] 18 (by decide) rfl rfl trivial (by decide +kernel) rfl rfl
          refine r_eq (y := (ldO (M 5) (am &&& ((1 : Int32) <<< ((nI i) &&& 31))) bi N)) hrx ?_
          refine lv_iload hx hb dX9_voices_91 (lv_at hl 4 rfl) ?_
          refine lv_icmp_ne (tgt := 100) hx hb dX9_voices_93 rfl (fun c_93 => ?_) (fun c_93 => ?_)
          · refine lv_iconst (v := (0 : Int32)) hx hb dX9_voices_100 rfl ?_
            refine lv_iadd hx hb dX9_voices_101 ?_
            refine lv_istore (lv' := [(5, .int ((vP (M 5) N bi am th i) + (0 : Int32))), (0, .ref (b 0)), (1, .ref (b 8)), (2, .int bi), (3, .int am), (4, .int th), (6, .int (nI i))]) hx hb dX9_voices_102 hl (by decide) rfl (fun ls hl => ?_)
            refine lv_iinc (v := (nI (i + 1))) (lv' := [(6, .int (nI (i + 1))), (5, .int ((vP (M 5) N bi am th i) + (0 : Int32))), (0, .ref (b 0)), (1, .ref (b 8)), (2, .int bi), (3, .int am), (4, .int th)]) hx hb dX9_voices_104 hl (k := 6) rfl (inc_n i 1) (by decide) rfl (fun ls hl => ?_)
            refine lv_goto (tgt := 67) hx hb dX9_voices_107 rfl ?_
            have hl_1 : lv_has ls 7 [(0, .ref (b 0)), (1, .ref (b 8)), (2, .int bi), (3, .int am), (4, .int th), (5, .int (vP (M 5) N bi am th (i + 1))), (6, .int (nI (i + 1)))] := by
              rw [show (vP (M 5) N bi am th (i + 1)) = ((vP (M 5) N bi am th i) + (0 : Int32)) from by rw [vP, if_neg c_93]]
              exact lv_sub hl [2, 3, 4, 5, 6, 1, 0] rfl
            exact ih67 (i + 1) (by omega) (by omega) _ _ _ hW hl_1
          · refine lv_iconst (v := (1 : Int32)) hx hb dX9_voices_96 rfl ?_
            refine lv_goto (tgt := 101) hx hb dX9_voices_97 rfl ?_
            refine lv_iadd hx hb dX9_voices_101 ?_
            refine lv_istore (lv' := [(5, .int ((vP (M 5) N bi am th i) + (1 : Int32))), (0, .ref (b 0)), (1, .ref (b 8)), (2, .int bi), (3, .int am), (4, .int th), (6, .int (nI i))]) hx hb dX9_voices_102 hl (by decide) rfl (fun ls hl => ?_)
            refine lv_iinc (v := (nI (i + 1))) (lv' := [(6, .int (nI (i + 1))), (5, .int ((vP (M 5) N bi am th i) + (1 : Int32))), (0, .ref (b 0)), (1, .ref (b 8)), (2, .int bi), (3, .int am), (4, .int th)]) hx hb dX9_voices_104 hl (k := 6) rfl (inc_n i 1) (by decide) rfl (fun ls hl => ?_)
            refine lv_goto (tgt := 67) hx hb dX9_voices_107 rfl ?_
            have hl_2 : lv_has ls 7 [(0, .ref (b 0)), (1, .ref (b 8)), (2, .int bi), (3, .int am), (4, .int th), (5, .int (vP (M 5) N bi am th (i + 1))), (6, .int (nI (i + 1)))] := by
              rw [show (vP (M 5) N bi am th (i + 1)) = ((vP (M 5) N bi am th i) + (1 : Int32)) from by rw [vP, if_pos c_93]]
              exact lv_sub hl [2, 3, 4, 5, 6, 1, 0] rfl
            exact ih67 (i + 1) (by omega) (by omega) _ _ _ hW hl_2
    exact lp_67 (N + 1) 0 (by omega) (by omega) _ _ _ hW (lv_sub hl [2, 3, 4, 5, 6, 1, 0] rfl)
  · have c_8 := fd_1 c_8
    refine lv_iconst (v := (0 : Int32)) hx hb dX9_voices_11 rfl ?_
    refine lv_istore (lv' := [(6, .int (0 : Int32)), (5, .int (0 : Int32)), (0, .ref (b 0)), (1, .ref (b 8)), (2, .int bi), (3, .int am), (4, .int th)]) hx hb dX9_voices_12 hl (by decide) rfl (fun ls hl => ?_)
    have lp_14 : ∀ (n : Nat) (j : Nat), ((j ≤ C)) → ((C + 1 ≤ j + n)) → ∀ (H : Heap) (locs : List Loc) (ls : Array Slot), AtC D (tyG cI cZ cN) Ax (pMod cI cZ b M tr) sx H locs → lv_has ls 7 [(0, .ref (b 0)), (1, .ref (b 8)), (2, .int bi), (3, .int am), (4, .int th), (5, .int (vK (M 8) (M 5) N bi am th j)), (6, .int (nI j))] → W pg l ev (rmN 1) sx mx ax bx mt cx H locs 0 0 Qx (F0 mx 14 ls []) := by
      intro n
      induction n with
      | zero =>
        intro j hj_14 hn_14 H locs ls hW hl
        exact absurd hn_14 (by omega)
      | succ n ih14 =>
        intro j hj_14 hn_14 H locs ls hW hl
        refine lv_iload hx hb dX9_voices_14 (lv_at hl 6 rfl) ?_
        refine lv_aload_n hx hb dX9_voices_16 rfl (lv_at hl 0 rfl) ?_
        refine r_get Sx hW 0 rfl rfl bw_wsX90 9 (by decide) (v := .ref (b 2)) rfl mw115 dX9_voices_17 ?_
        refine lv_iconst (v := (0 : Int32)) hx hb dX9_voices_20 rfl ?_
        refine r_iald Sx hW 2 0 rfl rfl (j := 0) rfl (by decide) (by decide) dX9_voices_21 ?_
        refine r_eq (y := (nI C)) hC ?_
        refine lv_icmp_ge (tgt := 61) hx hb dX9_voices_22 rfl (fun c_22 => ?_) (fun c_22 => ?_)
        · have ge_22 : C ≤ j := (nI_leI (a := C) (b := j) (by omega) (by omega)).mp c_22
          have ee_22 : C = j := by omega
          subst ee_22
          refine lv_iload hx hb dX9_voices_61 (lv_at hl 5 rfl) ?_
          exact hret _ _ _ _ _ _ hW rfl rfl dX9_voices_63 (⟨by rw [voM, if_neg c_8], rfl⟩)
        · have lt_22 : j < C := Nat.not_le.mp (fun h => c_22 ((nI_leI (a := C) (b := j) (by omega) (by omega)).mpr h))
          refine lv_iload hx hb dX9_voices_25 (lv_at hl 5 rfl) ?_
          refine lv_aload_n hx hb dX9_voices_27 rfl (lv_at hl 0 rfl) ?_
          refine lv_aload_n hx hb dX9_voices_28 rfl (lv_at hl 0 rfl) ?_
          refine lv_aload_n hx hb dX9_voices_29 rfl (lv_at hl 1 rfl) ?_
          refine lv_iload hx hb dX9_voices_30 (lv_at hl 6 rfl) ?_
          refine callVI Sx hW (c_X9_peopleOf_w l D cI cZ cN b M tr N C hN hN7 hC hC4 hC1 (nI j) ) vmX9_peopleOf mw358 [0, 1, 2, 3, 4, 5, 6, 7, 8, 9, 10, 11, 12, 13, 14, 15, 16, 17] rfl (by decide) 0 rfl rfl (As := [.ref (b 8), .int (nI j)]) (rest := [.ref (b 0), .int (vK (M 8) (M 5) N bi am th j)]) rfl rfl hl.1 (Nat.le_of_ble_eq_true rfl) ⟨Nat.le_of_ble_eq_true rfl, Nat.le_of_ble_eq_true rfl⟩ ⟨Nat.le_refl _, Nat.le_refl _⟩ dX9_voices_32 (fun rx wx H locs hqx hW => ?_)
          obtain ⟨hrx, rfl⟩ := hqx
          have hW : AtC D (tyG cI cZ cN) Ax (pMod cI cZ b M tr) sx H locs := hW.re [] 18 (by decide) rfl rfl trivial (by decide +kernel) rfl rfl
          refine r_eq (y := (ppO (M 8) (nI j) N)) hrx ?_
          refine lv_iload_n hx hb dX9_voices_35 rfl (lv_at hl 3 rfl) ?_
          refine lv_iand hx hb dX9_voices_36 ?_
          refine lv_iload_n hx hb dX9_voices_37 rfl (lv_at hl 2 rfl) ?_
          refine callVI Sx hW (c_X9_leadOf l D cI cZ cN b M tr N C hN hN7 hC hC4 hC1 ((ppO (M 8) (nI j) N) &&& am) bi ) vmX9_leadOf mw462 [0, 1, 2, 3, 4, 5, 6, 7, 8, 9, 10, 11, 12, 13, 14, 15, 16, 17] rfl (by decide) 0 rfl rfl (As := [.int ((ppO (M 8) (nI j) N) &&& am), .int bi]) (rest := [.int (vK (M 8) (M 5) N bi am th j)]) rfl rfl hl.1 (Nat.le_of_ble_eq_true rfl) ⟨Nat.le_of_ble_eq_true rfl, Nat.le_of_ble_eq_true rfl⟩ ⟨Nat.le_refl _, Nat.le_refl _⟩ dX9_voices_38 (fun rx wx H locs hqx hW => ?_)
          obtain ⟨hrx, rfl⟩ := hqx
          have hW : AtC D (tyG cI cZ cN) Ax (pMod cI cZ b M tr) sx H locs := hW.re [] 18 (by decide) rfl rfl trivial (by decide +kernel) rfl rfl
          refine r_eq (y := (ldO (M 5) ((ppO (M 8) (nI j) N) &&& am) bi N)) hrx ?_
          refine lv_iload hx hb dX9_voices_41 (lv_at hl 4 rfl) ?_
          refine lv_imul hx hb dX9_voices_43 ?_
          refine lv_if_le (tgt := 51) hx hb dX9_voices_44 rfl (fun c_44 => ?_) (fun c_44 => ?_)
          · refine lv_iconst (v := (0 : Int32)) hx hb dX9_voices_51 rfl ?_
            refine lv_iadd hx hb dX9_voices_52 ?_
            refine lv_istore (lv' := [(5, .int ((vK (M 8) (M 5) N bi am th j) + (0 : Int32))), (0, .ref (b 0)), (1, .ref (b 8)), (2, .int bi), (3, .int am), (4, .int th), (6, .int (nI j))]) hx hb dX9_voices_53 hl (by decide) rfl (fun ls hl => ?_)
            refine lv_iinc (v := (nI (j + 1))) (lv' := [(6, .int (nI (j + 1))), (5, .int ((vK (M 8) (M 5) N bi am th j) + (0 : Int32))), (0, .ref (b 0)), (1, .ref (b 8)), (2, .int bi), (3, .int am), (4, .int th)]) hx hb dX9_voices_55 hl (k := 6) rfl (inc_n j 1) (by decide) rfl (fun ls hl => ?_)
            refine lv_goto (tgt := 14) hx hb dX9_voices_58 rfl ?_
            have hl_3 : lv_has ls 7 [(0, .ref (b 0)), (1, .ref (b 8)), (2, .int bi), (3, .int am), (4, .int th), (5, .int (vK (M 8) (M 5) N bi am th (j + 1))), (6, .int (nI (j + 1)))] := by
              rw [show (vK (M 8) (M 5) N bi am th (j + 1)) = ((vK (M 8) (M 5) N bi am th j) + (0 : Int32)) from by rw [vK, if_pos c_44]]
              exact lv_sub hl [2, 3, 4, 5, 6, 1, 0] rfl
            exact ih14 (j + 1) (by omega) (by omega) _ _ _ hW hl_3
          · refine lv_iconst (v := (1 : Int32)) hx hb dX9_voices_47 rfl ?_
            refine lv_goto (tgt := 52) hx hb dX9_voices_48 rfl ?_
            refine lv_iadd hx hb dX9_voices_52 ?_
            refine lv_istore (lv' := [(5, .int ((vK (M 8) (M 5) N bi am th j) + (1 : Int32))), (0, .ref (b 0)), (1, .ref (b 8)), (2, .int bi), (3, .int am), (4, .int th), (6, .int (nI j))]) hx hb dX9_voices_53 hl (by decide) rfl (fun ls hl => ?_)
            refine lv_iinc (v := (nI (j + 1))) (lv' := [(6, .int (nI (j + 1))), (5, .int ((vK (M 8) (M 5) N bi am th j) + (1 : Int32))), (0, .ref (b 0)), (1, .ref (b 8)), (2, .int bi), (3, .int am), (4, .int th)]) hx hb dX9_voices_55 hl (k := 6) rfl (inc_n j 1) (by decide) rfl (fun ls hl => ?_)
            refine lv_goto (tgt := 14) hx hb dX9_voices_58 rfl ?_
            have hl_4 : lv_has ls 7 [(0, .ref (b 0)), (1, .ref (b 8)), (2, .int bi), (3, .int am), (4, .int th), (5, .int (vK (M 8) (M 5) N bi am th (j + 1))), (6, .int (nI (j + 1)))] := by
              rw [show (vK (M 8) (M 5) N bi am th (j + 1)) = ((vK (M 8) (M 5) N bi am th j) + (1 : Int32)) from by rw [vK, if_neg c_44]]
              exact lv_sub hl [2, 3, 4, 5, 6, 1, 0] rfl
            exact ih14 (j + 1) (by omega) (by omega) _ _ _ hW hl_4
    exact lp_14 (C + 1) 0 (by omega) (by omega) _ _ _ hW (lv_sub hl [2, 3, 4, 5, 6, 1, 0] rfl)

set_option maxHeartbeats 4000000 in
set_option maxRecDepth 100000 in
theorem c_X9_passes_s (l : Launch) (D : va_G) (cI cZ cN : ClassId) (b : Nat → Nat) (M : NV) (tr : Int64) (N C : Nat) (hN : M 2 1 = nI N) (hN7 : N ≤ 7) (hC : M 2 0 = nI C) (hC4 : C ≤ 4) (hC1 : 1 ≤ C) (bi : Int32) (am : Int32) : CtI l yX9_passes cX9_passes 4 (some .boolean) 2 D (tyG cI cZ cN) [.ref (b 0), .ref (b 7), .int bi, .int am] (pMod cI cZ b M tr) (fun r w => r = psM (M 7) (M 5) N C bi am ∧ w = (pMod cI cZ b M tr)) := by
  refine CtI.of rfl (Nat.le_of_ble_eq_true rfl) ?_
  intro pg ev sx mx ax bx mt cx ls Qx Ax Sx hret hW hl
  have hx := Sx.1
  have hb := Sx.2.1
  have hl : lv_has ls 4 [(0, .ref (b 0)), (1, .ref (b 7)), (2, .int bi), (3, .int am)] := hl
  refine lv_aload_n hx hb dX9_passes_0 rfl (lv_at hl 0 rfl) ?_
  refine lv_aload_n hx hb dX9_passes_1 rfl (lv_at hl 1 rfl) ?_
  refine lv_iload_n hx hb dX9_passes_2 rfl (lv_at hl 2 rfl) ?_
  refine lv_iload_n hx hb dX9_passes_3 rfl (lv_at hl 3 rfl) ?_
  refine lv_iconst (v := (1 : Int32)) hx hb dX9_passes_4 rfl ?_
  refine callVI Sx hW (c_X9_voices_s l D cI cZ cN b M tr N C hN hN7 hC hC4 hC1 bi am (1 : Int32) ) vmX9_voices mw458 [0, 1, 2, 3, 4, 5, 6, 7, 8, 9, 10, 11, 12, 13, 14, 15, 16, 17] rfl (by decide) 0 rfl rfl (As := [.ref (b 7), .int bi, .int am, .int (1 : Int32)]) (rest := []) rfl rfl hl.1 (Nat.le_of_ble_eq_true rfl) ⟨Nat.le_of_ble_eq_true rfl, Nat.le_of_ble_eq_true rfl⟩ ⟨Nat.le_refl _, Nat.le_refl _⟩ dX9_passes_5 (fun rx wx H locs hqx hW => ?_)
  obtain ⟨hrx, rfl⟩ := hqx
  have hW : AtC D (tyG cI cZ cN) Ax (pMod cI cZ b M tr) sx H locs := hW.re [] 18 (by decide) rfl rfl trivial (by decide +kernel) rfl rfl
  refine r_eq (y := (voM (M 7) (M 5) N C bi am (1 : Int32))) hrx ?_
  refine lv_aload_n hx hb dX9_passes_8 rfl (lv_at hl 0 rfl) ?_
  refine lv_aload_n hx hb dX9_passes_9 rfl (lv_at hl 1 rfl) ?_
  refine lv_iload_n hx hb dX9_passes_10 rfl (lv_at hl 2 rfl) ?_
  refine lv_iload_n hx hb dX9_passes_11 rfl (lv_at hl 3 rfl) ?_
  refine lv_iconst (v := (-1 : Int32)) hx hb dX9_passes_12 rfl ?_
  refine callVI Sx hW (c_X9_voices_s l D cI cZ cN b M tr N C hN hN7 hC hC4 hC1 bi am (-1 : Int32) ) vmX9_voices mw458 [0, 1, 2, 3, 4, 5, 6, 7, 8, 9, 10, 11, 12, 13, 14, 15, 16, 17] rfl (by decide) 0 rfl rfl (As := [.ref (b 7), .int bi, .int am, .int (-1 : Int32)]) (rest := [.int (voM (M 7) (M 5) N C bi am (1 : Int32))]) rfl rfl hl.1 (Nat.le_of_ble_eq_true rfl) ⟨Nat.le_of_ble_eq_true rfl, Nat.le_of_ble_eq_true rfl⟩ ⟨Nat.le_refl _, Nat.le_refl _⟩ dX9_passes_13 (fun rx wx H locs hqx hW => ?_)
  obtain ⟨hrx, rfl⟩ := hqx
  have hW : AtC D (tyG cI cZ cN) Ax (pMod cI cZ b M tr) sx H locs := hW.re [] 18 (by decide) rfl rfl trivial (by decide +kernel) rfl rfl
  refine r_eq (y := (voM (M 7) (M 5) N C bi am (-1 : Int32))) hrx ?_
  refine lv_icmp_le (tgt := 23) hx hb dX9_passes_16 rfl (fun c_16 => ?_) (fun c_16 => ?_)
  · refine lv_iconst (v := (0 : Int32)) hx hb dX9_passes_23 rfl ?_
    exact hret _ _ _ _ _ _ hW rfl rfl dX9_passes_24 (⟨by rw [psM, if_pos c_16], rfl⟩)
  · refine lv_iconst (v := (1 : Int32)) hx hb dX9_passes_19 rfl ?_
    refine lv_goto (tgt := 24) hx hb dX9_passes_20 rfl ?_
    exact hret _ _ _ _ _ _ hW rfl rfl dX9_passes_24 (⟨by rw [psM, if_neg c_16], rfl⟩)

set_option maxHeartbeats 4000000 in
set_option maxRecDepth 100000 in
theorem c_X9_passes_w (l : Launch) (D : va_G) (cI cZ cN : ClassId) (b : Nat → Nat) (M : NV) (tr : Int64) (N C : Nat) (hN : M 2 1 = nI N) (hN7 : N ≤ 7) (hC : M 2 0 = nI C) (hC4 : C ≤ 4) (hC1 : 1 ≤ C) (bi : Int32) (am : Int32) : CtI l yX9_passes cX9_passes 4 (some .boolean) 2 D (tyG cI cZ cN) [.ref (b 0), .ref (b 8), .int bi, .int am] (pMod cI cZ b M tr) (fun r w => r = psM (M 8) (M 5) N C bi am ∧ w = (pMod cI cZ b M tr)) := by
  refine CtI.of rfl (Nat.le_of_ble_eq_true rfl) ?_
  intro pg ev sx mx ax bx mt cx ls Qx Ax Sx hret hW hl
  have hx := Sx.1
  have hb := Sx.2.1
  have hl : lv_has ls 4 [(0, .ref (b 0)), (1, .ref (b 8)), (2, .int bi), (3, .int am)] := hl
  refine lv_aload_n hx hb dX9_passes_0 rfl (lv_at hl 0 rfl) ?_
  refine lv_aload_n hx hb dX9_passes_1 rfl (lv_at hl 1 rfl) ?_
  refine lv_iload_n hx hb dX9_passes_2 rfl (lv_at hl 2 rfl) ?_
  refine lv_iload_n hx hb dX9_passes_3 rfl (lv_at hl 3 rfl) ?_
  refine lv_iconst (v := (1 : Int32)) hx hb dX9_passes_4 rfl ?_
  refine callVI Sx hW (c_X9_voices_w l D cI cZ cN b M tr N C hN hN7 hC hC4 hC1 bi am (1 : Int32) ) vmX9_voices mw458 [0, 1, 2, 3, 4, 5, 6, 7, 8, 9, 10, 11, 12, 13, 14, 15, 16, 17] rfl (by decide) 0 rfl rfl (As := [.ref (b 8), .int bi, .int am, .int (1 : Int32)]) (rest := []) rfl rfl hl.1 (Nat.le_of_ble_eq_true rfl) ⟨Nat.le_of_ble_eq_true rfl, Nat.le_of_ble_eq_true rfl⟩ ⟨Nat.le_refl _, Nat.le_refl _⟩ dX9_passes_5 (fun rx wx H locs hqx hW => ?_)
  obtain ⟨hrx, rfl⟩ := hqx
  have hW : AtC D (tyG cI cZ cN) Ax (pMod cI cZ b M tr) sx H locs := hW.re [] 18 (by decide) rfl rfl trivial (by decide +kernel) rfl rfl
  refine r_eq (y := (voM (M 8) (M 5) N C bi am (1 : Int32))) hrx ?_
  refine lv_aload_n hx hb dX9_passes_8 rfl (lv_at hl 0 rfl) ?_
  refine lv_aload_n hx hb dX9_passes_9 rfl (lv_at hl 1 rfl) ?_
  refine lv_iload_n hx hb dX9_passes_10 rfl (lv_at hl 2 rfl) ?_
  refine lv_iload_n hx hb dX9_passes_11 rfl (lv_at hl 3 rfl) ?_
  refine lv_iconst (v := (-1 : Int32)) hx hb dX9_passes_12 rfl ?_
  refine callVI Sx hW (c_X9_voices_w l D cI cZ cN b M tr N C hN hN7 hC hC4 hC1 bi am (-1 : Int32) ) vmX9_voices mw458 [0, 1, 2, 3, 4, 5, 6, 7, 8, 9, 10, 11, 12, 13, 14, 15, 16, 17] rfl (by decide) 0 rfl rfl (As := [.ref (b 8), .int bi, .int am, .int (-1 : Int32)]) (rest := [.int (voM (M 8) (M 5) N C bi am (1 : Int32))]) rfl rfl hl.1 (Nat.le_of_ble_eq_true rfl) ⟨Nat.le_of_ble_eq_true rfl, Nat.le_of_ble_eq_true rfl⟩ ⟨Nat.le_refl _, Nat.le_refl _⟩ dX9_passes_13 (fun rx wx H locs hqx hW => ?_)
  obtain ⟨hrx, rfl⟩ := hqx
  have hW : AtC D (tyG cI cZ cN) Ax (pMod cI cZ b M tr) sx H locs := hW.re [] 18 (by decide) rfl rfl trivial (by decide +kernel) rfl rfl
  refine r_eq (y := (voM (M 8) (M 5) N C bi am (-1 : Int32))) hrx ?_
  refine lv_icmp_le (tgt := 23) hx hb dX9_passes_16 rfl (fun c_16 => ?_) (fun c_16 => ?_)
  · refine lv_iconst (v := (0 : Int32)) hx hb dX9_passes_23 rfl ?_
    exact hret _ _ _ _ _ _ hW rfl rfl dX9_passes_24 (⟨by rw [psM, if_pos c_16], rfl⟩)
  · refine lv_iconst (v := (1 : Int32)) hx hb dX9_passes_19 rfl ?_
    refine lv_goto (tgt := 24) hx hb dX9_passes_20 rfl ?_
    exact hret _ _ _ _ _ _ hW rfl rfl dX9_passes_24 (⟨by rw [psM, if_neg c_16], rfl⟩)

set_option maxHeartbeats 4000000 in
set_option maxRecDepth 100000 in
theorem c_X9_swayOf (l : Launch) (D : va_G) (cI cZ cN : ClassId) (b : Nat → Nat) (M : NV) (tr : Int64) (N C : Nat) (hN : M 2 1 = nI N) (hN7 : N ≤ 7) (hC : M 2 0 = nI C) (hC4 : C ≤ 4) (hC1 : 1 ≤ C) (bi : Int32) : CtI l yX9_swayOf cX9_swayOf 4 (some .int) 3 D (tyG cI cZ cN) [.ref (b 0), .int bi] (pMod cI cZ b M tr) (fun r w => r = swM (M 7) (M 5) N C bi C ∧ w = (pMod cI cZ b M tr)) := by
  refine CtI.of rfl (Nat.le_of_ble_eq_true rfl) ?_
  intro pg ev sx mx ax bx mt cx ls Qx Ax Sx hret hW hl
  have hx := Sx.1
  have hb := Sx.2.1
  have hl : lv_has ls 4 [(0, .ref (b 0)), (1, .int bi)] := hl
  refine lv_iconst (v := (0 : Int32)) hx hb dX9_swayOf_0 rfl ?_
  refine lv_istore_n (lv' := [(2, .int (0 : Int32)), (0, .ref (b 0)), (1, .int bi)]) hx hb dX9_swayOf_1 rfl hl (by decide) rfl (fun ls hl => ?_)
  refine lv_iconst (v := (0 : Int32)) hx hb dX9_swayOf_2 rfl ?_
  refine lv_istore_n (lv' := [(3, .int (0 : Int32)), (2, .int (0 : Int32)), (0, .ref (b 0)), (1, .int bi)]) hx hb dX9_swayOf_3 rfl hl (by decide) rfl (fun ls hl => ?_)
  have lp_4 : ∀ (n : Nat) (j : Nat), ((j ≤ C)) → ((C + 1 ≤ j + n)) → ∀ (H : Heap) (locs : List Loc) (ls : Array Slot), AtC D (tyG cI cZ cN) Ax (pMod cI cZ b M tr) sx H locs → lv_has ls 4 [(0, .ref (b 0)), (1, .int bi), (2, .int (swM (M 7) (M 5) N C bi j)), (3, .int (nI j))] → W pg l ev (rmN 3) sx mx ax bx mt cx H locs 0 0 Qx (F0 mx 4 ls []) := by
    intro n
    induction n with
    | zero =>
      intro j hj_4 hn_4 H locs ls hW hl
      exact absurd hn_4 (by omega)
    | succ n ih4 =>
      intro j hj_4 hn_4 H locs ls hW hl
      refine lv_iload_n hx hb dX9_swayOf_4 rfl (lv_at hl 3 rfl) ?_
      refine lv_aload_n hx hb dX9_swayOf_5 rfl (lv_at hl 0 rfl) ?_
      refine r_get Sx hW 0 rfl rfl bw_wsX90 9 (by decide) (v := .ref (b 2)) rfl mw115 dX9_swayOf_6 ?_
      refine lv_iconst (v := (0 : Int32)) hx hb dX9_swayOf_9 rfl ?_
      refine r_iald Sx hW 2 0 rfl rfl (j := 0) rfl (by decide) (by decide) dX9_swayOf_10 ?_
      refine r_eq (y := (nI C)) hC ?_
      refine lv_icmp_ge (tgt := 71) hx hb dX9_swayOf_11 rfl (fun c_11 => ?_) (fun c_11 => ?_)
      · have ge_11 : C ≤ j := (nI_leI (a := C) (b := j) (by omega) (by omega)).mp c_11
        have ee_11 : C = j := by omega
        subst ee_11
        refine lv_iload_n hx hb dX9_swayOf_71 rfl (lv_at hl 2 rfl) ?_
        exact hret _ _ _ _ _ _ hW rfl rfl dX9_swayOf_72 (⟨rfl, rfl⟩)
      · have lt_11 : j < C := Nat.not_le.mp (fun h => c_11 ((nI_leI (a := C) (b := j) (by omega) (by omega)).mpr h))
        refine lv_iload_n hx hb dX9_swayOf_14 rfl (lv_at hl 2 rfl) ?_
        refine lv_aload_n hx hb dX9_swayOf_15 rfl (lv_at hl 0 rfl) ?_
        refine lv_aload_n hx hb dX9_swayOf_16 rfl (lv_at hl 0 rfl) ?_
        refine r_get Sx hW 0 rfl rfl bw_wsX90 15 (by decide) (v := .ref (b 7)) rfl mw120 dX9_swayOf_17 ?_
        refine lv_iload_n hx hb dX9_swayOf_20 rfl (lv_at hl 1 rfl) ?_
        refine lv_aload_n hx hb dX9_swayOf_21 rfl (lv_at hl 0 rfl) ?_
        refine callVI Sx hW (c_X9_everybody l D cI cZ cN b M tr N C hN hN7 hC hC4 hC1 ) vmX9_everybody mw454 [0, 1, 2, 3, 4, 5, 6, 7, 8, 9, 10, 11, 12, 13, 14, 15, 16, 17] rfl (by decide) 0 rfl rfl (As := []) (rest := [.int bi, .ref (b 7), .ref (b 0), .int (swM (M 7) (M 5) N C bi j)]) rfl rfl hl.1 (Nat.le_of_ble_eq_true rfl) ⟨Nat.le_of_ble_eq_true rfl, Nat.le_of_ble_eq_true rfl⟩ ⟨Nat.le_refl _, Nat.le_refl _⟩ dX9_swayOf_22 (fun rx wx H locs hqx hW => ?_)
        obtain ⟨hrx, rfl⟩ := hqx
        have hW : AtC D (tyG cI cZ cN) Ax (pMod cI cZ b M tr) sx H locs := hW.re [] 18 (by decide) rfl rfl trivial (by decide +kernel) rfl rfl
        refine r_eq (y := (evM N)) hrx ?_
        refine lv_aload_n hx hb dX9_swayOf_25 rfl (lv_at hl 0 rfl) ?_
        refine lv_aload_n hx hb dX9_swayOf_26 rfl (lv_at hl 0 rfl) ?_
        refine r_get Sx hW 0 rfl rfl bw_wsX90 15 (by decide) (v := .ref (b 7)) rfl mw120 dX9_swayOf_27 ?_
        refine lv_iload_n hx hb dX9_swayOf_30 rfl (lv_at hl 3 rfl) ?_
        refine callVI Sx hW (c_X9_peopleOf_s l D cI cZ cN b M tr N C hN hN7 hC hC4 hC1 (nI j) ) vmX9_peopleOf mw358 [0, 1, 2, 3, 4, 5, 6, 7, 8, 9, 10, 11, 12, 13, 14, 15, 16, 17] rfl (by decide) 0 rfl rfl (As := [.ref (b 7), .int (nI j)]) (rest := [.int (evM N), .int bi, .ref (b 7), .ref (b 0), .int (swM (M 7) (M 5) N C bi j)]) rfl rfl hl.1 (Nat.le_of_ble_eq_true rfl) ⟨Nat.le_of_ble_eq_true rfl, Nat.le_of_ble_eq_true rfl⟩ ⟨Nat.le_refl _, Nat.le_refl _⟩ dX9_swayOf_31 (fun rx wx H locs hqx hW => ?_)
        obtain ⟨hrx, rfl⟩ := hqx
        have hW : AtC D (tyG cI cZ cN) Ax (pMod cI cZ b M tr) sx H locs := hW.re [] 18 (by decide) rfl rfl trivial (by decide +kernel) rfl rfl
        refine r_eq (y := (ppO (M 7) (nI j) N)) hrx ?_
        refine lv_iconst (v := (-1 : Int32)) hx hb dX9_swayOf_34 rfl ?_
        refine lv_ixor hx hb dX9_swayOf_35 ?_
        refine lv_iand hx hb dX9_swayOf_36 ?_
        refine callVI Sx hW (c_X9_passes_s l D cI cZ cN b M tr N C hN hN7 hC hC4 hC1 bi ((evM N) &&& ((ppO (M 7) (nI j) N) ^^^ (-1 : Int32))) ) vmX9_passes mw466 [0, 1, 2, 3, 4, 5, 6, 7, 8, 9, 10, 11, 12, 13, 14, 15, 16, 17] rfl (by decide) 0 rfl rfl (As := [.ref (b 7), .int bi, .int ((evM N) &&& ((ppO (M 7) (nI j) N) ^^^ (-1 : Int32)))]) (rest := [.int (swM (M 7) (M 5) N C bi j)]) rfl rfl hl.1 (Nat.le_of_ble_eq_true rfl) ⟨Nat.le_of_ble_eq_true rfl, Nat.le_of_ble_eq_true rfl⟩ ⟨Nat.le_refl _, Nat.le_refl _⟩ dX9_swayOf_37 (fun rx wx H locs hqx hW => ?_)
        obtain ⟨hrx, rfl⟩ := hqx
        have hW : AtC D (tyG cI cZ cN) Ax (pMod cI cZ b M tr) sx H locs := hW.re [] 18 (by decide) rfl rfl trivial (by decide +kernel) rfl rfl
        refine r_eq (y := (psM (M 7) (M 5) N C bi ((evM N) &&& ((ppO (M 7) (nI j) N) ^^^ (-1 : Int32))))) hrx ?_
        refine lv_aload_n hx hb dX9_swayOf_40 rfl (lv_at hl 0 rfl) ?_
        refine lv_aload_n hx hb dX9_swayOf_41 rfl (lv_at hl 0 rfl) ?_
        refine r_get Sx hW 0 rfl rfl bw_wsX90 15 (by decide) (v := .ref (b 7)) rfl mw120 dX9_swayOf_42 ?_
        refine lv_iload_n hx hb dX9_swayOf_45 rfl (lv_at hl 1 rfl) ?_
        refine lv_aload_n hx hb dX9_swayOf_46 rfl (lv_at hl 0 rfl) ?_
        refine callVI Sx hW (c_X9_everybody l D cI cZ cN b M tr N C hN hN7 hC hC4 hC1 ) vmX9_everybody mw454 [0, 1, 2, 3, 4, 5, 6, 7, 8, 9, 10, 11, 12, 13, 14, 15, 16, 17] rfl (by decide) 0 rfl rfl (As := []) (rest := [.int bi, .ref (b 7), .ref (b 0), .int (psM (M 7) (M 5) N C bi ((evM N) &&& ((ppO (M 7) (nI j) N) ^^^ (-1 : Int32)))), .int (swM (M 7) (M 5) N C bi j)]) rfl rfl hl.1 (Nat.le_of_ble_eq_true rfl) ⟨Nat.le_of_ble_eq_true rfl, Nat.le_of_ble_eq_true rfl⟩ ⟨Nat.le_refl _, Nat.le_refl _⟩ dX9_swayOf_47 (fun rx wx H locs hqx hW => ?_)
        obtain ⟨hrx, rfl⟩ := hqx
        have hW : AtC D (tyG cI cZ cN) Ax (pMod cI cZ b M tr) sx H locs := hW.re [] 18 (by decide) rfl rfl trivial (by decide +kernel) rfl rfl
        refine r_eq (y := (evM N)) hrx ?_
        refine callVI Sx hW (c_X9_passes_s l D cI cZ cN b M tr N C hN hN7 hC hC4 hC1 bi (evM N) ) vmX9_passes mw466 [0, 1, 2, 3, 4, 5, 6, 7, 8, 9, 10, 11, 12, 13, 14, 15, 16, 17] rfl (by decide) 0 rfl rfl (As := [.ref (b 7), .int bi, .int (evM N)]) (rest := [.int (psM (M 7) (M 5) N C bi ((evM N) &&& ((ppO (M 7) (nI j) N) ^^^ (-1 : Int32)))), .int (swM (M 7) (M 5) N C bi j)]) rfl rfl hl.1 (Nat.le_of_ble_eq_true rfl) ⟨Nat.le_of_ble_eq_true rfl, Nat.le_of_ble_eq_true rfl⟩ ⟨Nat.le_refl _, Nat.le_refl _⟩ dX9_swayOf_50 (fun rx wx H locs hqx hW => ?_)
        obtain ⟨hrx, rfl⟩ := hqx
        have hW : AtC D (tyG cI cZ cN) Ax (pMod cI cZ b M tr) sx H locs := hW.re [] 18 (by decide) rfl rfl trivial (by decide +kernel) rfl rfl
        refine r_eq (y := (psM (M 7) (M 5) N C bi (evM N))) hrx ?_
        refine lv_icmp_eq (tgt := 62) hx hb dX9_swayOf_53 rfl (fun c_53 => ?_) (fun c_53 => ?_)
        · refine lv_iconst (v := (0 : Int32)) hx hb dX9_swayOf_62 rfl ?_
          refine lv_ior hx hb dX9_swayOf_63 ?_
          refine lv_istore_n (lv' := [(2, .int ((swM (M 7) (M 5) N C bi j) ||| (0 : Int32))), (0, .ref (b 0)), (1, .int bi), (3, .int (nI j))]) hx hb dX9_swayOf_64 rfl hl (by decide) rfl (fun ls hl => ?_)
          refine lv_iinc (v := (nI (j + 1))) (lv' := [(3, .int (nI (j + 1))), (2, .int ((swM (M 7) (M 5) N C bi j) ||| (0 : Int32))), (0, .ref (b 0)), (1, .int bi)]) hx hb dX9_swayOf_65 hl (k := 3) rfl (inc_n j 1) (by decide) rfl (fun ls hl => ?_)
          refine lv_goto (tgt := 4) hx hb dX9_swayOf_68 rfl ?_
          have hl_1 : lv_has ls 4 [(0, .ref (b 0)), (1, .int bi), (2, .int (swM (M 7) (M 5) N C bi (j + 1))), (3, .int (nI (j + 1)))] := by
            rw [show (swM (M 7) (M 5) N C bi (j + 1)) = ((swM (M 7) (M 5) N C bi j) ||| (0 : Int32)) from by rw [swM, if_pos c_53]]
            exact lv_sub hl [2, 3, 1, 0] rfl
          exact ih4 (j + 1) (by omega) (by omega) _ _ _ hW hl_1
        · refine lv_iconst (v := (1 : Int32)) hx hb dX9_swayOf_56 rfl ?_
          refine lv_iload_n hx hb dX9_swayOf_57 rfl (lv_at hl 3 rfl) ?_
          refine lv_ishl hx hb dX9_swayOf_58 ?_
          refine lv_goto (tgt := 63) hx hb dX9_swayOf_59 rfl ?_
          refine lv_ior hx hb dX9_swayOf_63 ?_
          refine lv_istore_n (lv' := [(2, .int ((swM (M 7) (M 5) N C bi j) ||| ((1 : Int32) <<< ((nI j) &&& 31)))), (0, .ref (b 0)), (1, .int bi), (3, .int (nI j))]) hx hb dX9_swayOf_64 rfl hl (by decide) rfl (fun ls hl => ?_)
          refine lv_iinc (v := (nI (j + 1))) (lv' := [(3, .int (nI (j + 1))), (2, .int ((swM (M 7) (M 5) N C bi j) ||| ((1 : Int32) <<< ((nI j) &&& 31)))), (0, .ref (b 0)), (1, .int bi)]) hx hb dX9_swayOf_65 hl (k := 3) rfl (inc_n j 1) (by decide) rfl (fun ls hl => ?_)
          refine lv_goto (tgt := 4) hx hb dX9_swayOf_68 rfl ?_
          have hl_2 : lv_has ls 4 [(0, .ref (b 0)), (1, .int bi), (2, .int (swM (M 7) (M 5) N C bi (j + 1))), (3, .int (nI (j + 1)))] := by
            rw [show (swM (M 7) (M 5) N C bi (j + 1)) = ((swM (M 7) (M 5) N C bi j) ||| ((1 : Int32) <<< ((nI j) &&& 31))) from by rw [swM, if_neg c_53]]
            exact lv_sub hl [2, 3, 1, 0] rfl
          exact ih4 (j + 1) (by omega) (by omega) _ _ _ hW hl_2
  exact lp_4 (C + 1) 0 (by omega) (by omega) _ _ _ hW (lv_sub hl [2, 3, 1, 0] rfl)

set_option maxHeartbeats 4000000 in
set_option maxRecDepth 100000 in
theorem c_X9_limping (l : Launch) (D : va_G) (cI cZ cN : ClassId) (b : Nat → Nat) (M : NV) (tr : Int64) (N C : Nat) (hN : M 2 1 = nI N) (hN7 : N ≤ 7) (hC : M 2 0 = nI C) (hC4 : C ≤ 4) (hC1 : 1 ≤ C) : CtI l yX9_limping cX9_limping 3 (some .int) 3 D (tyG cI cZ cN) [.ref (b 0)] (pMod cI cZ b M tr) (fun r w => r = lgM (M 7) N N ∧ w = (pMod cI cZ b M tr)) := by
  refine CtI.of rfl (Nat.le_of_ble_eq_true rfl) ?_
  intro pg ev sx mx ax bx mt cx ls Qx Ax Sx hret hW hl
  have hx := Sx.1
  have hb := Sx.2.1
  have hl : lv_has ls 3 [(0, .ref (b 0))] := hl
  refine lv_iconst (v := (0 : Int32)) hx hb dX9_limping_0 rfl ?_
  refine lv_istore_n (lv' := [(1, .int (0 : Int32)), (0, .ref (b 0))]) hx hb dX9_limping_1 rfl hl (by decide) rfl (fun ls hl => ?_)
  refine lv_iconst (v := (0 : Int32)) hx hb dX9_limping_2 rfl ?_
  refine lv_istore_n (lv' := [(2, .int (0 : Int32)), (1, .int (0 : Int32)), (0, .ref (b 0))]) hx hb dX9_limping_3 rfl hl (by decide) rfl (fun ls hl => ?_)
  have lp_4 : ∀ (n : Nat) (i : Nat), ((i ≤ N)) → ((N + 1 ≤ i + n)) → ∀ (H : Heap) (locs : List Loc) (ls : Array Slot), AtC D (tyG cI cZ cN) Ax (pMod cI cZ b M tr) sx H locs → lv_has ls 3 [(0, .ref (b 0)), (1, .int (lgM (M 7) N i)), (2, .int (nI i))] → W pg l ev (rmN 3) sx mx ax bx mt cx H locs 0 0 Qx (F0 mx 4 ls []) := by
    intro n
    induction n with
    | zero =>
      intro i hi_4 hn_4 H locs ls hW hl
      exact absurd hn_4 (by omega)
    | succ n ih4 =>
      intro i hi_4 hn_4 H locs ls hW hl
      refine lv_iload_n hx hb dX9_limping_4 rfl (lv_at hl 2 rfl) ?_
      refine lv_aload_n hx hb dX9_limping_5 rfl (lv_at hl 0 rfl) ?_
      refine r_get Sx hW 0 rfl rfl bw_wsX90 9 (by decide) (v := .ref (b 2)) rfl mw115 dX9_limping_6 ?_
      refine lv_iconst (v := (1 : Int32)) hx hb dX9_limping_9 rfl ?_
      refine r_iald Sx hW 2 0 rfl rfl (j := 1) rfl (by decide) (by decide) dX9_limping_10 ?_
      refine r_eq (y := (nI N)) hN ?_
      refine lv_icmp_ge (tgt := 42) hx hb dX9_limping_11 rfl (fun c_11 => ?_) (fun c_11 => ?_)
      · have ge_11 : N ≤ i := (nI_leI (a := N) (b := i) (by omega) (by omega)).mp c_11
        have ee_11 : N = i := by omega
        subst ee_11
        refine lv_iload_n hx hb dX9_limping_42 rfl (lv_at hl 1 rfl) ?_
        exact hret _ _ _ _ _ _ hW rfl rfl dX9_limping_43 (⟨rfl, rfl⟩)
      · have lt_11 : i < N := Nat.not_le.mp (fun h => c_11 ((nI_leI (a := N) (b := i) (by omega) (by omega)).mpr h))
        refine lv_iload_n hx hb dX9_limping_14 rfl (lv_at hl 1 rfl) ?_
        refine lv_aload_n hx hb dX9_limping_15 rfl (lv_at hl 0 rfl) ?_
        refine lv_aload_n hx hb dX9_limping_16 rfl (lv_at hl 0 rfl) ?_
        refine r_get Sx hW 0 rfl rfl bw_wsX90 15 (by decide) (v := .ref (b 7)) rfl mw120 dX9_limping_17 ?_
        refine lv_iload_n hx hb dX9_limping_20 rfl (lv_at hl 2 rfl) ?_
        refine callVI Sx hW (c_X9_limps_s l D cI cZ cN b M tr N C hN hN7 hC hC4 hC1 i (by omega) ) vmX9_limps mw351 [0, 1, 2, 3, 4, 5, 6, 7, 8, 9, 10, 11, 12, 13, 14, 15, 16, 17] rfl (by decide) 0 rfl rfl (As := [.ref (b 7), .int (nI i)]) (rest := [.int (lgM (M 7) N i)]) rfl rfl hl.1 (Nat.le_of_ble_eq_true rfl) ⟨Nat.le_of_ble_eq_true rfl, Nat.le_of_ble_eq_true rfl⟩ ⟨Nat.le_refl _, Nat.le_refl _⟩ dX9_limping_21 (fun rx wx H locs hqx hW => ?_)
        obtain ⟨hrx, rfl⟩ := hqx
        have hW : AtC D (tyG cI cZ cN) Ax (pMod cI cZ b M tr) sx H locs := hW.re [] 18 (by decide) rfl rfl trivial (by decide +kernel) rfl rfl
        refine r_eq (y := (liM (M 7) N i)) hrx ?_
        refine lv_if_eq (tgt := 33) hx hb dX9_limping_24 rfl (fun c_24 => ?_) (fun c_24 => ?_)
        · refine lv_iconst (v := (0 : Int32)) hx hb dX9_limping_33 rfl ?_
          refine lv_ior hx hb dX9_limping_34 ?_
          refine lv_istore_n (lv' := [(1, .int ((lgM (M 7) N i) ||| (0 : Int32))), (0, .ref (b 0)), (2, .int (nI i))]) hx hb dX9_limping_35 rfl hl (by decide) rfl (fun ls hl => ?_)
          refine lv_iinc (v := (nI (i + 1))) (lv' := [(2, .int (nI (i + 1))), (1, .int ((lgM (M 7) N i) ||| (0 : Int32))), (0, .ref (b 0))]) hx hb dX9_limping_36 hl (k := 2) rfl (inc_n i 1) (by decide) rfl (fun ls hl => ?_)
          refine lv_goto (tgt := 4) hx hb dX9_limping_39 rfl ?_
          have hl_1 : lv_has ls 3 [(0, .ref (b 0)), (1, .int (lgM (M 7) N (i + 1))), (2, .int (nI (i + 1)))] := by
            rw [show (lgM (M 7) N (i + 1)) = ((lgM (M 7) N i) ||| (0 : Int32)) from by rw [lgM, if_pos c_24]]
            exact lv_sub hl [2, 1, 0] rfl
          exact ih4 (i + 1) (by omega) (by omega) _ _ _ hW hl_1
        · refine lv_iconst (v := (1 : Int32)) hx hb dX9_limping_27 rfl ?_
          refine lv_iload_n hx hb dX9_limping_28 rfl (lv_at hl 2 rfl) ?_
          refine lv_ishl hx hb dX9_limping_29 ?_
          refine lv_goto (tgt := 34) hx hb dX9_limping_30 rfl ?_
          refine lv_ior hx hb dX9_limping_34 ?_
          refine lv_istore_n (lv' := [(1, .int ((lgM (M 7) N i) ||| ((1 : Int32) <<< ((nI i) &&& 31)))), (0, .ref (b 0)), (2, .int (nI i))]) hx hb dX9_limping_35 rfl hl (by decide) rfl (fun ls hl => ?_)
          refine lv_iinc (v := (nI (i + 1))) (lv' := [(2, .int (nI (i + 1))), (1, .int ((lgM (M 7) N i) ||| ((1 : Int32) <<< ((nI i) &&& 31)))), (0, .ref (b 0))]) hx hb dX9_limping_36 hl (k := 2) rfl (inc_n i 1) (by decide) rfl (fun ls hl => ?_)
          refine lv_goto (tgt := 4) hx hb dX9_limping_39 rfl ?_
          have hl_2 : lv_has ls 3 [(0, .ref (b 0)), (1, .int (lgM (M 7) N (i + 1))), (2, .int (nI (i + 1)))] := by
            rw [show (lgM (M 7) N (i + 1)) = ((lgM (M 7) N i) ||| ((1 : Int32) <<< ((nI i) &&& 31))) from by rw [lgM, if_neg c_24]]
            exact lv_sub hl [2, 1, 0] rfl
          exact ih4 (i + 1) (by omega) (by omega) _ _ _ hW hl_2
  exact lp_4 (N + 1) 0 (by omega) (by omega) _ _ _ hW (lv_sub hl [2, 1, 0] rfl)

set_option maxHeartbeats 4000000 in
set_option maxRecDepth 100000 in
theorem c_X9_badOnes (l : Launch) (D : va_G) (cI cZ cN : ClassId) (b : Nat → Nat) (M : NV) (tr : Int64) (N C : Nat) (hN : M 2 1 = nI N) (hN7 : N ≤ 7) (hC : M 2 0 = nI C) (hC4 : C ≤ 4) (hC1 : 1 ≤ C) : CtI l yX9_badOnes cX9_badOnes 3 (some .int) 1 D (tyG cI cZ cN) [.ref (b 0)] (pMod cI cZ b M tr) (fun r w => r = boM (M 7) (M 6) N N / 2 ∧ w = (pMod cI cZ b M tr)) := by
  refine CtI.of rfl (Nat.le_of_ble_eq_true rfl) ?_
  intro pg ev sx mx ax bx mt cx ls Qx Ax Sx hret hW hl
  have hx := Sx.1
  have hb := Sx.2.1
  have hl : lv_has ls 3 [(0, .ref (b 0))] := hl
  refine lv_iconst (v := (0 : Int32)) hx hb dX9_badOnes_0 rfl ?_
  refine lv_istore_n (lv' := [(1, .int (0 : Int32)), (0, .ref (b 0))]) hx hb dX9_badOnes_1 rfl hl (by decide) rfl (fun ls hl => ?_)
  refine lv_iconst (v := (0 : Int32)) hx hb dX9_badOnes_2 rfl ?_
  refine lv_istore_n (lv' := [(2, .int (0 : Int32)), (1, .int (0 : Int32)), (0, .ref (b 0))]) hx hb dX9_badOnes_3 rfl hl (by decide) rfl (fun ls hl => ?_)
  have lp_4 : ∀ (n : Nat) (i : Nat), ((i ≤ N)) → ((N + 1 ≤ i + n)) → ∀ (H : Heap) (locs : List Loc) (ls : Array Slot), AtC D (tyG cI cZ cN) Ax (pMod cI cZ b M tr) sx H locs → lv_has ls 3 [(0, .ref (b 0)), (1, .int (boM (M 7) (M 6) N i)), (2, .int (nI i))] → W pg l ev (rmN 1) sx mx ax bx mt cx H locs 0 0 Qx (F0 mx 4 ls []) := by
    intro n
    induction n with
    | zero =>
      intro i hi_4 hn_4 H locs ls hW hl
      exact absurd hn_4 (by omega)
    | succ n ih4 =>
      intro i hi_4 hn_4 H locs ls hW hl
      refine lv_iload_n hx hb dX9_badOnes_4 rfl (lv_at hl 2 rfl) ?_
      refine lv_aload_n hx hb dX9_badOnes_5 rfl (lv_at hl 0 rfl) ?_
      refine r_get Sx hW 0 rfl rfl bw_wsX90 9 (by decide) (v := .ref (b 2)) rfl mw115 dX9_badOnes_6 ?_
      refine lv_iconst (v := (1 : Int32)) hx hb dX9_badOnes_9 rfl ?_
      refine r_iald Sx hW 2 0 rfl rfl (j := 1) rfl (by decide) (by decide) dX9_badOnes_10 ?_
      refine r_eq (y := (nI N)) hN ?_
      refine lv_icmp_ge (tgt := 49) hx hb dX9_badOnes_11 rfl (fun c_11 => ?_) (fun c_11 => ?_)
      · have ge_11 : N ≤ i := (nI_leI (a := N) (b := i) (by omega) (by omega)).mp c_11
        have ee_11 : N = i := by omega
        subst ee_11
        refine lv_iload_n hx hb dX9_badOnes_49 rfl (lv_at hl 1 rfl) ?_
        refine lv_iconst (v := (2 : Int32)) hx hb dX9_badOnes_50 rfl ?_
        refine lv_idiv hx hb dX9_badOnes_51 (by decide) ?_
        exact hret _ _ _ _ _ _ hW rfl rfl dX9_badOnes_52 (⟨rfl, rfl⟩)
      · have lt_11 : i < N := Nat.not_le.mp (fun h => c_11 ((nI_leI (a := N) (b := i) (by omega) (by omega)).mpr h))
        refine lv_iload_n hx hb dX9_badOnes_14 rfl (lv_at hl 1 rfl) ?_
        refine lv_aload_n hx hb dX9_badOnes_15 rfl (lv_at hl 0 rfl) ?_
        refine r_get Sx hW 0 rfl rfl bw_wsX90 13 (by decide) (v := .ref (b 6)) rfl mw119 dX9_badOnes_16 ?_
        refine lv_iload_n hx hb dX9_badOnes_19 rfl (lv_at hl 2 rfl) ?_
        refine r_iald Sx hW 6 0 rfl rfl (j := i) rfl (by omega) (by decide) dX9_badOnes_20 ?_
        refine lv_aload_n hx hb dX9_badOnes_21 rfl (lv_at hl 0 rfl) ?_
        refine lv_aload_n hx hb dX9_badOnes_22 rfl (lv_at hl 0 rfl) ?_
        refine r_get Sx hW 0 rfl rfl bw_wsX90 15 (by decide) (v := .ref (b 7)) rfl mw120 dX9_badOnes_23 ?_
        refine lv_aload_n hx hb dX9_badOnes_26 rfl (lv_at hl 0 rfl) ?_
        refine r_get Sx hW 0 rfl rfl bw_wsX90 15 (by decide) (v := .ref (b 7)) rfl mw120 dX9_badOnes_27 ?_
        refine lv_iconst (v := (0 : Int32)) hx hb dX9_badOnes_30 rfl ?_
        refine lv_iload_n hx hb dX9_badOnes_31 rfl (lv_at hl 2 rfl) ?_
        refine lv_iadd hx hb dX9_badOnes_32 ?_
        refine r_eq (y := (nI i)) ((nI_add 0 i).trans (congrArg nI (Nat.zero_add i))) ?_
        refine r_iald Sx hW 7 0 rfl rfl (j := i) rfl (by omega) (by decide) dX9_badOnes_33 ?_
        refine callVI Sx hW (c_X9_peopleOf_s l D cI cZ cN b M tr N C hN hN7 hC hC4 hC1 ((M 7) i) ) vmX9_peopleOf mw358 [0, 1, 2, 3, 4, 5, 6, 7, 8, 9, 10, 11, 12, 13, 14, 15, 16, 17] rfl (by decide) 0 rfl rfl (As := [.ref (b 7), .int ((M 7) i)]) (rest := [.int ((M 6) i), .int (boM (M 7) (M 6) N i)]) rfl rfl hl.1 (Nat.le_of_ble_eq_true rfl) ⟨Nat.le_of_ble_eq_true rfl, Nat.le_of_ble_eq_true rfl⟩ ⟨Nat.le_refl _, Nat.le_refl _⟩ dX9_badOnes_34 (fun rx wx H locs hqx hW => ?_)
        obtain ⟨hrx, rfl⟩ := hqx
        have hW : AtC D (tyG cI cZ cN) Ax (pMod cI cZ b M tr) sx H locs := hW.re [] 18 (by decide) rfl rfl trivial (by decide +kernel) rfl rfl
        refine r_eq (y := (ppO (M 7) ((M 7) i) N)) hrx ?_
        refine lv_iand hx hb dX9_badOnes_37 ?_
        refine callSI Sx hW (c_X9_ones l D cI cZ cN (((M 6) i) &&& (ppO (M 7) ((M 7) i) N))) smX9_ones mw374 (As := [.int (((M 6) i) &&& (ppO (M 7) ((M 7) i) N))]) (rest := [.int (boM (M 7) (M 6) N i)]) rfl rfl hl.1 (Nat.le_of_ble_eq_true rfl) ⟨Nat.le_of_ble_eq_true rfl, Nat.le_of_ble_eq_true rfl⟩ ⟨Nat.le_refl _, Nat.le_refl _⟩ dX9_badOnes_38 (fun rx H locs hqx hW => ?_)
        obtain ⟨hrx, -⟩ := hqx
        refine r_eq (y := (onI (((M 6) i) &&& (ppO (M 7) ((M 7) i) N)) 7)) hrx ?_
        refine lv_iadd hx hb dX9_badOnes_41 ?_
        refine lv_istore_n (lv' := [(1, .int ((boM (M 7) (M 6) N i) + (onI (((M 6) i) &&& (ppO (M 7) ((M 7) i) N)) 7))), (0, .ref (b 0)), (2, .int (nI i))]) hx hb dX9_badOnes_42 rfl hl (by decide) rfl (fun ls hl => ?_)
        refine lv_iinc (v := (nI (i + 1))) (lv' := [(2, .int (nI (i + 1))), (1, .int ((boM (M 7) (M 6) N i) + (onI (((M 6) i) &&& (ppO (M 7) ((M 7) i) N)) 7))), (0, .ref (b 0))]) hx hb dX9_badOnes_43 hl (k := 2) rfl (inc_n i 1) (by decide) rfl (fun ls hl => ?_)
        refine lv_goto (tgt := 4) hx hb dX9_badOnes_46 rfl ?_
        exact ih4 (i + 1) (by omega) (by omega) _ _ _ hW (lv_sub hl [2, 1, 0] rfl)
  exact lp_4 (N + 1) 0 (by omega) (by omega) _ _ _ hW (lv_sub hl [2, 1, 0] rfl)

set_option maxHeartbeats 4000000 in
set_option maxRecDepth 100000 in
theorem c_X9_alone (l : Launch) (D : va_G) (cI cZ cN : ClassId) (b : Nat → Nat) (M : NV) (tr : Int64) (N C : Nat) (hN : M 2 1 = nI N) (hN7 : N ≤ 7) (hC : M 2 0 = nI C) (hC4 : C ≤ 4) (hC1 : 1 ≤ C) : CtI l yX9_alone cX9_alone 3 (some .int) 1 D (tyG cI cZ cN) [.ref (b 0)] (pMod cI cZ b M tr) (fun r w => r = aloM (M 7) N N ∧ w = (pMod cI cZ b M tr)) := by
  refine CtI.of rfl (Nat.le_of_ble_eq_true rfl) ?_
  intro pg ev sx mx ax bx mt cx ls Qx Ax Sx hret hW hl
  have hx := Sx.1
  have hb := Sx.2.1
  have hl : lv_has ls 3 [(0, .ref (b 0))] := hl
  refine lv_iconst (v := (0 : Int32)) hx hb dX9_alone_0 rfl ?_
  refine lv_istore_n (lv' := [(1, .int (0 : Int32)), (0, .ref (b 0))]) hx hb dX9_alone_1 rfl hl (by decide) rfl (fun ls hl => ?_)
  refine lv_iconst (v := (0 : Int32)) hx hb dX9_alone_2 rfl ?_
  refine lv_istore_n (lv' := [(2, .int (0 : Int32)), (1, .int (0 : Int32)), (0, .ref (b 0))]) hx hb dX9_alone_3 rfl hl (by decide) rfl (fun ls hl => ?_)
  have lp_4 : ∀ (n : Nat) (i : Nat), ((i ≤ N)) → ((N + 1 ≤ i + n)) → ∀ (H : Heap) (locs : List Loc) (ls : Array Slot), AtC D (tyG cI cZ cN) Ax (pMod cI cZ b M tr) sx H locs → lv_has ls 3 [(0, .ref (b 0)), (1, .int (aloM (M 7) N i)), (2, .int (nI i))] → W pg l ev (rmN 1) sx mx ax bx mt cx H locs 0 0 Qx (F0 mx 4 ls []) := by
    intro n
    induction n with
    | zero =>
      intro i hi_4 hn_4 H locs ls hW hl
      exact absurd hn_4 (by omega)
    | succ n ih4 =>
      intro i hi_4 hn_4 H locs ls hW hl
      refine lv_iload_n hx hb dX9_alone_4 rfl (lv_at hl 2 rfl) ?_
      refine lv_aload_n hx hb dX9_alone_5 rfl (lv_at hl 0 rfl) ?_
      refine r_get Sx hW 0 rfl rfl bw_wsX90 9 (by decide) (v := .ref (b 2)) rfl mw115 dX9_alone_6 ?_
      refine lv_iconst (v := (1 : Int32)) hx hb dX9_alone_9 rfl ?_
      refine r_iald Sx hW 2 0 rfl rfl (j := 1) rfl (by decide) (by decide) dX9_alone_10 ?_
      refine r_eq (y := (nI N)) hN ?_
      refine lv_icmp_ge (tgt := 52) hx hb dX9_alone_11 rfl (fun c_11 => ?_) (fun c_11 => ?_)
      · have ge_11 : N ≤ i := (nI_leI (a := N) (b := i) (by omega) (by omega)).mp c_11
        have ee_11 : N = i := by omega
        subst ee_11
        refine lv_iload_n hx hb dX9_alone_52 rfl (lv_at hl 1 rfl) ?_
        exact hret _ _ _ _ _ _ hW rfl rfl dX9_alone_53 (⟨rfl, rfl⟩)
      · have lt_11 : i < N := Nat.not_le.mp (fun h => c_11 ((nI_leI (a := N) (b := i) (by omega) (by omega)).mpr h))
        refine lv_iload_n hx hb dX9_alone_14 rfl (lv_at hl 1 rfl) ?_
        refine lv_aload_n hx hb dX9_alone_15 rfl (lv_at hl 0 rfl) ?_
        refine lv_aload_n hx hb dX9_alone_16 rfl (lv_at hl 0 rfl) ?_
        refine r_get Sx hW 0 rfl rfl bw_wsX90 15 (by decide) (v := .ref (b 7)) rfl mw120 dX9_alone_17 ?_
        refine lv_aload_n hx hb dX9_alone_20 rfl (lv_at hl 0 rfl) ?_
        refine r_get Sx hW 0 rfl rfl bw_wsX90 15 (by decide) (v := .ref (b 7)) rfl mw120 dX9_alone_21 ?_
        refine lv_iconst (v := (0 : Int32)) hx hb dX9_alone_24 rfl ?_
        refine lv_iload_n hx hb dX9_alone_25 rfl (lv_at hl 2 rfl) ?_
        refine lv_iadd hx hb dX9_alone_26 ?_
        refine r_eq (y := (nI i)) ((nI_add 0 i).trans (congrArg nI (Nat.zero_add i))) ?_
        refine r_iald Sx hW 7 0 rfl rfl (j := i) rfl (by omega) (by decide) dX9_alone_27 ?_
        refine callVI Sx hW (c_X9_peopleOf_s l D cI cZ cN b M tr N C hN hN7 hC hC4 hC1 ((M 7) i) ) vmX9_peopleOf mw358 [0, 1, 2, 3, 4, 5, 6, 7, 8, 9, 10, 11, 12, 13, 14, 15, 16, 17] rfl (by decide) 0 rfl rfl (As := [.ref (b 7), .int ((M 7) i)]) (rest := [.int (aloM (M 7) N i)]) rfl rfl hl.1 (Nat.le_of_ble_eq_true rfl) ⟨Nat.le_of_ble_eq_true rfl, Nat.le_of_ble_eq_true rfl⟩ ⟨Nat.le_refl _, Nat.le_refl _⟩ dX9_alone_28 (fun rx wx H locs hqx hW => ?_)
        obtain ⟨hrx, rfl⟩ := hqx
        have hW : AtC D (tyG cI cZ cN) Ax (pMod cI cZ b M tr) sx H locs := hW.re [] 18 (by decide) rfl rfl trivial (by decide +kernel) rfl rfl
        refine r_eq (y := (ppO (M 7) ((M 7) i) N)) hrx ?_
        refine lv_iconst (v := (1 : Int32)) hx hb dX9_alone_31 rfl ?_
        refine lv_iload_n hx hb dX9_alone_32 rfl (lv_at hl 2 rfl) ?_
        refine lv_ishl hx hb dX9_alone_33 ?_
        refine lv_icmp_ne (tgt := 43) hx hb dX9_alone_34 rfl (fun c_34 => ?_) (fun c_34 => ?_)
        · refine lv_iconst (v := (0 : Int32)) hx hb dX9_alone_43 rfl ?_
          refine lv_ior hx hb dX9_alone_44 ?_
          refine lv_istore_n (lv' := [(1, .int ((aloM (M 7) N i) ||| (0 : Int32))), (0, .ref (b 0)), (2, .int (nI i))]) hx hb dX9_alone_45 rfl hl (by decide) rfl (fun ls hl => ?_)
          refine lv_iinc (v := (nI (i + 1))) (lv' := [(2, .int (nI (i + 1))), (1, .int ((aloM (M 7) N i) ||| (0 : Int32))), (0, .ref (b 0))]) hx hb dX9_alone_46 hl (k := 2) rfl (inc_n i 1) (by decide) rfl (fun ls hl => ?_)
          refine lv_goto (tgt := 4) hx hb dX9_alone_49 rfl ?_
          have hl_1 : lv_has ls 3 [(0, .ref (b 0)), (1, .int (aloM (M 7) N (i + 1))), (2, .int (nI (i + 1)))] := by
            rw [show (aloM (M 7) N (i + 1)) = ((aloM (M 7) N i) ||| (0 : Int32)) from by rw [aloM, if_neg c_34]]
            exact lv_sub hl [2, 1, 0] rfl
          exact ih4 (i + 1) (by omega) (by omega) _ _ _ hW hl_1
        · refine lv_iconst (v := (1 : Int32)) hx hb dX9_alone_37 rfl ?_
          refine lv_iload_n hx hb dX9_alone_38 rfl (lv_at hl 2 rfl) ?_
          refine lv_ishl hx hb dX9_alone_39 ?_
          refine lv_goto (tgt := 44) hx hb dX9_alone_40 rfl ?_
          refine lv_ior hx hb dX9_alone_44 ?_
          refine lv_istore_n (lv' := [(1, .int ((aloM (M 7) N i) ||| ((1 : Int32) <<< ((nI i) &&& 31)))), (0, .ref (b 0)), (2, .int (nI i))]) hx hb dX9_alone_45 rfl hl (by decide) rfl (fun ls hl => ?_)
          refine lv_iinc (v := (nI (i + 1))) (lv' := [(2, .int (nI (i + 1))), (1, .int ((aloM (M 7) N i) ||| ((1 : Int32) <<< ((nI i) &&& 31)))), (0, .ref (b 0))]) hx hb dX9_alone_46 hl (k := 2) rfl (inc_n i 1) (by decide) rfl (fun ls hl => ?_)
          refine lv_goto (tgt := 4) hx hb dX9_alone_49 rfl ?_
          have hl_2 : lv_has ls 3 [(0, .ref (b 0)), (1, .int (aloM (M 7) N (i + 1))), (2, .int (nI (i + 1)))] := by
            rw [show (aloM (M 7) N (i + 1)) = ((aloM (M 7) N i) ||| ((1 : Int32) <<< ((nI i) &&& 31))) from by rw [aloM, if_pos c_34]]
            exact lv_sub hl [2, 1, 0] rfl
          exact ih4 (i + 1) (by omega) (by omega) _ _ _ hW hl_2
  exact lp_4 (N + 1) 0 (by omega) (by omega) _ _ _ hW (lv_sub hl [2, 1, 0] rfl)
