/-! OneJohnModel: what was told; marriages; odds -/
def ftM (w to ti : Nat → Int32) (N z1 j : Nat) : Int32 := itM (upd w 22 (nI j)) to ti N z1
def grM (w bi ro ri : Nat → Int32) (N C z2 j : Nat) : Int32 := irM (upd w 22 (nI j)) bi ro ri N C z2
theorem ft_eq (w to ti : Nat → Int32) (N z1 j : Nat) : itM (upd (wqW w j) 22 (nI j)) to ti N z1 = ftM w to ti N z1 j := by rw [ftM, wqW_upd]
theorem gr_eq (w bi ro ri : Nat → Int32) (N C z2 j : Nat) : irM (upd (wqW w j) 22 (nI j)) bi ro ri N C z2 = grM w bi ro ri N C z2 j := by rw [grM, wqW_upd]
def hq_eq (w to ti : Nat → Int32) (N z1 j : Nat) : Int32 := itM (upd w 21 ((1 : Int32) <<< (nI j &&& 31))) to ti N z1
theorem hq_e (w to ti : Nat → Int32) (N z1 j : Nat) : itM (upd (whW w j) 21 ((1 : Int32) <<< (nI j &&& 31))) to ti N z1 = itM (upd w 21 ((1 : Int32) <<< (nI j &&& 31))) to ti N z1 := by rw [whW_upd]
def mmM (r qu : Nat → Int32) (P Q : Nat) : Int32 := if r P = r Q then 0 else if (qu P >>> (nI Q &&& 31)) &&& 1 = 0 then 1 else 0

set_option maxHeartbeats 4000000 in
set_option maxRecDepth 100000 in
theorem c_X9_isAsTold (l : Launch) (D : va_G) (cI cZ cN : ClassId) (b : Nat → Nat) (M : NV) (tr : Int64) (N C : Nat) (hN : M 2 1 = nI N) (hN7 : N ≤ 7) (hC : M 2 0 = nI C) (hC4 : C ≤ 4) (hC1 : 1 ≤ C) (z1 : Nat) (hc1 : M 0 9 = nI z1) (hz16 : z1 ≤ 6) (hto : ∀ e, e < z1 → ∃ P : Nat, P < N ∧ M 12 e = nI P) : CtI l yX9_isAsTold cX9_isAsTold 3 (some .boolean) 3 D (tyG cI cZ cN) [.ref (b 0)] (pMod cI cZ b M tr) (fun r w => r = itM (M 8) (M 12) (M 13) N z1 ∧ w = (pMod cI cZ b M tr)) := by
  refine CtI.of rfl (Nat.le_of_ble_eq_true rfl) ?_
  intro pg ev sx mx ax bx mt cx ls Qx Ax Sx hret hW hl
  have hx := Sx.1
  have hb := Sx.2.1
  have hl : lv_has ls 3 [(0, .ref (b 0))] := hl
  refine lv_iconst (v := (1 : Int32)) hx hb dX9_isAsTold_0 rfl ?_
  refine lv_istore_n (lv' := [(1, .int (1 : Int32)), (0, .ref (b 0))]) hx hb dX9_isAsTold_1 rfl hl (by decide) rfl (fun ls hl => ?_)
  refine lv_iconst (v := (0 : Int32)) hx hb dX9_isAsTold_2 rfl ?_
  refine lv_istore_n (lv' := [(2, .int (0 : Int32)), (1, .int (1 : Int32)), (0, .ref (b 0))]) hx hb dX9_isAsTold_3 rfl hl (by decide) rfl (fun ls hl => ?_)
  have lp_4 : ∀ (n : Nat) (i : Nat), ((i ≤ z1)) → ((z1 + 1 ≤ i + n)) → ∀ (H : Heap) (locs : List Loc) (ls : Array Slot), AtC D (tyG cI cZ cN) Ax (pMod cI cZ b M tr) sx H locs → lv_has ls 3 [(0, .ref (b 0)), (1, .int (itM (M 8) (M 12) (M 13) N i)), (2, .int (nI i))] → W pg l ev (rmN 3) sx mx ax bx mt cx H locs 0 0 Qx (F0 mx 4 ls []) := by
    intro n
    induction n with
    | zero =>
      intro i hi_4 hn_4 H locs ls hW hl
      exact absurd hn_4 (by omega)
    | succ n ih4 =>
      intro i hi_4 hn_4 H locs ls hW hl
      refine lv_iload_n hx hb dX9_isAsTold_4 rfl (lv_at hl 2 rfl) ?_
      refine lv_aload_n hx hb dX9_isAsTold_5 rfl (lv_at hl 0 rfl) ?_
      refine r_get Sx hW 0 rfl rfl bw_wsX90 23 (by decide) (v := .int (M 0 9)) rfl mw284 dX9_isAsTold_6 ?_
      refine r_eq (y := (nI z1)) hc1 ?_
      refine lv_icmp_ge (tgt := 60) hx hb dX9_isAsTold_9 rfl (fun c_9 => ?_) (fun c_9 => ?_)
      · have ge_9 : z1 ≤ i := (nI_leI (a := z1) (b := i) (by omega) (by omega)).mp c_9
        have ee_9 : z1 = i := by omega
        subst ee_9
        refine lv_iload_n hx hb dX9_isAsTold_60 rfl (lv_at hl 1 rfl) ?_
        exact hret _ _ _ _ _ _ hW rfl (nar01 (itM_01 _ _ _ _ _)) dX9_isAsTold_61 (⟨rfl, rfl⟩)
      · have lt_9 : i < z1 := Nat.not_le.mp (fun h => c_9 ((nI_leI (a := z1) (b := i) (by omega) (by omega)).mpr h))
        refine lv_iload_n hx hb dX9_isAsTold_12 rfl (lv_at hl 1 rfl) ?_
        refine lv_if_eq (tgt := 52) hx hb dX9_isAsTold_13 rfl (fun c_13 => ?_) (fun c_13 => ?_)
        · refine lv_iconst (v := (0 : Int32)) hx hb dX9_isAsTold_52 rfl ?_
          refine lv_istore_n (lv' := [(1, .int (0 : Int32)), (0, .ref (b 0)), (2, .int (nI i))]) hx hb dX9_isAsTold_53 rfl hl (by decide) rfl (fun ls hl => ?_)
          refine lv_iinc (v := (nI (i + 1))) (lv' := [(2, .int (nI (i + 1))), (1, .int (0 : Int32)), (0, .ref (b 0))]) hx hb dX9_isAsTold_54 hl (k := 2) rfl (inc_n i 1) (by decide) rfl (fun ls hl => ?_)
          refine lv_goto (tgt := 4) hx hb dX9_isAsTold_57 rfl ?_
          have hl_1 : lv_has ls 3 [(0, .ref (b 0)), (1, .int (itM (M 8) (M 12) (M 13) N (i + 1))), (2, .int (nI (i + 1)))] := by
            rw [show (itM (M 8) (M 12) (M 13) N (i + 1)) = (0 : Int32) from by rw [itM, if_pos c_13]]
            exact lv_sub hl [2, 1, 0] rfl
          exact ih4 (i + 1) (by omega) (by omega) _ _ _ hW hl_1
        · obtain ⟨Pe, hPe, ePe⟩ := hto i lt_9
          refine lv_aload_n hx hb dX9_isAsTold_16 rfl (lv_at hl 0 rfl) ?_
          refine lv_aload_n hx hb dX9_isAsTold_17 rfl (lv_at hl 0 rfl) ?_
          refine r_get Sx hW 0 rfl rfl bw_wsX90 16 (by decide) (v := .ref (b 8)) rfl mw121 dX9_isAsTold_18 ?_
          refine lv_aload_n hx hb dX9_isAsTold_21 rfl (lv_at hl 0 rfl) ?_
          refine r_get Sx hW 0 rfl rfl bw_wsX90 21 (by decide) (v := .ref (b 12)) rfl mw125 dX9_isAsTold_22 ?_
          refine lv_iload_n hx hb dX9_isAsTold_25 rfl (lv_at hl 2 rfl) ?_
          refine r_iald Sx hW 12 0 rfl rfl (j := i) rfl (by omega) (by decide) dX9_isAsTold_26 ?_
          refine r_eq (y := (nI Pe)) ePe ?_
          refine callVI Sx hW (c_X9_limps_w l D cI cZ cN b M tr N C hN hN7 hC hC4 hC1 Pe (by omega) ) vmX9_limps mw351 [0, 1, 2, 3, 4, 5, 6, 7, 8, 9, 10, 11, 12, 13, 14, 15, 16, 17] rfl (by decide) 0 rfl rfl (As := [.ref (b 8), .int (nI Pe)]) (rest := []) rfl rfl hl.1 (Nat.le_of_ble_eq_true rfl) ⟨Nat.le_of_ble_eq_true rfl, Nat.le_of_ble_eq_true rfl⟩ ⟨Nat.le_refl _, Nat.le_refl _⟩ dX9_isAsTold_27 (fun rx wx H locs hqx hW => ?_)
          obtain ⟨hrx, rfl⟩ := hqx
          have hW : AtC D (tyG cI cZ cN) Ax (pMod cI cZ b M tr) sx H locs := hW.re [] 18 (by decide) rfl rfl trivial (by decide +kernel) rfl rfl
          refine r_eq (y := (liM (M 8) N Pe)) hrx ?_
          refine lv_aload_n hx hb dX9_isAsTold_30 rfl (lv_at hl 0 rfl) ?_
          refine r_get Sx hW 0 rfl rfl bw_wsX90 22 (by decide) (v := .ref (b 13)) rfl mw126 dX9_isAsTold_31 ?_
          refine lv_iload_n hx hb dX9_isAsTold_34 rfl (lv_at hl 2 rfl) ?_
          refine r_iald Sx hW 13 0 rfl rfl (j := i) rfl (by omega) (by decide) dX9_isAsTold_35 ?_
          refine lv_iconst (v := (1 : Int32)) hx hb dX9_isAsTold_36 rfl ?_
          refine lv_icmp_ne (tgt := 44) hx hb dX9_isAsTold_37 rfl (fun c_37 => ?_) (fun c_37 => ?_)
          · refine lv_iconst (v := (0 : Int32)) hx hb dX9_isAsTold_44 rfl ?_
            refine lv_icmp_ne (tgt := 52) hx hb dX9_isAsTold_45 rfl (fun c_45 => ?_) (fun c_45 => ?_)
            · refine lv_iconst (v := (0 : Int32)) hx hb dX9_isAsTold_52 rfl ?_
              refine lv_istore_n (lv' := [(1, .int (0 : Int32)), (0, .ref (b 0)), (2, .int (nI i))]) hx hb dX9_isAsTold_53 rfl hl (by decide) rfl (fun ls hl => ?_)
              refine lv_iinc (v := (nI (i + 1))) (lv' := [(2, .int (nI (i + 1))), (1, .int (0 : Int32)), (0, .ref (b 0))]) hx hb dX9_isAsTold_54 hl (k := 2) rfl (inc_n i 1) (by decide) rfl (fun ls hl => ?_)
              refine lv_goto (tgt := 4) hx hb dX9_isAsTold_57 rfl ?_
              have hl_2 : lv_has ls 3 [(0, .ref (b 0)), (1, .int (itM (M 8) (M 12) (M 13) N (i + 1))), (2, .int (nI (i + 1)))] := by
                rw [show (itM (M 8) (M 12) (M 13) N (i + 1)) = (0 : Int32) from by rw [itM, if_neg c_13, ePe, nI_clamp (n := Pe) (by omega), if_neg c_37, if_neg c_45]]
                exact lv_sub hl [2, 1, 0] rfl
              exact ih4 (i + 1) (by omega) (by omega) _ _ _ hW hl_2
            · refine lv_iconst (v := (1 : Int32)) hx hb dX9_isAsTold_48 rfl ?_
              refine lv_goto (tgt := 53) hx hb dX9_isAsTold_49 rfl ?_
              refine lv_istore_n (lv' := [(1, .int (1 : Int32)), (0, .ref (b 0)), (2, .int (nI i))]) hx hb dX9_isAsTold_53 rfl hl (by decide) rfl (fun ls hl => ?_)
              refine lv_iinc (v := (nI (i + 1))) (lv' := [(2, .int (nI (i + 1))), (1, .int (1 : Int32)), (0, .ref (b 0))]) hx hb dX9_isAsTold_54 hl (k := 2) rfl (inc_n i 1) (by decide) rfl (fun ls hl => ?_)
              refine lv_goto (tgt := 4) hx hb dX9_isAsTold_57 rfl ?_
              have hl_3 : lv_has ls 3 [(0, .ref (b 0)), (1, .int (itM (M 8) (M 12) (M 13) N (i + 1))), (2, .int (nI (i + 1)))] := by
                rw [show (itM (M 8) (M 12) (M 13) N (i + 1)) = (1 : Int32) from by rw [itM, if_neg c_13, ePe, nI_clamp (n := Pe) (by omega), if_neg c_37, if_pos c_45]]
                exact lv_sub hl [2, 1, 0] rfl
              exact ih4 (i + 1) (by omega) (by omega) _ _ _ hW hl_3
          · refine lv_iconst (v := (1 : Int32)) hx hb dX9_isAsTold_40 rfl ?_
            refine lv_goto (tgt := 45) hx hb dX9_isAsTold_41 rfl ?_
            refine lv_icmp_ne (tgt := 52) hx hb dX9_isAsTold_45 rfl (fun c_45 => ?_) (fun c_45 => ?_)
            · refine lv_iconst (v := (0 : Int32)) hx hb dX9_isAsTold_52 rfl ?_
              refine lv_istore_n (lv' := [(1, .int (0 : Int32)), (0, .ref (b 0)), (2, .int (nI i))]) hx hb dX9_isAsTold_53 rfl hl (by decide) rfl (fun ls hl => ?_)
              refine lv_iinc (v := (nI (i + 1))) (lv' := [(2, .int (nI (i + 1))), (1, .int (0 : Int32)), (0, .ref (b 0))]) hx hb dX9_isAsTold_54 hl (k := 2) rfl (inc_n i 1) (by decide) rfl (fun ls hl => ?_)
              refine lv_goto (tgt := 4) hx hb dX9_isAsTold_57 rfl ?_
              have hl_4 : lv_has ls 3 [(0, .ref (b 0)), (1, .int (itM (M 8) (M 12) (M 13) N (i + 1))), (2, .int (nI (i + 1)))] := by
                rw [show (itM (M 8) (M 12) (M 13) N (i + 1)) = (0 : Int32) from by rw [itM, if_neg c_13, ePe, nI_clamp (n := Pe) (by omega), if_pos c_37, if_neg c_45]]
                exact lv_sub hl [2, 1, 0] rfl
              exact ih4 (i + 1) (by omega) (by omega) _ _ _ hW hl_4
            · refine lv_iconst (v := (1 : Int32)) hx hb dX9_isAsTold_48 rfl ?_
              refine lv_goto (tgt := 53) hx hb dX9_isAsTold_49 rfl ?_
              refine lv_istore_n (lv' := [(1, .int (1 : Int32)), (0, .ref (b 0)), (2, .int (nI i))]) hx hb dX9_isAsTold_53 rfl hl (by decide) rfl (fun ls hl => ?_)
              refine lv_iinc (v := (nI (i + 1))) (lv' := [(2, .int (nI (i + 1))), (1, .int (1 : Int32)), (0, .ref (b 0))]) hx hb dX9_isAsTold_54 hl (k := 2) rfl (inc_n i 1) (by decide) rfl (fun ls hl => ?_)
              refine lv_goto (tgt := 4) hx hb dX9_isAsTold_57 rfl ?_
              have hl_5 : lv_has ls 3 [(0, .ref (b 0)), (1, .int (itM (M 8) (M 12) (M 13) N (i + 1))), (2, .int (nI (i + 1)))] := by
                rw [show (itM (M 8) (M 12) (M 13) N (i + 1)) = (1 : Int32) from by rw [itM, if_neg c_13, ePe, nI_clamp (n := Pe) (by omega), if_pos c_37, if_pos c_45]]
                exact lv_sub hl [2, 1, 0] rfl
              exact ih4 (i + 1) (by omega) (by omega) _ _ _ hW hl_5
  exact lp_4 (z1 + 1) 0 (by omega) (by omega) _ _ _ hW (lv_sub hl [2, 1, 0] rfl)

set_option maxHeartbeats 4000000 in
set_option maxRecDepth 100000 in
theorem c_X9_isAsRecorded (l : Launch) (D : va_G) (cI cZ cN : ClassId) (b : Nat → Nat) (M : NV) (tr : Int64) (N C : Nat) (hN : M 2 1 = nI N) (hN7 : N ≤ 7) (hC : M 2 0 = nI C) (hC4 : C ≤ 4) (hC1 : 1 ≤ C) (z2 : Nat) (hc2 : M 0 10 = nI z2) (hz26 : z2 ≤ 6) : CtI l yX9_isAsRecorded cX9_isAsRecorded 3 (some .boolean) 3 D (tyG cI cZ cN) [.ref (b 0)] (pMod cI cZ b M tr) (fun r w => r = irM (M 8) (M 5) (M 14) (M 15) N C z2 ∧ w = (pMod cI cZ b M tr)) := by
  refine CtI.of rfl (Nat.le_of_ble_eq_true rfl) ?_
  intro pg ev sx mx ax bx mt cx ls Qx Ax Sx hret hW hl
  have hx := Sx.1
  have hb := Sx.2.1
  have hl : lv_has ls 3 [(0, .ref (b 0))] := hl
  refine lv_iconst (v := (1 : Int32)) hx hb dX9_isAsRecorded_0 rfl ?_
  refine lv_istore_n (lv' := [(1, .int (1 : Int32)), (0, .ref (b 0))]) hx hb dX9_isAsRecorded_1 rfl hl (by decide) rfl (fun ls hl => ?_)
  refine lv_iconst (v := (0 : Int32)) hx hb dX9_isAsRecorded_2 rfl ?_
  refine lv_istore_n (lv' := [(2, .int (0 : Int32)), (1, .int (1 : Int32)), (0, .ref (b 0))]) hx hb dX9_isAsRecorded_3 rfl hl (by decide) rfl (fun ls hl => ?_)
  have lp_4 : ∀ (n : Nat) (i : Nat), ((i ≤ z2)) → ((z2 + 1 ≤ i + n)) → ∀ (H : Heap) (locs : List Loc) (ls : Array Slot), AtC D (tyG cI cZ cN) Ax (pMod cI cZ b M tr) sx H locs → lv_has ls 3 [(0, .ref (b 0)), (1, .int (irM (M 8) (M 5) (M 14) (M 15) N C i)), (2, .int (nI i))] → W pg l ev (rmN 3) sx mx ax bx mt cx H locs 0 0 Qx (F0 mx 4 ls []) := by
    intro n
    induction n with
    | zero =>
      intro i hi_4 hn_4 H locs ls hW hl
      exact absurd hn_4 (by omega)
    | succ n ih4 =>
      intro i hi_4 hn_4 H locs ls hW hl
      refine lv_iload_n hx hb dX9_isAsRecorded_4 rfl (lv_at hl 2 rfl) ?_
      refine lv_aload_n hx hb dX9_isAsRecorded_5 rfl (lv_at hl 0 rfl) ?_
      refine r_get Sx hW 0 rfl rfl bw_wsX90 26 (by decide) (v := .int (M 0 10)) rfl mw285 dX9_isAsRecorded_6 ?_
      refine r_eq (y := (nI z2)) hc2 ?_
      refine lv_icmp_ge (tgt := 64) hx hb dX9_isAsRecorded_9 rfl (fun c_9 => ?_) (fun c_9 => ?_)
      · have ge_9 : z2 ≤ i := (nI_leI (a := z2) (b := i) (by omega) (by omega)).mp c_9
        have ee_9 : z2 = i := by omega
        subst ee_9
        refine lv_iload_n hx hb dX9_isAsRecorded_64 rfl (lv_at hl 1 rfl) ?_
        exact hret _ _ _ _ _ _ hW rfl (nar01 (irM_01 _ _ _ _ _ _ _)) dX9_isAsRecorded_65 (⟨rfl, rfl⟩)
      · have lt_9 : i < z2 := Nat.not_le.mp (fun h => c_9 ((nI_leI (a := z2) (b := i) (by omega) (by omega)).mpr h))
        refine lv_iload_n hx hb dX9_isAsRecorded_12 rfl (lv_at hl 1 rfl) ?_
        refine lv_if_eq (tgt := 56) hx hb dX9_isAsRecorded_13 rfl (fun c_13 => ?_) (fun c_13 => ?_)
        · refine lv_iconst (v := (0 : Int32)) hx hb dX9_isAsRecorded_56 rfl ?_
          refine lv_istore_n (lv' := [(1, .int (0 : Int32)), (0, .ref (b 0)), (2, .int (nI i))]) hx hb dX9_isAsRecorded_57 rfl hl (by decide) rfl (fun ls hl => ?_)
          refine lv_iinc (v := (nI (i + 1))) (lv' := [(2, .int (nI (i + 1))), (1, .int (0 : Int32)), (0, .ref (b 0))]) hx hb dX9_isAsRecorded_58 hl (k := 2) rfl (inc_n i 1) (by decide) rfl (fun ls hl => ?_)
          refine lv_goto (tgt := 4) hx hb dX9_isAsRecorded_61 rfl ?_
          have hl_1 : lv_has ls 3 [(0, .ref (b 0)), (1, .int (irM (M 8) (M 5) (M 14) (M 15) N C (i + 1))), (2, .int (nI (i + 1)))] := by
            rw [show (irM (M 8) (M 5) (M 14) (M 15) N C (i + 1)) = (0 : Int32) from by rw [irM, if_pos c_13]]
            exact lv_sub hl [2, 1, 0] rfl
          exact ih4 (i + 1) (by omega) (by omega) _ _ _ hW hl_1
        · refine lv_aload_n hx hb dX9_isAsRecorded_16 rfl (lv_at hl 0 rfl) ?_
          refine lv_aload_n hx hb dX9_isAsRecorded_17 rfl (lv_at hl 0 rfl) ?_
          refine r_get Sx hW 0 rfl rfl bw_wsX90 16 (by decide) (v := .ref (b 8)) rfl mw121 dX9_isAsRecorded_18 ?_
          refine lv_aload_n hx hb dX9_isAsRecorded_21 rfl (lv_at hl 0 rfl) ?_
          refine r_get Sx hW 0 rfl rfl bw_wsX90 24 (by decide) (v := .ref (b 14)) rfl mw127 dX9_isAsRecorded_22 ?_
          refine lv_iload_n hx hb dX9_isAsRecorded_25 rfl (lv_at hl 2 rfl) ?_
          refine r_iald Sx hW 14 0 rfl rfl (j := i) rfl (by omega) (by decide) dX9_isAsRecorded_26 ?_
          refine lv_aload_n hx hb dX9_isAsRecorded_27 rfl (lv_at hl 0 rfl) ?_
          refine callVI Sx hW (c_X9_everybody l D cI cZ cN b M tr N C hN hN7 hC hC4 hC1 ) vmX9_everybody mw454 [0, 1, 2, 3, 4, 5, 6, 7, 8, 9, 10, 11, 12, 13, 14, 15, 16, 17] rfl (by decide) 0 rfl rfl (As := []) (rest := [.int ((M 14) i), .ref (b 8), .ref (b 0)]) rfl rfl hl.1 (Nat.le_of_ble_eq_true rfl) ⟨Nat.le_of_ble_eq_true rfl, Nat.le_of_ble_eq_true rfl⟩ ⟨Nat.le_refl _, Nat.le_refl _⟩ dX9_isAsRecorded_28 (fun rx wx H locs hqx hW => ?_)
          obtain ⟨hrx, rfl⟩ := hqx
          have hW : AtC D (tyG cI cZ cN) Ax (pMod cI cZ b M tr) sx H locs := hW.re [] 18 (by decide) rfl rfl trivial (by decide +kernel) rfl rfl
          refine r_eq (y := (evM N)) hrx ?_
          refine callVI Sx hW (c_X9_passes_w l D cI cZ cN b M tr N C hN hN7 hC hC4 hC1 ((M 14) i) (evM N) ) vmX9_passes mw466 [0, 1, 2, 3, 4, 5, 6, 7, 8, 9, 10, 11, 12, 13, 14, 15, 16, 17] rfl (by decide) 0 rfl rfl (As := [.ref (b 8), .int ((M 14) i), .int (evM N)]) (rest := []) rfl rfl hl.1 (Nat.le_of_ble_eq_true rfl) ⟨Nat.le_of_ble_eq_true rfl, Nat.le_of_ble_eq_true rfl⟩ ⟨Nat.le_refl _, Nat.le_refl _⟩ dX9_isAsRecorded_31 (fun rx wx H locs hqx hW => ?_)
          obtain ⟨hrx, rfl⟩ := hqx
          have hW : AtC D (tyG cI cZ cN) Ax (pMod cI cZ b M tr) sx H locs := hW.re [] 18 (by decide) rfl rfl trivial (by decide +kernel) rfl rfl
          refine r_eq (y := (psM (M 8) (M 5) N C ((M 14) i) (evM N))) hrx ?_
          refine lv_aload_n hx hb dX9_isAsRecorded_34 rfl (lv_at hl 0 rfl) ?_
          refine r_get Sx hW 0 rfl rfl bw_wsX90 25 (by decide) (v := .ref (b 15)) rfl mw128 dX9_isAsRecorded_35 ?_
          refine lv_iload_n hx hb dX9_isAsRecorded_38 rfl (lv_at hl 2 rfl) ?_
          refine r_iald Sx hW 15 0 rfl rfl (j := i) rfl (by omega) (by decide) dX9_isAsRecorded_39 ?_
          refine lv_iconst (v := (1 : Int32)) hx hb dX9_isAsRecorded_40 rfl ?_
          refine lv_icmp_ne (tgt := 48) hx hb dX9_isAsRecorded_41 rfl (fun c_41 => ?_) (fun c_41 => ?_)
          · refine lv_iconst (v := (0 : Int32)) hx hb dX9_isAsRecorded_48 rfl ?_
            refine lv_icmp_ne (tgt := 56) hx hb dX9_isAsRecorded_49 rfl (fun c_49 => ?_) (fun c_49 => ?_)
            · refine lv_iconst (v := (0 : Int32)) hx hb dX9_isAsRecorded_56 rfl ?_
              refine lv_istore_n (lv' := [(1, .int (0 : Int32)), (0, .ref (b 0)), (2, .int (nI i))]) hx hb dX9_isAsRecorded_57 rfl hl (by decide) rfl (fun ls hl => ?_)
              refine lv_iinc (v := (nI (i + 1))) (lv' := [(2, .int (nI (i + 1))), (1, .int (0 : Int32)), (0, .ref (b 0))]) hx hb dX9_isAsRecorded_58 hl (k := 2) rfl (inc_n i 1) (by decide) rfl (fun ls hl => ?_)
              refine lv_goto (tgt := 4) hx hb dX9_isAsRecorded_61 rfl ?_
              have hl_2 : lv_has ls 3 [(0, .ref (b 0)), (1, .int (irM (M 8) (M 5) (M 14) (M 15) N C (i + 1))), (2, .int (nI (i + 1)))] := by
                rw [show (irM (M 8) (M 5) (M 14) (M 15) N C (i + 1)) = (0 : Int32) from by rw [irM, if_neg c_13, if_neg c_41, if_neg c_49]]
                exact lv_sub hl [2, 1, 0] rfl
              exact ih4 (i + 1) (by omega) (by omega) _ _ _ hW hl_2
            · refine lv_iconst (v := (1 : Int32)) hx hb dX9_isAsRecorded_52 rfl ?_
              refine lv_goto (tgt := 57) hx hb dX9_isAsRecorded_53 rfl ?_
              refine lv_istore_n (lv' := [(1, .int (1 : Int32)), (0, .ref (b 0)), (2, .int (nI i))]) hx hb dX9_isAsRecorded_57 rfl hl (by decide) rfl (fun ls hl => ?_)
              refine lv_iinc (v := (nI (i + 1))) (lv' := [(2, .int (nI (i + 1))), (1, .int (1 : Int32)), (0, .ref (b 0))]) hx hb dX9_isAsRecorded_58 hl (k := 2) rfl (inc_n i 1) (by decide) rfl (fun ls hl => ?_)
              refine lv_goto (tgt := 4) hx hb dX9_isAsRecorded_61 rfl ?_
              have hl_3 : lv_has ls 3 [(0, .ref (b 0)), (1, .int (irM (M 8) (M 5) (M 14) (M 15) N C (i + 1))), (2, .int (nI (i + 1)))] := by
                rw [show (irM (M 8) (M 5) (M 14) (M 15) N C (i + 1)) = (1 : Int32) from by rw [irM, if_neg c_13, if_neg c_41, if_pos c_49]]
                exact lv_sub hl [2, 1, 0] rfl
              exact ih4 (i + 1) (by omega) (by omega) _ _ _ hW hl_3
          · refine lv_iconst (v := (1 : Int32)) hx hb dX9_isAsRecorded_44 rfl ?_
            refine lv_goto (tgt := 49) hx hb dX9_isAsRecorded_45 rfl ?_
            refine lv_icmp_ne (tgt := 56) hx hb dX9_isAsRecorded_49 rfl (fun c_49 => ?_) (fun c_49 => ?_)
            · refine lv_iconst (v := (0 : Int32)) hx hb dX9_isAsRecorded_56 rfl ?_
              refine lv_istore_n (lv' := [(1, .int (0 : Int32)), (0, .ref (b 0)), (2, .int (nI i))]) hx hb dX9_isAsRecorded_57 rfl hl (by decide) rfl (fun ls hl => ?_)
              refine lv_iinc (v := (nI (i + 1))) (lv' := [(2, .int (nI (i + 1))), (1, .int (0 : Int32)), (0, .ref (b 0))]) hx hb dX9_isAsRecorded_58 hl (k := 2) rfl (inc_n i 1) (by decide) rfl (fun ls hl => ?_)
              refine lv_goto (tgt := 4) hx hb dX9_isAsRecorded_61 rfl ?_
              have hl_4 : lv_has ls 3 [(0, .ref (b 0)), (1, .int (irM (M 8) (M 5) (M 14) (M 15) N C (i + 1))), (2, .int (nI (i + 1)))] := by
                rw [show (irM (M 8) (M 5) (M 14) (M 15) N C (i + 1)) = (0 : Int32) from by rw [irM, if_neg c_13, if_pos c_41, if_neg c_49]]
                exact lv_sub hl [2, 1, 0] rfl
              exact ih4 (i + 1) (by omega) (by omega) _ _ _ hW hl_4
            · refine lv_iconst (v := (1 : Int32)) hx hb dX9_isAsRecorded_52 rfl ?_
              refine lv_goto (tgt := 57) hx hb dX9_isAsRecorded_53 rfl ?_
              refine lv_istore_n (lv' := [(1, .int (1 : Int32)), (0, .ref (b 0)), (2, .int (nI i))]) hx hb dX9_isAsRecorded_57 rfl hl (by decide) rfl (fun ls hl => ?_)
              refine lv_iinc (v := (nI (i + 1))) (lv' := [(2, .int (nI (i + 1))), (1, .int (1 : Int32)), (0, .ref (b 0))]) hx hb dX9_isAsRecorded_58 hl (k := 2) rfl (inc_n i 1) (by decide) rfl (fun ls hl => ?_)
              refine lv_goto (tgt := 4) hx hb dX9_isAsRecorded_61 rfl ?_
              have hl_5 : lv_has ls 3 [(0, .ref (b 0)), (1, .int (irM (M 8) (M 5) (M 14) (M 15) N C (i + 1))), (2, .int (nI (i + 1)))] := by
                rw [show (irM (M 8) (M 5) (M 14) (M 15) N C (i + 1)) = (1 : Int32) from by rw [irM, if_neg c_13, if_pos c_41, if_pos c_49]]
                exact lv_sub hl [2, 1, 0] rfl
              exact ih4 (i + 1) (by omega) (by omega) _ _ _ hW hl_5
  exact lp_4 (z2 + 1) 0 (by omega) (by omega) _ _ _ hW (lv_sub hl [2, 1, 0] rfl)

set_option maxHeartbeats 4000000 in
set_option maxRecDepth 100000 in
theorem c_X9_who (l : Launch) (D : va_G) (cI cZ cN : ClassId) (b : Nat → Nat) (M : NV) (tr : Int64) (N C : Nat) (hN : M 2 1 = nI N) (hN7 : N ≤ 7) (hC : M 2 0 = nI C) (hC4 : C ≤ 4) (hC1 : 1 ≤ C) (z1 : Nat) (hc1 : M 0 9 = nI z1) (hz16 : z1 ≤ 6) (hto : ∀ e, e < z1 → ∃ P : Nat, P < N ∧ M 12 e = nI P) : CtI l yX9_who cX9_who 3 (some .int) 4 D (tyG cI cZ cN) [.ref (b 0)] (pMod cI cZ b M tr) (fun r w => r = (whM (cpA (M 8) (M 7) 25) (M 12) (M 13) N z1 N) ∧ w = (pMod cI cZ b (upA (upA M 8 (whW (cpA (M 8) (M 7) 25) N)) 0 (upd (M 0) 0 (0 : Int32))) tr)) := by
  refine CtI.of rfl (Nat.le_of_ble_eq_true rfl) ?_
  intro pg ev sx mx ax bx mt cx ls Qx Ax Sx hret hW hl
  have hx := Sx.1
  have hb := Sx.2.1
  have hl : lv_has ls 3 [(0, .ref (b 0))] := hl
  refine lv_aload_n hx hb dX9_who_0 rfl (lv_at hl 0 rfl) ?_
  refine lv_iconst (v := (0 : Int32)) hx hb dX9_who_1 rfl ?_
  refine r_put Sx hW 0 rfl rfl bw_wsX90 tyX9_ok nmX9 0 (by decide) mw144 rfl rfl rfl (Nat.le_of_ble_eq_true rfl) dX9_who_2 (ws' := (pMod cI cZ b (upA M 0 (upd (M 0) 0 (0 : Int32))) tr)) rfl (fun H locs hW => ?_)
  refine lv_aload_n hx hb dX9_who_5 rfl (lv_at hl 0 rfl) ?_
  refine callVV Sx hW (c_X9_asNow l D cI cZ cN b (upA M 0 (upd (M 0) 0 (0 : Int32))) tr N C hN hN7 hC hC4 hC1 ) vmX9_asNow mw529 [0, 1, 2, 3, 4, 5, 6, 7, 8, 9, 10, 11, 12, 13, 14, 15, 16, 17] rfl (by decide) 0 rfl rfl (As := []) (rest := []) rfl rfl hl.1 (Nat.le_of_ble_eq_true rfl) ⟨Nat.le_of_ble_eq_true rfl, Nat.le_of_ble_eq_true rfl⟩ ⟨Nat.le_refl _, Nat.le_refl _⟩ dX9_who_6 (fun wx H locs hqx hW => ?_)
  obtain rfl := hqx
  have hW : AtC D (tyG cI cZ cN) Ax (pMod cI cZ b (upA (upA M 8 ((cpA (M 8) (M 7) 25))) 0 (upd (M 0) 0 (0 : Int32))) tr) sx H locs := hW.re [] 18 (by decide) rfl rfl trivial (by decide +kernel) rfl rfl
  refine lv_aload_n hx hb dX9_who_9 rfl (lv_at hl 0 rfl) ?_
  refine r_get Sx hW 0 rfl rfl bw_wsX90 16 (by decide) (v := .ref (b 8)) rfl mw121 dX9_who_10 ?_
  refine lv_bipush (v := (21 : Int32)) hx hb dX9_who_13 rfl ?_
  refine lv_iconst (v := (0 : Int32)) hx hb dX9_who_15 rfl ?_
  refine r_iast Sx hW 8 0 rfl rfl (j := 21) rfl (by decide) (by decide) dX9_who_16 (ws' := (pMod cI cZ b (upA (upA M 8 (upd ((cpA (M 8) (M 7) 25)) 21 (0 : Int32))) 0 (upd (M 0) 0 (0 : Int32))) tr)) rfl (fun H locs hW => ?_)
  refine lv_aload_n hx hb dX9_who_17 rfl (lv_at hl 0 rfl) ?_
  refine callVI Sx hW (c_X9_isAsTold l D cI cZ cN b (upA (upA M 8 (upd ((cpA (M 8) (M 7) 25)) 21 (0 : Int32))) 0 (upd (M 0) 0 (0 : Int32))) tr N C hN hN7 hC hC4 hC1 z1 hc1 hz16 hto ) vmX9_isAsTold mw701 [0, 1, 2, 3, 4, 5, 6, 7, 8, 9, 10, 11, 12, 13, 14, 15, 16, 17] rfl (by decide) 0 rfl rfl (As := []) (rest := []) rfl rfl hl.1 (Nat.le_of_ble_eq_true rfl) ⟨Nat.le_of_ble_eq_true rfl, Nat.le_of_ble_eq_true rfl⟩ ⟨Nat.le_refl _, Nat.le_refl _⟩ dX9_who_18 (fun rx wx H locs hqx hW => ?_)
  obtain ⟨hrx, rfl⟩ := hqx
  have hW : AtC D (tyG cI cZ cN) Ax (pMod cI cZ b (upA (upA M 8 (upd ((cpA (M 8) (M 7) 25)) 21 (0 : Int32))) 0 (upd (M 0) 0 (0 : Int32))) tr) sx H locs := hW.re [] 18 (by decide) rfl rfl trivial (by decide +kernel) rfl rfl
  refine r_eq (y := (itM (upd ((cpA (M 8) (M 7) 25)) 21 (0 : Int32)) (M 12) (M 13) N z1)) hrx ?_
  refine lv_if_eq (tgt := 30) hx hb dX9_who_21 rfl (fun c_21 => ?_) (fun c_21 => ?_)
  · refine lv_iconst (v := (0 : Int32)) hx hb dX9_who_30 rfl ?_
    refine lv_istore_n (lv' := [(1, .int (0 : Int32)), (0, .ref (b 0))]) hx hb dX9_who_31 rfl hl (by decide) rfl (fun ls hl => ?_)
    refine lv_iconst (v := (0 : Int32)) hx hb dX9_who_32 rfl ?_
    refine lv_istore_n (lv' := [(2, .int (0 : Int32)), (1, .int (0 : Int32)), (0, .ref (b 0))]) hx hb dX9_who_33 rfl hl (by decide) rfl (fun ls hl => ?_)
    have lp_34 : ∀ (n : Nat) (i : Nat), ((i ≤ N)) → ((N + 1 ≤ i + n)) → ∀ (H : Heap) (locs : List Loc) (ls : Array Slot), AtC D (tyG cI cZ cN) Ax (pMod cI cZ b (upA (upA M 8 (whW (cpA (M 8) (M 7) 25) i)) 0 (upd (M 0) 0 (0 : Int32))) tr) sx H locs → lv_has ls 3 [(0, .ref (b 0)), (1, .int (whM (cpA (M 8) (M 7) 25) (M 12) (M 13) N z1 i)), (2, .int (nI i))] → W pg l ev (rmN 4) sx mx ax bx mt cx H locs 0 0 Qx (F0 mx 34 ls []) := by
      intro n
      induction n with
      | zero =>
        intro i hi_34 hn_34 H locs ls hW hl
        exact absurd hn_34 (by omega)
      | succ n ih34 =>
        intro i hi_34 hn_34 H locs ls hW hl
        refine lv_iload_n hx hb dX9_who_34 rfl (lv_at hl 2 rfl) ?_
        refine lv_aload_n hx hb dX9_who_35 rfl (lv_at hl 0 rfl) ?_
        refine r_get Sx hW 0 rfl rfl bw_wsX90 9 (by decide) (v := .ref (b 2)) rfl mw115 dX9_who_36 ?_
        refine lv_iconst (v := (1 : Int32)) hx hb dX9_who_39 rfl ?_
        refine r_iald Sx hW 2 0 (f := (M 2)) rfl rfl (j := 1) rfl (by decide) (by decide) dX9_who_40 ?_
        refine r_eq (y := (nI N)) hN ?_
        refine lv_icmp_ge (tgt := 77) hx hb dX9_who_41 rfl (fun c_41 => ?_) (fun c_41 => ?_)
        · have ge_41 : N ≤ i := (nI_leI (a := N) (b := i) (by omega) (by omega)).mp c_41
          have ee_41 : N = i := by omega
          subst ee_41
          refine lv_iload_n hx hb dX9_who_77 rfl (lv_at hl 1 rfl) ?_
          exact hret _ _ _ _ _ _ hW rfl rfl dX9_who_78 (⟨rfl, rfl⟩)
        · have lt_41 : i < N := Nat.not_le.mp (fun h => c_41 ((nI_leI (a := N) (b := i) (by omega) (by omega)).mpr h))
          refine lv_aload_n hx hb dX9_who_44 rfl (lv_at hl 0 rfl) ?_
          refine r_get Sx hW 0 rfl rfl bw_wsX90 16 (by decide) (v := .ref (b 8)) rfl mw121 dX9_who_45 ?_
          refine lv_bipush (v := (21 : Int32)) hx hb dX9_who_48 rfl ?_
          refine lv_iconst (v := (1 : Int32)) hx hb dX9_who_50 rfl ?_
          refine lv_iload_n hx hb dX9_who_51 rfl (lv_at hl 2 rfl) ?_
          refine lv_ishl hx hb dX9_who_52 ?_
          refine r_iast Sx hW 8 0 rfl rfl (j := 21) rfl (by decide) (by decide) dX9_who_53 (ws' := (pMod cI cZ b (upA (upA M 8 (upd (whW (cpA (M 8) (M 7) 25) i) 21 ((1 : Int32) <<< ((nI i) &&& 31)))) 0 (upd (M 0) 0 (0 : Int32))) tr)) rfl (fun H locs hW => ?_)
          refine lv_iload_n hx hb dX9_who_54 rfl (lv_at hl 1 rfl) ?_
          refine lv_aload_n hx hb dX9_who_55 rfl (lv_at hl 0 rfl) ?_
          refine callVI Sx hW (c_X9_isAsTold l D cI cZ cN b (upA (upA M 8 (upd (whW (cpA (M 8) (M 7) 25) i) 21 ((1 : Int32) <<< ((nI i) &&& 31)))) 0 (upd (M 0) 0 (0 : Int32))) tr N C hN hN7 hC hC4 hC1 z1 hc1 hz16 hto ) vmX9_isAsTold mw701 [0, 1, 2, 3, 4, 5, 6, 7, 8, 9, 10, 11, 12, 13, 14, 15, 16, 17] rfl (by decide) 0 rfl rfl (As := []) (rest := [.int (whM (cpA (M 8) (M 7) 25) (M 12) (M 13) N z1 i)]) rfl rfl hl.1 (Nat.le_of_ble_eq_true rfl) ⟨Nat.le_of_ble_eq_true rfl, Nat.le_of_ble_eq_true rfl⟩ ⟨Nat.le_refl _, Nat.le_refl _⟩ dX9_who_56 (fun rx wx H locs hqx hW => ?_)
          obtain ⟨hrx, rfl⟩ := hqx
          have hW : AtC D (tyG cI cZ cN) Ax (pMod cI cZ b (upA (upA M 8 (upd (whW (cpA (M 8) (M 7) 25) i) 21 ((1 : Int32) <<< ((nI i) &&& 31)))) 0 (upd (M 0) 0 (0 : Int32))) tr) sx H locs := hW.re [] 18 (by decide) rfl rfl trivial (by decide +kernel) rfl rfl
          refine r_eq (y := (itM (upd (whW (cpA (M 8) (M 7) 25) i) 21 ((1 : Int32) <<< ((nI i) &&& 31))) (M 12) (M 13) N z1)) hrx ?_
          refine r_eq (y := (itM (upd (cpA (M 8) (M 7) 25) 21 ((1 : Int32) <<< (nI i &&& 31))) (M 12) (M 13) N z1)) (hq_e _ _ _ _ _ _) ?_
          refine lv_if_eq (tgt := 68) hx hb dX9_who_59 rfl (fun c_59 => ?_) (fun c_59 => ?_)
          · refine lv_iconst (v := (0 : Int32)) hx hb dX9_who_68 rfl ?_
            refine lv_ior hx hb dX9_who_69 ?_
            refine lv_istore_n (lv' := [(1, .int ((whM (cpA (M 8) (M 7) 25) (M 12) (M 13) N z1 i) ||| (0 : Int32))), (0, .ref (b 0)), (2, .int (nI i))]) hx hb dX9_who_70 rfl hl (by decide) rfl (fun ls hl => ?_)
            refine lv_iinc (v := (nI (i + 1))) (lv' := [(2, .int (nI (i + 1))), (1, .int ((whM (cpA (M 8) (M 7) 25) (M 12) (M 13) N z1 i) ||| (0 : Int32))), (0, .ref (b 0))]) hx hb dX9_who_71 hl (k := 2) rfl (inc_n i 1) (by decide) rfl (fun ls hl => ?_)
            refine lv_goto (tgt := 34) hx hb dX9_who_74 rfl ?_
            have hl_1 : lv_has ls 3 [(0, .ref (b 0)), (1, .int (whM (cpA (M 8) (M 7) 25) (M 12) (M 13) N z1 (i + 1))), (2, .int (nI (i + 1)))] := by
              rw [show (whM (cpA (M 8) (M 7) 25) (M 12) (M 13) N z1 (i + 1)) = ((whM (cpA (M 8) (M 7) 25) (M 12) (M 13) N z1 i) ||| (0 : Int32)) from by rw [whM, if_pos c_59]]
              exact lv_sub hl [2, 1, 0] rfl
            exact ih34 (i + 1) (by omega) (by omega) _ _ _ hW hl_1
          · refine lv_iconst (v := (1 : Int32)) hx hb dX9_who_62 rfl ?_
            refine lv_iload_n hx hb dX9_who_63 rfl (lv_at hl 2 rfl) ?_
            refine lv_ishl hx hb dX9_who_64 ?_
            refine lv_goto (tgt := 69) hx hb dX9_who_65 rfl ?_
            refine lv_ior hx hb dX9_who_69 ?_
            refine lv_istore_n (lv' := [(1, .int ((whM (cpA (M 8) (M 7) 25) (M 12) (M 13) N z1 i) ||| ((1 : Int32) <<< ((nI i) &&& 31)))), (0, .ref (b 0)), (2, .int (nI i))]) hx hb dX9_who_70 rfl hl (by decide) rfl (fun ls hl => ?_)
            refine lv_iinc (v := (nI (i + 1))) (lv' := [(2, .int (nI (i + 1))), (1, .int ((whM (cpA (M 8) (M 7) 25) (M 12) (M 13) N z1 i) ||| ((1 : Int32) <<< ((nI i) &&& 31)))), (0, .ref (b 0))]) hx hb dX9_who_71 hl (k := 2) rfl (inc_n i 1) (by decide) rfl (fun ls hl => ?_)
            refine lv_goto (tgt := 34) hx hb dX9_who_74 rfl ?_
            have hl_2 : lv_has ls 3 [(0, .ref (b 0)), (1, .int (whM (cpA (M 8) (M 7) 25) (M 12) (M 13) N z1 (i + 1))), (2, .int (nI (i + 1)))] := by
              rw [show (whM (cpA (M 8) (M 7) 25) (M 12) (M 13) N z1 (i + 1)) = ((whM (cpA (M 8) (M 7) 25) (M 12) (M 13) N z1 i) ||| ((1 : Int32) <<< ((nI i) &&& 31))) from by rw [whM, if_neg c_59]]
              exact lv_sub hl [2, 1, 0] rfl
            exact ih34 (i + 1) (by omega) (by omega) _ _ _ hW hl_2
    have hl_3 : lv_has ls 3 [(0, .ref (b 0)), (1, .int (whM (cpA (M 8) (M 7) 25) (M 12) (M 13) N z1 0)), (2, .int (nI 0))] := by
      rw [show (whM (cpA (M 8) (M 7) 25) (M 12) (M 13) N z1 0) = (0 : Int32) from by rw [whM, if_pos c_21]]
      exact lv_sub hl [2, 1, 0] rfl
    exact lp_34 (N + 1) 0 (by omega) (by omega) _ _ _ hW hl_3
  · refine lv_sipush (v := (128 : Int32)) hx hb dX9_who_24 rfl ?_
    refine lv_goto (tgt := 31) hx hb dX9_who_27 rfl ?_
    refine lv_istore_n (lv' := [(1, .int (128 : Int32)), (0, .ref (b 0))]) hx hb dX9_who_31 rfl hl (by decide) rfl (fun ls hl => ?_)
    refine lv_iconst (v := (0 : Int32)) hx hb dX9_who_32 rfl ?_
    refine lv_istore_n (lv' := [(2, .int (0 : Int32)), (1, .int (128 : Int32)), (0, .ref (b 0))]) hx hb dX9_who_33 rfl hl (by decide) rfl (fun ls hl => ?_)
    have lp_34 : ∀ (n : Nat) (i : Nat), ((i ≤ N)) → ((N + 1 ≤ i + n)) → ∀ (H : Heap) (locs : List Loc) (ls : Array Slot), AtC D (tyG cI cZ cN) Ax (pMod cI cZ b (upA (upA M 8 (whW (cpA (M 8) (M 7) 25) i)) 0 (upd (M 0) 0 (0 : Int32))) tr) sx H locs → lv_has ls 3 [(0, .ref (b 0)), (1, .int (whM (cpA (M 8) (M 7) 25) (M 12) (M 13) N z1 i)), (2, .int (nI i))] → W pg l ev (rmN 4) sx mx ax bx mt cx H locs 0 0 Qx (F0 mx 34 ls []) := by
      intro n
      induction n with
      | zero =>
        intro i hi_34 hn_34 H locs ls hW hl
        exact absurd hn_34 (by omega)
      | succ n ih34 =>
        intro i hi_34 hn_34 H locs ls hW hl
        refine lv_iload_n hx hb dX9_who_34 rfl (lv_at hl 2 rfl) ?_
        refine lv_aload_n hx hb dX9_who_35 rfl (lv_at hl 0 rfl) ?_
        refine r_get Sx hW 0 rfl rfl bw_wsX90 9 (by decide) (v := .ref (b 2)) rfl mw115 dX9_who_36 ?_
        refine lv_iconst (v := (1 : Int32)) hx hb dX9_who_39 rfl ?_
        refine r_iald Sx hW 2 0 (f := (M 2)) rfl rfl (j := 1) rfl (by decide) (by decide) dX9_who_40 ?_
        refine r_eq (y := (nI N)) hN ?_
        refine lv_icmp_ge (tgt := 77) hx hb dX9_who_41 rfl (fun c_41 => ?_) (fun c_41 => ?_)
        · have ge_41 : N ≤ i := (nI_leI (a := N) (b := i) (by omega) (by omega)).mp c_41
          have ee_41 : N = i := by omega
          subst ee_41
          refine lv_iload_n hx hb dX9_who_77 rfl (lv_at hl 1 rfl) ?_
          exact hret _ _ _ _ _ _ hW rfl rfl dX9_who_78 (⟨rfl, rfl⟩)
        · have lt_41 : i < N := Nat.not_le.mp (fun h => c_41 ((nI_leI (a := N) (b := i) (by omega) (by omega)).mpr h))
          refine lv_aload_n hx hb dX9_who_44 rfl (lv_at hl 0 rfl) ?_
          refine r_get Sx hW 0 rfl rfl bw_wsX90 16 (by decide) (v := .ref (b 8)) rfl mw121 dX9_who_45 ?_
          refine lv_bipush (v := (21 : Int32)) hx hb dX9_who_48 rfl ?_
          refine lv_iconst (v := (1 : Int32)) hx hb dX9_who_50 rfl ?_
          refine lv_iload_n hx hb dX9_who_51 rfl (lv_at hl 2 rfl) ?_
          refine lv_ishl hx hb dX9_who_52 ?_
          refine r_iast Sx hW 8 0 rfl rfl (j := 21) rfl (by decide) (by decide) dX9_who_53 (ws' := (pMod cI cZ b (upA (upA M 8 (upd (whW (cpA (M 8) (M 7) 25) i) 21 ((1 : Int32) <<< ((nI i) &&& 31)))) 0 (upd (M 0) 0 (0 : Int32))) tr)) rfl (fun H locs hW => ?_)
          refine lv_iload_n hx hb dX9_who_54 rfl (lv_at hl 1 rfl) ?_
          refine lv_aload_n hx hb dX9_who_55 rfl (lv_at hl 0 rfl) ?_
          refine callVI Sx hW (c_X9_isAsTold l D cI cZ cN b (upA (upA M 8 (upd (whW (cpA (M 8) (M 7) 25) i) 21 ((1 : Int32) <<< ((nI i) &&& 31)))) 0 (upd (M 0) 0 (0 : Int32))) tr N C hN hN7 hC hC4 hC1 z1 hc1 hz16 hto ) vmX9_isAsTold mw701 [0, 1, 2, 3, 4, 5, 6, 7, 8, 9, 10, 11, 12, 13, 14, 15, 16, 17] rfl (by decide) 0 rfl rfl (As := []) (rest := [.int (whM (cpA (M 8) (M 7) 25) (M 12) (M 13) N z1 i)]) rfl rfl hl.1 (Nat.le_of_ble_eq_true rfl) ⟨Nat.le_of_ble_eq_true rfl, Nat.le_of_ble_eq_true rfl⟩ ⟨Nat.le_refl _, Nat.le_refl _⟩ dX9_who_56 (fun rx wx H locs hqx hW => ?_)
          obtain ⟨hrx, rfl⟩ := hqx
          have hW : AtC D (tyG cI cZ cN) Ax (pMod cI cZ b (upA (upA M 8 (upd (whW (cpA (M 8) (M 7) 25) i) 21 ((1 : Int32) <<< ((nI i) &&& 31)))) 0 (upd (M 0) 0 (0 : Int32))) tr) sx H locs := hW.re [] 18 (by decide) rfl rfl trivial (by decide +kernel) rfl rfl
          refine r_eq (y := (itM (upd (whW (cpA (M 8) (M 7) 25) i) 21 ((1 : Int32) <<< ((nI i) &&& 31))) (M 12) (M 13) N z1)) hrx ?_
          refine r_eq (y := (itM (upd (cpA (M 8) (M 7) 25) 21 ((1 : Int32) <<< (nI i &&& 31))) (M 12) (M 13) N z1)) (hq_e _ _ _ _ _ _) ?_
          refine lv_if_eq (tgt := 68) hx hb dX9_who_59 rfl (fun c_59 => ?_) (fun c_59 => ?_)
          · refine lv_iconst (v := (0 : Int32)) hx hb dX9_who_68 rfl ?_
            refine lv_ior hx hb dX9_who_69 ?_
            refine lv_istore_n (lv' := [(1, .int ((whM (cpA (M 8) (M 7) 25) (M 12) (M 13) N z1 i) ||| (0 : Int32))), (0, .ref (b 0)), (2, .int (nI i))]) hx hb dX9_who_70 rfl hl (by decide) rfl (fun ls hl => ?_)
            refine lv_iinc (v := (nI (i + 1))) (lv' := [(2, .int (nI (i + 1))), (1, .int ((whM (cpA (M 8) (M 7) 25) (M 12) (M 13) N z1 i) ||| (0 : Int32))), (0, .ref (b 0))]) hx hb dX9_who_71 hl (k := 2) rfl (inc_n i 1) (by decide) rfl (fun ls hl => ?_)
            refine lv_goto (tgt := 34) hx hb dX9_who_74 rfl ?_
            have hl_4 : lv_has ls 3 [(0, .ref (b 0)), (1, .int (whM (cpA (M 8) (M 7) 25) (M 12) (M 13) N z1 (i + 1))), (2, .int (nI (i + 1)))] := by
              rw [show (whM (cpA (M 8) (M 7) 25) (M 12) (M 13) N z1 (i + 1)) = ((whM (cpA (M 8) (M 7) 25) (M 12) (M 13) N z1 i) ||| (0 : Int32)) from by rw [whM, if_pos c_59]]
              exact lv_sub hl [2, 1, 0] rfl
            exact ih34 (i + 1) (by omega) (by omega) _ _ _ hW hl_4
          · refine lv_iconst (v := (1 : Int32)) hx hb dX9_who_62 rfl ?_
            refine lv_iload_n hx hb dX9_who_63 rfl (lv_at hl 2 rfl) ?_
            refine lv_ishl hx hb dX9_who_64 ?_
            refine lv_goto (tgt := 69) hx hb dX9_who_65 rfl ?_
            refine lv_ior hx hb dX9_who_69 ?_
            refine lv_istore_n (lv' := [(1, .int ((whM (cpA (M 8) (M 7) 25) (M 12) (M 13) N z1 i) ||| ((1 : Int32) <<< ((nI i) &&& 31)))), (0, .ref (b 0)), (2, .int (nI i))]) hx hb dX9_who_70 rfl hl (by decide) rfl (fun ls hl => ?_)
            refine lv_iinc (v := (nI (i + 1))) (lv' := [(2, .int (nI (i + 1))), (1, .int ((whM (cpA (M 8) (M 7) 25) (M 12) (M 13) N z1 i) ||| ((1 : Int32) <<< ((nI i) &&& 31)))), (0, .ref (b 0))]) hx hb dX9_who_71 hl (k := 2) rfl (inc_n i 1) (by decide) rfl (fun ls hl => ?_)
            refine lv_goto (tgt := 34) hx hb dX9_who_74 rfl ?_
            have hl_5 : lv_has ls 3 [(0, .ref (b 0)), (1, .int (whM (cpA (M 8) (M 7) 25) (M 12) (M 13) N z1 (i + 1))), (2, .int (nI (i + 1)))] := by
              rw [show (whM (cpA (M 8) (M 7) 25) (M 12) (M 13) N z1 (i + 1)) = ((whM (cpA (M 8) (M 7) 25) (M 12) (M 13) N z1 i) ||| ((1 : Int32) <<< ((nI i) &&& 31))) from by rw [whM, if_neg c_59]]
              exact lv_sub hl [2, 1, 0] rfl
            exact ih34 (i + 1) (by omega) (by omega) _ _ _ hW hl_5
    have hl_6 : lv_has ls 3 [(0, .ref (b 0)), (1, .int (whM (cpA (M 8) (M 7) 25) (M 12) (M 13) N z1 0)), (2, .int (nI 0))] := by
      rw [show (whM (cpA (M 8) (M 7) 25) (M 12) (M 13) N z1 0) = (128 : Int32) from by rw [whM, if_neg c_21]]
      exact lv_sub hl [2, 1, 0] rfl
    exact lp_34 (N + 1) 0 (by omega) (by omega) _ _ _ hW hl_6

set_option maxHeartbeats 4000000 in
set_option maxRecDepth 100000 in
theorem c_X9_which (l : Launch) (D : va_G) (cI cZ cN : ClassId) (b : Nat → Nat) (M : NV) (tr : Int64) (N C : Nat) (hN : M 2 1 = nI N) (hN7 : N ≤ 7) (hC : M 2 0 = nI C) (hC4 : C ≤ 4) (hC1 : 1 ≤ C) (z1 : Nat) (hc1 : M 0 9 = nI z1) (hz16 : z1 ≤ 6) (hto : ∀ e, e < z1 → ∃ P : Nat, P < N ∧ M 12 e = nI P) (z2 : Nat) (hc2 : M 0 10 = nI z2) (hz26 : z2 ≤ 6) (p0 : Int32) : CtI l yX9_which cX9_which 6 (some .int) 4 D (tyG cI cZ cN) [.ref (b 0), .int p0] (pMod cI cZ b M tr) (fun r w => r = wqR (ftM (cpA (M 8) (M 7) 25) (M 12) (M 13) N z1) (grM (cpA (M 8) (M 7) 25) (M 5) (M 14) (M 15) N C z2) p0 ∧ w = if ¬ inI p0 0 2 = 0 then (pMod cI cZ b (upA (upA M 8 (wqW (cpA (M 8) (M 7) 25) 16)) 0 (upd (M 0) 0 (0 : Int32))) tr) else (pMod cI cZ b (upA M 0 (upd (M 0) 0 (0 : Int32))) tr)) := by
  refine CtI.of rfl (Nat.le_of_ble_eq_true rfl) ?_
  intro pg ev sx mx ax bx mt cx ls Qx Ax Sx hret hW hl
  have hx := Sx.1
  have hb := Sx.2.1
  have hl : lv_has ls 6 [(0, .ref (b 0)), (1, .int p0)] := hl
  refine lv_aload_n hx hb dX9_which_0 rfl (lv_at hl 0 rfl) ?_
  refine lv_iconst (v := (0 : Int32)) hx hb dX9_which_1 rfl ?_
  refine r_put Sx hW 0 rfl rfl bw_wsX90 tyX9_ok nmX9 0 (by decide) mw144 rfl rfl rfl (Nat.le_of_ble_eq_true rfl) dX9_which_2 (ws' := (pMod cI cZ b (upA M 0 (upd (M 0) 0 (0 : Int32))) tr)) rfl (fun H locs hW => ?_)
  refine lv_iload_n hx hb dX9_which_5 rfl (lv_at hl 1 rfl) ?_
  refine lv_iconst (v := (0 : Int32)) hx hb dX9_which_6 rfl ?_
  refine lv_iconst (v := (2 : Int32)) hx hb dX9_which_7 rfl ?_
  refine callSI Sx hW (c_X9_in l D cI cZ cN p0 (0 : Int32) (2 : Int32)) smX9_in mw146 (As := [.int p0, .int (0 : Int32), .int (2 : Int32)]) (rest := []) rfl rfl hl.1 (Nat.le_of_ble_eq_true rfl) ⟨Nat.le_of_ble_eq_true rfl, Nat.le_of_ble_eq_true rfl⟩ ⟨Nat.le_refl _, Nat.le_refl _⟩ dX9_which_8 (fun rx H locs hqx hW => ?_)
  obtain ⟨hrx, -⟩ := hqx
  refine r_eq (y := (inI p0 (0 : Int32) (2 : Int32))) hrx ?_
  refine lv_if_ne (tgt := 16) hx hb dX9_which_11 rfl (fun c_11 => ?_) (fun c_11 => ?_)
  · refine lv_aload_n hx hb dX9_which_16 rfl (lv_at hl 0 rfl) ?_
    refine callVV Sx hW (c_X9_asNow l D cI cZ cN b (upA M 0 (upd (M 0) 0 (0 : Int32))) tr N C hN hN7 hC hC4 hC1 ) vmX9_asNow mw529 [0, 1, 2, 3, 4, 5, 6, 7, 8, 9, 10, 11, 12, 13, 14, 15, 16, 17] rfl (by decide) 0 rfl rfl (As := []) (rest := []) rfl rfl hl.1 (Nat.le_of_ble_eq_true rfl) ⟨Nat.le_of_ble_eq_true rfl, Nat.le_of_ble_eq_true rfl⟩ ⟨Nat.le_refl _, Nat.le_refl _⟩ dX9_which_17 (fun wx H locs hqx hW => ?_)
    obtain rfl := hqx
    have hW : AtC D (tyG cI cZ cN) Ax (pMod cI cZ b (upA (upA M 8 ((cpA (M 8) (M 7) 25))) 0 (upd (M 0) 0 (0 : Int32))) tr) sx H locs := hW.re [] 18 (by decide) rfl rfl trivial (by decide +kernel) rfl rfl
    refine lv_iconst (v := (0 : Int32)) hx hb dX9_which_20 rfl ?_
    refine lv_istore_n (lv' := [(2, .int (0 : Int32)), (0, .ref (b 0)), (1, .int p0)]) hx hb dX9_which_21 rfl hl (by decide) rfl (fun ls hl => ?_)
    refine lv_bipush (v := (-9 : Int32)) hx hb dX9_which_22 rfl ?_
    refine lv_istore_n (lv' := [(3, .int (-9 : Int32)), (2, .int (0 : Int32)), (0, .ref (b 0)), (1, .int p0)]) hx hb dX9_which_24 rfl hl (by decide) rfl (fun ls hl => ?_)
    refine lv_bipush (v := (15 : Int32)) hx hb dX9_which_25 rfl ?_
    refine lv_istore (lv' := [(4, .int (15 : Int32)), (3, .int (-9 : Int32)), (2, .int (0 : Int32)), (0, .ref (b 0)), (1, .int p0)]) hx hb dX9_which_27 hl (by decide) rfl (fun ls hl => ?_)
    refine lv_iconst (v := (0 : Int32)) hx hb dX9_which_29 rfl ?_
    refine lv_istore (lv' := [(5, .int (0 : Int32)), (4, .int (15 : Int32)), (3, .int (-9 : Int32)), (2, .int (0 : Int32)), (0, .ref (b 0)), (1, .int p0)]) hx hb dX9_which_30 hl (by decide) rfl (fun ls hl => ?_)
    have lp_32 : ∀ (n : Nat) (i : Nat), ((i ≤ 16)) → ((16 + 1 ≤ i + n)) → ∀ (H : Heap) (locs : List Loc) (ls : Array Slot), AtC D (tyG cI cZ cN) Ax (pMod cI cZ b (upA (upA M 8 (wqW (cpA (M 8) (M 7) 25) i)) 0 (upd (M 0) 0 (0 : Int32))) tr) sx H locs → lv_has ls 6 [(0, .ref (b 0)), (1, .int p0), (2, .int (wqK (ftM (cpA (M 8) (M 7) 25) (M 12) (M 13) N z1) (grM (cpA (M 8) (M 7) 25) (M 5) (M 14) (M 15) N C z2) i).1), (3, .int (wqK (ftM (cpA (M 8) (M 7) 25) (M 12) (M 13) N z1) (grM (cpA (M 8) (M 7) 25) (M 5) (M 14) (M 15) N C z2) i).2.1), (4, .int (wqK (ftM (cpA (M 8) (M 7) 25) (M 12) (M 13) N z1) (grM (cpA (M 8) (M 7) 25) (M 5) (M 14) (M 15) N C z2) i).2.2), (5, .int (nI i))] → W pg l ev (rmN 4) sx mx ax bx mt cx H locs 0 0 Qx (F0 mx 32 ls []) := by
      intro n
      induction n with
      | zero =>
        intro i hi_32 hn_32 H locs ls hW hl
        exact absurd hn_32 (by omega)
      | succ n ih32 =>
        intro i hi_32 hn_32 H locs ls hW hl
        refine lv_iload hx hb dX9_which_32 (lv_at hl 5 rfl) ?_
        refine lv_bipush (v := (16 : Int32)) hx hb dX9_which_34 rfl ?_
        refine lv_icmp_ge (tgt := 89) hx hb dX9_which_36 rfl (fun c_36 => ?_) (fun c_36 => ?_)
        · have ge_36 : 16 ≤ i := (nI_leI (a := 16) (b := i) (by omega) (by omega)).mp c_36
          have ee_36 : 16 = i := by omega
          subst ee_36
          refine lv_iload_n hx hb dX9_which_89 rfl (lv_at hl 1 rfl) ?_
          refine lv_if_ne (tgt := 97) hx hb dX9_which_90 rfl (fun c_90 => ?_) (fun c_90 => ?_)
          · refine lv_iload_n hx hb dX9_which_97 rfl (lv_at hl 1 rfl) ?_
            refine lv_iconst (v := (1 : Int32)) hx hb dX9_which_98 rfl ?_
            refine lv_icmp_eq (tgt := 106) hx hb dX9_which_99 rfl (fun c_99 => ?_) (fun c_99 => ?_)
            · refine lv_iload_n hx hb dX9_which_106 rfl (lv_at hl 3 rfl) ?_
              refine lv_goto (tgt := 112) hx hb dX9_which_107 rfl ?_
              exact hret _ _ _ _ _ _ hW rfl rfl dX9_which_112 (⟨by rw [wqR, if_neg c_11, if_neg c_90, if_pos c_99], by rw [if_pos c_11]⟩)
            · refine lv_iload_n hx hb dX9_which_102 rfl (lv_at hl 2 rfl) ?_
              refine lv_if_ne (tgt := 110) hx hb dX9_which_103 rfl (fun c_103 => ?_) (fun c_103 => ?_)
              · refine lv_iload hx hb dX9_which_110 (lv_at hl 4 rfl) ?_
                exact hret _ _ _ _ _ _ hW rfl rfl dX9_which_112 (⟨by rw [wqR, if_neg c_11, if_neg c_90, if_neg c_99, if_neg c_103], by rw [if_pos c_11]⟩)
              · refine lv_iload_n hx hb dX9_which_106 rfl (lv_at hl 3 rfl) ?_
                refine lv_goto (tgt := 112) hx hb dX9_which_107 rfl ?_
                exact hret _ _ _ _ _ _ hW rfl rfl dX9_which_112 (⟨by rw [wqR, if_neg c_11, if_neg c_90, if_neg c_99, if_pos c_103], by rw [if_pos c_11]⟩)
          · refine lv_iload_n hx hb dX9_which_93 rfl (lv_at hl 2 rfl) ?_
            refine lv_goto (tgt := 112) hx hb dX9_which_94 rfl ?_
            exact hret _ _ _ _ _ _ hW rfl rfl dX9_which_112 (⟨by rw [wqR, if_neg c_11, if_pos c_90], by rw [if_pos c_11]⟩)
        · have lt_36 : i < 16 := Nat.not_le.mp (fun h => c_36 ((nI_leI (a := 16) (b := i) (by omega) (by omega)).mpr h))
          refine lv_aload_n hx hb dX9_which_39 rfl (lv_at hl 0 rfl) ?_
          refine r_get Sx hW 0 rfl rfl bw_wsX90 16 (by decide) (v := .ref (b 8)) rfl mw121 dX9_which_40 ?_
          refine lv_bipush (v := (22 : Int32)) hx hb dX9_which_43 rfl ?_
          refine lv_iload hx hb dX9_which_45 (lv_at hl 5 rfl) ?_
          refine r_iast Sx hW 8 0 rfl rfl (j := 22) rfl (by decide) (by decide) dX9_which_47 (ws' := (pMod cI cZ b (upA (upA M 8 (upd (wqW (cpA (M 8) (M 7) 25) i) 22 (nI i))) 0 (upd (M 0) 0 (0 : Int32))) tr)) rfl (fun H locs hW => ?_)
          refine lv_aload_n hx hb dX9_which_48 rfl (lv_at hl 0 rfl) ?_
          refine callVI Sx hW (c_X9_isAsTold l D cI cZ cN b (upA (upA M 8 (upd (wqW (cpA (M 8) (M 7) 25) i) 22 (nI i))) 0 (upd (M 0) 0 (0 : Int32))) tr N C hN hN7 hC hC4 hC1 z1 hc1 hz16 hto ) vmX9_isAsTold mw701 [0, 1, 2, 3, 4, 5, 6, 7, 8, 9, 10, 11, 12, 13, 14, 15, 16, 17] rfl (by decide) 0 rfl rfl (As := []) (rest := []) rfl rfl hl.1 (Nat.le_of_ble_eq_true rfl) ⟨Nat.le_of_ble_eq_true rfl, Nat.le_of_ble_eq_true rfl⟩ ⟨Nat.le_refl _, Nat.le_refl _⟩ dX9_which_49 (fun rx wx H locs hqx hW => ?_)
          obtain ⟨hrx, rfl⟩ := hqx
          have hW : AtC D (tyG cI cZ cN) Ax (pMod cI cZ b (upA (upA M 8 (upd (wqW (cpA (M 8) (M 7) 25) i) 22 (nI i))) 0 (upd (M 0) 0 (0 : Int32))) tr) sx H locs := hW.re [] 18 (by decide) rfl rfl trivial (by decide +kernel) rfl rfl
          refine r_eq (y := (itM (upd (wqW (cpA (M 8) (M 7) 25) i) 22 (nI i)) (M 12) (M 13) N z1)) hrx ?_
          refine r_eq (y := (ftM (cpA (M 8) (M 7) 25) (M 12) (M 13) N z1 i)) (ft_eq _ _ _ _ _ _) ?_
          refine lv_if_eq (tgt := 83) hx hb dX9_which_52 rfl (fun c_52 => ?_) (fun c_52 => ?_)
          · refine lv_iinc (v := (nI (i + 1))) (lv' := [(5, .int (nI (i + 1))), (0, .ref (b 0)), (1, .int p0), (2, .int (wqK (ftM (cpA (M 8) (M 7) 25) (M 12) (M 13) N z1) (grM (cpA (M 8) (M 7) 25) (M 5) (M 14) (M 15) N C z2) i).1), (3, .int (wqK (ftM (cpA (M 8) (M 7) 25) (M 12) (M 13) N z1) (grM (cpA (M 8) (M 7) 25) (M 5) (M 14) (M 15) N C z2) i).2.1), (4, .int (wqK (ftM (cpA (M 8) (M 7) 25) (M 12) (M 13) N z1) (grM (cpA (M 8) (M 7) 25) (M 5) (M 14) (M 15) N C z2) i).2.2)]) hx hb dX9_which_83 hl (k := 5) rfl (inc_n i 1) (by decide) rfl (fun ls hl => ?_)
            refine lv_goto (tgt := 32) hx hb dX9_which_86 rfl ?_
            have hl_1 : lv_has ls 6 [(0, .ref (b 0)), (1, .int p0), (2, .int (wqK (ftM (cpA (M 8) (M 7) 25) (M 12) (M 13) N z1) (grM (cpA (M 8) (M 7) 25) (M 5) (M 14) (M 15) N C z2) (i + 1)).1), (3, .int (wqK (ftM (cpA (M 8) (M 7) 25) (M 12) (M 13) N z1) (grM (cpA (M 8) (M 7) 25) (M 5) (M 14) (M 15) N C z2) (i + 1)).2.1), (4, .int (wqK (ftM (cpA (M 8) (M 7) 25) (M 12) (M 13) N z1) (grM (cpA (M 8) (M 7) 25) (M 5) (M 14) (M 15) N C z2) (i + 1)).2.2), (5, .int (nI (i + 1)))] := by
              rw [show (wqK (ftM (cpA (M 8) (M 7) 25) (M 12) (M 13) N z1) (grM (cpA (M 8) (M 7) 25) (M 5) (M 14) (M 15) N C z2) (i + 1)).1 = (wqK (ftM (cpA (M 8) (M 7) 25) (M 12) (M 13) N z1) (grM (cpA (M 8) (M 7) 25) (M 5) (M 14) (M 15) N C z2) i).1 from by rw [wqK, if_pos c_52]]
              rw [show (wqK (ftM (cpA (M 8) (M 7) 25) (M 12) (M 13) N z1) (grM (cpA (M 8) (M 7) 25) (M 5) (M 14) (M 15) N C z2) (i + 1)).2.1 = (wqK (ftM (cpA (M 8) (M 7) 25) (M 12) (M 13) N z1) (grM (cpA (M 8) (M 7) 25) (M 5) (M 14) (M 15) N C z2) i).2.1 from by rw [wqK, if_pos c_52]]
              rw [show (wqK (ftM (cpA (M 8) (M 7) 25) (M 12) (M 13) N z1) (grM (cpA (M 8) (M 7) 25) (M 5) (M 14) (M 15) N C z2) (i + 1)).2.2 = (wqK (ftM (cpA (M 8) (M 7) 25) (M 12) (M 13) N z1) (grM (cpA (M 8) (M 7) 25) (M 5) (M 14) (M 15) N C z2) i).2.2 from by rw [wqK, if_pos c_52]]
              exact lv_sub hl [1, 2, 3, 4, 5, 0] rfl
            exact ih32 (i + 1) (by omega) (by omega) _ _ _ hW hl_1
          · refine lv_aload_n hx hb dX9_which_55 rfl (lv_at hl 0 rfl) ?_
            refine callVI Sx hW (c_X9_isAsRecorded l D cI cZ cN b (upA (upA M 8 (upd (wqW (cpA (M 8) (M 7) 25) i) 22 (nI i))) 0 (upd (M 0) 0 (0 : Int32))) tr N C hN hN7 hC hC4 hC1 z2 hc2 hz26 ) vmX9_isAsRecorded mw721 [0, 1, 2, 3, 4, 5, 6, 7, 8, 9, 10, 11, 12, 13, 14, 15, 16, 17] rfl (by decide) 0 rfl rfl (As := []) (rest := []) rfl rfl hl.1 (Nat.le_of_ble_eq_true rfl) ⟨Nat.le_of_ble_eq_true rfl, Nat.le_of_ble_eq_true rfl⟩ ⟨Nat.le_refl _, Nat.le_refl _⟩ dX9_which_56 (fun rx wx H locs hqx hW => ?_)
            obtain ⟨hrx, rfl⟩ := hqx
            have hW : AtC D (tyG cI cZ cN) Ax (pMod cI cZ b (upA (upA M 8 (upd (wqW (cpA (M 8) (M 7) 25) i) 22 (nI i))) 0 (upd (M 0) 0 (0 : Int32))) tr) sx H locs := hW.re [] 18 (by decide) rfl rfl trivial (by decide +kernel) rfl rfl
            refine r_eq (y := (irM (upd (wqW (cpA (M 8) (M 7) 25) i) 22 (nI i)) (M 5) (M 14) (M 15) N C z2)) hrx ?_
            refine r_eq (y := (grM (cpA (M 8) (M 7) 25) (M 5) (M 14) (M 15) N C z2 i)) (gr_eq _ _ _ _ _ _ _ _) ?_
            refine lv_if_eq (tgt := 83) hx hb dX9_which_59 rfl (fun c_59 => ?_) (fun c_59 => ?_)
            · refine lv_iinc (v := (nI (i + 1))) (lv' := [(5, .int (nI (i + 1))), (0, .ref (b 0)), (1, .int p0), (2, .int (wqK (ftM (cpA (M 8) (M 7) 25) (M 12) (M 13) N z1) (grM (cpA (M 8) (M 7) 25) (M 5) (M 14) (M 15) N C z2) i).1), (3, .int (wqK (ftM (cpA (M 8) (M 7) 25) (M 12) (M 13) N z1) (grM (cpA (M 8) (M 7) 25) (M 5) (M 14) (M 15) N C z2) i).2.1), (4, .int (wqK (ftM (cpA (M 8) (M 7) 25) (M 12) (M 13) N z1) (grM (cpA (M 8) (M 7) 25) (M 5) (M 14) (M 15) N C z2) i).2.2)]) hx hb dX9_which_83 hl (k := 5) rfl (inc_n i 1) (by decide) rfl (fun ls hl => ?_)
              refine lv_goto (tgt := 32) hx hb dX9_which_86 rfl ?_
              have hl_2 : lv_has ls 6 [(0, .ref (b 0)), (1, .int p0), (2, .int (wqK (ftM (cpA (M 8) (M 7) 25) (M 12) (M 13) N z1) (grM (cpA (M 8) (M 7) 25) (M 5) (M 14) (M 15) N C z2) (i + 1)).1), (3, .int (wqK (ftM (cpA (M 8) (M 7) 25) (M 12) (M 13) N z1) (grM (cpA (M 8) (M 7) 25) (M 5) (M 14) (M 15) N C z2) (i + 1)).2.1), (4, .int (wqK (ftM (cpA (M 8) (M 7) 25) (M 12) (M 13) N z1) (grM (cpA (M 8) (M 7) 25) (M 5) (M 14) (M 15) N C z2) (i + 1)).2.2), (5, .int (nI (i + 1)))] := by
                rw [show (wqK (ftM (cpA (M 8) (M 7) 25) (M 12) (M 13) N z1) (grM (cpA (M 8) (M 7) 25) (M 5) (M 14) (M 15) N C z2) (i + 1)).1 = (wqK (ftM (cpA (M 8) (M 7) 25) (M 12) (M 13) N z1) (grM (cpA (M 8) (M 7) 25) (M 5) (M 14) (M 15) N C z2) i).1 from by rw [wqK, if_neg c_52, if_pos c_59]]
                rw [show (wqK (ftM (cpA (M 8) (M 7) 25) (M 12) (M 13) N z1) (grM (cpA (M 8) (M 7) 25) (M 5) (M 14) (M 15) N C z2) (i + 1)).2.1 = (wqK (ftM (cpA (M 8) (M 7) 25) (M 12) (M 13) N z1) (grM (cpA (M 8) (M 7) 25) (M 5) (M 14) (M 15) N C z2) i).2.1 from by rw [wqK, if_neg c_52, if_pos c_59]]
                rw [show (wqK (ftM (cpA (M 8) (M 7) 25) (M 12) (M 13) N z1) (grM (cpA (M 8) (M 7) 25) (M 5) (M 14) (M 15) N C z2) (i + 1)).2.2 = (wqK (ftM (cpA (M 8) (M 7) 25) (M 12) (M 13) N z1) (grM (cpA (M 8) (M 7) 25) (M 5) (M 14) (M 15) N C z2) i).2.2 from by rw [wqK, if_neg c_52, if_pos c_59]]
                exact lv_sub hl [1, 2, 3, 4, 5, 0] rfl
              exact ih32 (i + 1) (by omega) (by omega) _ _ _ hW hl_2
            · refine lv_iload_n hx hb dX9_which_62 rfl (lv_at hl 2 rfl) ?_
              refine lv_if_ne (tgt := 71) hx hb dX9_which_63 rfl (fun c_63 => ?_) (fun c_63 => ?_)
              · refine lv_iload_n hx hb dX9_which_71 rfl (lv_at hl 3 rfl) ?_
                refine lv_istore_n (lv' := [(3, .int (wqK (ftM (cpA (M 8) (M 7) 25) (M 12) (M 13) N z1) (grM (cpA (M 8) (M 7) 25) (M 5) (M 14) (M 15) N C z2) i).2.1), (0, .ref (b 0)), (1, .int p0), (2, .int (wqK (ftM (cpA (M 8) (M 7) 25) (M 12) (M 13) N z1) (grM (cpA (M 8) (M 7) 25) (M 5) (M 14) (M 15) N C z2) i).1), (4, .int (wqK (ftM (cpA (M 8) (M 7) 25) (M 12) (M 13) N z1) (grM (cpA (M 8) (M 7) 25) (M 5) (M 14) (M 15) N C z2) i).2.2), (5, .int (nI i))]) hx hb dX9_which_72 rfl hl (by decide) rfl (fun ls hl => ?_)
                refine lv_iload hx hb dX9_which_73 (lv_at hl 4 rfl) ?_
                refine lv_iload hx hb dX9_which_75 (lv_at hl 5 rfl) ?_
                refine lv_iand hx hb dX9_which_77 ?_
                refine lv_istore (lv' := [(4, .int ((wqK (ftM (cpA (M 8) (M 7) 25) (M 12) (M 13) N z1) (grM (cpA (M 8) (M 7) 25) (M 5) (M 14) (M 15) N C z2) i).2.2 &&& (nI i))), (3, .int (wqK (ftM (cpA (M 8) (M 7) 25) (M 12) (M 13) N z1) (grM (cpA (M 8) (M 7) 25) (M 5) (M 14) (M 15) N C z2) i).2.1), (0, .ref (b 0)), (1, .int p0), (2, .int (wqK (ftM (cpA (M 8) (M 7) 25) (M 12) (M 13) N z1) (grM (cpA (M 8) (M 7) 25) (M 5) (M 14) (M 15) N C z2) i).1), (5, .int (nI i))]) hx hb dX9_which_78 hl (by decide) rfl (fun ls hl => ?_)
                refine lv_iinc (v := ((wqK (ftM (cpA (M 8) (M 7) 25) (M 12) (M 13) N z1) (grM (cpA (M 8) (M 7) 25) (M 5) (M 14) (M 15) N C z2) i).1 + 1)) (lv' := [(2, .int ((wqK (ftM (cpA (M 8) (M 7) 25) (M 12) (M 13) N z1) (grM (cpA (M 8) (M 7) 25) (M 5) (M 14) (M 15) N C z2) i).1 + 1)), (4, .int ((wqK (ftM (cpA (M 8) (M 7) 25) (M 12) (M 13) N z1) (grM (cpA (M 8) (M 7) 25) (M 5) (M 14) (M 15) N C z2) i).2.2 &&& (nI i))), (3, .int (wqK (ftM (cpA (M 8) (M 7) 25) (M 12) (M 13) N z1) (grM (cpA (M 8) (M 7) 25) (M 5) (M 14) (M 15) N C z2) i).2.1), (0, .ref (b 0)), (1, .int p0), (5, .int (nI i))]) hx hb dX9_which_80 hl (k := 4) rfl rfl (by decide) rfl (fun ls hl => ?_)
                refine lv_iinc (v := (nI (i + 1))) (lv' := [(5, .int (nI (i + 1))), (2, .int ((wqK (ftM (cpA (M 8) (M 7) 25) (M 12) (M 13) N z1) (grM (cpA (M 8) (M 7) 25) (M 5) (M 14) (M 15) N C z2) i).1 + 1)), (4, .int ((wqK (ftM (cpA (M 8) (M 7) 25) (M 12) (M 13) N z1) (grM (cpA (M 8) (M 7) 25) (M 5) (M 14) (M 15) N C z2) i).2.2 &&& (nI i))), (3, .int (wqK (ftM (cpA (M 8) (M 7) 25) (M 12) (M 13) N z1) (grM (cpA (M 8) (M 7) 25) (M 5) (M 14) (M 15) N C z2) i).2.1), (0, .ref (b 0)), (1, .int p0)]) hx hb dX9_which_83 hl (k := 5) rfl (inc_n i 1) (by decide) rfl (fun ls hl => ?_)
                refine lv_goto (tgt := 32) hx hb dX9_which_86 rfl ?_
                have hl_3 : lv_has ls 6 [(0, .ref (b 0)), (1, .int p0), (2, .int (wqK (ftM (cpA (M 8) (M 7) 25) (M 12) (M 13) N z1) (grM (cpA (M 8) (M 7) 25) (M 5) (M 14) (M 15) N C z2) (i + 1)).1), (3, .int (wqK (ftM (cpA (M 8) (M 7) 25) (M 12) (M 13) N z1) (grM (cpA (M 8) (M 7) 25) (M 5) (M 14) (M 15) N C z2) (i + 1)).2.1), (4, .int (wqK (ftM (cpA (M 8) (M 7) 25) (M 12) (M 13) N z1) (grM (cpA (M 8) (M 7) 25) (M 5) (M 14) (M 15) N C z2) (i + 1)).2.2), (5, .int (nI (i + 1)))] := by
                  rw [show (wqK (ftM (cpA (M 8) (M 7) 25) (M 12) (M 13) N z1) (grM (cpA (M 8) (M 7) 25) (M 5) (M 14) (M 15) N C z2) (i + 1)).1 = ((wqK (ftM (cpA (M 8) (M 7) 25) (M 12) (M 13) N z1) (grM (cpA (M 8) (M 7) 25) (M 5) (M 14) (M 15) N C z2) i).1 + 1) from by rw [wqK, if_neg c_52, if_neg c_59]]
                  rw [show (wqK (ftM (cpA (M 8) (M 7) 25) (M 12) (M 13) N z1) (grM (cpA (M 8) (M 7) 25) (M 5) (M 14) (M 15) N C z2) (i + 1)).2.1 = (wqK (ftM (cpA (M 8) (M 7) 25) (M 12) (M 13) N z1) (grM (cpA (M 8) (M 7) 25) (M 5) (M 14) (M 15) N C z2) i).2.1 from by rw [wqK, if_neg c_52, if_neg c_59]; exact (if_neg c_63)]
                  rw [show (wqK (ftM (cpA (M 8) (M 7) 25) (M 12) (M 13) N z1) (grM (cpA (M 8) (M 7) 25) (M 5) (M 14) (M 15) N C z2) (i + 1)).2.2 = ((wqK (ftM (cpA (M 8) (M 7) 25) (M 12) (M 13) N z1) (grM (cpA (M 8) (M 7) 25) (M 5) (M 14) (M 15) N C z2) i).2.2 &&& (nI i)) from by rw [wqK, if_neg c_52, if_neg c_59]]
                  exact lv_sub hl [4, 5, 1, 3, 2, 0] rfl
                exact ih32 (i + 1) (by omega) (by omega) _ _ _ hW hl_3
              · refine lv_iload hx hb dX9_which_66 (lv_at hl 5 rfl) ?_
                refine lv_goto (tgt := 72) hx hb dX9_which_68 rfl ?_
                refine lv_istore_n (lv' := [(3, .int (nI i)), (0, .ref (b 0)), (1, .int p0), (2, .int (wqK (ftM (cpA (M 8) (M 7) 25) (M 12) (M 13) N z1) (grM (cpA (M 8) (M 7) 25) (M 5) (M 14) (M 15) N C z2) i).1), (4, .int (wqK (ftM (cpA (M 8) (M 7) 25) (M 12) (M 13) N z1) (grM (cpA (M 8) (M 7) 25) (M 5) (M 14) (M 15) N C z2) i).2.2), (5, .int (nI i))]) hx hb dX9_which_72 rfl hl (by decide) rfl (fun ls hl => ?_)
                refine lv_iload hx hb dX9_which_73 (lv_at hl 4 rfl) ?_
                refine lv_iload hx hb dX9_which_75 (lv_at hl 5 rfl) ?_
                refine lv_iand hx hb dX9_which_77 ?_
                refine lv_istore (lv' := [(4, .int ((wqK (ftM (cpA (M 8) (M 7) 25) (M 12) (M 13) N z1) (grM (cpA (M 8) (M 7) 25) (M 5) (M 14) (M 15) N C z2) i).2.2 &&& (nI i))), (3, .int (nI i)), (0, .ref (b 0)), (1, .int p0), (2, .int (wqK (ftM (cpA (M 8) (M 7) 25) (M 12) (M 13) N z1) (grM (cpA (M 8) (M 7) 25) (M 5) (M 14) (M 15) N C z2) i).1), (5, .int (nI i))]) hx hb dX9_which_78 hl (by decide) rfl (fun ls hl => ?_)
                refine lv_iinc (v := ((wqK (ftM (cpA (M 8) (M 7) 25) (M 12) (M 13) N z1) (grM (cpA (M 8) (M 7) 25) (M 5) (M 14) (M 15) N C z2) i).1 + 1)) (lv' := [(2, .int ((wqK (ftM (cpA (M 8) (M 7) 25) (M 12) (M 13) N z1) (grM (cpA (M 8) (M 7) 25) (M 5) (M 14) (M 15) N C z2) i).1 + 1)), (4, .int ((wqK (ftM (cpA (M 8) (M 7) 25) (M 12) (M 13) N z1) (grM (cpA (M 8) (M 7) 25) (M 5) (M 14) (M 15) N C z2) i).2.2 &&& (nI i))), (3, .int (nI i)), (0, .ref (b 0)), (1, .int p0), (5, .int (nI i))]) hx hb dX9_which_80 hl (k := 4) rfl rfl (by decide) rfl (fun ls hl => ?_)
                refine lv_iinc (v := (nI (i + 1))) (lv' := [(5, .int (nI (i + 1))), (2, .int ((wqK (ftM (cpA (M 8) (M 7) 25) (M 12) (M 13) N z1) (grM (cpA (M 8) (M 7) 25) (M 5) (M 14) (M 15) N C z2) i).1 + 1)), (4, .int ((wqK (ftM (cpA (M 8) (M 7) 25) (M 12) (M 13) N z1) (grM (cpA (M 8) (M 7) 25) (M 5) (M 14) (M 15) N C z2) i).2.2 &&& (nI i))), (3, .int (nI i)), (0, .ref (b 0)), (1, .int p0)]) hx hb dX9_which_83 hl (k := 5) rfl (inc_n i 1) (by decide) rfl (fun ls hl => ?_)
                refine lv_goto (tgt := 32) hx hb dX9_which_86 rfl ?_
                have hl_4 : lv_has ls 6 [(0, .ref (b 0)), (1, .int p0), (2, .int (wqK (ftM (cpA (M 8) (M 7) 25) (M 12) (M 13) N z1) (grM (cpA (M 8) (M 7) 25) (M 5) (M 14) (M 15) N C z2) (i + 1)).1), (3, .int (wqK (ftM (cpA (M 8) (M 7) 25) (M 12) (M 13) N z1) (grM (cpA (M 8) (M 7) 25) (M 5) (M 14) (M 15) N C z2) (i + 1)).2.1), (4, .int (wqK (ftM (cpA (M 8) (M 7) 25) (M 12) (M 13) N z1) (grM (cpA (M 8) (M 7) 25) (M 5) (M 14) (M 15) N C z2) (i + 1)).2.2), (5, .int (nI (i + 1)))] := by
                  rw [show (wqK (ftM (cpA (M 8) (M 7) 25) (M 12) (M 13) N z1) (grM (cpA (M 8) (M 7) 25) (M 5) (M 14) (M 15) N C z2) (i + 1)).1 = ((wqK (ftM (cpA (M 8) (M 7) 25) (M 12) (M 13) N z1) (grM (cpA (M 8) (M 7) 25) (M 5) (M 14) (M 15) N C z2) i).1 + 1) from by rw [wqK, if_neg c_52, if_neg c_59]]
                  rw [show (wqK (ftM (cpA (M 8) (M 7) 25) (M 12) (M 13) N z1) (grM (cpA (M 8) (M 7) 25) (M 5) (M 14) (M 15) N C z2) (i + 1)).2.1 = (nI i) from by rw [wqK, if_neg c_52, if_neg c_59]; exact (if_pos c_63)]
                  rw [show (wqK (ftM (cpA (M 8) (M 7) 25) (M 12) (M 13) N z1) (grM (cpA (M 8) (M 7) 25) (M 5) (M 14) (M 15) N C z2) (i + 1)).2.2 = ((wqK (ftM (cpA (M 8) (M 7) 25) (M 12) (M 13) N z1) (grM (cpA (M 8) (M 7) 25) (M 5) (M 14) (M 15) N C z2) i).2.2 &&& (nI i)) from by rw [wqK, if_neg c_52, if_neg c_59]]
                  exact lv_sub hl [4, 5, 1, 3, 2, 0] rfl
                exact ih32 (i + 1) (by omega) (by omega) _ _ _ hW hl_4
    exact lp_32 (16 + 1) 0 (by omega) (by omega) _ _ _ hW (lv_sub hl [4, 5, 3, 2, 1, 0] rfl)
  · refine lv_iconst (v := (-1 : Int32)) hx hb dX9_which_14 rfl ?_
    exact hret _ _ _ _ _ _ hW rfl rfl dX9_which_15 (⟨by rw [wqR, if_pos c_11], by rw [if_neg (fun h => h c_11)]⟩)

set_option maxHeartbeats 4000000 in
set_option maxRecDepth 100000 in
theorem c_X9_mayMarry (l : Launch) (D : va_G) (cI cZ cN : ClassId) (b : Nat → Nat) (M : NV) (tr : Int64) (N C : Nat) (hN : M 2 1 = nI N) (hN7 : N ≤ 7) (hC : M 2 0 = nI C) (hC4 : C ≤ 4) (hC1 : 1 ≤ C) (P : Nat) (Qq : Nat) (hP : P < N) (hQq : Qq < N) : CtI l yX9_mayMarry cX9_mayMarry 3 (some .boolean) 0 D (tyG cI cZ cN) [.ref (b 0), .int (nI P), .int (nI Qq)] (pMod cI cZ b M tr) (fun r w => r = mmM (M 7) (M 6) P Qq ∧ w = (pMod cI cZ b M tr)) := by
  refine CtI.of rfl (Nat.le_of_ble_eq_true rfl) ?_
  intro pg ev sx mx ax bx mt cx ls Qx Ax Sx hret hW hl
  have hx := Sx.1
  have hb := Sx.2.1
  have hl : lv_has ls 3 [(0, .ref (b 0)), (1, .int (nI P)), (2, .int (nI Qq))] := hl
  refine lv_aload_n hx hb dX9_mayMarry_0 rfl (lv_at hl 0 rfl) ?_
  refine r_get Sx hW 0 rfl rfl bw_wsX90 15 (by decide) (v := .ref (b 7)) rfl mw120 dX9_mayMarry_1 ?_
  refine lv_iconst (v := (0 : Int32)) hx hb dX9_mayMarry_4 rfl ?_
  refine lv_iload_n hx hb dX9_mayMarry_5 rfl (lv_at hl 1 rfl) ?_
  refine lv_iadd hx hb dX9_mayMarry_6 ?_
  refine r_eq (y := (nI P)) ((nI_add 0 P).trans (congrArg nI (Nat.zero_add P))) ?_
  refine r_iald Sx hW 7 0 rfl rfl (j := P) rfl (by omega) (by decide) dX9_mayMarry_7 ?_
  refine lv_aload_n hx hb dX9_mayMarry_8 rfl (lv_at hl 0 rfl) ?_
  refine r_get Sx hW 0 rfl rfl bw_wsX90 15 (by decide) (v := .ref (b 7)) rfl mw120 dX9_mayMarry_9 ?_
  refine lv_iconst (v := (0 : Int32)) hx hb dX9_mayMarry_12 rfl ?_
  refine lv_iload_n hx hb dX9_mayMarry_13 rfl (lv_at hl 2 rfl) ?_
  refine lv_iadd hx hb dX9_mayMarry_14 ?_
  refine r_eq (y := (nI Qq)) ((nI_add 0 Qq).trans (congrArg nI (Nat.zero_add Qq))) ?_
  refine r_iald Sx hW 7 0 rfl rfl (j := Qq) rfl (by omega) (by decide) dX9_mayMarry_15 ?_
  refine lv_icmp_eq (tgt := 36) hx hb dX9_mayMarry_16 rfl (fun c_16 => ?_) (fun c_16 => ?_)
  · refine lv_iconst (v := (0 : Int32)) hx hb dX9_mayMarry_36 rfl ?_
    exact hret _ _ _ _ _ _ hW rfl rfl dX9_mayMarry_37 (⟨by rw [mmM, if_pos c_16], rfl⟩)
  · refine lv_aload_n hx hb dX9_mayMarry_19 rfl (lv_at hl 0 rfl) ?_
    refine r_get Sx hW 0 rfl rfl bw_wsX90 13 (by decide) (v := .ref (b 6)) rfl mw119 dX9_mayMarry_20 ?_
    refine lv_iload_n hx hb dX9_mayMarry_23 rfl (lv_at hl 1 rfl) ?_
    refine r_iald Sx hW 6 0 rfl rfl (j := P) rfl (by omega) (by decide) dX9_mayMarry_24 ?_
    refine lv_iload_n hx hb dX9_mayMarry_25 rfl (lv_at hl 2 rfl) ?_
    refine lv_ishr hx hb dX9_mayMarry_26 ?_
    refine lv_iconst (v := (1 : Int32)) hx hb dX9_mayMarry_27 rfl ?_
    refine lv_iand hx hb dX9_mayMarry_28 ?_
    refine lv_if_ne (tgt := 36) hx hb dX9_mayMarry_29 rfl (fun c_29 => ?_) (fun c_29 => ?_)
    · refine lv_iconst (v := (0 : Int32)) hx hb dX9_mayMarry_36 rfl ?_
      exact hret _ _ _ _ _ _ hW rfl rfl dX9_mayMarry_37 (⟨by rw [mmM, if_neg c_16, if_neg c_29], rfl⟩)
    · refine lv_iconst (v := (1 : Int32)) hx hb dX9_mayMarry_32 rfl ?_
      refine lv_goto (tgt := 37) hx hb dX9_mayMarry_33 rfl ?_
      exact hret _ _ _ _ _ _ hW rfl rfl dX9_mayMarry_37 (⟨by rw [mmM, if_neg c_16, if_pos c_29], rfl⟩)

set_option maxHeartbeats 4000000 in
set_option maxRecDepth 100000 in
theorem c_X9_power (l : Launch) (D : va_G) (cI cZ cN : ClassId) (x : Int32) (E : Nat) (hE : E < 1000) : CtI l yX9_power cX9_power 4 (some .int) 0 D (tyG cI cZ cN) [.int x, .int (nI E)] [] (fun r w => r = pwI x E ∧ w = []) := by
  refine CtI.of rfl (Nat.le_of_ble_eq_true rfl) ?_
  intro pg ev sx mx ax bx mt cx ls Qx Ax Sx hret hW hl
  have hx := Sx.1
  have hb := Sx.2.1
  have hl : lv_has ls 4 [(0, .int x), (1, .int (nI E))] := hl
  refine lv_iconst (v := (1 : Int32)) hx hb dX9_power_0 rfl ?_
  refine lv_istore_n (lv' := [(2, .int (1 : Int32)), (0, .int x), (1, .int (nI E))]) hx hb dX9_power_1 rfl hl (by decide) rfl (fun ls hl => ?_)
  refine lv_iconst (v := (0 : Int32)) hx hb dX9_power_2 rfl ?_
  refine lv_istore_n (lv' := [(3, .int (0 : Int32)), (2, .int (1 : Int32)), (0, .int x), (1, .int (nI E))]) hx hb dX9_power_3 rfl hl (by decide) rfl (fun ls hl => ?_)
  have lp_4 : ∀ (n : Nat) (i : Nat), ((i ≤ E)) → ((E + 1 ≤ i + n)) → ∀ (H : Heap) (locs : List Loc) (ls : Array Slot), AtC D (tyG cI cZ cN) Ax [] sx H locs → lv_has ls 4 [(0, .int x), (1, .int (nI E)), (2, .int (pwI x i)), (3, .int (nI i))] → W pg l ev (rmN 0) sx mx ax bx mt cx H locs 0 0 Qx (F0 mx 4 ls []) := by
    intro n
    induction n with
    | zero =>
      intro i hi_4 hn_4 H locs ls hW hl
      exact absurd hn_4 (by omega)
    | succ n ih4 =>
      intro i hi_4 hn_4 H locs ls hW hl
      refine lv_iload_n hx hb dX9_power_4 rfl (lv_at hl 3 rfl) ?_
      refine lv_iload_n hx hb dX9_power_5 rfl (lv_at hl 1 rfl) ?_
      refine lv_icmp_ge (tgt := 19) hx hb dX9_power_6 rfl (fun c_6 => ?_) (fun c_6 => ?_)
      · have ge_6 : E ≤ i := (nI_leI (a := E) (b := i) (by omega) (by omega)).mp c_6
        have ee_6 : E = i := by omega
        subst ee_6
        refine lv_iload_n hx hb dX9_power_19 rfl (lv_at hl 2 rfl) ?_
        exact hret _ _ _ _ _ _ hW rfl rfl dX9_power_20 (⟨rfl, rfl⟩)
      · have lt_6 : i < E := Nat.not_le.mp (fun h => c_6 ((nI_leI (a := E) (b := i) (by omega) (by omega)).mpr h))
        refine lv_iload_n hx hb dX9_power_9 rfl (lv_at hl 2 rfl) ?_
        refine lv_iload_n hx hb dX9_power_10 rfl (lv_at hl 0 rfl) ?_
        refine lv_imul hx hb dX9_power_11 ?_
        refine lv_istore_n (lv' := [(2, .int ((pwI x i) * x)), (0, .int x), (1, .int (nI E)), (3, .int (nI i))]) hx hb dX9_power_12 rfl hl (by decide) rfl (fun ls hl => ?_)
        refine lv_iinc (v := (nI (i + 1))) (lv' := [(3, .int (nI (i + 1))), (2, .int ((pwI x i) * x)), (0, .int x), (1, .int (nI E))]) hx hb dX9_power_13 hl (k := 3) rfl (inc_n i 1) (by decide) rfl (fun ls hl => ?_)
        refine lv_goto (tgt := 4) hx hb dX9_power_16 rfl ?_
        exact ih4 (i + 1) (by omega) (by omega) _ _ _ hW (lv_sub hl [2, 3, 1, 0] rfl)
  exact lp_4 (E + 1) 0 (by omega) (by omega) _ _ _ hW (lv_sub hl [2, 3, 1, 0] rfl)

def odM (o : Int32) (C E W : Nat) : Nat → Int32
  | 0 => 0
  | i + 1 => odM o C E W i + (if o + nI (pcN i) < nI W then 0 else pwI (nI C - 1) (E - pcN i))
theorem pwI_nat (c : Nat) : ∀ e, pwI (nI c) e = nI (c ^ e)
  | 0 => rfl
  | e + 1 => by rw [pwI, pwI_nat c e, pk_mul, Nat.pow_succ]
theorem pcE : ∀ E, E < 7 → ∀ i, i < 2 ^ E → pcN i ≤ E := by decide +kernel
theorem p2_64 {E : Nat} (h : E < 7) : 2 ^ E ≤ 64 := by
  have := Nat.pow_le_pow_right (n := 2) (by decide) (show E ≤ 6 by omega); simpa using this
theorem cpw {C e : Nat} (hC : C ≤ 4) (he : e < 7) : C ^ e ≤ 4096 := by
  have h1 := Nat.pow_le_pow_left hC e
  have h2 := Nat.pow_le_pow_right (n := 4) (by decide) (show e ≤ 6 by omega)
  omega
theorem od_nat {o : Int32} {C E W : Nat} (hC4 : C ≤ 4) (hC1 : 1 ≤ C) (hE : E < 7) : ∀ n, ∃ s : Nat, s ≤ 4096 * n ∧ odM o C E W n = nI s
  | 0 => ⟨0, Nat.le_refl _, rfl⟩
  | n + 1 => by
    obtain ⟨s, hs, e⟩ := od_nat (o := o) (W := W) hC4 hC1 hE n
    rw [odM, e]
    split
    · exact ⟨s, by omega, by rw [Int32.add_zero]⟩
    · rw [show nI C - 1 = nI (C - 1) from pk_sub (a := C) (b := 1) hC1, pwI_nat, nI_add]
      have := cpw (C := C - 1) (e := E - pcN n) (by omega) (by omega)
      exact ⟨_, by omega, rfl⟩
def odMr (r : Nat → Int32) (N C : Nat) (k n v wh : Int32) : Int32 := if ¬ inI k 0 (nI C - 1) = 0 ∧ ¬ inI n 0 6 = 0 ∧ ¬ inI v 0 20 = 0 ∧ ¬ inI wh 0 1 = 0 then paR (odM (onI (ppO r k N) 7) C n.toNatClampNeg v.toNatClampNeg (2 ^ n.toNatClampNeg)).toNatClampNeg (C ^ n.toNatClampNeg) wh else -1

set_option maxHeartbeats 4000000 in
set_option maxRecDepth 100000 in
theorem c_X9_odds (l : Launch) (D : va_G) (cI cZ cN : ClassId) (b : Nat → Nat) (M : NV) (tr : Int64) (N C : Nat) (hN : M 2 1 = nI N) (hN7 : N ≤ 7) (hC : M 2 0 = nI C) (hC4 : C ≤ 4) (hC1 : 1 ≤ C) (p0 : Int32) (p1 : Int32) (p2 : Int32) (p3 : Int32) : CtI l yX9_odds cX9_odds 7 (some .int) 2 D (tyG cI cZ cN) [.ref (b 0), .int p0, .int p1, .int p2, .int p3] (pMod cI cZ b M tr) (fun r w => r = odMr (M 7) N C p0 p1 p2 p3 ∧ w = (pMod cI cZ b (upA M 0 (upd (M 0) 0 (0 : Int32))) tr)) := by
  refine CtI.of rfl (Nat.le_of_ble_eq_true rfl) ?_
  intro pg ev sx mx ax bx mt cx ls Qx Ax Sx hret hW hl
  have hx := Sx.1
  have hb := Sx.2.1
  have hl : lv_has ls 7 [(0, .ref (b 0)), (1, .int p0), (2, .int p1), (3, .int p2), (4, .int p3)] := hl
  refine lv_aload_n hx hb dX9_odds_0 rfl (lv_at hl 0 rfl) ?_
  refine lv_iconst (v := (0 : Int32)) hx hb dX9_odds_1 rfl ?_
  refine r_put Sx hW 0 rfl rfl bw_wsX90 tyX9_ok nmX9 0 (by decide) mw144 rfl rfl rfl (Nat.le_of_ble_eq_true rfl) dX9_odds_2 (ws' := (pMod cI cZ b (upA M 0 (upd (M 0) 0 (0 : Int32))) tr)) rfl (fun H locs hW => ?_)
  refine lv_aload_n hx hb dX9_odds_5 rfl (lv_at hl 0 rfl) ?_
  refine lv_iload_n hx hb dX9_odds_6 rfl (lv_at hl 1 rfl) ?_
  refine callVI Sx hW (c_X9_isName l D cI cZ cN b (upA M 0 (upd (M 0) 0 (0 : Int32))) tr N C hN hN7 hC hC4 hC1 p0 ) vmX9_isName mw408 [0, 1, 2, 3, 4, 5, 6, 7, 8, 9, 10, 11, 12, 13, 14, 15, 16, 17] rfl (by decide) 0 rfl rfl (As := [.int p0]) (rest := []) rfl rfl hl.1 (Nat.le_of_ble_eq_true rfl) ⟨Nat.le_of_ble_eq_true rfl, Nat.le_of_ble_eq_true rfl⟩ ⟨Nat.le_refl _, Nat.le_refl _⟩ dX9_odds_7 (fun rx wx H locs hqx hW => ?_)
  obtain ⟨hrx, rfl⟩ := hqx
  have hW : AtC D (tyG cI cZ cN) Ax (pMod cI cZ b (upA M 0 (upd (M 0) 0 (0 : Int32))) tr) sx H locs := hW.re [] 18 (by decide) rfl rfl trivial (by decide +kernel) rfl rfl
  refine r_eq (y := (inI p0 0 (nI C - 1))) hrx ?_
  refine lv_if_eq (tgt := 43) hx hb dX9_odds_10 rfl (fun c_10 => ?_) (fun c_10 => ?_)
  · refine lv_iconst (v := (-1 : Int32)) hx hb dX9_odds_43 rfl ?_
    exact hret _ _ _ _ _ _ hW rfl rfl dX9_odds_44 (⟨by rw [odMr, if_neg (fun h => h.1 c_10)], rfl⟩)
  · refine lv_iload_n hx hb dX9_odds_13 rfl (lv_at hl 2 rfl) ?_
    refine lv_iconst (v := (0 : Int32)) hx hb dX9_odds_14 rfl ?_
    refine lv_bipush (v := (6 : Int32)) hx hb dX9_odds_15 rfl ?_
    refine callSI Sx hW (c_X9_in l D cI cZ cN p1 (0 : Int32) (6 : Int32)) smX9_in mw146 (As := [.int p1, .int (0 : Int32), .int (6 : Int32)]) (rest := []) rfl rfl hl.1 (Nat.le_of_ble_eq_true rfl) ⟨Nat.le_of_ble_eq_true rfl, Nat.le_of_ble_eq_true rfl⟩ ⟨Nat.le_refl _, Nat.le_refl _⟩ dX9_odds_17 (fun rx H locs hqx hW => ?_)
    obtain ⟨hrx, -⟩ := hqx
    refine r_eq (y := (inI p1 (0 : Int32) (6 : Int32))) hrx ?_
    refine lv_if_eq (tgt := 43) hx hb dX9_odds_20 rfl (fun c_20 => ?_) (fun c_20 => ?_)
    · refine lv_iconst (v := (-1 : Int32)) hx hb dX9_odds_43 rfl ?_
      exact hret _ _ _ _ _ _ hW rfl rfl dX9_odds_44 (⟨by rw [odMr, if_neg (fun h => h.2.1 c_20)], rfl⟩)
    · obtain ⟨E, hE, rfl⟩ := inI_nat (n := 7) (show ((6 : Int32)).toInt = ((7 : Nat) : Int) - 1 from by decide) c_20
      have clE : (nI E).toNatClampNeg = E := nI_clamp (by omega)
      obtain ⟨Z, hZ⟩ : ∃ q, q = 2 ^ E := ⟨_, rfl⟩
      have hZ64 : Z ≤ 64 := by rw [hZ]; exact p2_64 hE
      refine lv_iload_n hx hb dX9_odds_23 rfl (lv_at hl 3 rfl) ?_
      refine lv_iconst (v := (0 : Int32)) hx hb dX9_odds_24 rfl ?_
      refine lv_bipush (v := (20 : Int32)) hx hb dX9_odds_25 rfl ?_
      refine callSI Sx hW (c_X9_in l D cI cZ cN p2 (0 : Int32) (20 : Int32)) smX9_in mw146 (As := [.int p2, .int (0 : Int32), .int (20 : Int32)]) (rest := []) rfl rfl hl.1 (Nat.le_of_ble_eq_true rfl) ⟨Nat.le_of_ble_eq_true rfl, Nat.le_of_ble_eq_true rfl⟩ ⟨Nat.le_refl _, Nat.le_refl _⟩ dX9_odds_27 (fun rx H locs hqx hW => ?_)
      obtain ⟨hrx, -⟩ := hqx
      refine r_eq (y := (inI p2 (0 : Int32) (20 : Int32))) hrx ?_
      refine lv_if_eq (tgt := 43) hx hb dX9_odds_30 rfl (fun c_30 => ?_) (fun c_30 => ?_)
      · refine lv_iconst (v := (-1 : Int32)) hx hb dX9_odds_43 rfl ?_
        exact hret _ _ _ _ _ _ hW rfl rfl dX9_odds_44 (⟨by rw [odMr, if_neg (fun h => h.2.2.1 c_30)], rfl⟩)
      · obtain ⟨Wn, hWv, rfl⟩ := inI_nat (n := 21) (show ((20 : Int32)).toInt = ((21 : Nat) : Int) - 1 from by decide) c_30
        have clWn : (nI Wn).toNatClampNeg = Wn := nI_clamp (by omega)
        refine lv_iload hx hb dX9_odds_33 (lv_at hl 4 rfl) ?_
        refine lv_iconst (v := (0 : Int32)) hx hb dX9_odds_35 rfl ?_
        refine lv_iconst (v := (1 : Int32)) hx hb dX9_odds_36 rfl ?_
        refine callSI Sx hW (c_X9_in l D cI cZ cN p3 (0 : Int32) (1 : Int32)) smX9_in mw146 (As := [.int p3, .int (0 : Int32), .int (1 : Int32)]) (rest := []) rfl rfl hl.1 (Nat.le_of_ble_eq_true rfl) ⟨Nat.le_of_ble_eq_true rfl, Nat.le_of_ble_eq_true rfl⟩ ⟨Nat.le_refl _, Nat.le_refl _⟩ dX9_odds_37 (fun rx H locs hqx hW => ?_)
        obtain ⟨hrx, -⟩ := hqx
        refine r_eq (y := (inI p3 (0 : Int32) (1 : Int32))) hrx ?_
        refine lv_if_ne (tgt := 45) hx hb dX9_odds_40 rfl (fun c_40 => ?_) (fun c_40 => ?_)
        · refine lv_iconst (v := (0 : Int32)) hx hb dX9_odds_45 rfl ?_
          refine lv_istore (lv' := [(5, .int (0 : Int32)), (0, .ref (b 0)), (1, .int p0), (2, .int (nI E)), (3, .int (nI Wn)), (4, .int p3)]) hx hb dX9_odds_46 hl (by decide) rfl (fun ls hl => ?_)
          refine lv_iconst (v := (0 : Int32)) hx hb dX9_odds_48 rfl ?_
          refine lv_istore (lv' := [(6, .int (0 : Int32)), (5, .int (0 : Int32)), (0, .ref (b 0)), (1, .int p0), (2, .int (nI E)), (3, .int (nI Wn)), (4, .int p3)]) hx hb dX9_odds_49 hl (by decide) rfl (fun ls hl => ?_)
          have lp_51 : ∀ (n : Nat) (i : Nat), ((i ≤ Z)) → ((Z + 1 ≤ i + n)) → ∀ (H : Heap) (locs : List Loc) (ls : Array Slot), AtC D (tyG cI cZ cN) Ax (pMod cI cZ b (upA M 0 (upd (M 0) 0 (0 : Int32))) tr) sx H locs → lv_has ls 7 [(0, .ref (b 0)), (1, .int p0), (2, .int (nI E)), (3, .int (nI Wn)), (4, .int p3), (5, .int (odM (onI (ppO (M 7) p0 N) 7) C E Wn i)), (6, .int (nI i))] → W pg l ev (rmN 2) sx mx ax bx mt cx H locs 0 0 Qx (F0 mx 51 ls []) := by
            intro n
            induction n with
            | zero =>
              intro i hi_51 hn_51 H locs ls hW hl
              exact absurd hn_51 (by omega)
            | succ n ih51 =>
              intro i hi_51 hn_51 H locs ls hW hl
              refine lv_iload hx hb dX9_odds_51 (lv_at hl 6 rfl) ?_
              refine lv_iconst (v := (1 : Int32)) hx hb dX9_odds_53 rfl ?_
              refine lv_iload_n hx hb dX9_odds_54 rfl (lv_at hl 2 rfl) ?_
              refine lv_ishl hx hb dX9_odds_55 ?_
              refine r_eq (y := (nI Z)) (by rw [hZ]; exact pow31 hE) ?_
              refine lv_icmp_ge (tgt := 114) hx hb dX9_odds_56 rfl (fun c_56 => ?_) (fun c_56 => ?_)
              · have ge_56 : Z ≤ i := (nI_leI (a := Z) (b := i) (by omega) (by omega)).mp c_56
                have ee_56 : Z = i := by omega
                subst ee_56
                obtain ⟨sS, hsS, eS⟩ := od_nat (o := onI (ppO (M 7) p0 N) 7) (W := Wn) hC4 hC1 hE Z
                have hCE := cpw (C := C) (e := E) hC4 hE
                have hCp : 0 < C ^ E := Nat.pow_pos hC1
                rw [eS] at hl
                refine lv_iload hx hb dX9_odds_114 (lv_at hl 5 rfl) ?_
                refine lv_aload_n hx hb dX9_odds_116 rfl (lv_at hl 0 rfl) ?_
                refine r_get Sx hW 0 rfl rfl bw_wsX90 9 (by decide) (v := .ref (b 2)) rfl mw115 dX9_odds_117 ?_
                refine lv_iconst (v := (0 : Int32)) hx hb dX9_odds_120 rfl ?_
                refine r_iald Sx hW 2 0 (f := (M 2)) rfl rfl (j := 0) rfl (by decide) (by decide) dX9_odds_121 ?_
                refine r_eq (y := (nI C)) hC ?_
                refine lv_iload_n hx hb dX9_odds_122 rfl (lv_at hl 2 rfl) ?_
                refine callSI Sx hW (c_X9_power l D cI cZ cN (nI C) E (by omega)) smX9_power mw778 (As := [.int (nI C), .int (nI E)]) (rest := [.int (nI sS)]) rfl rfl hl.1 (Nat.le_of_ble_eq_true rfl) ⟨Nat.le_of_ble_eq_true rfl, Nat.le_of_ble_eq_true rfl⟩ ⟨Nat.le_refl _, Nat.le_refl _⟩ dX9_odds_123 (fun rx H locs hqx hW => ?_)
                obtain ⟨hrx, -⟩ := hqx
                refine r_eq (y := (pwI (nI C) E)) hrx ?_
                refine r_eq (y := (nI (C ^ E))) (pwI_nat C E) ?_
                refine lv_iload hx hb dX9_odds_126 (lv_at hl 4 rfl) ?_
                refine callSI Sx hW (c_X9_part l D cI cZ cN sS (C ^ E) p3 (by omega) (by omega) (by omega)) smX9_part mw412 (As := [.int (nI sS), .int (nI (C ^ E)), .int p3]) (rest := []) rfl rfl hl.1 (Nat.le_of_ble_eq_true rfl) ⟨Nat.le_of_ble_eq_true rfl, Nat.le_of_ble_eq_true rfl⟩ ⟨Nat.le_refl _, Nat.le_refl _⟩ dX9_odds_128 (fun rx H locs hqx hW => ?_)
                obtain ⟨hrx, -⟩ := hqx
                refine r_eq (y := (paR sS (C ^ E) p3)) hrx ?_
                exact hret _ _ _ _ _ _ hW rfl rfl dX9_odds_131 (⟨by rw [odMr, if_pos ⟨c_10, c_20, c_30, c_40⟩, clE, clWn, ← hZ, eS, nI_clamp (n := sS) (by omega)], rfl⟩)
              · have lt_56 : i < Z := Nat.not_le.mp (fun h => c_56 ((nI_leI (a := Z) (b := i) (by omega) (by omega)).mpr h))
                have hpc : pcN i ≤ E := pcE E hE i (by rw [← hZ]; exact lt_56)
                refine lv_iload hx hb dX9_odds_59 (lv_at hl 5 rfl) ?_
                refine lv_aload_n hx hb dX9_odds_61 rfl (lv_at hl 0 rfl) ?_
                refine lv_aload_n hx hb dX9_odds_62 rfl (lv_at hl 0 rfl) ?_
                refine r_get Sx hW 0 rfl rfl bw_wsX90 15 (by decide) (v := .ref (b 7)) rfl mw120 dX9_odds_63 ?_
                refine lv_iload_n hx hb dX9_odds_66 rfl (lv_at hl 1 rfl) ?_
                refine callVI Sx hW (c_X9_peopleOf_s l D cI cZ cN b (upA M 0 (upd (M 0) 0 (0 : Int32))) tr N C hN hN7 hC hC4 hC1 p0 ) vmX9_peopleOf mw358 [0, 1, 2, 3, 4, 5, 6, 7, 8, 9, 10, 11, 12, 13, 14, 15, 16, 17] rfl (by decide) 0 rfl rfl (As := [.ref (b 7), .int p0]) (rest := [.int (odM (onI (ppO (M 7) p0 N) 7) C E Wn i)]) rfl rfl hl.1 (Nat.le_of_ble_eq_true rfl) ⟨Nat.le_of_ble_eq_true rfl, Nat.le_of_ble_eq_true rfl⟩ ⟨Nat.le_refl _, Nat.le_refl _⟩ dX9_odds_67 (fun rx wx H locs hqx hW => ?_)
                obtain ⟨hrx, rfl⟩ := hqx
                have hW : AtC D (tyG cI cZ cN) Ax (pMod cI cZ b (upA M 0 (upd (M 0) 0 (0 : Int32))) tr) sx H locs := hW.re [] 18 (by decide) rfl rfl trivial (by decide +kernel) rfl rfl
                refine r_eq (y := (ppO (M 7) p0 N)) hrx ?_
                refine callSI Sx hW (c_X9_ones l D cI cZ cN (ppO (M 7) p0 N)) smX9_ones mw374 (As := [.int (ppO (M 7) p0 N)]) (rest := [.int (odM (onI (ppO (M 7) p0 N) 7) C E Wn i)]) rfl rfl hl.1 (Nat.le_of_ble_eq_true rfl) ⟨Nat.le_of_ble_eq_true rfl, Nat.le_of_ble_eq_true rfl⟩ ⟨Nat.le_refl _, Nat.le_refl _⟩ dX9_odds_70 (fun rx H locs hqx hW => ?_)
                obtain ⟨hrx, -⟩ := hqx
                refine r_eq (y := (onI (ppO (M 7) p0 N) 7)) hrx ?_
                refine lv_iload hx hb dX9_odds_73 (lv_at hl 6 rfl) ?_
                refine callSI Sx hW (c_X9_ones l D cI cZ cN (nI i)) smX9_ones mw374 (As := [.int (nI i)]) (rest := [.int (onI (ppO (M 7) p0 N) 7), .int (odM (onI (ppO (M 7) p0 N) 7) C E Wn i)]) rfl rfl hl.1 (Nat.le_of_ble_eq_true rfl) ⟨Nat.le_of_ble_eq_true rfl, Nat.le_of_ble_eq_true rfl⟩ ⟨Nat.le_refl _, Nat.le_refl _⟩ dX9_odds_75 (fun rx H locs hqx hW => ?_)
                obtain ⟨hrx, -⟩ := hqx
                refine r_eq (y := (onI (nI i) 7)) hrx ?_
                refine r_eq (y := (nI (pcN i))) (on_nat i (by omega)) ?_
                refine lv_iadd hx hb dX9_odds_78 ?_
                refine lv_iload_n hx hb dX9_odds_79 rfl (lv_at hl 3 rfl) ?_
                refine lv_icmp_lt (tgt := 104) hx hb dX9_odds_80 rfl (fun c_80 => ?_) (fun c_80 => ?_)
                · refine lv_iconst (v := (0 : Int32)) hx hb dX9_odds_104 rfl ?_
                  refine lv_iadd hx hb dX9_odds_105 ?_
                  refine lv_istore (lv' := [(5, .int ((odM (onI (ppO (M 7) p0 N) 7) C E Wn i) + (0 : Int32))), (0, .ref (b 0)), (1, .int p0), (2, .int (nI E)), (3, .int (nI Wn)), (4, .int p3), (6, .int (nI i))]) hx hb dX9_odds_106 hl (by decide) rfl (fun ls hl => ?_)
                  refine lv_iinc (v := (nI (i + 1))) (lv' := [(6, .int (nI (i + 1))), (5, .int ((odM (onI (ppO (M 7) p0 N) 7) C E Wn i) + (0 : Int32))), (0, .ref (b 0)), (1, .int p0), (2, .int (nI E)), (3, .int (nI Wn)), (4, .int p3)]) hx hb dX9_odds_108 hl (k := 6) rfl (inc_n i 1) (by decide) rfl (fun ls hl => ?_)
                  refine lv_goto (tgt := 51) hx hb dX9_odds_111 rfl ?_
                  have hl_1 : lv_has ls 7 [(0, .ref (b 0)), (1, .int p0), (2, .int (nI E)), (3, .int (nI Wn)), (4, .int p3), (5, .int (odM (onI (ppO (M 7) p0 N) 7) C E Wn (i + 1))), (6, .int (nI (i + 1)))] := by
                    rw [show (odM (onI (ppO (M 7) p0 N) 7) C E Wn (i + 1)) = ((odM (onI (ppO (M 7) p0 N) 7) C E Wn i) + (0 : Int32)) from by rw [odM, if_pos c_80]]
                    exact lv_sub hl [2, 3, 4, 5, 6, 1, 0] rfl
                  exact ih51 (i + 1) (by omega) (by omega) _ _ _ hW hl_1
                · refine lv_aload_n hx hb dX9_odds_83 rfl (lv_at hl 0 rfl) ?_
                  refine r_get Sx hW 0 rfl rfl bw_wsX90 9 (by decide) (v := .ref (b 2)) rfl mw115 dX9_odds_84 ?_
                  refine lv_iconst (v := (0 : Int32)) hx hb dX9_odds_87 rfl ?_
                  refine r_iald Sx hW 2 0 (f := (M 2)) rfl rfl (j := 0) rfl (by decide) (by decide) dX9_odds_88 ?_
                  refine r_eq (y := (nI C)) hC ?_
                  refine lv_iconst (v := (1 : Int32)) hx hb dX9_odds_89 rfl ?_
                  refine lv_isub hx hb dX9_odds_90 ?_
                  refine lv_iload_n hx hb dX9_odds_91 rfl (lv_at hl 2 rfl) ?_
                  refine lv_iload hx hb dX9_odds_92 (lv_at hl 6 rfl) ?_
                  refine callSI Sx hW (c_X9_ones l D cI cZ cN (nI i)) smX9_ones mw374 (As := [.int (nI i)]) (rest := [.int (nI E), .int ((nI C) - (1 : Int32)), .int (odM (onI (ppO (M 7) p0 N) 7) C E Wn i)]) rfl rfl hl.1 (Nat.le_of_ble_eq_true rfl) ⟨Nat.le_of_ble_eq_true rfl, Nat.le_of_ble_eq_true rfl⟩ ⟨Nat.le_refl _, Nat.le_refl _⟩ dX9_odds_94 (fun rx H locs hqx hW => ?_)
                  obtain ⟨hrx, -⟩ := hqx
                  refine r_eq (y := (onI (nI i) 7)) hrx ?_
                  refine r_eq (y := (nI (pcN i))) (on_nat i (by omega)) ?_
                  refine lv_isub hx hb dX9_odds_97 ?_
                  refine r_eq (y := (nI (E - pcN i))) (pk_sub hpc) ?_
                  refine callSI Sx hW (c_X9_power l D cI cZ cN ((nI C) - (1 : Int32)) (E - pcN i) (by omega)) smX9_power mw778 (As := [.int ((nI C) - (1 : Int32)), .int (nI (E - pcN i))]) (rest := [.int (odM (onI (ppO (M 7) p0 N) 7) C E Wn i)]) rfl rfl hl.1 (Nat.le_of_ble_eq_true rfl) ⟨Nat.le_of_ble_eq_true rfl, Nat.le_of_ble_eq_true rfl⟩ ⟨Nat.le_refl _, Nat.le_refl _⟩ dX9_odds_98 (fun rx H locs hqx hW => ?_)
                  obtain ⟨hrx, -⟩ := hqx
                  refine r_eq (y := (pwI ((nI C) - (1 : Int32)) (E - pcN i))) hrx ?_
                  refine lv_goto (tgt := 105) hx hb dX9_odds_101 rfl ?_
                  refine lv_iadd hx hb dX9_odds_105 ?_
                  refine lv_istore (lv' := [(5, .int ((odM (onI (ppO (M 7) p0 N) 7) C E Wn i) + (pwI ((nI C) - (1 : Int32)) (E - pcN i)))), (0, .ref (b 0)), (1, .int p0), (2, .int (nI E)), (3, .int (nI Wn)), (4, .int p3), (6, .int (nI i))]) hx hb dX9_odds_106 hl (by decide) rfl (fun ls hl => ?_)
                  refine lv_iinc (v := (nI (i + 1))) (lv' := [(6, .int (nI (i + 1))), (5, .int ((odM (onI (ppO (M 7) p0 N) 7) C E Wn i) + (pwI ((nI C) - (1 : Int32)) (E - pcN i)))), (0, .ref (b 0)), (1, .int p0), (2, .int (nI E)), (3, .int (nI Wn)), (4, .int p3)]) hx hb dX9_odds_108 hl (k := 6) rfl (inc_n i 1) (by decide) rfl (fun ls hl => ?_)
                  refine lv_goto (tgt := 51) hx hb dX9_odds_111 rfl ?_
                  have hl_2 : lv_has ls 7 [(0, .ref (b 0)), (1, .int p0), (2, .int (nI E)), (3, .int (nI Wn)), (4, .int p3), (5, .int (odM (onI (ppO (M 7) p0 N) 7) C E Wn (i + 1))), (6, .int (nI (i + 1)))] := by
                    rw [show (odM (onI (ppO (M 7) p0 N) 7) C E Wn (i + 1)) = ((odM (onI (ppO (M 7) p0 N) 7) C E Wn i) + (pwI ((nI C) - (1 : Int32)) (E - pcN i))) from by rw [odM, if_neg c_80]]
                    exact lv_sub hl [2, 3, 4, 5, 6, 1, 0] rfl
                  exact ih51 (i + 1) (by omega) (by omega) _ _ _ hW hl_2
          exact lp_51 (Z + 1) 0 (by omega) (by omega) _ _ _ hW (lv_sub hl [2, 3, 4, 5, 6, 1, 0] rfl)
        · refine lv_iconst (v := (-1 : Int32)) hx hb dX9_odds_43 rfl ?_
          exact hret _ _ _ _ _ _ hW rfl rfl dX9_odds_44 (⟨by rw [odMr, if_neg (fun h => h.2.2.2 c_40)], rfl⟩)
