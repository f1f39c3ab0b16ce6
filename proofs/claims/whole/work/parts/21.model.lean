/-! OneJohnModel: items, and what is settled -/
def mbM (M : NV) (k : Int32) : Int32 := if M 0 5 = 110 then (if k = 0 then 1 else 0) else if M 0 5 = 112 then (if 7 ≤ M 2 4 then 0 else 1) else if M 0 5 = 113 then 1 else if M 0 7 = 0 then 1 else 0
def shB (f : Nat → Int32) : Nat → (Nat → Int32)
  | 0 => f
  | i + 1 => upd (shB f i) i (shB f i (7 + i))
def stS (f nm wl : Nat → Int32) (D : Nat) : Nat → (Nat → Int32)
  | 0 => f
  | i + 1 => upd (upd (stS f nm wl D i) i (if nI D ≤ nI i then 0 else nm i)) (7 + i) (if nI D ≤ nI i then 0 else wl i)
def seM (M : NV) (D : Nat) : NV := upA (upA (upA (upA (upA (upA M 2 (upd (upd (M 2) 0 (M 2 3)) 1 (nI D))) 5 (shB (M 5) 7)) 6 (shB (M 6) 7)) 7 (upd (stS (fil (M 7) 0 25) (M 3) (M 4) D 7) 22 (M 2 5))) 10 (upd (upd (M 10) 0 0) 1 0)) 0 (upd (upd (upd (upd (M 0) 1 0) 8 0) 9 0) 10 0)

set_option maxHeartbeats 4000000 in
set_option maxRecDepth 100000 in
theorem c_X9_number (l : Launch) (D : va_G) (cI cZ cN : ClassId) (b : Nat → Nat) (M : NV) (tr : Int64) (z : Nat) (hz2 : z ≤ 200) (hw : wfm z M) (lo : Int32) (hi : Int32) : CtI l yX9_number cX9_number 3 (some .int) 3 D (tyG cI cZ cN) [.ref (b 0), .int lo, .int hi] (pMod cI cZ b M tr) (fun r w => r = tkI M (nuB M lo hi) ∧ w = (pMod cI cZ b (tkS z M (nuB M lo hi)) tr)) := by
  refine CtI.of rfl (Nat.le_of_ble_eq_true rfl) ?_
  intro pg ev sx mx ax bx mt cx ls Qx Ax Sx hret hW hl
  have hx := Sx.1
  have hb := Sx.2.1
  have hl : lv_has ls 3 [(0, .ref (b 0)), (1, .int lo), (2, .int hi)] := hl
  refine lv_aload_n hx hb dX9_number_0 rfl (lv_at hl 0 rfl) ?_
  refine lv_aload_n hx hb dX9_number_1 rfl (lv_at hl 0 rfl) ?_
  refine r_get Sx hW 0 rfl rfl bw_wsX90 5 (by decide) (v := .int (M 0 3)) rfl mw249 dX9_number_2 ?_
  refine lv_iconst (v := (2 : Int32)) hx hb dX9_number_5 rfl ?_
  refine lv_icmp_ne (tgt := 25) hx hb dX9_number_6 rfl (fun c_6 => ?_) (fun c_6 => ?_)
  · refine lv_iconst (v := (0 : Int32)) hx hb dX9_number_25 rfl ?_
    refine callVI Sx hW (c_X9_takes l D cI cZ cN b M tr z hz2 hw (0 : Int32)) vmX9_takes mw268 [0, 1, 2, 3, 4, 5, 6, 7, 8, 9, 10, 11, 12, 13, 14, 15, 16, 17] rfl (by decide) 0 rfl rfl (As := [.int (0 : Int32)]) (rest := []) rfl rfl hl.1 (Nat.le_of_ble_eq_true rfl) ⟨Nat.le_of_ble_eq_true rfl, Nat.le_of_ble_eq_true rfl⟩ ⟨Nat.le_refl _, Nat.le_refl _⟩ dX9_number_26 (fun rx wx H locs hqx hW => ?_)
    obtain ⟨hrx, rfl⟩ := hqx
    have hW : AtC D (tyG cI cZ cN) Ax (pMod cI cZ b (tkS z M (0 : Int32)) tr) sx H locs := hW.re [] 18 (by decide) rfl rfl trivial (by decide +kernel) rfl rfl
    refine r_eq (y := (tkI M (0 : Int32))) hrx ?_
    exact hret _ _ _ _ _ _ hW rfl rfl dX9_number_29 (by have hnu : nuB M lo hi = 0 := (by rw [nuB, if_neg c_6]); exact ⟨by rw [hnu], by rw [hnu]⟩)
  · refine lv_aload_n hx hb dX9_number_9 rfl (lv_at hl 0 rfl) ?_
    refine r_get Sx hW 0 rfl rfl bw_wsX90 7 (by decide) (v := .int (M 0 5)) rfl mw255 dX9_number_10 ?_
    refine lv_iload_n hx hb dX9_number_13 rfl (lv_at hl 1 rfl) ?_
    refine lv_iload_n hx hb dX9_number_14 rfl (lv_at hl 2 rfl) ?_
    refine callSI Sx hW (c_X9_in l D cI cZ cN (M 0 5) lo hi) smX9_in mw146 (As := [.int (M 0 5), .int lo, .int hi]) (rest := [.ref (b 0)]) rfl rfl hl.1 (Nat.le_of_ble_eq_true rfl) ⟨Nat.le_of_ble_eq_true rfl, Nat.le_of_ble_eq_true rfl⟩ ⟨Nat.le_refl _, Nat.le_refl _⟩ dX9_number_15 (fun rx H locs hqx hW => ?_)
    obtain ⟨hrx, -⟩ := hqx
    refine r_eq (y := (inI (M 0 5) lo hi)) hrx ?_
    refine lv_if_eq (tgt := 25) hx hb dX9_number_18 rfl (fun c_18 => ?_) (fun c_18 => ?_)
    · refine lv_iconst (v := (0 : Int32)) hx hb dX9_number_25 rfl ?_
      refine callVI Sx hW (c_X9_takes l D cI cZ cN b M tr z hz2 hw (0 : Int32)) vmX9_takes mw268 [0, 1, 2, 3, 4, 5, 6, 7, 8, 9, 10, 11, 12, 13, 14, 15, 16, 17] rfl (by decide) 0 rfl rfl (As := [.int (0 : Int32)]) (rest := []) rfl rfl hl.1 (Nat.le_of_ble_eq_true rfl) ⟨Nat.le_of_ble_eq_true rfl, Nat.le_of_ble_eq_true rfl⟩ ⟨Nat.le_refl _, Nat.le_refl _⟩ dX9_number_26 (fun rx wx H locs hqx hW => ?_)
      obtain ⟨hrx, rfl⟩ := hqx
      have hW : AtC D (tyG cI cZ cN) Ax (pMod cI cZ b (tkS z M (0 : Int32)) tr) sx H locs := hW.re [] 18 (by decide) rfl rfl trivial (by decide +kernel) rfl rfl
      refine r_eq (y := (tkI M (0 : Int32))) hrx ?_
      exact hret _ _ _ _ _ _ hW rfl rfl dX9_number_29 (by have hnu : nuB M lo hi = 0 := (by rw [nuB, if_pos c_6, c_18]); exact ⟨by rw [hnu], by rw [hnu]⟩)
    · refine lv_iconst (v := (1 : Int32)) hx hb dX9_number_21 rfl ?_
      refine lv_goto (tgt := 26) hx hb dX9_number_22 rfl ?_
      refine callVI Sx hW (c_X9_takes l D cI cZ cN b M tr z hz2 hw (1 : Int32)) vmX9_takes mw268 [0, 1, 2, 3, 4, 5, 6, 7, 8, 9, 10, 11, 12, 13, 14, 15, 16, 17] rfl (by decide) 0 rfl rfl (As := [.int (1 : Int32)]) (rest := []) rfl rfl hl.1 (Nat.le_of_ble_eq_true rfl) ⟨Nat.le_of_ble_eq_true rfl, Nat.le_of_ble_eq_true rfl⟩ ⟨Nat.le_refl _, Nat.le_refl _⟩ dX9_number_26 (fun rx wx H locs hqx hW => ?_)
      obtain ⟨hrx, rfl⟩ := hqx
      have hW : AtC D (tyG cI cZ cN) Ax (pMod cI cZ b (tkS z M (1 : Int32)) tr) sx H locs := hW.re [] 18 (by decide) rfl rfl trivial (by decide +kernel) rfl rfl
      refine r_eq (y := (tkI M (1 : Int32))) hrx ?_
      exact hret _ _ _ _ _ _ hW rfl rfl dX9_number_29 (by have hnu : nuB M lo hi = 1 := (by rw [nuB, if_pos c_6, inI_of c_18]); exact ⟨by rw [hnu], by rw [hnu]⟩)

set_option maxHeartbeats 4000000 in
set_option maxRecDepth 100000 in
theorem c_X9_mayBegin (l : Launch) (D : va_G) (cI cZ cN : ClassId) (b : Nat → Nat) (M : NV) (tr : Int64) (k : Int32) : CtI l yX9_mayBegin cX9_mayBegin 2 (some .boolean) 0 D (tyG cI cZ cN) [.ref (b 0), .int k] (pMod cI cZ b M tr) (fun r w => r = mbM M k ∧ w = (pMod cI cZ b M tr)) := by
  refine CtI.of rfl (Nat.le_of_ble_eq_true rfl) ?_
  intro pg ev sx mx ax bx mt cx ls Qx Ax Sx hret hW hl
  have hx := Sx.1
  have hb := Sx.2.1
  have hl : lv_has ls 2 [(0, .ref (b 0)), (1, .int k)] := hl
  refine lv_aload_n hx hb dX9_mayBegin_0 rfl (lv_at hl 0 rfl) ?_
  refine r_get Sx hW 0 rfl rfl bw_wsX90 7 (by decide) (v := .int (M 0 5)) rfl mw255 dX9_mayBegin_1 ?_
  refine lv_bipush (v := (110 : Int32)) hx hb dX9_mayBegin_4 rfl ?_
  refine lv_icmp_ne (tgt := 21) hx hb dX9_mayBegin_6 rfl (fun c_6 => ?_) (fun c_6 => ?_)
  · refine lv_aload_n hx hb dX9_mayBegin_21 rfl (lv_at hl 0 rfl) ?_
    refine r_get Sx hW 0 rfl rfl bw_wsX90 7 (by decide) (v := .int (M 0 5)) rfl mw255 dX9_mayBegin_22 ?_
    refine lv_bipush (v := (112 : Int32)) hx hb dX9_mayBegin_25 rfl ?_
    refine lv_icmp_ne (tgt := 49) hx hb dX9_mayBegin_27 rfl (fun c_27 => ?_) (fun c_27 => ?_)
    · refine lv_aload_n hx hb dX9_mayBegin_49 rfl (lv_at hl 0 rfl) ?_
      refine r_get Sx hW 0 rfl rfl bw_wsX90 7 (by decide) (v := .int (M 0 5)) rfl mw255 dX9_mayBegin_50 ?_
      refine lv_bipush (v := (113 : Int32)) hx hb dX9_mayBegin_53 rfl ?_
      refine lv_icmp_eq (tgt := 65) hx hb dX9_mayBegin_55 rfl (fun c_55 => ?_) (fun c_55 => ?_)
      · refine lv_iconst (v := (1 : Int32)) hx hb dX9_mayBegin_65 rfl ?_
        refine lv_goto (tgt := 70) hx hb dX9_mayBegin_66 rfl ?_
        exact hret _ _ _ _ _ _ hW rfl rfl dX9_mayBegin_70 (⟨by rw [mbM, if_neg c_6, if_neg c_27, if_pos c_55], rfl⟩)
      · refine lv_aload_n hx hb dX9_mayBegin_58 rfl (lv_at hl 0 rfl) ?_
        refine r_get Sx hW 0 rfl rfl bw_wsX90 14 (by decide) (v := .int (M 0 7)) rfl mw248 dX9_mayBegin_59 ?_
        refine lv_if_ne (tgt := 69) hx hb dX9_mayBegin_62 rfl (fun c_62 => ?_) (fun c_62 => ?_)
        · refine lv_iconst (v := (0 : Int32)) hx hb dX9_mayBegin_69 rfl ?_
          exact hret _ _ _ _ _ _ hW rfl rfl dX9_mayBegin_70 (⟨by rw [mbM, if_neg c_6, if_neg c_27, if_neg c_55, if_neg c_62], rfl⟩)
        · refine lv_iconst (v := (1 : Int32)) hx hb dX9_mayBegin_65 rfl ?_
          refine lv_goto (tgt := 70) hx hb dX9_mayBegin_66 rfl ?_
          exact hret _ _ _ _ _ _ hW rfl rfl dX9_mayBegin_70 (⟨by rw [mbM, if_neg c_6, if_neg c_27, if_neg c_55, if_pos c_62], rfl⟩)
    · refine lv_aload_n hx hb dX9_mayBegin_30 rfl (lv_at hl 0 rfl) ?_
      refine r_get Sx hW 0 rfl rfl bw_wsX90 9 (by decide) (v := .ref (b 2)) rfl mw115 dX9_mayBegin_31 ?_
      refine lv_iconst (v := (4 : Int32)) hx hb dX9_mayBegin_34 rfl ?_
      refine r_iald Sx hW 2 0 rfl rfl (j := 4) rfl (by decide) (by decide) dX9_mayBegin_35 ?_
      refine lv_bipush (v := (7 : Int32)) hx hb dX9_mayBegin_36 rfl ?_
      refine lv_icmp_ge (tgt := 45) hx hb dX9_mayBegin_38 rfl (fun c_38 => ?_) (fun c_38 => ?_)
      · refine lv_iconst (v := (0 : Int32)) hx hb dX9_mayBegin_45 rfl ?_
        refine lv_goto (tgt := 70) hx hb dX9_mayBegin_46 rfl ?_
        exact hret _ _ _ _ _ _ hW rfl rfl dX9_mayBegin_70 (⟨by rw [mbM, if_neg c_6, if_pos c_27, if_pos c_38], rfl⟩)
      · refine lv_iconst (v := (1 : Int32)) hx hb dX9_mayBegin_41 rfl ?_
        refine lv_goto (tgt := 70) hx hb dX9_mayBegin_42 rfl ?_
        exact hret _ _ _ _ _ _ hW rfl rfl dX9_mayBegin_70 (⟨by rw [mbM, if_neg c_6, if_pos c_27, if_neg c_38], rfl⟩)
  · refine lv_iload_n hx hb dX9_mayBegin_9 rfl (lv_at hl 1 rfl) ?_
    refine lv_if_ne (tgt := 17) hx hb dX9_mayBegin_10 rfl (fun c_10 => ?_) (fun c_10 => ?_)
    · refine lv_iconst (v := (0 : Int32)) hx hb dX9_mayBegin_17 rfl ?_
      refine lv_goto (tgt := 70) hx hb dX9_mayBegin_18 rfl ?_
      exact hret _ _ _ _ _ _ hW rfl rfl dX9_mayBegin_70 (⟨by rw [mbM, if_pos c_6, if_neg c_10], rfl⟩)
    · refine lv_iconst (v := (1 : Int32)) hx hb dX9_mayBegin_13 rfl ?_
      refine lv_goto (tgt := 70) hx hb dX9_mayBegin_14 rfl ?_
      exact hret _ _ _ _ _ _ hW rfl rfl dX9_mayBegin_70 (⟨by rw [mbM, if_pos c_6, if_pos c_10], rfl⟩)

set_option maxHeartbeats 4000000 in
set_option maxRecDepth 100000 in
theorem c_X9_settles (l : Launch) (D : va_G) (cI cZ cN : ClassId) (b : Nat → Nat) (M : NV) (tr : Int64) (Dn : Nat) (hD : M 2 4 = nI Dn) (hD7 : Dn ≤ 7) : CtV l yX9_settles cX9_settles 2 0 D (tyG cI cZ cN) [.ref (b 0)] (pMod cI cZ b M tr) (fun w => w = (pMod cI cZ b (seM M Dn) tr)) := by
  refine CtV.of rfl (Nat.le_of_ble_eq_true rfl) ?_
  intro pg ev sx mx ax bx mt cx ls Qx Ax Sx hret hW hl
  have hx := Sx.1
  have hb := Sx.2.1
  have hl : lv_has ls 2 [(0, .ref (b 0))] := hl
  refine lv_aload_n hx hb dX9_settles_0 rfl (lv_at hl 0 rfl) ?_
  refine r_get Sx hW 0 rfl rfl bw_wsX90 9 (by decide) (v := .ref (b 2)) rfl mw115 dX9_settles_1 ?_
  refine lv_iconst (v := (0 : Int32)) hx hb dX9_settles_4 rfl ?_
  refine lv_aload_n hx hb dX9_settles_5 rfl (lv_at hl 0 rfl) ?_
  refine r_get Sx hW 0 rfl rfl bw_wsX90 9 (by decide) (v := .ref (b 2)) rfl mw115 dX9_settles_6 ?_
  refine lv_iconst (v := (3 : Int32)) hx hb dX9_settles_9 rfl ?_
  refine r_iald Sx hW 2 0 rfl rfl (j := 3) rfl (by decide) (by decide) dX9_settles_10 ?_
  refine r_iast Sx hW 2 0 rfl rfl (j := 0) rfl (by decide) (by decide) dX9_settles_11 (ws' := (pMod cI cZ b (upA M 2 (upd (M 2) 0 ((M 2) 3))) tr)) rfl (fun H locs hW => ?_)
  refine lv_aload_n hx hb dX9_settles_12 rfl (lv_at hl 0 rfl) ?_
  refine r_get Sx hW 0 rfl rfl bw_wsX90 9 (by decide) (v := .ref (b 2)) rfl mw115 dX9_settles_13 ?_
  refine lv_iconst (v := (1 : Int32)) hx hb dX9_settles_16 rfl ?_
  refine lv_aload_n hx hb dX9_settles_17 rfl (lv_at hl 0 rfl) ?_
  refine r_get Sx hW 0 rfl rfl bw_wsX90 9 (by decide) (v := .ref (b 2)) rfl mw115 dX9_settles_18 ?_
  refine lv_iconst (v := (4 : Int32)) hx hb dX9_settles_21 rfl ?_
  refine r_iald Sx hW 2 0 (f := (upd (M 2) 0 ((M 2) 3))) rfl rfl (j := 4) rfl (by decide) (by decide) dX9_settles_22 ?_
  refine r_eq (y := (nI Dn)) hD ?_
  refine r_iast Sx hW 2 0 rfl rfl (j := 1) rfl (by decide) (by decide) dX9_settles_23 (ws' := (pMod cI cZ b (upA M 2 (upd (upd (M 2) 0 ((M 2) 3)) 1 (nI Dn))) tr)) rfl (fun H locs hW => ?_)
  refine lv_iconst (v := (0 : Int32)) hx hb dX9_settles_24 rfl ?_
  refine lv_istore_n (lv' := [(1, .int (0 : Int32)), (0, .ref (b 0))]) hx hb dX9_settles_25 rfl hl (by decide) rfl (fun ls hl => ?_)
  have lp_26 : ∀ (n : Nat) (i : Nat), ((i ≤ 25)) → ((25 + 1 ≤ i + n)) → ∀ (H : Heap) (locs : List Loc) (ls : Array Slot), AtC D (tyG cI cZ cN) Ax (pMod cI cZ b (upA (upA M 2 (upd (upd (M 2) 0 (M 2 3)) 1 (nI Dn))) 7 (fil (M 7) 0 i)) tr) sx H locs → lv_has ls 2 [(0, .ref (b 0)), (1, .int (nI i))] → W pg l ev (rmN 0) sx mx ax bx mt cx H locs 0 0 Qx (F0 mx 26 ls []) := by
    intro n
    induction n with
    | zero =>
      intro i hi_26 hn_26 H locs ls hW hl
      exact absurd hn_26 (by omega)
    | succ n ih26 =>
      intro i hi_26 hn_26 H locs ls hW hl
      refine lv_iload_n hx hb dX9_settles_26 rfl (lv_at hl 1 rfl) ?_
      refine lv_bipush (v := (25 : Int32)) hx hb dX9_settles_27 rfl ?_
      refine lv_icmp_ge (tgt := 45) hx hb dX9_settles_29 rfl (fun c_29 => ?_) (fun c_29 => ?_)
      · have ge_29 : 25 ≤ i := (nI_leI (a := 25) (b := i) (by omega) (by omega)).mp c_29
        have ee_29 : 25 = i := by omega
        subst ee_29
        refine lv_iconst (v := (0 : Int32)) hx hb dX9_settles_45 rfl ?_
        refine lv_istore_n (lv' := [(1, .int (0 : Int32)), (0, .ref (b 0))]) hx hb dX9_settles_46 rfl hl (by decide) rfl (fun ls hl => ?_)
        have lp_47 : ∀ (n : Nat) (i : Nat), ((i ≤ 7)) → ((7 + 1 ≤ i + n)) → ∀ (H : Heap) (locs : List Loc) (ls : Array Slot), AtC D (tyG cI cZ cN) Ax (pMod cI cZ b (upA (upA (upA (upA M 2 (upd (upd (M 2) 0 (M 2 3)) 1 (nI Dn))) 5 (shB (M 5) i)) 6 (shB (M 6) i)) 7 (stS (fil (M 7) 0 25) (M 3) (M 4) Dn i)) tr) sx H locs → lv_has ls 2 [(0, .ref (b 0)), (1, .int (nI i))] → W pg l ev (rmN 0) sx mx ax bx mt cx H locs 0 0 Qx (F0 mx 47 ls []) := by
          intro n
          induction n with
          | zero =>
            intro i hi_47 hn_47 H locs ls hW hl
            exact absurd hn_47 (by omega)
          | succ n ih47 =>
            intro i hi_47 hn_47 H locs ls hW hl
            refine lv_iload_n hx hb dX9_settles_47 rfl (lv_at hl 1 rfl) ?_
            refine lv_bipush (v := (7 : Int32)) hx hb dX9_settles_48 rfl ?_
            refine lv_icmp_ge (tgt := 146) hx hb dX9_settles_50 rfl (fun c_50 => ?_) (fun c_50 => ?_)
            · have ge_50 : 7 ≤ i := (nI_leI (a := 7) (b := i) (by omega) (by omega)).mp c_50
              have ee_50 : 7 = i := by omega
              subst ee_50
              refine lv_aload_n hx hb dX9_settles_146 rfl (lv_at hl 0 rfl) ?_
              refine r_get Sx hW 0 rfl rfl bw_wsX90 15 (by decide) (v := .ref (b 7)) rfl mw120 dX9_settles_147 ?_
              refine lv_bipush (v := (22 : Int32)) hx hb dX9_settles_150 rfl ?_
              refine lv_aload_n hx hb dX9_settles_152 rfl (lv_at hl 0 rfl) ?_
              refine r_get Sx hW 0 rfl rfl bw_wsX90 9 (by decide) (v := .ref (b 2)) rfl mw115 dX9_settles_153 ?_
              refine lv_iconst (v := (5 : Int32)) hx hb dX9_settles_156 rfl ?_
              refine r_iald Sx hW 2 0 (f := (upd (upd (M 2) 0 (M 2 3)) 1 (nI Dn))) rfl rfl (j := 5) rfl (by decide) (by decide) dX9_settles_157 ?_
              refine r_iast Sx hW 7 0 rfl rfl (j := 22) rfl (by decide) (by decide) dX9_settles_158 (ws' := (pMod cI cZ b (upA (upA (upA (upA M 2 (upd (upd (M 2) 0 (M 2 3)) 1 (nI Dn))) 5 (shB (M 5) 7)) 6 (shB (M 6) 7)) 7 (upd (stS (fil (M 7) 0 25) (M 3) (M 4) Dn 7) 22 ((upd (upd (M 2) 0 (M 2 3)) 1 (nI Dn)) 5))) tr)) rfl (fun H locs hW => ?_)
              refine lv_aload_n hx hb dX9_settles_159 rfl (lv_at hl 0 rfl) ?_
              refine lv_iconst (v := (0 : Int32)) hx hb dX9_settles_160 rfl ?_
              refine r_put Sx hW 0 rfl rfl bw_wsX90 tyX9_ok nmX9 3 (by decide) mw145 rfl rfl rfl (Nat.le_of_ble_eq_true rfl) dX9_settles_161 (ws' := (pMod cI cZ b (upA (upA (upA (upA (upA M 2 (upd (upd (M 2) 0 (M 2 3)) 1 (nI Dn))) 5 (shB (M 5) 7)) 6 (shB (M 6) 7)) 7 (upd (stS (fil (M 7) 0 25) (M 3) (M 4) Dn 7) 22 ((upd (upd (M 2) 0 (M 2 3)) 1 (nI Dn)) 5))) 0 (upd (M 0) 1 (0 : Int32))) tr)) rfl (fun H locs hW => ?_)
              refine lv_aload_n hx hb dX9_settles_164 rfl (lv_at hl 0 rfl) ?_
              refine lv_iconst (v := (0 : Int32)) hx hb dX9_settles_165 rfl ?_
              refine r_put Sx hW 0 rfl rfl bw_wsX90 tyX9_ok nmX9 23 (by decide) mw284 rfl rfl rfl (Nat.le_of_ble_eq_true rfl) dX9_settles_166 (ws' := (pMod cI cZ b (upA (upA (upA (upA (upA M 2 (upd (upd (M 2) 0 (M 2 3)) 1 (nI Dn))) 5 (shB (M 5) 7)) 6 (shB (M 6) 7)) 7 (upd (stS (fil (M 7) 0 25) (M 3) (M 4) Dn 7) 22 ((upd (upd (M 2) 0 (M 2 3)) 1 (nI Dn)) 5))) 0 (upd (upd (M 0) 1 (0 : Int32)) 9 (0 : Int32))) tr)) rfl (fun H locs hW => ?_)
              refine lv_aload_n hx hb dX9_settles_169 rfl (lv_at hl 0 rfl) ?_
              refine lv_iconst (v := (0 : Int32)) hx hb dX9_settles_170 rfl ?_
              refine r_put Sx hW 0 rfl rfl bw_wsX90 tyX9_ok nmX9 26 (by decide) mw285 rfl rfl rfl (Nat.le_of_ble_eq_true rfl) dX9_settles_171 (ws' := (pMod cI cZ b (upA (upA (upA (upA (upA M 2 (upd (upd (M 2) 0 (M 2 3)) 1 (nI Dn))) 5 (shB (M 5) 7)) 6 (shB (M 6) 7)) 7 (upd (stS (fil (M 7) 0 25) (M 3) (M 4) Dn 7) 22 ((upd (upd (M 2) 0 (M 2 3)) 1 (nI Dn)) 5))) 0 (upd (upd (upd (M 0) 1 (0 : Int32)) 9 (0 : Int32)) 10 (0 : Int32))) tr)) rfl (fun H locs hW => ?_)
              refine lv_aload_n hx hb dX9_settles_174 rfl (lv_at hl 0 rfl) ?_
              refine lv_iconst (v := (0 : Int32)) hx hb dX9_settles_175 rfl ?_
              refine r_put Sx hW 0 rfl rfl bw_wsX90 tyX9_ok nmX9 20 (by decide) mw286 rfl rfl rfl (Nat.le_of_ble_eq_true rfl) dX9_settles_176 (ws' := (pMod cI cZ b (upA (upA (upA (upA (upA M 2 (upd (upd (M 2) 0 (M 2 3)) 1 (nI Dn))) 5 (shB (M 5) 7)) 6 (shB (M 6) 7)) 7 (upd (stS (fil (M 7) 0 25) (M 3) (M 4) Dn 7) 22 ((upd (upd (M 2) 0 (M 2 3)) 1 (nI Dn)) 5))) 0 (upd (upd (upd (upd (M 0) 1 (0 : Int32)) 8 (0 : Int32)) 9 (0 : Int32)) 10 (0 : Int32))) tr)) rfl (fun H locs hW => ?_)
              refine lv_aload_n hx hb dX9_settles_179 rfl (lv_at hl 0 rfl) ?_
              refine r_get Sx hW 0 rfl rfl bw_wsX90 18 (by decide) (v := .ref (b 10)) rfl mw123 dX9_settles_180 ?_
              refine lv_iconst (v := (0 : Int32)) hx hb dX9_settles_183 rfl ?_
              refine lv_iconst (v := (0 : Int32)) hx hb dX9_settles_184 rfl ?_
              refine r_zast Sx hW 10 1 rfl rfl (j := 0) rfl (by decide) (by decide) rfl dX9_settles_185 (ws' := (pMod cI cZ b (upA (upA (upA (upA (upA (upA M 2 (upd (upd (M 2) 0 (M 2 3)) 1 (nI Dn))) 5 (shB (M 5) 7)) 6 (shB (M 6) 7)) 7 (upd (stS (fil (M 7) 0 25) (M 3) (M 4) Dn 7) 22 ((upd (upd (M 2) 0 (M 2 3)) 1 (nI Dn)) 5))) 10 (upd (M 10) 0 (0 : Int32))) 0 (upd (upd (upd (upd (M 0) 1 (0 : Int32)) 8 (0 : Int32)) 9 (0 : Int32)) 10 (0 : Int32))) tr)) rfl (fun H locs hW => ?_)
              refine lv_aload_n hx hb dX9_settles_186 rfl (lv_at hl 0 rfl) ?_
              refine r_get Sx hW 0 rfl rfl bw_wsX90 18 (by decide) (v := .ref (b 10)) rfl mw123 dX9_settles_187 ?_
              refine lv_iconst (v := (1 : Int32)) hx hb dX9_settles_190 rfl ?_
              refine lv_iconst (v := (0 : Int32)) hx hb dX9_settles_191 rfl ?_
              refine r_zast Sx hW 10 1 rfl rfl (j := 1) rfl (by decide) (by decide) rfl dX9_settles_192 (ws' := (pMod cI cZ b (upA (upA (upA (upA (upA (upA M 2 (upd (upd (M 2) 0 (M 2 3)) 1 (nI Dn))) 5 (shB (M 5) 7)) 6 (shB (M 6) 7)) 7 (upd (stS (fil (M 7) 0 25) (M 3) (M 4) Dn 7) 22 ((upd (upd (M 2) 0 (M 2 3)) 1 (nI Dn)) 5))) 10 (upd (upd (M 10) 0 (0 : Int32)) 1 (0 : Int32))) 0 (upd (upd (upd (upd (M 0) 1 (0 : Int32)) 8 (0 : Int32)) 9 (0 : Int32)) 10 (0 : Int32))) tr)) rfl (fun H locs hW => ?_)
              exact hret _ _ _ _ _ hW rfl dX9_settles_193 rfl
            · have lt_50 : i < 7 := Nat.not_le.mp (fun h => c_50 ((nI_leI (a := 7) (b := i) (by omega) (by omega)).mpr h))
              refine lv_aload_n hx hb dX9_settles_53 rfl (lv_at hl 0 rfl) ?_
              refine r_get Sx hW 0 rfl rfl bw_wsX90 12 (by decide) (v := .ref (b 5)) rfl mw118 dX9_settles_54 ?_
              refine lv_iload_n hx hb dX9_settles_57 rfl (lv_at hl 1 rfl) ?_
              refine lv_aload_n hx hb dX9_settles_58 rfl (lv_at hl 0 rfl) ?_
              refine r_get Sx hW 0 rfl rfl bw_wsX90 12 (by decide) (v := .ref (b 5)) rfl mw118 dX9_settles_59 ?_
              refine lv_bipush (v := (7 : Int32)) hx hb dX9_settles_62 rfl ?_
              refine lv_iload_n hx hb dX9_settles_64 rfl (lv_at hl 1 rfl) ?_
              refine lv_iadd hx hb dX9_settles_65 ?_
              refine r_eq (y := (nI (7 + i))) (nI_add 7 i) ?_
              refine r_iald Sx hW 5 0 (f := (shB (M 5) i)) rfl rfl (j := 7 + i) rfl (by omega) (by decide) dX9_settles_66 ?_
              refine r_iast Sx hW 5 0 rfl rfl (j := i) rfl (by omega) (by decide) dX9_settles_67 (ws' := (pMod cI cZ b (upA (upA (upA (upA M 2 (upd (upd (M 2) 0 (M 2 3)) 1 (nI Dn))) 5 (upd (shB (M 5) i) i ((shB (M 5) i) (7 + i)))) 6 (shB (M 6) i)) 7 (stS (fil (M 7) 0 25) (M 3) (M 4) Dn i)) tr)) rfl (fun H locs hW => ?_)
              refine lv_aload_n hx hb dX9_settles_68 rfl (lv_at hl 0 rfl) ?_
              refine r_get Sx hW 0 rfl rfl bw_wsX90 13 (by decide) (v := .ref (b 6)) rfl mw119 dX9_settles_69 ?_
              refine lv_iload_n hx hb dX9_settles_72 rfl (lv_at hl 1 rfl) ?_
              refine lv_aload_n hx hb dX9_settles_73 rfl (lv_at hl 0 rfl) ?_
              refine r_get Sx hW 0 rfl rfl bw_wsX90 13 (by decide) (v := .ref (b 6)) rfl mw119 dX9_settles_74 ?_
              refine lv_bipush (v := (7 : Int32)) hx hb dX9_settles_77 rfl ?_
              refine lv_iload_n hx hb dX9_settles_79 rfl (lv_at hl 1 rfl) ?_
              refine lv_iadd hx hb dX9_settles_80 ?_
              refine r_eq (y := (nI (7 + i))) (nI_add 7 i) ?_
              refine r_iald Sx hW 6 0 (f := (shB (M 6) i)) rfl rfl (j := 7 + i) rfl (by omega) (by decide) dX9_settles_81 ?_
              refine r_iast Sx hW 6 0 rfl rfl (j := i) rfl (by omega) (by decide) dX9_settles_82 (ws' := (pMod cI cZ b (upA (upA (upA (upA M 2 (upd (upd (M 2) 0 (M 2 3)) 1 (nI Dn))) 5 (upd (shB (M 5) i) i ((shB (M 5) i) (7 + i)))) 6 (upd (shB (M 6) i) i ((shB (M 6) i) (7 + i)))) 7 (stS (fil (M 7) 0 25) (M 3) (M 4) Dn i)) tr)) rfl (fun H locs hW => ?_)
              refine lv_aload_n hx hb dX9_settles_83 rfl (lv_at hl 0 rfl) ?_
              refine r_get Sx hW 0 rfl rfl bw_wsX90 15 (by decide) (v := .ref (b 7)) rfl mw120 dX9_settles_84 ?_
              refine lv_iconst (v := (0 : Int32)) hx hb dX9_settles_87 rfl ?_
              refine lv_iload_n hx hb dX9_settles_88 rfl (lv_at hl 1 rfl) ?_
              refine lv_iadd hx hb dX9_settles_89 ?_
              refine r_eq (y := (nI i)) ((nI_add 0 i).trans (congrArg nI (Nat.zero_add i))) ?_
              refine lv_iload_n hx hb dX9_settles_90 rfl (lv_at hl 1 rfl) ?_
              refine lv_aload_n hx hb dX9_settles_91 rfl (lv_at hl 0 rfl) ?_
              refine r_get Sx hW 0 rfl rfl bw_wsX90 9 (by decide) (v := .ref (b 2)) rfl mw115 dX9_settles_92 ?_
              refine lv_iconst (v := (1 : Int32)) hx hb dX9_settles_95 rfl ?_
              refine r_iald Sx hW 2 0 (f := (upd (upd (M 2) 0 (M 2 3)) 1 (nI Dn))) rfl rfl (j := 1) rfl (by decide) (by decide) dX9_settles_96 ?_
              refine r_eq (y := (nI Dn)) rfl ?_
              refine lv_icmp_ge (tgt := 109) hx hb dX9_settles_97 rfl (fun c_97 => ?_) (fun c_97 => ?_)
              · refine lv_iconst (v := (0 : Int32)) hx hb dX9_settles_109 rfl ?_
                refine r_iast Sx hW 7 0 rfl rfl (j := i) rfl (by omega) (by decide) dX9_settles_110 (ws' := (pMod cI cZ b (upA (upA (upA (upA M 2 (upd (upd (M 2) 0 (M 2 3)) 1 (nI Dn))) 5 (upd (shB (M 5) i) i ((shB (M 5) i) (7 + i)))) 6 (upd (shB (M 6) i) i ((shB (M 6) i) (7 + i)))) 7 (upd (stS (fil (M 7) 0 25) (M 3) (M 4) Dn i) i (0 : Int32))) tr)) rfl (fun H locs hW => ?_)
                refine lv_aload_n hx hb dX9_settles_111 rfl (lv_at hl 0 rfl) ?_
                refine r_get Sx hW 0 rfl rfl bw_wsX90 15 (by decide) (v := .ref (b 7)) rfl mw120 dX9_settles_112 ?_
                refine lv_bipush (v := (7 : Int32)) hx hb dX9_settles_115 rfl ?_
                refine lv_iload_n hx hb dX9_settles_117 rfl (lv_at hl 1 rfl) ?_
                refine lv_iadd hx hb dX9_settles_118 ?_
                refine r_eq (y := (nI (7 + i))) (nI_add 7 i) ?_
                refine lv_iload_n hx hb dX9_settles_119 rfl (lv_at hl 1 rfl) ?_
                refine lv_aload_n hx hb dX9_settles_120 rfl (lv_at hl 0 rfl) ?_
                refine r_get Sx hW 0 rfl rfl bw_wsX90 9 (by decide) (v := .ref (b 2)) rfl mw115 dX9_settles_121 ?_
                refine lv_iconst (v := (1 : Int32)) hx hb dX9_settles_124 rfl ?_
                refine r_iald Sx hW 2 0 (f := (upd (upd (M 2) 0 (M 2 3)) 1 (nI Dn))) rfl rfl (j := 1) rfl (by decide) (by decide) dX9_settles_125 ?_
                refine r_eq (y := (nI Dn)) rfl ?_
                refine lv_icmp_ge (tgt := 138) hx hb dX9_settles_126 rfl (fun c_126 => ?_) (fun c_126 => ?_)
                · refine lv_iconst (v := (0 : Int32)) hx hb dX9_settles_138 rfl ?_
                  refine r_iast Sx hW 7 0 rfl rfl (j := 7 + i) rfl (by omega) (by decide) dX9_settles_139 (ws' := (pMod cI cZ b (upA (upA (upA (upA M 2 (upd (upd (M 2) 0 (M 2 3)) 1 (nI Dn))) 5 (upd (shB (M 5) i) i ((shB (M 5) i) (7 + i)))) 6 (upd (shB (M 6) i) i ((shB (M 6) i) (7 + i)))) 7 (upd (upd (stS (fil (M 7) 0 25) (M 3) (M 4) Dn i) i (0 : Int32)) (7 + i) (0 : Int32))) tr)) rfl (fun H locs hW => ?_)
                  refine lv_iinc (v := (nI (i + 1))) (lv' := [(1, .int (nI (i + 1))), (0, .ref (b 0))]) hx hb dX9_settles_140 hl (k := 1) rfl (inc_n i 1) (by decide) rfl (fun ls hl => ?_)
                  refine lv_goto (tgt := 47) hx hb dX9_settles_143 rfl ?_
                  have hW_1 := hW.cong (ws' := (pMod cI cZ b (upA (upA (upA (upA M 2 (upd (upd (M 2) 0 (M 2 3)) 1 (nI Dn))) 5 (shB (M 5) (i + 1))) 6 (shB (M 6) (i + 1))) 7 (stS (fil (M 7) 0 25) (M 3) (M 4) Dn (i + 1))) tr)) (by first | (rw [show (upA (upA (upA (upA M 2 (upd (upd (M 2) 0 (M 2 3)) 1 (nI Dn))) 5 (shB (M 5) (i + 1))) 6 (shB (M 6) (i + 1))) 7 (stS (fil (M 7) 0 25) (M 3) (M 4) Dn (i + 1))) = (upA (upA (upA (upA M 2 (upd (upd (M 2) 0 (M 2 3)) 1 (nI Dn))) 5 (upd (shB (M 5) i) i ((shB (M 5) i) (7 + i)))) 6 (upd (shB (M 6) i) i ((shB (M 6) i) (7 + i)))) 7 (upd (upd (stS (fil (M 7) 0 25) (M 3) (M 4) Dn i) i (0 : Int32)) (7 + i) (0 : Int32))) from by rw [stS, if_pos c_97, if_pos c_97] <;> rfl]; done) | (rw [show (upA (upA (upA (upA M 2 (upd (upd (M 2) 0 (M 2 3)) 1 (nI Dn))) 5 (shB (M 5) (i + 1))) 6 (shB (M 6) (i + 1))) 7 (stS (fil (M 7) 0 25) (M 3) (M 4) Dn (i + 1))) = (upA (upA (upA (upA M 2 (upd (upd (M 2) 0 (M 2 3)) 1 (nI Dn))) 5 (upd (shB (M 5) i) i ((shB (M 5) i) (7 + i)))) 6 (upd (shB (M 6) i) i ((shB (M 6) i) (7 + i)))) 7 (upd (upd (stS (fil (M 7) 0 25) (M 3) (M 4) Dn i) i (0 : Int32)) (7 + i) (0 : Int32))) from by rw [stS, if_pos c_97, if_pos c_97] <;> rfl]; rfl))
                  exact ih47 (i + 1) (by omega) (by omega) _ _ _ hW_1 (lv_sub hl [1, 0] rfl)
                · exact absurd c_97 c_126
              · refine lv_aload_n hx hb dX9_settles_100 rfl (lv_at hl 0 rfl) ?_
                refine r_get Sx hW 0 rfl rfl bw_wsX90 10 (by decide) (v := .ref (b 3)) rfl mw116 dX9_settles_101 ?_
                refine lv_iload_n hx hb dX9_settles_104 rfl (lv_at hl 1 rfl) ?_
                refine r_iald Sx hW 3 0 (f := (M 3)) rfl rfl (j := i) rfl (by omega) (by decide) dX9_settles_105 ?_
                refine lv_goto (tgt := 110) hx hb dX9_settles_106 rfl ?_
                refine r_iast Sx hW 7 0 rfl rfl (j := i) rfl (by omega) (by decide) dX9_settles_110 (ws' := (pMod cI cZ b (upA (upA (upA (upA M 2 (upd (upd (M 2) 0 (M 2 3)) 1 (nI Dn))) 5 (upd (shB (M 5) i) i ((shB (M 5) i) (7 + i)))) 6 (upd (shB (M 6) i) i ((shB (M 6) i) (7 + i)))) 7 (upd (stS (fil (M 7) 0 25) (M 3) (M 4) Dn i) i ((M 3) i))) tr)) rfl (fun H locs hW => ?_)
                refine lv_aload_n hx hb dX9_settles_111 rfl (lv_at hl 0 rfl) ?_
                refine r_get Sx hW 0 rfl rfl bw_wsX90 15 (by decide) (v := .ref (b 7)) rfl mw120 dX9_settles_112 ?_
                refine lv_bipush (v := (7 : Int32)) hx hb dX9_settles_115 rfl ?_
                refine lv_iload_n hx hb dX9_settles_117 rfl (lv_at hl 1 rfl) ?_
                refine lv_iadd hx hb dX9_settles_118 ?_
                refine r_eq (y := (nI (7 + i))) (nI_add 7 i) ?_
                refine lv_iload_n hx hb dX9_settles_119 rfl (lv_at hl 1 rfl) ?_
                refine lv_aload_n hx hb dX9_settles_120 rfl (lv_at hl 0 rfl) ?_
                refine r_get Sx hW 0 rfl rfl bw_wsX90 9 (by decide) (v := .ref (b 2)) rfl mw115 dX9_settles_121 ?_
                refine lv_iconst (v := (1 : Int32)) hx hb dX9_settles_124 rfl ?_
                refine r_iald Sx hW 2 0 (f := (upd (upd (M 2) 0 (M 2 3)) 1 (nI Dn))) rfl rfl (j := 1) rfl (by decide) (by decide) dX9_settles_125 ?_
                refine r_eq (y := (nI Dn)) rfl ?_
                refine lv_icmp_ge (tgt := 138) hx hb dX9_settles_126 rfl (fun c_126 => ?_) (fun c_126 => ?_)
                · exact absurd c_126 c_97
                · refine lv_aload_n hx hb dX9_settles_129 rfl (lv_at hl 0 rfl) ?_
                  refine r_get Sx hW 0 rfl rfl bw_wsX90 11 (by decide) (v := .ref (b 4)) rfl mw117 dX9_settles_130 ?_
                  refine lv_iload_n hx hb dX9_settles_133 rfl (lv_at hl 1 rfl) ?_
                  refine r_iald Sx hW 4 0 (f := (M 4)) rfl rfl (j := i) rfl (by omega) (by decide) dX9_settles_134 ?_
                  refine lv_goto (tgt := 139) hx hb dX9_settles_135 rfl ?_
                  refine r_iast Sx hW 7 0 rfl rfl (j := 7 + i) rfl (by omega) (by decide) dX9_settles_139 (ws' := (pMod cI cZ b (upA (upA (upA (upA M 2 (upd (upd (M 2) 0 (M 2 3)) 1 (nI Dn))) 5 (upd (shB (M 5) i) i ((shB (M 5) i) (7 + i)))) 6 (upd (shB (M 6) i) i ((shB (M 6) i) (7 + i)))) 7 (upd (upd (stS (fil (M 7) 0 25) (M 3) (M 4) Dn i) i ((M 3) i)) (7 + i) ((M 4) i))) tr)) rfl (fun H locs hW => ?_)
                  refine lv_iinc (v := (nI (i + 1))) (lv' := [(1, .int (nI (i + 1))), (0, .ref (b 0))]) hx hb dX9_settles_140 hl (k := 1) rfl (inc_n i 1) (by decide) rfl (fun ls hl => ?_)
                  refine lv_goto (tgt := 47) hx hb dX9_settles_143 rfl ?_
                  have hW_2 := hW.cong (ws' := (pMod cI cZ b (upA (upA (upA (upA M 2 (upd (upd (M 2) 0 (M 2 3)) 1 (nI Dn))) 5 (shB (M 5) (i + 1))) 6 (shB (M 6) (i + 1))) 7 (stS (fil (M 7) 0 25) (M 3) (M 4) Dn (i + 1))) tr)) (by first | (rw [show (upA (upA (upA (upA M 2 (upd (upd (M 2) 0 (M 2 3)) 1 (nI Dn))) 5 (shB (M 5) (i + 1))) 6 (shB (M 6) (i + 1))) 7 (stS (fil (M 7) 0 25) (M 3) (M 4) Dn (i + 1))) = (upA (upA (upA (upA M 2 (upd (upd (M 2) 0 (M 2 3)) 1 (nI Dn))) 5 (upd (shB (M 5) i) i ((shB (M 5) i) (7 + i)))) 6 (upd (shB (M 6) i) i ((shB (M 6) i) (7 + i)))) 7 (upd (upd (stS (fil (M 7) 0 25) (M 3) (M 4) Dn i) i ((M 3) i)) (7 + i) ((M 4) i))) from by rw [stS, if_neg c_97, if_neg c_97] <;> rfl]; done) | (rw [show (upA (upA (upA (upA M 2 (upd (upd (M 2) 0 (M 2 3)) 1 (nI Dn))) 5 (shB (M 5) (i + 1))) 6 (shB (M 6) (i + 1))) 7 (stS (fil (M 7) 0 25) (M 3) (M 4) Dn (i + 1))) = (upA (upA (upA (upA M 2 (upd (upd (M 2) 0 (M 2 3)) 1 (nI Dn))) 5 (upd (shB (M 5) i) i ((shB (M 5) i) (7 + i)))) 6 (upd (shB (M 6) i) i ((shB (M 6) i) (7 + i)))) 7 (upd (upd (stS (fil (M 7) 0 25) (M 3) (M 4) Dn i) i ((M 3) i)) (7 + i) ((M 4) i))) from by rw [stS, if_neg c_97, if_neg c_97] <;> rfl]; rfl))
                  exact ih47 (i + 1) (by omega) (by omega) _ _ _ hW_2 (lv_sub hl [1, 0] rfl)
        exact lp_47 (7 + 1) 0 (by omega) (by omega) _ _ _ hW (lv_sub hl [1, 0] rfl)
      · have lt_29 : i < 25 := Nat.not_le.mp (fun h => c_29 ((nI_leI (a := 25) (b := i) (by omega) (by omega)).mpr h))
        refine lv_aload_n hx hb dX9_settles_32 rfl (lv_at hl 0 rfl) ?_
        refine r_get Sx hW 0 rfl rfl bw_wsX90 15 (by decide) (v := .ref (b 7)) rfl mw120 dX9_settles_33 ?_
        refine lv_iload_n hx hb dX9_settles_36 rfl (lv_at hl 1 rfl) ?_
        refine lv_iconst (v := (0 : Int32)) hx hb dX9_settles_37 rfl ?_
        refine r_iast Sx hW 7 0 rfl rfl (j := i) rfl (by omega) (by decide) dX9_settles_38 (ws' := (pMod cI cZ b (upA (upA M 2 (upd (upd (M 2) 0 (M 2 3)) 1 (nI Dn))) 7 (upd (fil (M 7) 0 i) i (0 : Int32))) tr)) rfl (fun H locs hW => ?_)
        refine lv_iinc (v := (nI (i + 1))) (lv' := [(1, .int (nI (i + 1))), (0, .ref (b 0))]) hx hb dX9_settles_39 hl (k := 1) rfl (inc_n i 1) (by decide) rfl (fun ls hl => ?_)
        refine lv_goto (tgt := 26) hx hb dX9_settles_42 rfl ?_
        exact ih26 (i + 1) (by omega) (by omega) _ _ _ hW (lv_sub hl [1, 0] rfl)
  exact lp_26 (25 + 1) 0 (by omega) (by omega) _ _ _ hW (lv_sub hl [1, 0] rfl)
