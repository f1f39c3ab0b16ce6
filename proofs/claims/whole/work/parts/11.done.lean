/-! OneJohn: what is done -/

set_option maxHeartbeats 4000000 in
set_option maxRecDepth 100000 in
theorem c_X8_hurts (l : Launch) (D : va_G) (cI cZ cN : ClassId) (a : Nat → Nat) (T Q Ld Vd L V S : NV) (R : Nat → NV) (C1 C2 Rn Wd : NV) (Im : Nat → NV) (K : NV) (tr : Int64) (z N C k y z1 z2 : Nat) (hz : T 1 0 = nI z) (hz2 : z ≤ 200) (hN : L 3 1 = nI N) (hN7 : N ≤ 7) (hC : L 3 0 = nI C) (hC4 : C ≤ 4) (hC1 : 1 ≤ C) (hk : S 0 0 = nI k) (hk10 : k < 10) (hy : S 0 1 = nI y) (hy10 : y ≤ 10) (hc1 : C1 2 0 = nI z1) (hz16 : z1 ≤ 6) (hc2 : C2 2 0 = nI z2) (hz26 : z2 ≤ 6) (p0 p1 : Int32) : CtI l yX8_hurts cX8_hurts 4 (some .int) 3 D (tyG cI cZ cN) [.ref (a 0), .int p0, .int p1] (pOne cI cZ cN a T Q Ld Vd L V S R C1 C2 Rn Wd Im K tr) (fun r w => r = (if ¬ inI p0 0 (nI N - 1) = 0 ∧ ¬ inI p1 0 1 = 0 then bitI (V 3 0) p0 else -1) ∧ w = if ¬ inI p0 0 (nI N - 1) = 0 ∧ ¬ inI p1 0 1 = 0 then (pOne cI cZ cN a T Q Ld Vd L (upA V 3 (upd (V 3) 0 ((V 3 0 &&& (((1 : Int32) <<< (p0 &&& 31)) ^^^ (-1))) ||| (p1 <<< (p0 &&& 31))))) (pastS S (nI ((k + 1) % 10)) (nI (min 10 (y + 1)))) (upR R k (cpN V (R k))) C1 C2 Rn Wd Im K tr) else (pOne cI cZ cN a T Q Ld Vd L V S R C1 C2 Rn Wd Im K tr)) := by
  refine CtI.of rfl (Nat.le_of_ble_eq_true rfl) ?_
  intro pg ev sx mx ax bx mt cx ls Qx Ax Sx hret hW hl
  have hx := Sx.1
  have hb := Sx.2.1
  have hl : lv_has ls 4 [(0, .ref (a 0)), (1, .int p0), (2, .int p1)] := hl
  refine lv_aload_n hx hb dX8_hurts_0 rfl (lv_at hl 0 rfl) ?_
  refine r_get Sx hW 0 rfl rfl bw_wsX80 2 (by decide) (v := .ref (a 12)) rfl mw23 dX8_hurts_1 ?_
  refine lv_iload_n hx hb dX8_hurts_4 rfl (lv_at hl 1 rfl) ?_
  refine callVI Sx hW (c_X1_hasPerson l D cI cZ cN (fun i => a (i + 12)) L V p0 N C hN hN7 hC hC4 hC1 ) vmX1_hasPerson mw297 [12, 13, 14, 15, 16, 17, 18, 19] rfl (by decide) 0 rfl rfl (As := [.int p0]) (rest := []) rfl rfl hl.1 (Nat.le_of_ble_eq_true rfl) ⟨Nat.le_of_ble_eq_true rfl, Nat.le_of_ble_eq_true rfl⟩ ⟨Nat.le_refl _, Nat.le_refl _⟩ dX8_hurts_5 (fun rx wx H locs hqx hW => ?_)
  obtain ⟨hrx, rfl⟩ := hqx
  have hW : AtC D (tyG cI cZ cN) Ax (pOne cI cZ cN a T Q Ld Vd L V S R C1 C2 Rn Wd Im K tr) sx H locs := hW.re [0, 1, 2, 3, 4, 5, 6, 7, 8, 9, 10, 11, 20, 21, 22, 23, 24, 25, 26, 27, 28, 29, 30, 31, 32, 33, 34, 35, 36, 37, 38, 39, 40, 41, 42, 43, 44, 45, 46, 47, 48, 49, 50, 51, 52, 53, 54, 55, 56, 57, 58, 59, 60, 61, 62, 63, 64, 65, 66, 67, 68, 69, 70, 71, 72, 73, 74, 75, 76, 77, 78, 79, 80, 81, 82, 83] 84 (by decide) rfl rfl ⟨rfl, rfl, rfl, rfl, rfl, rfl, rfl, rfl, rfl, rfl, rfl, rfl, rfl, rfl, rfl, rfl, rfl, rfl, rfl, rfl, rfl, rfl, rfl, rfl, rfl, rfl, rfl, rfl, rfl, rfl, rfl, rfl, rfl, rfl, rfl, rfl, rfl, rfl, rfl, rfl, rfl, rfl, rfl, rfl, rfl, rfl, rfl, rfl, rfl, rfl, rfl, rfl, rfl, rfl, rfl, rfl, rfl, rfl, rfl, rfl, rfl, rfl, rfl, rfl, rfl, rfl, rfl, rfl, rfl, rfl, rfl, rfl, rfl, rfl, rfl, rfl, trivial⟩ (by decide +kernel) rfl rfl
  refine r_eq (y := (inI (p0) 0 (nI (N) - 1))) hrx ?_
  refine lv_if_eq (tgt := 20) hx hb dX8_hurts_8 rfl (fun c_8 => ?_) (fun c_8 => ?_)
  · refine lv_iconst (v := (-1 : Int32)) hx hb dX8_hurts_20 rfl ?_
    exact hret _ _ _ _ _ _ hW rfl rfl dX8_hurts_21 (by have hok : ¬ (¬ inI p0 0 (nI N - 1) = 0 ∧ ¬ inI p1 0 1 = 0) := fun h => h.1 c_8; exact ⟨by rw [if_neg hok], by rw [if_neg hok]⟩)
  · obtain ⟨P, hP, rfl⟩ := inI_nat (nI_m1 (show N < 1000 by omega)) c_8
    have clP : (nI P).toNatClampNeg = P := nI_clamp (by omega)
    refine lv_iload_n hx hb dX8_hurts_11 rfl (lv_at hl 2 rfl) ?_
    refine lv_iconst (v := (0 : Int32)) hx hb dX8_hurts_12 rfl ?_
    refine lv_iconst (v := (1 : Int32)) hx hb dX8_hurts_13 rfl ?_
    refine callSI Sx hW (c_X8_within l D cI cZ cN p1 (0 : Int32) (1 : Int32)) smX8_within mw137 (As := [.int p1, .int (0 : Int32), .int (1 : Int32)]) (rest := []) rfl rfl hl.1 (Nat.le_of_ble_eq_true rfl) ⟨Nat.le_of_ble_eq_true rfl, Nat.le_of_ble_eq_true rfl⟩ ⟨Nat.le_refl _, Nat.le_refl _⟩ dX8_hurts_14 (fun rx H locs hqx hW => ?_)
    obtain ⟨hrx, -⟩ := hqx
    refine r_eq (y := (inI p1 (0 : Int32) (1 : Int32))) hrx ?_
    refine lv_if_ne (tgt := 22) hx hb dX8_hurts_17 rfl (fun c_17 => ?_) (fun c_17 => ?_)
    · refine lv_aload_n hx hb dX8_hurts_22 rfl (lv_at hl 0 rfl) ?_
      refine r_get Sx hW 0 rfl rfl bw_wsX80 3 (by decide) (v := .ref (a 20)) rfl mw27 dX8_hurts_23 ?_
      refine lv_aload_n hx hb dX8_hurts_26 rfl (lv_at hl 0 rfl) ?_
      refine r_get Sx hW 0 rfl rfl bw_wsX80 2 (by decide) (v := .ref (a 12)) rfl mw23 dX8_hurts_27 ?_
      refine r_get Sx hW 12 rfl rfl bw_wsX10 3 (by decide) (v := .ref (a 16)) rfl mw291 dX8_hurts_30 ?_
      refine callVV Sx hW (c_X3_remember l D cI cZ cN (fun i => a (i + 20)) (fun i => a (i + 16)) S R V k y hk hk10 ⟨hy, hy10⟩) vmX3_remember mw537 [20, 21, 22, 23, 24, 25, 26, 27, 28, 29, 30, 31, 32, 33, 34, 35, 36, 37, 38, 39, 40, 41, 42, 43, 44, 45, 46, 47, 48, 49, 50, 51, 52, 53, 54, 55, 56, 57, 58, 59, 60, 61, 16, 17, 18, 19] rfl (by decide) 0 rfl rfl (As := [.ref (a 16)]) (rest := []) rfl rfl hl.1 (Nat.le_of_ble_eq_true rfl) ⟨Nat.le_of_ble_eq_true rfl, Nat.le_of_ble_eq_true rfl⟩ ⟨Nat.le_refl _, Nat.le_refl _⟩ dX8_hurts_33 (fun wx H locs hqx hW => ?_)
      obtain rfl := hqx
      have hW : AtC D (tyG cI cZ cN) Ax (pOne cI cZ cN a T Q Ld Vd L V (pastS S (nI ((k + 1) % 10)) (nI (min 10 (y + 1)))) (upR R k (cpN V (R k))) C1 C2 Rn Wd Im K tr) sx H locs := hW.re [0, 1, 2, 3, 4, 5, 6, 7, 8, 9, 10, 11, 12, 13, 14, 15, 62, 63, 64, 65, 66, 67, 68, 69, 70, 71, 72, 73, 74, 75, 76, 77, 78, 79, 80, 81, 82, 83] 84 (by decide) rfl rfl ⟨rfl, rfl, rfl, rfl, rfl, rfl, rfl, rfl, rfl, rfl, rfl, rfl, rfl, rfl, rfl, rfl, rfl, rfl, rfl, rfl, rfl, rfl, rfl, rfl, rfl, rfl, rfl, rfl, rfl, rfl, rfl, rfl, rfl, rfl, rfl, rfl, rfl, rfl, trivial⟩ (by decide +kernel) rfl rfl
      refine lv_aload_n hx hb dX8_hurts_36 rfl (lv_at hl 0 rfl) ?_
      refine r_get Sx hW 0 rfl rfl bw_wsX80 2 (by decide) (v := .ref (a 12)) rfl mw23 dX8_hurts_37 ?_
      refine r_get Sx hW 12 rfl rfl bw_wsX10 3 (by decide) (v := .ref (a 16)) rfl mw291 dX8_hurts_40 ?_
      refine r_get Sx hW 16 rfl rfl bw_wsX20 3 (by decide) (v := .int (V 3 0)) rfl mw295 dX8_hurts_43 ?_
      refine lv_iload_n hx hb dX8_hurts_46 rfl (lv_at hl 1 rfl) ?_
      refine callSI Sx hW (c_X8_bit l D cI cZ cN (V 3 0) (nI P)) smX8_bit mw301 (As := [.int (V 3 0), .int (nI P)]) (rest := []) rfl rfl hl.1 (Nat.le_of_ble_eq_true rfl) ⟨Nat.le_of_ble_eq_true rfl, Nat.le_of_ble_eq_true rfl⟩ ⟨Nat.le_refl _, Nat.le_refl _⟩ dX8_hurts_47 (fun rx H locs hqx hW => ?_)
      obtain ⟨hrx, -⟩ := hqx
      refine r_eq (y := (bitI (V 3 0) (nI P))) hrx ?_
      refine lv_istore_n (lv' := [(3, .int (bitI (V 3 0) (nI P))), (0, .ref (a 0)), (1, .int (nI P)), (2, .int p1)]) hx hb dX8_hurts_50 rfl hl (by decide) rfl (fun ls hl => ?_)
      refine lv_aload_n hx hb dX8_hurts_51 rfl (lv_at hl 1 rfl) ?_
      refine r_get Sx hW 0 rfl rfl bw_wsX80 2 (by decide) (v := .ref (a 12)) rfl mw23 dX8_hurts_52 ?_
      refine r_get Sx hW 12 rfl rfl bw_wsX10 3 (by decide) (v := .ref (a 16)) rfl mw291 dX8_hurts_55 ?_
      refine lv_aload_n hx hb dX8_hurts_58 rfl (lv_at hl 1 rfl) ?_
      refine r_get Sx hW 0 rfl rfl bw_wsX80 2 (by decide) (v := .ref (a 12)) rfl mw23 dX8_hurts_59 ?_
      refine r_get Sx hW 12 rfl rfl bw_wsX10 3 (by decide) (v := .ref (a 16)) rfl mw291 dX8_hurts_62 ?_
      refine r_get Sx hW 16 rfl rfl bw_wsX20 3 (by decide) (v := .int (V 3 0)) rfl mw295 dX8_hurts_65 ?_
      refine lv_iconst (v := (1 : Int32)) hx hb dX8_hurts_68 rfl ?_
      refine lv_iload_n hx hb dX8_hurts_69 rfl (lv_at hl 2 rfl) ?_
      refine lv_ishl hx hb dX8_hurts_70 ?_
      refine lv_iconst (v := (-1 : Int32)) hx hb dX8_hurts_71 rfl ?_
      refine lv_ixor hx hb dX8_hurts_72 ?_
      refine lv_iand hx hb dX8_hurts_73 ?_
      refine lv_iload_n hx hb dX8_hurts_74 rfl (lv_at hl 3 rfl) ?_
      refine lv_iload_n hx hb dX8_hurts_75 rfl (lv_at hl 2 rfl) ?_
      refine lv_ishl hx hb dX8_hurts_76 ?_
      refine lv_ior hx hb dX8_hurts_77 ?_
      refine r_put Sx hW 16 rfl rfl bw_wsX20 tyX2_ok nmX2 3 (by decide) mw295 rfl rfl rfl (Nat.le_of_ble_eq_true rfl) dX8_hurts_78 (ws' := (pOne cI cZ cN a T Q Ld Vd L (upA V 3 (upd (V 3) 0 (((V 3 0) &&& (((1 : Int32) <<< ((nI P) &&& 31)) ^^^ (-1 : Int32))) ||| (p1 <<< ((nI P) &&& 31))))) (pastS S (nI ((k + 1) % 10)) (nI (min 10 (y + 1)))) (upR R k (cpN V (R k))) C1 C2 Rn Wd Im K tr)) rfl (fun H locs hW => ?_)
      refine lv_iload_n hx hb dX8_hurts_81 rfl (lv_at hl 0 rfl) ?_
      exact hret _ _ _ _ _ _ hW rfl rfl dX8_hurts_82 (by have hok : ¬ inI (nI P) 0 (nI N - 1) = 0 ∧ ¬ inI p1 0 1 = 0 := ⟨c_8, c_17⟩; exact ⟨by rw [if_pos hok] <;> rfl, by rw [if_pos hok] <;> rfl⟩)
    · refine lv_iconst (v := (-1 : Int32)) hx hb dX8_hurts_20 rfl ?_
      exact hret _ _ _ _ _ _ hW rfl rfl dX8_hurts_21 (by have hok : ¬ (¬ inI (nI P) 0 (nI N - 1) = 0 ∧ ¬ inI p1 0 1 = 0) := fun h => h.2 c_17; exact ⟨by rw [if_neg hok], by rw [if_neg hok]⟩)

def deV (V : NV) (P : Nat) : NV := upA V 2 (upd (V 2) P (V 2 P + 1))
def deR (N : Nat) (V : NV) (p : Int32) : Int32 := if inI p 0 (nI N - 1) = 0 then -1 else if V 2 p.toNatClampNeg < 99 then fmI (V 0) (upd (V 2) p.toNatClampNeg (V 2 p.toNatClampNeg + 1)) N (V 3 1) p.toNatClampNeg else -2

set_option maxHeartbeats 4000000 in
set_option maxRecDepth 100000 in
theorem c_X8_deeds (l : Launch) (D : va_G) (cI cZ cN : ClassId) (a : Nat → Nat) (T Q Ld Vd L V S : NV) (R : Nat → NV) (C1 C2 Rn Wd : NV) (Im : Nat → NV) (K : NV) (tr : Int64) (z N C k y z1 z2 : Nat) (hz : T 1 0 = nI z) (hz2 : z ≤ 200) (hN : L 3 1 = nI N) (hN7 : N ≤ 7) (hC : L 3 0 = nI C) (hC4 : C ≤ 4) (hC1 : 1 ≤ C) (hk : S 0 0 = nI k) (hk10 : k < 10) (hy : S 0 1 = nI y) (hy10 : y ≤ 10) (hc1 : C1 2 0 = nI z1) (hz16 : z1 ≤ 6) (hc2 : C2 2 0 = nI z2) (hz26 : z2 ≤ 6) (p0 : Int32) : CtI l yX8_deeds cX8_deeds 2 (some .int) 3 D (tyG cI cZ cN) [.ref (a 0), .int p0] (pOne cI cZ cN a T Q Ld Vd L V S R C1 C2 Rn Wd Im K tr) (fun r w => r = deR N V p0 ∧ w = if ¬ inI p0 0 (nI N - 1) = 0 ∧ ¬ ¬ V 2 p0.toNatClampNeg < 99 then (pOne cI cZ cN a T Q Ld Vd L (deV V p0.toNatClampNeg) (pastS S (nI ((k + 1) % 10)) (nI (min 10 (y + 1)))) (upR R k (cpN V (R k))) C1 C2 Rn Wd Im K tr) else (pOne cI cZ cN a T Q Ld Vd L V S R C1 C2 Rn Wd Im K tr)) := by
  refine CtI.of rfl (Nat.le_of_ble_eq_true rfl) ?_
  intro pg ev sx mx ax bx mt cx ls Qx Ax Sx hret hW hl
  have hx := Sx.1
  have hb := Sx.2.1
  have hl : lv_has ls 2 [(0, .ref (a 0)), (1, .int p0)] := hl
  refine lv_aload_n hx hb dX8_deeds_0 rfl (lv_at hl 0 rfl) ?_
  refine r_get Sx hW 0 rfl rfl bw_wsX80 2 (by decide) (v := .ref (a 12)) rfl mw23 dX8_deeds_1 ?_
  refine lv_iload_n hx hb dX8_deeds_4 rfl (lv_at hl 1 rfl) ?_
  refine callVI Sx hW (c_X1_hasPerson l D cI cZ cN (fun i => a (i + 12)) L V p0 N C hN hN7 hC hC4 hC1 ) vmX1_hasPerson mw297 [12, 13, 14, 15, 16, 17, 18, 19] rfl (by decide) 0 rfl rfl (As := [.int p0]) (rest := []) rfl rfl hl.1 (Nat.le_of_ble_eq_true rfl) ⟨Nat.le_of_ble_eq_true rfl, Nat.le_of_ble_eq_true rfl⟩ ⟨Nat.le_refl _, Nat.le_refl _⟩ dX8_deeds_5 (fun rx wx H locs hqx hW => ?_)
  obtain ⟨hrx, rfl⟩ := hqx
  have hW : AtC D (tyG cI cZ cN) Ax (pOne cI cZ cN a T Q Ld Vd L V S R C1 C2 Rn Wd Im K tr) sx H locs := hW.re [0, 1, 2, 3, 4, 5, 6, 7, 8, 9, 10, 11, 20, 21, 22, 23, 24, 25, 26, 27, 28, 29, 30, 31, 32, 33, 34, 35, 36, 37, 38, 39, 40, 41, 42, 43, 44, 45, 46, 47, 48, 49, 50, 51, 52, 53, 54, 55, 56, 57, 58, 59, 60, 61, 62, 63, 64, 65, 66, 67, 68, 69, 70, 71, 72, 73, 74, 75, 76, 77, 78, 79, 80, 81, 82, 83] 84 (by decide) rfl rfl ⟨rfl, rfl, rfl, rfl, rfl, rfl, rfl, rfl, rfl, rfl, rfl, rfl, rfl, rfl, rfl, rfl, rfl, rfl, rfl, rfl, rfl, rfl, rfl, rfl, rfl, rfl, rfl, rfl, rfl, rfl, rfl, rfl, rfl, rfl, rfl, rfl, rfl, rfl, rfl, rfl, rfl, rfl, rfl, rfl, rfl, rfl, rfl, rfl, rfl, rfl, rfl, rfl, rfl, rfl, rfl, rfl, rfl, rfl, rfl, rfl, rfl, rfl, rfl, rfl, rfl, rfl, rfl, rfl, rfl, rfl, rfl, rfl, rfl, rfl, rfl, rfl, trivial⟩ (by decide +kernel) rfl rfl
  refine r_eq (y := (inI (p0) 0 (nI (N) - 1))) hrx ?_
  refine lv_if_ne (tgt := 13) hx hb dX8_deeds_8 rfl (fun c_8 => ?_) (fun c_8 => ?_)
  · obtain ⟨P, hP, rfl⟩ := inI_nat (nI_m1 (show N < 1000 by omega)) c_8
    have clP : (nI P).toNatClampNeg = P := nI_clamp (by omega)
    refine lv_aload_n hx hb dX8_deeds_13 rfl (lv_at hl 0 rfl) ?_
    refine r_get Sx hW 0 rfl rfl bw_wsX80 2 (by decide) (v := .ref (a 12)) rfl mw23 dX8_deeds_14 ?_
    refine r_get Sx hW 12 rfl rfl bw_wsX10 3 (by decide) (v := .ref (a 16)) rfl mw291 dX8_deeds_17 ?_
    refine r_get Sx hW 16 rfl rfl bw_wsX20 2 (by decide) (v := .ref (a 19)) rfl mw296 dX8_deeds_20 ?_
    refine lv_iload_n hx hb dX8_deeds_23 rfl (lv_at hl 1 rfl) ?_
    refine r_iald Sx hW 19 0 rfl rfl (j := P) rfl (by omega) (by decide) dX8_deeds_24 ?_
    refine lv_bipush (v := (99 : Int32)) hx hb dX8_deeds_25 rfl ?_
    refine lv_icmp_lt (tgt := 33) hx hb dX8_deeds_27 rfl (fun c_27 => ?_) (fun c_27 => ?_)
    · refine lv_aload_n hx hb dX8_deeds_33 rfl (lv_at hl 0 rfl) ?_
      refine r_get Sx hW 0 rfl rfl bw_wsX80 3 (by decide) (v := .ref (a 20)) rfl mw27 dX8_deeds_34 ?_
      refine lv_aload_n hx hb dX8_deeds_37 rfl (lv_at hl 0 rfl) ?_
      refine r_get Sx hW 0 rfl rfl bw_wsX80 2 (by decide) (v := .ref (a 12)) rfl mw23 dX8_deeds_38 ?_
      refine r_get Sx hW 12 rfl rfl bw_wsX10 3 (by decide) (v := .ref (a 16)) rfl mw291 dX8_deeds_41 ?_
      refine callVV Sx hW (c_X3_remember l D cI cZ cN (fun i => a (i + 20)) (fun i => a (i + 16)) S R V k y hk hk10 ⟨hy, hy10⟩) vmX3_remember mw537 [20, 21, 22, 23, 24, 25, 26, 27, 28, 29, 30, 31, 32, 33, 34, 35, 36, 37, 38, 39, 40, 41, 42, 43, 44, 45, 46, 47, 48, 49, 50, 51, 52, 53, 54, 55, 56, 57, 58, 59, 60, 61, 16, 17, 18, 19] rfl (by decide) 0 rfl rfl (As := [.ref (a 16)]) (rest := []) rfl rfl hl.1 (Nat.le_of_ble_eq_true rfl) ⟨Nat.le_of_ble_eq_true rfl, Nat.le_of_ble_eq_true rfl⟩ ⟨Nat.le_refl _, Nat.le_refl _⟩ dX8_deeds_44 (fun wx H locs hqx hW => ?_)
      obtain rfl := hqx
      have hW : AtC D (tyG cI cZ cN) Ax (pOne cI cZ cN a T Q Ld Vd L V (pastS S (nI ((k + 1) % 10)) (nI (min 10 (y + 1)))) (upR R k (cpN V (R k))) C1 C2 Rn Wd Im K tr) sx H locs := hW.re [0, 1, 2, 3, 4, 5, 6, 7, 8, 9, 10, 11, 12, 13, 14, 15, 62, 63, 64, 65, 66, 67, 68, 69, 70, 71, 72, 73, 74, 75, 76, 77, 78, 79, 80, 81, 82, 83] 84 (by decide) rfl rfl ⟨rfl, rfl, rfl, rfl, rfl, rfl, rfl, rfl, rfl, rfl, rfl, rfl, rfl, rfl, rfl, rfl, rfl, rfl, rfl, rfl, rfl, rfl, rfl, rfl, rfl, rfl, rfl, rfl, rfl, rfl, rfl, rfl, rfl, rfl, rfl, rfl, rfl, rfl, trivial⟩ (by decide +kernel) rfl rfl
      refine lv_aload_n hx hb dX8_deeds_47 rfl (lv_at hl 0 rfl) ?_
      refine r_get Sx hW 0 rfl rfl bw_wsX80 2 (by decide) (v := .ref (a 12)) rfl mw23 dX8_deeds_48 ?_
      refine r_get Sx hW 12 rfl rfl bw_wsX10 3 (by decide) (v := .ref (a 16)) rfl mw291 dX8_deeds_51 ?_
      refine r_get Sx hW 16 rfl rfl bw_wsX20 2 (by decide) (v := .ref (a 19)) rfl mw296 dX8_deeds_54 ?_
      refine lv_iload_n hx hb dX8_deeds_57 rfl (lv_at hl 1 rfl) ?_
      refine lv_dup2_11 hx hb dX8_deeds_58 rfl rfl ?_
      refine r_iald Sx hW 19 0 rfl rfl (j := P) rfl (by omega) (by decide) dX8_deeds_59 ?_
      refine lv_iconst (v := (1 : Int32)) hx hb dX8_deeds_60 rfl ?_
      refine lv_iadd hx hb dX8_deeds_61 ?_
      refine r_iast Sx hW 19 0 rfl rfl (j := P) rfl (by omega) (by decide) dX8_deeds_62 (ws' := (pOne cI cZ cN a T Q Ld Vd L (upA V 2 (upd (V 2) P (((V 2) P) + (1 : Int32)))) (pastS S (nI ((k + 1) % 10)) (nI (min 10 (y + 1)))) (upR R k (cpN V (R k))) C1 C2 Rn Wd Im K tr)) rfl (fun H locs hW => ?_)
      refine lv_aload_n hx hb dX8_deeds_63 rfl (lv_at hl 0 rfl) ?_
      refine r_get Sx hW 0 rfl rfl bw_wsX80 2 (by decide) (v := .ref (a 12)) rfl mw23 dX8_deeds_64 ?_
      refine lv_iload_n hx hb dX8_deeds_67 rfl (lv_at hl 1 rfl) ?_
      refine callVI Sx hW (c_X1_fame l D cI cZ cN (fun i => a (i + 12)) L (upA V 2 (upd (V 2) P (((V 2) P) + (1 : Int32)))) P N C hN hN7 hC hC4 hC1 (by omega)) vmX1_fame mw316 [12, 13, 14, 15, 16, 17, 18, 19] rfl (by decide) 0 rfl rfl (As := [.int (nI P)]) (rest := []) rfl rfl hl.1 (Nat.le_of_ble_eq_true rfl) ⟨Nat.le_of_ble_eq_true rfl, Nat.le_of_ble_eq_true rfl⟩ ⟨Nat.le_refl _, Nat.le_refl _⟩ dX8_deeds_68 (fun rx wx H locs hqx hW => ?_)
      obtain ⟨hrx, rfl⟩ := hqx
      have hW : AtC D (tyG cI cZ cN) Ax (pOne cI cZ cN a T Q Ld Vd L (upA V 2 (upd (V 2) P (((V 2) P) + (1 : Int32)))) (pastS S (nI ((k + 1) % 10)) (nI (min 10 (y + 1)))) (upR R k (cpN V (R k))) C1 C2 Rn Wd Im K tr) sx H locs := hW.re [0, 1, 2, 3, 4, 5, 6, 7, 8, 9, 10, 11, 20, 21, 22, 23, 24, 25, 26, 27, 28, 29, 30, 31, 32, 33, 34, 35, 36, 37, 38, 39, 40, 41, 42, 43, 44, 45, 46, 47, 48, 49, 50, 51, 52, 53, 54, 55, 56, 57, 58, 59, 60, 61, 62, 63, 64, 65, 66, 67, 68, 69, 70, 71, 72, 73, 74, 75, 76, 77, 78, 79, 80, 81, 82, 83] 84 (by decide) rfl rfl ⟨rfl, rfl, rfl, rfl, rfl, rfl, rfl, rfl, rfl, rfl, rfl, rfl, rfl, rfl, rfl, rfl, rfl, rfl, rfl, rfl, rfl, rfl, rfl, rfl, rfl, rfl, rfl, rfl, rfl, rfl, rfl, rfl, rfl, rfl, rfl, rfl, rfl, rfl, rfl, rfl, rfl, rfl, rfl, rfl, rfl, rfl, rfl, rfl, rfl, rfl, rfl, rfl, rfl, rfl, rfl, rfl, rfl, rfl, rfl, rfl, rfl, rfl, rfl, rfl, rfl, rfl, rfl, rfl, rfl, rfl, rfl, rfl, rfl, rfl, rfl, rfl, trivial⟩ (by decide +kernel) rfl rfl
      refine r_eq (y := (fmI ((upA V 2 (upd (V 2) P (((V 2) P) + (1 : Int32)))) 0) ((upA V 2 (upd (V 2) P (((V 2) P) + (1 : Int32)))) 2) (N) ((upA V 2 (upd (V 2) P (((V 2) P) + (1 : Int32)))) 3 1) (P))) hrx ?_
      exact hret _ _ _ _ _ _ hW rfl rfl dX8_deeds_71 (by have hok : ¬ inI (nI P) 0 (nI N - 1) = 0 ∧ ¬ ¬ V 2 (nI P).toNatClampNeg < 99 := ⟨c_8, fun h => h (by rw [clP]; exact c_27)⟩; exact ⟨by rw [deR, if_neg c_8, clP, if_pos c_27] <;> rfl, by rw [if_pos hok, clP] <;> rfl⟩)
    · refine lv_bipush (v := (-2 : Int32)) hx hb dX8_deeds_30 rfl ?_
      exact hret _ _ _ _ _ _ hW rfl rfl dX8_deeds_32 (⟨by rw [deR, if_neg c_8, clP, if_neg c_27], by rw [if_neg (fun h => h.2 (by rw [clP]; exact c_27))]⟩)
  · refine lv_iconst (v := (-1 : Int32)) hx hb dX8_deeds_11 rfl ?_
    exact hret _ _ _ _ _ _ hW rfl rfl dX8_deeds_12 (⟨by rw [deR, if_pos c_8], by rw [if_neg (fun h => h.1 c_8)]⟩)

def eaX (w n : Int32) : Int32 := if 0 < (if w + n < 999 then w + n else 999) then (if w + n < 999 then w + n else 999) else 0
def eaV (V : NV) (P : Nat) (n : Int32) : NV := upA V 1 (upd (V 1) P (eaX (V 1 P) n))

set_option maxHeartbeats 4000000 in
set_option maxRecDepth 100000 in
theorem c_X8_earns (l : Launch) (D : va_G) (cI cZ cN : ClassId) (a : Nat → Nat) (T Q Ld Vd L V S : NV) (R : Nat → NV) (C1 C2 Rn Wd : NV) (Im : Nat → NV) (K : NV) (tr : Int64) (z N C k y z1 z2 : Nat) (hz : T 1 0 = nI z) (hz2 : z ≤ 200) (hN : L 3 1 = nI N) (hN7 : N ≤ 7) (hC : L 3 0 = nI C) (hC4 : C ≤ 4) (hC1 : 1 ≤ C) (hk : S 0 0 = nI k) (hk10 : k < 10) (hy : S 0 1 = nI y) (hy10 : y ≤ 10) (hc1 : C1 2 0 = nI z1) (hz16 : z1 ≤ 6) (hc2 : C2 2 0 = nI z2) (hz26 : z2 ≤ 6) (p0 p1 : Int32) : CtI l yX8_earns cX8_earns 3 (some .int) 3 D (tyG cI cZ cN) [.ref (a 0), .int p0, .int p1] (pOne cI cZ cN a T Q Ld Vd L V S R C1 C2 Rn Wd Im K tr) (fun r w => r = (if ¬ inI p0 0 (nI N - 1) = 0 ∧ ¬ inI p1 (-99) 99 = 0 then eaX (V 1 p0.toNatClampNeg) p1 else -1) ∧ w = if ¬ inI p0 0 (nI N - 1) = 0 ∧ ¬ inI p1 (-99) 99 = 0 then (pOne cI cZ cN a T Q Ld Vd L (eaV V p0.toNatClampNeg p1) (pastS S (nI ((k + 1) % 10)) (nI (min 10 (y + 1)))) (upR R k (cpN V (R k))) C1 C2 Rn Wd Im K tr) else (pOne cI cZ cN a T Q Ld Vd L V S R C1 C2 Rn Wd Im K tr)) := by
  refine CtI.of rfl (Nat.le_of_ble_eq_true rfl) ?_
  intro pg ev sx mx ax bx mt cx ls Qx Ax Sx hret hW hl
  have hx := Sx.1
  have hb := Sx.2.1
  have hl : lv_has ls 3 [(0, .ref (a 0)), (1, .int p0), (2, .int p1)] := hl
  refine lv_aload_n hx hb dX8_earns_0 rfl (lv_at hl 0 rfl) ?_
  refine r_get Sx hW 0 rfl rfl bw_wsX80 2 (by decide) (v := .ref (a 12)) rfl mw23 dX8_earns_1 ?_
  refine lv_iload_n hx hb dX8_earns_4 rfl (lv_at hl 1 rfl) ?_
  refine callVI Sx hW (c_X1_hasPerson l D cI cZ cN (fun i => a (i + 12)) L V p0 N C hN hN7 hC hC4 hC1 ) vmX1_hasPerson mw297 [12, 13, 14, 15, 16, 17, 18, 19] rfl (by decide) 0 rfl rfl (As := [.int p0]) (rest := []) rfl rfl hl.1 (Nat.le_of_ble_eq_true rfl) ⟨Nat.le_of_ble_eq_true rfl, Nat.le_of_ble_eq_true rfl⟩ ⟨Nat.le_refl _, Nat.le_refl _⟩ dX8_earns_5 (fun rx wx H locs hqx hW => ?_)
  obtain ⟨hrx, rfl⟩ := hqx
  have hW : AtC D (tyG cI cZ cN) Ax (pOne cI cZ cN a T Q Ld Vd L V S R C1 C2 Rn Wd Im K tr) sx H locs := hW.re [0, 1, 2, 3, 4, 5, 6, 7, 8, 9, 10, 11, 20, 21, 22, 23, 24, 25, 26, 27, 28, 29, 30, 31, 32, 33, 34, 35, 36, 37, 38, 39, 40, 41, 42, 43, 44, 45, 46, 47, 48, 49, 50, 51, 52, 53, 54, 55, 56, 57, 58, 59, 60, 61, 62, 63, 64, 65, 66, 67, 68, 69, 70, 71, 72, 73, 74, 75, 76, 77, 78, 79, 80, 81, 82, 83] 84 (by decide) rfl rfl ⟨rfl, rfl, rfl, rfl, rfl, rfl, rfl, rfl, rfl, rfl, rfl, rfl, rfl, rfl, rfl, rfl, rfl, rfl, rfl, rfl, rfl, rfl, rfl, rfl, rfl, rfl, rfl, rfl, rfl, rfl, rfl, rfl, rfl, rfl, rfl, rfl, rfl, rfl, rfl, rfl, rfl, rfl, rfl, rfl, rfl, rfl, rfl, rfl, rfl, rfl, rfl, rfl, rfl, rfl, rfl, rfl, rfl, rfl, rfl, rfl, rfl, rfl, rfl, rfl, rfl, rfl, rfl, rfl, rfl, rfl, rfl, rfl, rfl, rfl, rfl, rfl, trivial⟩ (by decide +kernel) rfl rfl
  refine r_eq (y := (inI (p0) 0 (nI (N) - 1))) hrx ?_
  refine lv_if_eq (tgt := 22) hx hb dX8_earns_8 rfl (fun c_8 => ?_) (fun c_8 => ?_)
  · refine lv_iconst (v := (-1 : Int32)) hx hb dX8_earns_22 rfl ?_
    exact hret _ _ _ _ _ _ hW rfl rfl dX8_earns_23 (by have hok : ¬ (¬ inI p0 0 (nI N - 1) = 0 ∧ ¬ inI p1 (-99) 99 = 0) := fun h => h.1 c_8; exact ⟨by rw [if_neg hok], by rw [if_neg hok]⟩)
  · obtain ⟨P, hP, rfl⟩ := inI_nat (nI_m1 (show N < 1000 by omega)) c_8
    have clP : (nI P).toNatClampNeg = P := nI_clamp (by omega)
    refine lv_iload_n hx hb dX8_earns_11 rfl (lv_at hl 2 rfl) ?_
    refine lv_bipush (v := (-99 : Int32)) hx hb dX8_earns_12 rfl ?_
    refine lv_bipush (v := (99 : Int32)) hx hb dX8_earns_14 rfl ?_
    refine callSI Sx hW (c_X8_within l D cI cZ cN p1 (-99 : Int32) (99 : Int32)) smX8_within mw137 (As := [.int p1, .int (-99 : Int32), .int (99 : Int32)]) (rest := []) rfl rfl hl.1 (Nat.le_of_ble_eq_true rfl) ⟨Nat.le_of_ble_eq_true rfl, Nat.le_of_ble_eq_true rfl⟩ ⟨Nat.le_refl _, Nat.le_refl _⟩ dX8_earns_16 (fun rx H locs hqx hW => ?_)
    obtain ⟨hrx, -⟩ := hqx
    refine r_eq (y := (inI p1 (-99 : Int32) (99 : Int32))) hrx ?_
    refine lv_if_ne (tgt := 24) hx hb dX8_earns_19 rfl (fun c_19 => ?_) (fun c_19 => ?_)
    · refine lv_aload_n hx hb dX8_earns_24 rfl (lv_at hl 0 rfl) ?_
      refine r_get Sx hW 0 rfl rfl bw_wsX80 3 (by decide) (v := .ref (a 20)) rfl mw27 dX8_earns_25 ?_
      refine lv_aload_n hx hb dX8_earns_28 rfl (lv_at hl 0 rfl) ?_
      refine r_get Sx hW 0 rfl rfl bw_wsX80 2 (by decide) (v := .ref (a 12)) rfl mw23 dX8_earns_29 ?_
      refine r_get Sx hW 12 rfl rfl bw_wsX10 3 (by decide) (v := .ref (a 16)) rfl mw291 dX8_earns_32 ?_
      refine callVV Sx hW (c_X3_remember l D cI cZ cN (fun i => a (i + 20)) (fun i => a (i + 16)) S R V k y hk hk10 ⟨hy, hy10⟩) vmX3_remember mw537 [20, 21, 22, 23, 24, 25, 26, 27, 28, 29, 30, 31, 32, 33, 34, 35, 36, 37, 38, 39, 40, 41, 42, 43, 44, 45, 46, 47, 48, 49, 50, 51, 52, 53, 54, 55, 56, 57, 58, 59, 60, 61, 16, 17, 18, 19] rfl (by decide) 0 rfl rfl (As := [.ref (a 16)]) (rest := []) rfl rfl hl.1 (Nat.le_of_ble_eq_true rfl) ⟨Nat.le_of_ble_eq_true rfl, Nat.le_of_ble_eq_true rfl⟩ ⟨Nat.le_refl _, Nat.le_refl _⟩ dX8_earns_35 (fun wx H locs hqx hW => ?_)
      obtain rfl := hqx
      have hW : AtC D (tyG cI cZ cN) Ax (pOne cI cZ cN a T Q Ld Vd L V (pastS S (nI ((k + 1) % 10)) (nI (min 10 (y + 1)))) (upR R k (cpN V (R k))) C1 C2 Rn Wd Im K tr) sx H locs := hW.re [0, 1, 2, 3, 4, 5, 6, 7, 8, 9, 10, 11, 12, 13, 14, 15, 62, 63, 64, 65, 66, 67, 68, 69, 70, 71, 72, 73, 74, 75, 76, 77, 78, 79, 80, 81, 82, 83] 84 (by decide) rfl rfl ⟨rfl, rfl, rfl, rfl, rfl, rfl, rfl, rfl, rfl, rfl, rfl, rfl, rfl, rfl, rfl, rfl, rfl, rfl, rfl, rfl, rfl, rfl, rfl, rfl, rfl, rfl, rfl, rfl, rfl, rfl, rfl, rfl, rfl, rfl, rfl, rfl, rfl, rfl, trivial⟩ (by decide +kernel) rfl rfl
      refine lv_aload_n hx hb dX8_earns_38 rfl (lv_at hl 0 rfl) ?_
      refine r_get Sx hW 0 rfl rfl bw_wsX80 2 (by decide) (v := .ref (a 12)) rfl mw23 dX8_earns_39 ?_
      refine r_get Sx hW 12 rfl rfl bw_wsX10 3 (by decide) (v := .ref (a 16)) rfl mw291 dX8_earns_42 ?_
      refine r_get Sx hW 16 rfl rfl bw_wsX20 1 (by decide) (v := .ref (a 18)) rfl mw293 dX8_earns_45 ?_
      refine lv_iload_n hx hb dX8_earns_48 rfl (lv_at hl 1 rfl) ?_
      refine lv_iconst (v := (0 : Int32)) hx hb dX8_earns_49 rfl ?_
      refine lv_sipush (v := (999 : Int32)) hx hb dX8_earns_50 rfl ?_
      refine lv_aload_n hx hb dX8_earns_53 rfl (lv_at hl 0 rfl) ?_
      refine r_get Sx hW 0 rfl rfl bw_wsX80 2 (by decide) (v := .ref (a 12)) rfl mw23 dX8_earns_54 ?_
      refine r_get Sx hW 12 rfl rfl bw_wsX10 3 (by decide) (v := .ref (a 16)) rfl mw291 dX8_earns_57 ?_
      refine r_get Sx hW 16 rfl rfl bw_wsX20 1 (by decide) (v := .ref (a 18)) rfl mw293 dX8_earns_60 ?_
      refine lv_iload_n hx hb dX8_earns_63 rfl (lv_at hl 1 rfl) ?_
      refine r_iald Sx hW 18 0 rfl rfl (j := P) rfl (by omega) (by decide) dX8_earns_64 ?_
      refine lv_iload_n hx hb dX8_earns_65 rfl (lv_at hl 2 rfl) ?_
      refine lv_iadd hx hb dX8_earns_66 ?_
      refine r_min Sx mw565 mw542 mw330 mw543 hl.1 (by decide) (Nat.le_of_ble_eq_true rfl) ⟨by decide, by decide⟩ dX8_earns_67 ?_
      refine r_max Sx mw390 mw329 mw330 mw331 hl.1 (by decide) (Nat.le_of_ble_eq_true rfl) ⟨by decide, by decide⟩ dX8_earns_70 ?_
      refine r_iast Sx hW 18 0 rfl rfl (j := P) rfl (by omega) (by decide) dX8_earns_73 (ws' := (pOne cI cZ cN a T Q Ld Vd L (upA V 1 (upd (V 1) P (if (0 : Int32) < (if (((V 1) P) + p1) < (999 : Int32) then (((V 1) P) + p1) else (999 : Int32)) then (if (((V 1) P) + p1) < (999 : Int32) then (((V 1) P) + p1) else (999 : Int32)) else (0 : Int32)))) (pastS S (nI ((k + 1) % 10)) (nI (min 10 (y + 1)))) (upR R k (cpN V (R k))) C1 C2 Rn Wd Im K tr)) rfl (fun H locs hW => ?_)
      refine lv_aload_n hx hb dX8_earns_74 rfl (lv_at hl 0 rfl) ?_
      refine r_get Sx hW 0 rfl rfl bw_wsX80 2 (by decide) (v := .ref (a 12)) rfl mw23 dX8_earns_75 ?_
      refine r_get Sx hW 12 rfl rfl bw_wsX10 3 (by decide) (v := .ref (a 16)) rfl mw291 dX8_earns_78 ?_
      refine r_get Sx hW 16 rfl rfl bw_wsX20 1 (by decide) (v := .ref (a 18)) rfl mw293 dX8_earns_81 ?_
      refine lv_iload_n hx hb dX8_earns_84 rfl (lv_at hl 1 rfl) ?_
      refine r_iald Sx hW 18 0 (f := (upd (V 1) P (if (0 : Int32) < (if (((V 1) P) + p1) < (999 : Int32) then (((V 1) P) + p1) else (999 : Int32)) then (if (((V 1) P) + p1) < (999 : Int32) then (((V 1) P) + p1) else (999 : Int32)) else (0 : Int32)))) rfl rfl (j := P) rfl (by omega) (by decide) dX8_earns_85 ?_
      exact hret _ _ _ _ _ _ hW rfl rfl dX8_earns_86 (by have hok : ¬ inI (nI P) 0 (nI N - 1) = 0 ∧ ¬ inI p1 (-99) 99 = 0 := ⟨c_8, c_19⟩; exact ⟨by rw [if_pos hok, clP] <;> exact if_pos rfl, by rw [if_pos hok, clP] <;> rfl⟩)
    · refine lv_iconst (v := (-1 : Int32)) hx hb dX8_earns_22 rfl ?_
      exact hret _ _ _ _ _ _ hW rfl rfl dX8_earns_23 (by have hok : ¬ (¬ inI (nI P) 0 (nI N - 1) = 0 ∧ ¬ inI p1 (-99) 99 = 0) := fun h => h.2 c_19; exact ⟨by rw [if_neg hok], by rw [if_neg hok]⟩)

def nmV (V : NV) (P : Nat) (n : Int32) : NV := upA V 0 (upd (V 0) P n)

set_option maxHeartbeats 4000000 in
set_option maxRecDepth 100000 in
theorem c_X8_names (l : Launch) (D : va_G) (cI cZ cN : ClassId) (a : Nat → Nat) (T Q Ld Vd L V S : NV) (R : Nat → NV) (C1 C2 Rn Wd : NV) (Im : Nat → NV) (K : NV) (tr : Int64) (z N C k y z1 z2 : Nat) (hz : T 1 0 = nI z) (hz2 : z ≤ 200) (hN : L 3 1 = nI N) (hN7 : N ≤ 7) (hC : L 3 0 = nI C) (hC4 : C ≤ 4) (hC1 : 1 ≤ C) (hk : S 0 0 = nI k) (hk10 : k < 10) (hy : S 0 1 = nI y) (hy10 : y ≤ 10) (hc1 : C1 2 0 = nI z1) (hz16 : z1 ≤ 6) (hc2 : C2 2 0 = nI z2) (hz26 : z2 ≤ 6) (p0 p1 : Int32) : CtI l yX8_names cX8_names 4 (some .int) 3 D (tyG cI cZ cN) [.ref (a 0), .int p0, .int p1] (pOne cI cZ cN a T Q Ld Vd L V S R C1 C2 Rn Wd Im K tr) (fun r w => r = (if ¬ inI p0 0 (nI N - 1) = 0 ∧ ¬ inI p1 0 (nI C - 1) = 0 then V 0 p0.toNatClampNeg else -1) ∧ w = if ¬ inI p0 0 (nI N - 1) = 0 ∧ ¬ inI p1 0 (nI C - 1) = 0 then (pOne cI cZ cN a T Q Ld Vd L (nmV V p0.toNatClampNeg p1) (pastS S (nI ((k + 1) % 10)) (nI (min 10 (y + 1)))) (upR R k (cpN V (R k))) C1 C2 Rn Wd Im K tr) else (pOne cI cZ cN a T Q Ld Vd L V S R C1 C2 Rn Wd Im K tr)) := by
  refine CtI.of rfl (Nat.le_of_ble_eq_true rfl) ?_
  intro pg ev sx mx ax bx mt cx ls Qx Ax Sx hret hW hl
  have hx := Sx.1
  have hb := Sx.2.1
  have hl : lv_has ls 4 [(0, .ref (a 0)), (1, .int p0), (2, .int p1)] := hl
  refine lv_aload_n hx hb dX8_names_0 rfl (lv_at hl 0 rfl) ?_
  refine r_get Sx hW 0 rfl rfl bw_wsX80 2 (by decide) (v := .ref (a 12)) rfl mw23 dX8_names_1 ?_
  refine lv_iload_n hx hb dX8_names_4 rfl (lv_at hl 1 rfl) ?_
  refine callVI Sx hW (c_X1_hasPerson l D cI cZ cN (fun i => a (i + 12)) L V p0 N C hN hN7 hC hC4 hC1 ) vmX1_hasPerson mw297 [12, 13, 14, 15, 16, 17, 18, 19] rfl (by decide) 0 rfl rfl (As := [.int p0]) (rest := []) rfl rfl hl.1 (Nat.le_of_ble_eq_true rfl) ⟨Nat.le_of_ble_eq_true rfl, Nat.le_of_ble_eq_true rfl⟩ ⟨Nat.le_refl _, Nat.le_refl _⟩ dX8_names_5 (fun rx wx H locs hqx hW => ?_)
  obtain ⟨hrx, rfl⟩ := hqx
  have hW : AtC D (tyG cI cZ cN) Ax (pOne cI cZ cN a T Q Ld Vd L V S R C1 C2 Rn Wd Im K tr) sx H locs := hW.re [0, 1, 2, 3, 4, 5, 6, 7, 8, 9, 10, 11, 20, 21, 22, 23, 24, 25, 26, 27, 28, 29, 30, 31, 32, 33, 34, 35, 36, 37, 38, 39, 40, 41, 42, 43, 44, 45, 46, 47, 48, 49, 50, 51, 52, 53, 54, 55, 56, 57, 58, 59, 60, 61, 62, 63, 64, 65, 66, 67, 68, 69, 70, 71, 72, 73, 74, 75, 76, 77, 78, 79, 80, 81, 82, 83] 84 (by decide) rfl rfl ⟨rfl, rfl, rfl, rfl, rfl, rfl, rfl, rfl, rfl, rfl, rfl, rfl, rfl, rfl, rfl, rfl, rfl, rfl, rfl, rfl, rfl, rfl, rfl, rfl, rfl, rfl, rfl, rfl, rfl, rfl, rfl, rfl, rfl, rfl, rfl, rfl, rfl, rfl, rfl, rfl, rfl, rfl, rfl, rfl, rfl, rfl, rfl, rfl, rfl, rfl, rfl, rfl, rfl, rfl, rfl, rfl, rfl, rfl, rfl, rfl, rfl, rfl, rfl, rfl, rfl, rfl, rfl, rfl, rfl, rfl, rfl, rfl, rfl, rfl, rfl, rfl, trivial⟩ (by decide +kernel) rfl rfl
  refine r_eq (y := (inI (p0) 0 (nI (N) - 1))) hrx ?_
  refine lv_if_eq (tgt := 22) hx hb dX8_names_8 rfl (fun c_8 => ?_) (fun c_8 => ?_)
  · refine lv_iconst (v := (-1 : Int32)) hx hb dX8_names_22 rfl ?_
    exact hret _ _ _ _ _ _ hW rfl rfl dX8_names_23 (by have hok : ¬ (¬ inI p0 0 (nI N - 1) = 0 ∧ ¬ inI p1 0 (nI C - 1) = 0) := fun h => h.1 c_8; exact ⟨by rw [if_neg hok], by rw [if_neg hok]⟩)
  · obtain ⟨P, hP, rfl⟩ := inI_nat (nI_m1 (show N < 1000 by omega)) c_8
    have clP : (nI P).toNatClampNeg = P := nI_clamp (by omega)
    refine lv_aload_n hx hb dX8_names_11 rfl (lv_at hl 0 rfl) ?_
    refine r_get Sx hW 0 rfl rfl bw_wsX80 2 (by decide) (v := .ref (a 12)) rfl mw23 dX8_names_12 ?_
    refine lv_iload_n hx hb dX8_names_15 rfl (lv_at hl 2 rfl) ?_
    refine callVI Sx hW (c_X1_hasName l D cI cZ cN (fun i => a (i + 12)) L V p1 N C hN hN7 hC hC4 hC1 ) vmX1_hasName mw391 [12, 13, 14, 15, 16, 17, 18, 19] rfl (by decide) 0 rfl rfl (As := [.int p1]) (rest := []) rfl rfl hl.1 (Nat.le_of_ble_eq_true rfl) ⟨Nat.le_of_ble_eq_true rfl, Nat.le_of_ble_eq_true rfl⟩ ⟨Nat.le_refl _, Nat.le_refl _⟩ dX8_names_16 (fun rx wx H locs hqx hW => ?_)
    obtain ⟨hrx, rfl⟩ := hqx
    have hW : AtC D (tyG cI cZ cN) Ax (pOne cI cZ cN a T Q Ld Vd L V S R C1 C2 Rn Wd Im K tr) sx H locs := hW.re [0, 1, 2, 3, 4, 5, 6, 7, 8, 9, 10, 11, 20, 21, 22, 23, 24, 25, 26, 27, 28, 29, 30, 31, 32, 33, 34, 35, 36, 37, 38, 39, 40, 41, 42, 43, 44, 45, 46, 47, 48, 49, 50, 51, 52, 53, 54, 55, 56, 57, 58, 59, 60, 61, 62, 63, 64, 65, 66, 67, 68, 69, 70, 71, 72, 73, 74, 75, 76, 77, 78, 79, 80, 81, 82, 83] 84 (by decide) rfl rfl ⟨rfl, rfl, rfl, rfl, rfl, rfl, rfl, rfl, rfl, rfl, rfl, rfl, rfl, rfl, rfl, rfl, rfl, rfl, rfl, rfl, rfl, rfl, rfl, rfl, rfl, rfl, rfl, rfl, rfl, rfl, rfl, rfl, rfl, rfl, rfl, rfl, rfl, rfl, rfl, rfl, rfl, rfl, rfl, rfl, rfl, rfl, rfl, rfl, rfl, rfl, rfl, rfl, rfl, rfl, rfl, rfl, rfl, rfl, rfl, rfl, rfl, rfl, rfl, rfl, rfl, rfl, rfl, rfl, rfl, rfl, rfl, rfl, rfl, rfl, rfl, rfl, trivial⟩ (by decide +kernel) rfl rfl
    refine r_eq (y := (inI (p1) 0 (nI (C) - 1))) hrx ?_
    refine lv_if_ne (tgt := 24) hx hb dX8_names_19 rfl (fun c_19 => ?_) (fun c_19 => ?_)
    · refine lv_aload_n hx hb dX8_names_24 rfl (lv_at hl 0 rfl) ?_
      refine r_get Sx hW 0 rfl rfl bw_wsX80 3 (by decide) (v := .ref (a 20)) rfl mw27 dX8_names_25 ?_
      refine lv_aload_n hx hb dX8_names_28 rfl (lv_at hl 0 rfl) ?_
      refine r_get Sx hW 0 rfl rfl bw_wsX80 2 (by decide) (v := .ref (a 12)) rfl mw23 dX8_names_29 ?_
      refine r_get Sx hW 12 rfl rfl bw_wsX10 3 (by decide) (v := .ref (a 16)) rfl mw291 dX8_names_32 ?_
      refine callVV Sx hW (c_X3_remember l D cI cZ cN (fun i => a (i + 20)) (fun i => a (i + 16)) S R V k y hk hk10 ⟨hy, hy10⟩) vmX3_remember mw537 [20, 21, 22, 23, 24, 25, 26, 27, 28, 29, 30, 31, 32, 33, 34, 35, 36, 37, 38, 39, 40, 41, 42, 43, 44, 45, 46, 47, 48, 49, 50, 51, 52, 53, 54, 55, 56, 57, 58, 59, 60, 61, 16, 17, 18, 19] rfl (by decide) 0 rfl rfl (As := [.ref (a 16)]) (rest := []) rfl rfl hl.1 (Nat.le_of_ble_eq_true rfl) ⟨Nat.le_of_ble_eq_true rfl, Nat.le_of_ble_eq_true rfl⟩ ⟨Nat.le_refl _, Nat.le_refl _⟩ dX8_names_35 (fun wx H locs hqx hW => ?_)
      obtain rfl := hqx
      have hW : AtC D (tyG cI cZ cN) Ax (pOne cI cZ cN a T Q Ld Vd L V (pastS S (nI ((k + 1) % 10)) (nI (min 10 (y + 1)))) (upR R k (cpN V (R k))) C1 C2 Rn Wd Im K tr) sx H locs := hW.re [0, 1, 2, 3, 4, 5, 6, 7, 8, 9, 10, 11, 12, 13, 14, 15, 62, 63, 64, 65, 66, 67, 68, 69, 70, 71, 72, 73, 74, 75, 76, 77, 78, 79, 80, 81, 82, 83] 84 (by decide) rfl rfl ⟨rfl, rfl, rfl, rfl, rfl, rfl, rfl, rfl, rfl, rfl, rfl, rfl, rfl, rfl, rfl, rfl, rfl, rfl, rfl, rfl, rfl, rfl, rfl, rfl, rfl, rfl, rfl, rfl, rfl, rfl, rfl, rfl, rfl, rfl, rfl, rfl, rfl, rfl, trivial⟩ (by decide +kernel) rfl rfl
      refine lv_aload_n hx hb dX8_names_38 rfl (lv_at hl 0 rfl) ?_
      refine r_get Sx hW 0 rfl rfl bw_wsX80 2 (by decide) (v := .ref (a 12)) rfl mw23 dX8_names_39 ?_
      refine r_get Sx hW 12 rfl rfl bw_wsX10 3 (by decide) (v := .ref (a 16)) rfl mw291 dX8_names_42 ?_
      refine r_get Sx hW 16 rfl rfl bw_wsX20 0 (by decide) (v := .ref (a 17)) rfl mw292 dX8_names_45 ?_
      refine lv_iload_n hx hb dX8_names_48 rfl (lv_at hl 1 rfl) ?_
      refine r_iald Sx hW 17 0 rfl rfl (j := P) rfl (by omega) (by decide) dX8_names_49 ?_
      refine lv_istore_n (lv' := [(3, .int ((V 0) P)), (0, .ref (a 0)), (1, .int (nI P)), (2, .int p1)]) hx hb dX8_names_50 rfl hl (by decide) rfl (fun ls hl => ?_)
      refine lv_aload_n hx hb dX8_names_51 rfl (lv_at hl 1 rfl) ?_
      refine r_get Sx hW 0 rfl rfl bw_wsX80 2 (by decide) (v := .ref (a 12)) rfl mw23 dX8_names_52 ?_
      refine r_get Sx hW 12 rfl rfl bw_wsX10 3 (by decide) (v := .ref (a 16)) rfl mw291 dX8_names_55 ?_
      refine r_get Sx hW 16 rfl rfl bw_wsX20 0 (by decide) (v := .ref (a 17)) rfl mw292 dX8_names_58 ?_
      refine lv_iload_n hx hb dX8_names_61 rfl (lv_at hl 2 rfl) ?_
      refine lv_iload_n hx hb dX8_names_62 rfl (lv_at hl 3 rfl) ?_
      refine r_iast Sx hW 17 0 rfl rfl (j := P) rfl (by omega) (by decide) dX8_names_63 (ws' := (pOne cI cZ cN a T Q Ld Vd L (upA V 0 (upd (V 0) P p1)) (pastS S (nI ((k + 1) % 10)) (nI (min 10 (y + 1)))) (upR R k (cpN V (R k))) C1 C2 Rn Wd Im K tr)) rfl (fun H locs hW => ?_)
      refine lv_iload_n hx hb dX8_names_64 rfl (lv_at hl 0 rfl) ?_
      exact hret _ _ _ _ _ _ hW rfl rfl dX8_names_65 (by have hok : ¬ inI (nI P) 0 (nI N - 1) = 0 ∧ ¬ inI p1 0 (nI C - 1) = 0 := ⟨c_8, c_19⟩; exact ⟨by rw [if_pos hok, clP] <;> rfl, by rw [if_pos hok, clP] <;> rfl⟩)
    · refine lv_iconst (v := (-1 : Int32)) hx hb dX8_names_22 rfl ?_
      exact hret _ _ _ _ _ _ hW rfl rfl dX8_names_23 (by have hok : ¬ (¬ inI (nI P) 0 (nI N - 1) = 0 ∧ ¬ inI p1 0 (nI C - 1) = 0) := fun h => h.2 c_19; exact ⟨by rw [if_neg hok], by rw [if_neg hok]⟩)

def laV (V : NV) (n : Int32) : NV := upA V 3 (upd (V 3) 1 n)

set_option maxHeartbeats 4000000 in
set_option maxRecDepth 100000 in
theorem c_X8_laws (l : Launch) (D : va_G) (cI cZ cN : ClassId) (a : Nat → Nat) (T Q Ld Vd L V S : NV) (R : Nat → NV) (C1 C2 Rn Wd : NV) (Im : Nat → NV) (K : NV) (tr : Int64) (z N C k y z1 z2 : Nat) (hz : T 1 0 = nI z) (hz2 : z ≤ 200) (hN : L 3 1 = nI N) (hN7 : N ≤ 7) (hC : L 3 0 = nI C) (hC4 : C ≤ 4) (hC1 : 1 ≤ C) (hk : S 0 0 = nI k) (hk10 : k < 10) (hy : S 0 1 = nI y) (hy10 : y ≤ 10) (hc1 : C1 2 0 = nI z1) (hz16 : z1 ≤ 6) (hc2 : C2 2 0 = nI z2) (hz26 : z2 ≤ 6) (p0 : Int32) : CtI l yX8_laws cX8_laws 3 (some .int) 3 D (tyG cI cZ cN) [.ref (a 0), .int p0] (pOne cI cZ cN a T Q Ld Vd L V S R C1 C2 Rn Wd Im K tr) (fun r w => r = (if ¬ inI p0 0 15 = 0 then V 3 1 else -1) ∧ w = if ¬ inI p0 0 15 = 0 then (pOne cI cZ cN a T Q Ld Vd L (laV V p0) (pastS S (nI ((k + 1) % 10)) (nI (min 10 (y + 1)))) (upR R k (cpN V (R k))) C1 C2 Rn Wd Im K tr) else (pOne cI cZ cN a T Q Ld Vd L V S R C1 C2 Rn Wd Im K tr)) := by
  refine CtI.of rfl (Nat.le_of_ble_eq_true rfl) ?_
  intro pg ev sx mx ax bx mt cx ls Qx Ax Sx hret hW hl
  have hx := Sx.1
  have hb := Sx.2.1
  have hl : lv_has ls 3 [(0, .ref (a 0)), (1, .int p0)] := hl
  refine lv_iload_n hx hb dX8_laws_0 rfl (lv_at hl 1 rfl) ?_
  refine lv_iconst (v := (0 : Int32)) hx hb dX8_laws_1 rfl ?_
  refine lv_bipush (v := (15 : Int32)) hx hb dX8_laws_2 rfl ?_
  refine callSI Sx hW (c_X8_within l D cI cZ cN p0 (0 : Int32) (15 : Int32)) smX8_within mw137 (As := [.int p0, .int (0 : Int32), .int (15 : Int32)]) (rest := []) rfl rfl hl.1 (Nat.le_of_ble_eq_true rfl) ⟨Nat.le_of_ble_eq_true rfl, Nat.le_of_ble_eq_true rfl⟩ ⟨Nat.le_refl _, Nat.le_refl _⟩ dX8_laws_4 (fun rx H locs hqx hW => ?_)
  obtain ⟨hrx, -⟩ := hqx
  refine r_eq (y := (inI p0 (0 : Int32) (15 : Int32))) hrx ?_
  refine lv_if_ne (tgt := 12) hx hb dX8_laws_7 rfl (fun c_7 => ?_) (fun c_7 => ?_)
  · refine lv_aload_n hx hb dX8_laws_12 rfl (lv_at hl 0 rfl) ?_
    refine r_get Sx hW 0 rfl rfl bw_wsX80 3 (by decide) (v := .ref (a 20)) rfl mw27 dX8_laws_13 ?_
    refine lv_aload_n hx hb dX8_laws_16 rfl (lv_at hl 0 rfl) ?_
    refine r_get Sx hW 0 rfl rfl bw_wsX80 2 (by decide) (v := .ref (a 12)) rfl mw23 dX8_laws_17 ?_
    refine r_get Sx hW 12 rfl rfl bw_wsX10 3 (by decide) (v := .ref (a 16)) rfl mw291 dX8_laws_20 ?_
    refine callVV Sx hW (c_X3_remember l D cI cZ cN (fun i => a (i + 20)) (fun i => a (i + 16)) S R V k y hk hk10 ⟨hy, hy10⟩) vmX3_remember mw537 [20, 21, 22, 23, 24, 25, 26, 27, 28, 29, 30, 31, 32, 33, 34, 35, 36, 37, 38, 39, 40, 41, 42, 43, 44, 45, 46, 47, 48, 49, 50, 51, 52, 53, 54, 55, 56, 57, 58, 59, 60, 61, 16, 17, 18, 19] rfl (by decide) 0 rfl rfl (As := [.ref (a 16)]) (rest := []) rfl rfl hl.1 (Nat.le_of_ble_eq_true rfl) ⟨Nat.le_of_ble_eq_true rfl, Nat.le_of_ble_eq_true rfl⟩ ⟨Nat.le_refl _, Nat.le_refl _⟩ dX8_laws_23 (fun wx H locs hqx hW => ?_)
    obtain rfl := hqx
    have hW : AtC D (tyG cI cZ cN) Ax (pOne cI cZ cN a T Q Ld Vd L V (pastS S (nI ((k + 1) % 10)) (nI (min 10 (y + 1)))) (upR R k (cpN V (R k))) C1 C2 Rn Wd Im K tr) sx H locs := hW.re [0, 1, 2, 3, 4, 5, 6, 7, 8, 9, 10, 11, 12, 13, 14, 15, 62, 63, 64, 65, 66, 67, 68, 69, 70, 71, 72, 73, 74, 75, 76, 77, 78, 79, 80, 81, 82, 83] 84 (by decide) rfl rfl ⟨rfl, rfl, rfl, rfl, rfl, rfl, rfl, rfl, rfl, rfl, rfl, rfl, rfl, rfl, rfl, rfl, rfl, rfl, rfl, rfl, rfl, rfl, rfl, rfl, rfl, rfl, rfl, rfl, rfl, rfl, rfl, rfl, rfl, rfl, rfl, rfl, rfl, rfl, trivial⟩ (by decide +kernel) rfl rfl
    refine lv_aload_n hx hb dX8_laws_26 rfl (lv_at hl 0 rfl) ?_
    refine r_get Sx hW 0 rfl rfl bw_wsX80 2 (by decide) (v := .ref (a 12)) rfl mw23 dX8_laws_27 ?_
    refine r_get Sx hW 12 rfl rfl bw_wsX10 3 (by decide) (v := .ref (a 16)) rfl mw291 dX8_laws_30 ?_
    refine r_get Sx hW 16 rfl rfl bw_wsX20 4 (by decide) (v := .int (V 3 1)) rfl mw422 dX8_laws_33 ?_
    refine lv_istore_n (lv' := [(2, .int (V 3 1)), (0, .ref (a 0)), (1, .int p0)]) hx hb dX8_laws_36 rfl hl (by decide) rfl (fun ls hl => ?_)
    refine lv_aload_n hx hb dX8_laws_37 rfl (lv_at hl 1 rfl) ?_
    refine r_get Sx hW 0 rfl rfl bw_wsX80 2 (by decide) (v := .ref (a 12)) rfl mw23 dX8_laws_38 ?_
    refine r_get Sx hW 12 rfl rfl bw_wsX10 3 (by decide) (v := .ref (a 16)) rfl mw291 dX8_laws_41 ?_
    refine lv_iload_n hx hb dX8_laws_44 rfl (lv_at hl 2 rfl) ?_
    refine r_put Sx hW 16 rfl rfl bw_wsX20 tyX2_ok nmX2 4 (by decide) mw422 rfl rfl rfl (Nat.le_of_ble_eq_true rfl) dX8_laws_45 (ws' := (pOne cI cZ cN a T Q Ld Vd L (upA V 3 (upd (V 3) 1 p0)) (pastS S (nI ((k + 1) % 10)) (nI (min 10 (y + 1)))) (upR R k (cpN V (R k))) C1 C2 Rn Wd Im K tr)) rfl (fun H locs hW => ?_)
    refine lv_iload_n hx hb dX8_laws_48 rfl (lv_at hl 0 rfl) ?_
    exact hret _ _ _ _ _ _ hW rfl rfl dX8_laws_49 (by have hok : ¬ inI p0 0 15 = 0 := c_7; exact ⟨by rw [if_pos hok] <;> rfl, by rw [if_pos hok] <;> rfl⟩)
  · refine lv_iconst (v := (-1 : Int32)) hx hb dX8_laws_10 rfl ?_
    exact hret _ _ _ _ _ _ hW rfl rfl dX8_laws_11 (by have hok : ¬ (¬ inI p0 0 15 = 0) := fun h => h c_7; exact ⟨by rw [if_neg hok], by rw [if_neg hok]⟩)

set_option maxHeartbeats 4000000 in
set_option maxRecDepth 100000 in
theorem c_X8_year (l : Launch) (D : va_G) (cI cZ cN : ClassId) (a : Nat → Nat) (T Q Ld Vd L V S : NV) (R : Nat → NV) (C1 C2 Rn Wd : NV) (Im : Nat → NV) (K : NV) (tr : Int64) (z N C k y z1 z2 : Nat) (hz : T 1 0 = nI z) (hz2 : z ≤ 200) (hN : L 3 1 = nI N) (hN7 : N ≤ 7) (hC : L 3 0 = nI C) (hC4 : C ≤ 4) (hC1 : 1 ≤ C) (hk : S 0 0 = nI k) (hk10 : k < 10) (hy : S 0 1 = nI y) (hy10 : y ≤ 10) (hc1 : C1 2 0 = nI z1) (hz16 : z1 ≤ 6) (hc2 : C2 2 0 = nI z2) (hz26 : z2 ≤ 6) : CtI l yX8_year cX8_year 1 (some .int) 5 D (tyG cI cZ cN) [.ref (a 0)] (pOne cI cZ cN a T Q Ld Vd L V S R C1 C2 Rn Wd Im K tr) (fun r w => r = (if V 3 3 < 999 then pdF (duV L V N) N else -2) ∧ w = if V 3 3 < 999 then (pOne cI cZ cN a T Q Ld Vd (pyL L V N) (pyV L V N) (pastS S (nI ((k + 1) % 10)) (nI (min 10 (y + 1)))) (upR R k (cpN V (R k))) C1 C2 Rn Wd Im K tr) else (pOne cI cZ cN a T Q Ld Vd L V S R C1 C2 Rn Wd Im K tr)) := by
  refine CtI.of rfl (Nat.le_of_ble_eq_true rfl) ?_
  intro pg ev sx mx ax bx mt cx ls Qx Ax Sx hret hW hl
  have hx := Sx.1
  have hb := Sx.2.1
  have hl : lv_has ls 1 [(0, .ref (a 0))] := hl
  refine lv_aload_n hx hb dX8_year_0 rfl (lv_at hl 0 rfl) ?_
  refine r_get Sx hW 0 rfl rfl bw_wsX80 2 (by decide) (v := .ref (a 12)) rfl mw23 dX8_year_1 ?_
  refine r_get Sx hW 12 rfl rfl bw_wsX10 3 (by decide) (v := .ref (a 16)) rfl mw291 dX8_year_4 ?_
  refine r_get Sx hW 16 rfl rfl bw_wsX20 6 (by decide) (v := .int (V 3 3)) rfl mw478 dX8_year_7 ?_
  refine lv_sipush (v := (999 : Int32)) hx hb dX8_year_10 rfl ?_
  refine lv_icmp_lt (tgt := 19) hx hb dX8_year_13 rfl (fun c_13 => ?_) (fun c_13 => ?_)
  · refine lv_aload_n hx hb dX8_year_19 rfl (lv_at hl 0 rfl) ?_
    refine r_get Sx hW 0 rfl rfl bw_wsX80 3 (by decide) (v := .ref (a 20)) rfl mw27 dX8_year_20 ?_
    refine lv_aload_n hx hb dX8_year_23 rfl (lv_at hl 0 rfl) ?_
    refine r_get Sx hW 0 rfl rfl bw_wsX80 2 (by decide) (v := .ref (a 12)) rfl mw23 dX8_year_24 ?_
    refine r_get Sx hW 12 rfl rfl bw_wsX10 3 (by decide) (v := .ref (a 16)) rfl mw291 dX8_year_27 ?_
    refine callVV Sx hW (c_X3_remember l D cI cZ cN (fun i => a (i + 20)) (fun i => a (i + 16)) S R V k y hk hk10 ⟨hy, hy10⟩) vmX3_remember mw537 [20, 21, 22, 23, 24, 25, 26, 27, 28, 29, 30, 31, 32, 33, 34, 35, 36, 37, 38, 39, 40, 41, 42, 43, 44, 45, 46, 47, 48, 49, 50, 51, 52, 53, 54, 55, 56, 57, 58, 59, 60, 61, 16, 17, 18, 19] rfl (by decide) 0 rfl rfl (As := [.ref (a 16)]) (rest := []) rfl rfl hl.1 (Nat.le_of_ble_eq_true rfl) ⟨Nat.le_of_ble_eq_true rfl, Nat.le_of_ble_eq_true rfl⟩ ⟨Nat.le_refl _, Nat.le_refl _⟩ dX8_year_30 (fun wx H locs hqx hW => ?_)
    obtain rfl := hqx
    have hW : AtC D (tyG cI cZ cN) Ax (pOne cI cZ cN a T Q Ld Vd L V (pastS S (nI ((k + 1) % 10)) (nI (min 10 (y + 1)))) (upR R k (cpN V (R k))) C1 C2 Rn Wd Im K tr) sx H locs := hW.re [0, 1, 2, 3, 4, 5, 6, 7, 8, 9, 10, 11, 12, 13, 14, 15, 62, 63, 64, 65, 66, 67, 68, 69, 70, 71, 72, 73, 74, 75, 76, 77, 78, 79, 80, 81, 82, 83] 84 (by decide) rfl rfl ⟨rfl, rfl, rfl, rfl, rfl, rfl, rfl, rfl, rfl, rfl, rfl, rfl, rfl, rfl, rfl, rfl, rfl, rfl, rfl, rfl, rfl, rfl, rfl, rfl, rfl, rfl, rfl, rfl, rfl, rfl, rfl, rfl, rfl, rfl, rfl, rfl, rfl, rfl, trivial⟩ (by decide +kernel) rfl rfl
    refine lv_aload_n hx hb dX8_year_33 rfl (lv_at hl 0 rfl) ?_
    refine r_get Sx hW 0 rfl rfl bw_wsX80 2 (by decide) (v := .ref (a 12)) rfl mw23 dX8_year_34 ?_
    refine callVI Sx hW (c_X1_payTax l D cI cZ cN (fun i => a (i + 12)) L V N C hN hN7 hC hC4 hC1) vmX1_payTax mw590 [12, 13, 14, 15, 16, 17, 18, 19] rfl (by decide) 0 rfl rfl (As := []) (rest := []) rfl rfl hl.1 (Nat.le_of_ble_eq_true rfl) ⟨Nat.le_of_ble_eq_true rfl, Nat.le_of_ble_eq_true rfl⟩ ⟨Nat.le_refl _, Nat.le_refl _⟩ dX8_year_37 (fun rx wx H locs hqx hW => ?_)
    obtain ⟨hrx, rfl⟩ := hqx
    have hW : AtC D (tyG cI cZ cN) Ax (pOne cI cZ cN a T Q Ld Vd (pyL L V N) (pyV L V N) (pastS S (nI ((k + 1) % 10)) (nI (min 10 (y + 1)))) (upR R k (cpN V (R k))) C1 C2 Rn Wd Im K tr) sx H locs := hW.re [0, 1, 2, 3, 4, 5, 6, 7, 8, 9, 10, 11, 20, 21, 22, 23, 24, 25, 26, 27, 28, 29, 30, 31, 32, 33, 34, 35, 36, 37, 38, 39, 40, 41, 42, 43, 44, 45, 46, 47, 48, 49, 50, 51, 52, 53, 54, 55, 56, 57, 58, 59, 60, 61, 62, 63, 64, 65, 66, 67, 68, 69, 70, 71, 72, 73, 74, 75, 76, 77, 78, 79, 80, 81, 82, 83] 84 (by decide) rfl rfl ⟨rfl, rfl, rfl, rfl, rfl, rfl, rfl, rfl, rfl, rfl, rfl, rfl, rfl, rfl, rfl, rfl, rfl, rfl, rfl, rfl, rfl, rfl, rfl, rfl, rfl, rfl, rfl, rfl, rfl, rfl, rfl, rfl, rfl, rfl, rfl, rfl, rfl, rfl, rfl, rfl, rfl, rfl, rfl, rfl, rfl, rfl, rfl, rfl, rfl, rfl, rfl, rfl, rfl, rfl, rfl, rfl, rfl, rfl, rfl, rfl, rfl, rfl, rfl, rfl, rfl, rfl, rfl, rfl, rfl, rfl, rfl, rfl, rfl, rfl, rfl, rfl, trivial⟩ (by decide +kernel) rfl rfl
    refine r_eq (y := (pdF (duV L V N) N)) hrx ?_
    exact hret _ _ _ _ _ _ hW rfl rfl dX8_year_40 (by have hok : V 3 3 < 999 := c_13; exact ⟨by rw [if_pos hok] <;> rfl, by rw [if_pos hok] <;> rfl⟩)
  · refine lv_bipush (v := (-2 : Int32)) hx hb dX8_year_16 rfl ?_
    exact hret _ _ _ _ _ _ hW rfl rfl dX8_year_18 (by have hok : ¬ (V 3 3 < 999) := fun h => c_13 h; exact ⟨by rw [if_neg hok], by rw [if_neg hok]⟩)

set_option maxHeartbeats 4000000 in
set_option maxRecDepth 100000 in
theorem c_X8_undo (l : Launch) (D : va_G) (cI cZ cN : ClassId) (a : Nat → Nat) (T Q Ld Vd L V S : NV) (R : Nat → NV) (C1 C2 Rn Wd : NV) (Im : Nat → NV) (K : NV) (tr : Int64) (z N C k y z1 z2 : Nat) (hz : T 1 0 = nI z) (hz2 : z ≤ 200) (hN : L 3 1 = nI N) (hN7 : N ≤ 7) (hC : L 3 0 = nI C) (hC4 : C ≤ 4) (hC1 : 1 ≤ C) (hk : S 0 0 = nI k) (hk10 : k < 10) (hy : S 0 1 = nI y) (hy10 : y ≤ 10) (hc1 : C1 2 0 = nI z1) (hz16 : z1 ≤ 6) (hc2 : C2 2 0 = nI z2) (hz26 : z2 ≤ 6) : CtI l yX8_undo cX8_undo 1 (some .int) 3 D (tyG cI cZ cN) [.ref (a 0)] (pOne cI cZ cN a T Q Ld Vd L V S R C1 C2 Rn Wd Im K tr) (fun r w => r = (if 0 < nI y then nI (y - 1) else -2) ∧ w = if 0 < nI y then (pOne cI cZ cN a T Q Ld Vd L (cpN (R ((k + 9) % 10)) V) (pastS S (nI ((k + 9) % 10)) (nI (y - 1))) R C1 C2 Rn Wd Im K tr) else (pOne cI cZ cN a T Q Ld Vd L V S R C1 C2 Rn Wd Im K tr)) := by
  refine CtI.of rfl (Nat.le_of_ble_eq_true rfl) ?_
  intro pg ev sx mx ax bx mt cx ls Qx Ax Sx hret hW hl
  have hx := Sx.1
  have hb := Sx.2.1
  have hl : lv_has ls 1 [(0, .ref (a 0))] := hl
  refine lv_aload_n hx hb dX8_undo_0 rfl (lv_at hl 0 rfl) ?_
  refine r_get Sx hW 0 rfl rfl bw_wsX80 3 (by decide) (v := .ref (a 20)) rfl mw27 dX8_undo_1 ?_
  refine r_get Sx hW 20 rfl rfl bw_wsX30 2 (by decide) (v := .int (S 0 1)) rfl mw162 dX8_undo_4 ?_
  refine r_eq (y := (nI y)) hy ?_
  refine lv_if_gt (tgt := 13) hx hb dX8_undo_7 rfl (fun c_7 => ?_) (fun c_7 => ?_)
  · have y1 : 1 ≤ y := (nI_ltI (a := 0) (b := y) (by decide) (by omega)).mp c_7
    refine lv_aload_n hx hb dX8_undo_13 rfl (lv_at hl 0 rfl) ?_
    refine r_get Sx hW 0 rfl rfl bw_wsX80 3 (by decide) (v := .ref (a 20)) rfl mw27 dX8_undo_14 ?_
    refine lv_aload_n hx hb dX8_undo_17 rfl (lv_at hl 0 rfl) ?_
    refine r_get Sx hW 0 rfl rfl bw_wsX80 2 (by decide) (v := .ref (a 12)) rfl mw23 dX8_undo_18 ?_
    refine r_get Sx hW 12 rfl rfl bw_wsX10 3 (by decide) (v := .ref (a 16)) rfl mw291 dX8_undo_21 ?_
    refine callVV Sx hW (c_X3_recall l D cI cZ cN (fun i => a (i + 20)) (fun i => a (i + 16)) S R V k y hk hk10 ⟨hy, y1, hy10⟩) vmX3_recall mw605 [20, 21, 22, 23, 24, 25, 26, 27, 28, 29, 30, 31, 32, 33, 34, 35, 36, 37, 38, 39, 40, 41, 42, 43, 44, 45, 46, 47, 48, 49, 50, 51, 52, 53, 54, 55, 56, 57, 58, 59, 60, 61, 16, 17, 18, 19] rfl (by decide) 0 rfl rfl (As := [.ref (a 16)]) (rest := []) rfl rfl hl.1 (Nat.le_of_ble_eq_true rfl) ⟨Nat.le_of_ble_eq_true rfl, Nat.le_of_ble_eq_true rfl⟩ ⟨Nat.le_refl _, Nat.le_refl _⟩ dX8_undo_24 (fun wx H locs hqx hW => ?_)
    obtain rfl := hqx
    have hW : AtC D (tyG cI cZ cN) Ax (pOne cI cZ cN a T Q Ld Vd L (cpN (R ((k + 9) % 10)) V) (pastS S (nI ((k + 9) % 10)) (nI (y - 1))) R C1 C2 Rn Wd Im K tr) sx H locs := hW.re [0, 1, 2, 3, 4, 5, 6, 7, 8, 9, 10, 11, 12, 13, 14, 15, 62, 63, 64, 65, 66, 67, 68, 69, 70, 71, 72, 73, 74, 75, 76, 77, 78, 79, 80, 81, 82, 83] 84 (by decide) rfl rfl ⟨rfl, rfl, rfl, rfl, rfl, rfl, rfl, rfl, rfl, rfl, rfl, rfl, rfl, rfl, rfl, rfl, rfl, rfl, rfl, rfl, rfl, rfl, rfl, rfl, rfl, rfl, rfl, rfl, rfl, rfl, rfl, rfl, rfl, rfl, rfl, rfl, rfl, rfl, trivial⟩ (by decide +kernel) rfl rfl
    refine lv_aload_n hx hb dX8_undo_27 rfl (lv_at hl 0 rfl) ?_
    refine r_get Sx hW 0 rfl rfl bw_wsX80 3 (by decide) (v := .ref (a 20)) rfl mw27 dX8_undo_28 ?_
    refine r_get Sx hW 20 rfl rfl bw_wsX30 2 (by decide) (v := .int ((pastS S (nI ((k + 9) % 10)) (nI (y - 1))) 0 1)) rfl mw162 dX8_undo_31 ?_
    exact hret _ _ _ _ _ _ hW rfl rfl dX8_undo_34 (by have hok : 0 < nI y := c_7; exact ⟨by rw [if_pos hok] <;> rfl, by rw [if_pos hok] <;> rfl⟩)
  · refine lv_bipush (v := (-2 : Int32)) hx hb dX8_undo_10 rfl ?_
    exact hret _ _ _ _ _ _ hW rfl rfl dX8_undo_12 (by have hok : ¬ (0 < nI y) := fun h => c_7 h; exact ⟨by rw [if_neg hok], by rw [if_neg hok]⟩)

set_option maxHeartbeats 4000000 in
set_option maxRecDepth 100000 in
theorem c_X8_tells (l : Launch) (D : va_G) (cI cZ cN : ClassId) (a : Nat → Nat) (T Q Ld Vd L V S : NV) (R : Nat → NV) (C1 C2 Rn Wd : NV) (Im : Nat → NV) (K : NV) (tr : Int64) (z N C k y z1 z2 : Nat) (hz : T 1 0 = nI z) (hz2 : z ≤ 200) (hN : L 3 1 = nI N) (hN7 : N ≤ 7) (hC : L 3 0 = nI C) (hC4 : C ≤ 4) (hC1 : 1 ≤ C) (hk : S 0 0 = nI k) (hk10 : k < 10) (hy : S 0 1 = nI y) (hy10 : y ≤ 10) (hc1 : C1 2 0 = nI z1) (hz16 : z1 ≤ 6) (hc2 : C2 2 0 = nI z2) (hz26 : z2 ≤ 6) (p0 p1 : Int32) : CtI l yX8_tells cX8_tells 3 (some .int) 2 D (tyG cI cZ cN) [.ref (a 0), .int p0, .int p1] (pOne cI cZ cN a T Q Ld Vd L V S R C1 C2 Rn Wd Im K tr) (fun r w => r = (if ¬ inI p0 0 (nI N - 1) = 0 ∧ ¬ inI p1 0 1 = 0 then addR z1 else -1) ∧ w = if ¬ inI p0 0 (nI N - 1) = 0 ∧ ¬ inI p1 0 1 = 0 then (pOne cI cZ cN a T Q Ld Vd L V S R (addS C1 p0 p1 z1) C2 Rn Wd Im K tr) else (pOne cI cZ cN a T Q Ld Vd L V S R C1 C2 Rn Wd Im K tr)) := by
  refine CtI.of rfl (Nat.le_of_ble_eq_true rfl) ?_
  intro pg ev sx mx ax bx mt cx ls Qx Ax Sx hret hW hl
  have hx := Sx.1
  have hb := Sx.2.1
  have hl : lv_has ls 3 [(0, .ref (a 0)), (1, .int p0), (2, .int p1)] := hl
  refine lv_aload_n hx hb dX8_tells_0 rfl (lv_at hl 0 rfl) ?_
  refine r_get Sx hW 0 rfl rfl bw_wsX80 2 (by decide) (v := .ref (a 12)) rfl mw23 dX8_tells_1 ?_
  refine lv_iload_n hx hb dX8_tells_4 rfl (lv_at hl 1 rfl) ?_
  refine callVI Sx hW (c_X1_hasPerson l D cI cZ cN (fun i => a (i + 12)) L V p0 N C hN hN7 hC hC4 hC1 ) vmX1_hasPerson mw297 [12, 13, 14, 15, 16, 17, 18, 19] rfl (by decide) 0 rfl rfl (As := [.int p0]) (rest := []) rfl rfl hl.1 (Nat.le_of_ble_eq_true rfl) ⟨Nat.le_of_ble_eq_true rfl, Nat.le_of_ble_eq_true rfl⟩ ⟨Nat.le_refl _, Nat.le_refl _⟩ dX8_tells_5 (fun rx wx H locs hqx hW => ?_)
  obtain ⟨hrx, rfl⟩ := hqx
  have hW : AtC D (tyG cI cZ cN) Ax (pOne cI cZ cN a T Q Ld Vd L V S R C1 C2 Rn Wd Im K tr) sx H locs := hW.re [0, 1, 2, 3, 4, 5, 6, 7, 8, 9, 10, 11, 20, 21, 22, 23, 24, 25, 26, 27, 28, 29, 30, 31, 32, 33, 34, 35, 36, 37, 38, 39, 40, 41, 42, 43, 44, 45, 46, 47, 48, 49, 50, 51, 52, 53, 54, 55, 56, 57, 58, 59, 60, 61, 62, 63, 64, 65, 66, 67, 68, 69, 70, 71, 72, 73, 74, 75, 76, 77, 78, 79, 80, 81, 82, 83] 84 (by decide) rfl rfl ⟨rfl, rfl, rfl, rfl, rfl, rfl, rfl, rfl, rfl, rfl, rfl, rfl, rfl, rfl, rfl, rfl, rfl, rfl, rfl, rfl, rfl, rfl, rfl, rfl, rfl, rfl, rfl, rfl, rfl, rfl, rfl, rfl, rfl, rfl, rfl, rfl, rfl, rfl, rfl, rfl, rfl, rfl, rfl, rfl, rfl, rfl, rfl, rfl, rfl, rfl, rfl, rfl, rfl, rfl, rfl, rfl, rfl, rfl, rfl, rfl, rfl, rfl, rfl, rfl, rfl, rfl, rfl, rfl, rfl, rfl, rfl, rfl, rfl, rfl, rfl, rfl, trivial⟩ (by decide +kernel) rfl rfl
  refine r_eq (y := (inI (p0) 0 (nI (N) - 1))) hrx ?_
  refine lv_if_eq (tgt := 20) hx hb dX8_tells_8 rfl (fun c_8 => ?_) (fun c_8 => ?_)
  · refine lv_iconst (v := (-1 : Int32)) hx hb dX8_tells_20 rfl ?_
    exact hret _ _ _ _ _ _ hW rfl rfl dX8_tells_21 (by have hok : ¬ (¬ inI p0 0 (nI N - 1) = 0 ∧ ¬ inI p1 0 1 = 0) := fun h => h.1 c_8; exact ⟨by rw [if_neg hok], by rw [if_neg hok]⟩)
  · refine lv_iload_n hx hb dX8_tells_11 rfl (lv_at hl 2 rfl) ?_
    refine lv_iconst (v := (0 : Int32)) hx hb dX8_tells_12 rfl ?_
    refine lv_iconst (v := (1 : Int32)) hx hb dX8_tells_13 rfl ?_
    refine callSI Sx hW (c_X8_within l D cI cZ cN p1 (0 : Int32) (1 : Int32)) smX8_within mw137 (As := [.int p1, .int (0 : Int32), .int (1 : Int32)]) (rest := []) rfl rfl hl.1 (Nat.le_of_ble_eq_true rfl) ⟨Nat.le_of_ble_eq_true rfl, Nat.le_of_ble_eq_true rfl⟩ ⟨Nat.le_refl _, Nat.le_refl _⟩ dX8_tells_14 (fun rx H locs hqx hW => ?_)
    obtain ⟨hrx, -⟩ := hqx
    refine r_eq (y := (inI p1 (0 : Int32) (1 : Int32))) hrx ?_
    refine lv_if_ne (tgt := 22) hx hb dX8_tells_17 rfl (fun c_17 => ?_) (fun c_17 => ?_)
    · refine lv_aload_n hx hb dX8_tells_22 rfl (lv_at hl 0 rfl) ?_
      refine r_get Sx hW 0 rfl rfl bw_wsX80 4 (by decide) (v := .ref (a 62)) rfl mw31 dX8_tells_23 ?_
      refine lv_iload_n hx hb dX8_tells_26 rfl (lv_at hl 1 rfl) ?_
      refine lv_iload_n hx hb dX8_tells_27 rfl (lv_at hl 2 rfl) ?_
      refine callVI Sx hW (c_X0_add l D cI cZ cN (fun i => a (i + 62)) C1 p0 p1 z1 hc1 hz16) vmX0_add mw663 [62, 63, 64] rfl (by decide) 0 rfl rfl (As := [.int p0, .int p1]) (rest := []) rfl rfl hl.1 (Nat.le_of_ble_eq_true rfl) ⟨Nat.le_of_ble_eq_true rfl, Nat.le_of_ble_eq_true rfl⟩ ⟨Nat.le_refl _, Nat.le_refl _⟩ dX8_tells_28 (fun rx wx H locs hqx hW => ?_)
      obtain ⟨hrx, rfl⟩ := hqx
      have hW : AtC D (tyG cI cZ cN) Ax (pOne cI cZ cN a T Q Ld Vd L V S R (addS C1 p0 p1 z1) C2 Rn Wd Im K tr) sx H locs := hW.re [0, 1, 2, 3, 4, 5, 6, 7, 8, 9, 10, 11, 12, 13, 14, 15, 16, 17, 18, 19, 20, 21, 22, 23, 24, 25, 26, 27, 28, 29, 30, 31, 32, 33, 34, 35, 36, 37, 38, 39, 40, 41, 42, 43, 44, 45, 46, 47, 48, 49, 50, 51, 52, 53, 54, 55, 56, 57, 58, 59, 60, 61, 65, 66, 67, 68, 69, 70, 71, 72, 73, 74, 75, 76, 77, 78, 79, 80, 81, 82, 83] 84 (by decide) rfl rfl ⟨rfl, rfl, rfl, rfl, rfl, rfl, rfl, rfl, rfl, rfl, rfl, rfl, rfl, rfl, rfl, rfl, rfl, rfl, rfl, rfl, rfl, rfl, rfl, rfl, rfl, rfl, rfl, rfl, rfl, rfl, rfl, rfl, rfl, rfl, rfl, rfl, rfl, rfl, rfl, rfl, rfl, rfl, rfl, rfl, rfl, rfl, rfl, rfl, rfl, rfl, rfl, rfl, rfl, rfl, rfl, rfl, rfl, rfl, rfl, rfl, rfl, rfl, rfl, rfl, rfl, rfl, rfl, rfl, rfl, rfl, rfl, rfl, rfl, rfl, rfl, rfl, rfl, rfl, rfl, rfl, rfl, trivial⟩ (by decide +kernel) rfl rfl
      refine r_eq (y := (addR z1)) hrx ?_
      exact hret _ _ _ _ _ _ hW rfl rfl dX8_tells_31 (by have hok : ¬ inI p0 0 (nI N - 1) = 0 ∧ ¬ inI p1 0 1 = 0 := ⟨c_8, c_17⟩; exact ⟨by rw [if_pos hok] <;> rfl, by rw [if_pos hok] <;> rfl⟩)
    · refine lv_iconst (v := (-1 : Int32)) hx hb dX8_tells_20 rfl ?_
      exact hret _ _ _ _ _ _ hW rfl rfl dX8_tells_21 (by have hok : ¬ (¬ inI p0 0 (nI N - 1) = 0 ∧ ¬ inI p1 0 1 = 0) := fun h => h.2 c_17; exact ⟨by rw [if_neg hok], by rw [if_neg hok]⟩)

set_option maxHeartbeats 4000000 in
set_option maxRecDepth 100000 in
theorem c_X8_record (l : Launch) (D : va_G) (cI cZ cN : ClassId) (a : Nat → Nat) (T Q Ld Vd L V S : NV) (R : Nat → NV) (C1 C2 Rn Wd : NV) (Im : Nat → NV) (K : NV) (tr : Int64) (z N C k y z1 z2 : Nat) (hz : T 1 0 = nI z) (hz2 : z ≤ 200) (hN : L 3 1 = nI N) (hN7 : N ≤ 7) (hC : L 3 0 = nI C) (hC4 : C ≤ 4) (hC1 : 1 ≤ C) (hk : S 0 0 = nI k) (hk10 : k < 10) (hy : S 0 1 = nI y) (hy10 : y ≤ 10) (hc1 : C1 2 0 = nI z1) (hz16 : z1 ≤ 6) (hc2 : C2 2 0 = nI z2) (hz26 : z2 ≤ 6) (p0 p1 : Int32) : CtI l yX8_record cX8_record 3 (some .int) 2 D (tyG cI cZ cN) [.ref (a 0), .int p0, .int p1] (pOne cI cZ cN a T Q Ld Vd L V S R C1 C2 Rn Wd Im K tr) (fun r w => r = (if ¬ inI p0 0 4 = 0 ∧ ¬ inI p1 0 1 = 0 then addR z2 else -1) ∧ w = if ¬ inI p0 0 4 = 0 ∧ ¬ inI p1 0 1 = 0 then (pOne cI cZ cN a T Q Ld Vd L V S R C1 (addS C2 p0 p1 z2) Rn Wd Im K tr) else (pOne cI cZ cN a T Q Ld Vd L V S R C1 C2 Rn Wd Im K tr)) := by
  refine CtI.of rfl (Nat.le_of_ble_eq_true rfl) ?_
  intro pg ev sx mx ax bx mt cx ls Qx Ax Sx hret hW hl
  have hx := Sx.1
  have hb := Sx.2.1
  have hl : lv_has ls 3 [(0, .ref (a 0)), (1, .int p0), (2, .int p1)] := hl
  refine lv_iload_n hx hb dX8_record_0 rfl (lv_at hl 1 rfl) ?_
  refine lv_iconst (v := (0 : Int32)) hx hb dX8_record_1 rfl ?_
  refine lv_iconst (v := (4 : Int32)) hx hb dX8_record_2 rfl ?_
  refine callSI Sx hW (c_X8_within l D cI cZ cN p0 (0 : Int32) (4 : Int32)) smX8_within mw137 (As := [.int p0, .int (0 : Int32), .int (4 : Int32)]) (rest := []) rfl rfl hl.1 (Nat.le_of_ble_eq_true rfl) ⟨Nat.le_of_ble_eq_true rfl, Nat.le_of_ble_eq_true rfl⟩ ⟨Nat.le_refl _, Nat.le_refl _⟩ dX8_record_3 (fun rx H locs hqx hW => ?_)
  obtain ⟨hrx, -⟩ := hqx
  refine r_eq (y := (inI p0 (0 : Int32) (4 : Int32))) hrx ?_
  refine lv_if_eq (tgt := 18) hx hb dX8_record_6 rfl (fun c_6 => ?_) (fun c_6 => ?_)
  · refine lv_iconst (v := (-1 : Int32)) hx hb dX8_record_18 rfl ?_
    exact hret _ _ _ _ _ _ hW rfl rfl dX8_record_19 (by have hok : ¬ (¬ inI p0 0 4 = 0 ∧ ¬ inI p1 0 1 = 0) := fun h => h.1 c_6; exact ⟨by rw [if_neg hok], by rw [if_neg hok]⟩)
  · refine lv_iload_n hx hb dX8_record_9 rfl (lv_at hl 2 rfl) ?_
    refine lv_iconst (v := (0 : Int32)) hx hb dX8_record_10 rfl ?_
    refine lv_iconst (v := (1 : Int32)) hx hb dX8_record_11 rfl ?_
    refine callSI Sx hW (c_X8_within l D cI cZ cN p1 (0 : Int32) (1 : Int32)) smX8_within mw137 (As := [.int p1, .int (0 : Int32), .int (1 : Int32)]) (rest := []) rfl rfl hl.1 (Nat.le_of_ble_eq_true rfl) ⟨Nat.le_of_ble_eq_true rfl, Nat.le_of_ble_eq_true rfl⟩ ⟨Nat.le_refl _, Nat.le_refl _⟩ dX8_record_12 (fun rx H locs hqx hW => ?_)
    obtain ⟨hrx, -⟩ := hqx
    refine r_eq (y := (inI p1 (0 : Int32) (1 : Int32))) hrx ?_
    refine lv_if_ne (tgt := 20) hx hb dX8_record_15 rfl (fun c_15 => ?_) (fun c_15 => ?_)
    · refine lv_aload_n hx hb dX8_record_20 rfl (lv_at hl 0 rfl) ?_
      refine r_get Sx hW 0 rfl rfl bw_wsX80 5 (by decide) (v := .ref (a 65)) rfl mw32 dX8_record_21 ?_
      refine lv_iload_n hx hb dX8_record_24 rfl (lv_at hl 1 rfl) ?_
      refine lv_iload_n hx hb dX8_record_25 rfl (lv_at hl 2 rfl) ?_
      refine callVI Sx hW (c_X0_add l D cI cZ cN (fun i => a (i + 65)) C2 p0 p1 z2 hc2 hz26) vmX0_add mw663 [65, 66, 67] rfl (by decide) 0 rfl rfl (As := [.int p0, .int p1]) (rest := []) rfl rfl hl.1 (Nat.le_of_ble_eq_true rfl) ⟨Nat.le_of_ble_eq_true rfl, Nat.le_of_ble_eq_true rfl⟩ ⟨Nat.le_refl _, Nat.le_refl _⟩ dX8_record_26 (fun rx wx H locs hqx hW => ?_)
      obtain ⟨hrx, rfl⟩ := hqx
      have hW : AtC D (tyG cI cZ cN) Ax (pOne cI cZ cN a T Q Ld Vd L V S R C1 (addS C2 p0 p1 z2) Rn Wd Im K tr) sx H locs := hW.re [0, 1, 2, 3, 4, 5, 6, 7, 8, 9, 10, 11, 12, 13, 14, 15, 16, 17, 18, 19, 20, 21, 22, 23, 24, 25, 26, 27, 28, 29, 30, 31, 32, 33, 34, 35, 36, 37, 38, 39, 40, 41, 42, 43, 44, 45, 46, 47, 48, 49, 50, 51, 52, 53, 54, 55, 56, 57, 58, 59, 60, 61, 62, 63, 64, 68, 69, 70, 71, 72, 73, 74, 75, 76, 77, 78, 79, 80, 81, 82, 83] 84 (by decide) rfl rfl ⟨rfl, rfl, rfl, rfl, rfl, rfl, rfl, rfl, rfl, rfl, rfl, rfl, rfl, rfl, rfl, rfl, rfl, rfl, rfl, rfl, rfl, rfl, rfl, rfl, rfl, rfl, rfl, rfl, rfl, rfl, rfl, rfl, rfl, rfl, rfl, rfl, rfl, rfl, rfl, rfl, rfl, rfl, rfl, rfl, rfl, rfl, rfl, rfl, rfl, rfl, rfl, rfl, rfl, rfl, rfl, rfl, rfl, rfl, rfl, rfl, rfl, rfl, rfl, rfl, rfl, rfl, rfl, rfl, rfl, rfl, rfl, rfl, rfl, rfl, rfl, rfl, rfl, rfl, rfl, rfl, rfl, trivial⟩ (by decide +kernel) rfl rfl
      refine r_eq (y := (addR z2)) hrx ?_
      exact hret _ _ _ _ _ _ hW rfl rfl dX8_record_29 (by have hok : ¬ inI p0 0 4 = 0 ∧ ¬ inI p1 0 1 = 0 := ⟨c_6, c_15⟩; exact ⟨by rw [if_pos hok] <;> rfl, by rw [if_pos hok] <;> rfl⟩)
    · refine lv_iconst (v := (-1 : Int32)) hx hb dX8_record_18 rfl ?_
      exact hret _ _ _ _ _ _ hW rfl rfl dX8_record_19 (by have hok : ¬ (¬ inI p0 0 4 = 0 ∧ ¬ inI p1 0 1 = 0) := fun h => h.2 c_15; exact ⟨by rw [if_neg hok], by rw [if_neg hok]⟩)

set_option maxHeartbeats 4000000 in
set_option maxRecDepth 100000 in
theorem c_X8_forget (l : Launch) (D : va_G) (cI cZ cN : ClassId) (a : Nat → Nat) (T Q Ld Vd L V S : NV) (R : Nat → NV) (C1 C2 Rn Wd : NV) (Im : Nat → NV) (K : NV) (tr : Int64) (z N C k y z1 z2 : Nat) (hz : T 1 0 = nI z) (hz2 : z ≤ 200) (hN : L 3 1 = nI N) (hN7 : N ≤ 7) (hC : L 3 0 = nI C) (hC4 : C ≤ 4) (hC1 : 1 ≤ C) (hk : S 0 0 = nI k) (hk10 : k < 10) (hy : S 0 1 = nI y) (hy10 : y ≤ 10) (hc1 : C1 2 0 = nI z1) (hz16 : z1 ≤ 6) (hc2 : C2 2 0 = nI z2) (hz26 : z2 ≤ 6) : CtI l yX8_forget cX8_forget 2 (some .int) 0 D (tyG cI cZ cN) [.ref (a 0)] (pOne cI cZ cN a T Q Ld Vd L V S R C1 C2 Rn Wd Im K tr) (fun r w => r = nI (z1 + z2) ∧ w = (pOne cI cZ cN a T Q Ld Vd L V S R (zeC C1) (zeC C2) Rn Wd Im K tr)) := by
  refine CtI.of rfl (Nat.le_of_ble_eq_true rfl) ?_
  intro pg ev sx mx ax bx mt cx ls Qx Ax Sx hret hW hl
  have hx := Sx.1
  have hb := Sx.2.1
  have hl : lv_has ls 2 [(0, .ref (a 0))] := hl
  refine lv_aload_n hx hb dX8_forget_0 rfl (lv_at hl 0 rfl) ?_
  refine r_get Sx hW 0 rfl rfl bw_wsX80 4 (by decide) (v := .ref (a 62)) rfl mw31 dX8_forget_1 ?_
  refine r_get Sx hW 62 rfl rfl bw_wsX00 2 (by decide) (v := .int (C1 2 0)) rfl mw163 dX8_forget_4 ?_
  refine r_eq (y := (nI z1)) hc1 ?_
  refine lv_aload_n hx hb dX8_forget_7 rfl (lv_at hl 0 rfl) ?_
  refine r_get Sx hW 0 rfl rfl bw_wsX80 5 (by decide) (v := .ref (a 65)) rfl mw32 dX8_forget_8 ?_
  refine r_get Sx hW 65 rfl rfl bw_wsX00 2 (by decide) (v := .int (C2 2 0)) rfl mw163 dX8_forget_11 ?_
  refine r_eq (y := (nI z2)) hc2 ?_
  refine lv_iadd hx hb dX8_forget_14 ?_
  refine r_eq (y := (nI (z1 + z2))) (nI_add z1 z2) ?_
  refine lv_istore_n (lv' := [(1, .int (nI (z1 + z2))), (0, .ref (a 0))]) hx hb dX8_forget_15 rfl hl (by decide) rfl (fun ls hl => ?_)
  refine lv_aload_n hx hb dX8_forget_16 rfl (lv_at hl 1 rfl) ?_
  refine r_get Sx hW 0 rfl rfl bw_wsX80 4 (by decide) (v := .ref (a 62)) rfl mw31 dX8_forget_17 ?_
  refine lv_iconst (v := (0 : Int32)) hx hb dX8_forget_20 rfl ?_
  refine r_put Sx hW 62 rfl rfl bw_wsX00 tyX0_ok nmX0 2 (by decide) mw163 rfl rfl rfl (Nat.le_of_ble_eq_true rfl) dX8_forget_21 (ws' := (pOne cI cZ cN a T Q Ld Vd L V S R (upA C1 2 (upd (C1 2) 0 (0 : Int32))) C2 Rn Wd Im K tr)) rfl (fun H locs hW => ?_)
  refine lv_aload_n hx hb dX8_forget_24 rfl (lv_at hl 1 rfl) ?_
  refine r_get Sx hW 0 rfl rfl bw_wsX80 5 (by decide) (v := .ref (a 65)) rfl mw32 dX8_forget_25 ?_
  refine lv_iconst (v := (0 : Int32)) hx hb dX8_forget_28 rfl ?_
  refine r_put Sx hW 65 rfl rfl bw_wsX00 tyX0_ok nmX0 2 (by decide) mw163 rfl rfl rfl (Nat.le_of_ble_eq_true rfl) dX8_forget_29 (ws' := (pOne cI cZ cN a T Q Ld Vd L V S R (upA C1 2 (upd (C1 2) 0 (0 : Int32))) (upA C2 2 (upd (C2 2) 0 (0 : Int32))) Rn Wd Im K tr)) rfl (fun H locs hW => ?_)
  refine lv_iload_n hx hb dX8_forget_32 rfl (lv_at hl 0 rfl) ?_
  exact hret _ _ _ _ _ _ hW rfl rfl dX8_forget_33 (⟨rfl, rfl⟩)

set_option maxHeartbeats 4000000 in
set_option maxRecDepth 100000 in
theorem c_X8_cheapest (l : Launch) (D : va_G) (cI cZ cN : ClassId) (a : Nat → Nat) (T Q Ld Vd L V S : NV) (R : Nat → NV) (C1 C2 Rn Wd : NV) (Im : Nat → NV) (K : NV) (tr : Int64) (z N C k y z1 z2 : Nat) (hz : T 1 0 = nI z) (hz2 : z ≤ 200) (hN : L 3 1 = nI N) (hN7 : N ≤ 7) (hC : L 3 0 = nI C) (hC4 : C ≤ 4) (hC1 : 1 ≤ C) (hk : S 0 0 = nI k) (hk10 : k < 10) (hy : S 0 1 = nI y) (hy10 : y ≤ 10) (hc1 : C1 2 0 = nI z1) (hz16 : z1 ≤ 6) (hc2 : C2 2 0 = nI z2) (hz26 : z2 ≤ 6) (p0 : Int32) : CtI l yX8_cheapest cX8_cheapest 2 (some .int) 4 D (tyG cI cZ cN) [.ref (a 0), .int p0] (pOne cI cZ cN a T Q Ld Vd L V S R C1 C2 Rn Wd Im K tr) (fun r w => r = opP N p0 (fun P => chp (txI (V 0) (V 1) N (V 3 1) P) (C - 1)) ∧ w = (pOne cI cZ cN a T Q Ld Vd L V S R C1 C2 Rn Wd Im K tr)) := by
  refine CtI.of rfl (Nat.le_of_ble_eq_true rfl) ?_
  intro pg ev sx mx ax bx mt cx ls Qx Ax Sx hret hW hl
  have hx := Sx.1
  have hb := Sx.2.1
  have hl : lv_has ls 2 [(0, .ref (a 0)), (1, .int p0)] := hl
  refine lv_aload_n hx hb dX8_cheapest_0 rfl (lv_at hl 0 rfl) ?_
  refine r_get Sx hW 0 rfl rfl bw_wsX80 2 (by decide) (v := .ref (a 12)) rfl mw23 dX8_cheapest_1 ?_
  refine lv_iload_n hx hb dX8_cheapest_4 rfl (lv_at hl 1 rfl) ?_
  refine callVI Sx hW (c_X1_hasPerson l D cI cZ cN (fun i => a (i + 12)) L V p0 N C hN hN7 hC hC4 hC1 ) vmX1_hasPerson mw297 [12, 13, 14, 15, 16, 17, 18, 19] rfl (by decide) 0 rfl rfl (As := [.int p0]) (rest := []) rfl rfl hl.1 (Nat.le_of_ble_eq_true rfl) ⟨Nat.le_of_ble_eq_true rfl, Nat.le_of_ble_eq_true rfl⟩ ⟨Nat.le_refl _, Nat.le_refl _⟩ dX8_cheapest_5 (fun rx wx H locs hqx hW => ?_)
  obtain ⟨hrx, rfl⟩ := hqx
  have hW : AtC D (tyG cI cZ cN) Ax (pOne cI cZ cN a T Q Ld Vd L V S R C1 C2 Rn Wd Im K tr) sx H locs := hW.re [0, 1, 2, 3, 4, 5, 6, 7, 8, 9, 10, 11, 20, 21, 22, 23, 24, 25, 26, 27, 28, 29, 30, 31, 32, 33, 34, 35, 36, 37, 38, 39, 40, 41, 42, 43, 44, 45, 46, 47, 48, 49, 50, 51, 52, 53, 54, 55, 56, 57, 58, 59, 60, 61, 62, 63, 64, 65, 66, 67, 68, 69, 70, 71, 72, 73, 74, 75, 76, 77, 78, 79, 80, 81, 82, 83] 84 (by decide) rfl rfl ⟨rfl, rfl, rfl, rfl, rfl, rfl, rfl, rfl, rfl, rfl, rfl, rfl, rfl, rfl, rfl, rfl, rfl, rfl, rfl, rfl, rfl, rfl, rfl, rfl, rfl, rfl, rfl, rfl, rfl, rfl, rfl, rfl, rfl, rfl, rfl, rfl, rfl, rfl, rfl, rfl, rfl, rfl, rfl, rfl, rfl, rfl, rfl, rfl, rfl, rfl, rfl, rfl, rfl, rfl, rfl, rfl, rfl, rfl, rfl, rfl, rfl, rfl, rfl, rfl, rfl, rfl, rfl, rfl, rfl, rfl, rfl, rfl, rfl, rfl, rfl, rfl, trivial⟩ (by decide +kernel) rfl rfl
  refine r_eq (y := (inI (p0) 0 (nI (N) - 1))) hrx ?_
  refine lv_if_eq (tgt := 22) hx hb dX8_cheapest_8 rfl (fun c_8 => ?_) (fun c_8 => ?_)
  · refine lv_iconst (v := (-1 : Int32)) hx hb dX8_cheapest_22 rfl ?_
    exact hret _ _ _ _ _ _ hW rfl rfl dX8_cheapest_23 (⟨opP_0 c_8 |>.symm, rfl⟩)
  · obtain ⟨P, hP, rfl⟩ := inI_nat (nI_m1 (show N < 1000 by omega)) c_8
    refine lv_aload_n hx hb dX8_cheapest_11 rfl (lv_at hl 0 rfl) ?_
    refine r_get Sx hW 0 rfl rfl bw_wsX80 2 (by decide) (v := .ref (a 12)) rfl mw23 dX8_cheapest_12 ?_
    refine lv_iload_n hx hb dX8_cheapest_15 rfl (lv_at hl 1 rfl) ?_
    refine callVI Sx hW (c_X1_cheapestName l D cI cZ cN (fun i => a (i + 12)) L V P N C hN hN7 hC hC4 hC1 (by omega)) vmX1_cheapestName mw654 [12, 13, 14, 15, 16, 17, 18, 19] rfl (by decide) 0 rfl rfl (As := [.int (nI P)]) (rest := []) rfl rfl hl.1 (Nat.le_of_ble_eq_true rfl) ⟨Nat.le_of_ble_eq_true rfl, Nat.le_of_ble_eq_true rfl⟩ ⟨Nat.le_refl _, Nat.le_refl _⟩ dX8_cheapest_16 (fun rx wx H locs hqx hW => ?_)
    obtain ⟨hrx, rfl⟩ := hqx
    have hW : AtC D (tyG cI cZ cN) Ax (pOne cI cZ cN a T Q Ld Vd L V S R C1 C2 Rn Wd Im K tr) sx H locs := hW.re [0, 1, 2, 3, 4, 5, 6, 7, 8, 9, 10, 11, 20, 21, 22, 23, 24, 25, 26, 27, 28, 29, 30, 31, 32, 33, 34, 35, 36, 37, 38, 39, 40, 41, 42, 43, 44, 45, 46, 47, 48, 49, 50, 51, 52, 53, 54, 55, 56, 57, 58, 59, 60, 61, 62, 63, 64, 65, 66, 67, 68, 69, 70, 71, 72, 73, 74, 75, 76, 77, 78, 79, 80, 81, 82, 83] 84 (by decide) rfl rfl ⟨rfl, rfl, rfl, rfl, rfl, rfl, rfl, rfl, rfl, rfl, rfl, rfl, rfl, rfl, rfl, rfl, rfl, rfl, rfl, rfl, rfl, rfl, rfl, rfl, rfl, rfl, rfl, rfl, rfl, rfl, rfl, rfl, rfl, rfl, rfl, rfl, rfl, rfl, rfl, rfl, rfl, rfl, rfl, rfl, rfl, rfl, rfl, rfl, rfl, rfl, rfl, rfl, rfl, rfl, rfl, rfl, rfl, rfl, rfl, rfl, rfl, rfl, rfl, rfl, rfl, rfl, rfl, rfl, rfl, rfl, rfl, rfl, rfl, rfl, rfl, rfl, trivial⟩ (by decide +kernel) rfl rfl
    refine r_eq (y := (chp (txI (V 0) (V 1) (N) (V 3 1) (P)) ((C) - 1))) hrx ?_
    refine lv_goto (tgt := 23) hx hb dX8_cheapest_19 rfl ?_
    exact hret _ _ _ _ _ _ hW rfl rfl dX8_cheapest_23 (⟨by rw [opP_1 hN7 hP c_8], rfl⟩)

def apR (N C : Nat) (V L Rn : NV) (p : Int32) : Int32 := if p = -1 then (if 7 < rnS Rn N C (V 0) (L 1) 2 0 then -9 else rnS Rn N C (V 0) (L 1) 2 0) else if inI p 0 (nI N - 1) = 0 then -1 else if 7 < rnS Rn N C (V 0) (L 1) 2 0 then -9 else rnS Rn N C (V 0) (L 1) 1 p.toNatClampNeg
def apW (N C : Nat) (V L Rn : NV) (p : Int32) : NV := if p = -1 then rnS Rn N C (V 0) (L 1) else if inI p 0 (nI N - 1) = 0 then Rn else rnS Rn N C (V 0) (L 1)
def maR (N : Nat) (V L Wd : NV) (p : Int32) : Int32 := if p = -1 then wdS Wd N (V 0) (L 1) 2 0 else if inI p 0 (nI N - 1) = 0 then -1 else wdS Wd N (V 0) (L 1) 1 p.toNatClampNeg
def maW (N : Nat) (V L Wd : NV) (p : Int32) : NV := if p = -1 then wdS Wd N (V 0) (L 1) else if inI p 0 (nI N - 1) = 0 then Wd else wdS Wd N (V 0) (L 1)

set_option maxHeartbeats 4000000 in
set_option maxRecDepth 100000 in
theorem c_X8_apart (l : Launch) (D : va_G) (cI cZ cN : ClassId) (a : Nat → Nat) (T Q Ld Vd L V S : NV) (R : Nat → NV) (C1 C2 Rn Wd : NV) (Im : Nat → NV) (K : NV) (tr : Int64) (z N C k y z1 z2 : Nat) (hz : T 1 0 = nI z) (hz2 : z ≤ 200) (hN : L 3 1 = nI N) (hN7 : N ≤ 7) (hC : L 3 0 = nI C) (hC4 : C ≤ 4) (hC1 : 1 ≤ C) (hk : S 0 0 = nI k) (hk10 : k < 10) (hy : S 0 1 = nI y) (hy10 : y ≤ 10) (hc1 : C1 2 0 = nI z1) (hz16 : z1 ≤ 6) (hc2 : C2 2 0 = nI z2) (hz26 : z2 ≤ 6) (p0 : Int32) : CtI l yX8_apart cX8_apart 2 (some .int) 12 D (tyG cI cZ cN) [.ref (a 0), .int p0] (pOne cI cZ cN a T Q Ld Vd L V S R C1 C2 Rn Wd Im K tr) (fun r w => r = apR N C V L Rn p0 ∧ w = (pOne cI cZ cN a T Q Ld Vd L V S R C1 C2 (apW N C V L Rn p0) Wd Im K tr)) := by
  refine CtI.of rfl (Nat.le_of_ble_eq_true rfl) ?_
  intro pg ev sx mx ax bx mt cx ls Qx Ax Sx hret hW hl
  have hx := Sx.1
  have hb := Sx.2.1
  have hl : lv_has ls 2 [(0, .ref (a 0)), (1, .int p0)] := hl
  refine lv_iload_n hx hb dX8_apart_0 rfl (lv_at hl 1 rfl) ?_
  refine lv_iconst (v := (-1 : Int32)) hx hb dX8_apart_1 rfl ?_
  refine lv_icmp_eq (tgt := 18) hx hb dX8_apart_2 rfl (fun c_2 => ?_) (fun c_2 => ?_)
  · refine lv_aload_n hx hb dX8_apart_18 rfl (lv_at hl 0 rfl) ?_
    refine r_get Sx hW 0 rfl rfl bw_wsX80 6 (by decide) (v := .ref (a 68)) rfl mw36 dX8_apart_19 ?_
    refine lv_aload_n hx hb dX8_apart_22 rfl (lv_at hl 0 rfl) ?_
    refine r_get Sx hW 0 rfl rfl bw_wsX80 2 (by decide) (v := .ref (a 12)) rfl mw23 dX8_apart_23 ?_
    refine callVV Sx hW (c_X5_search l D cI cZ cN (fun i => a (i + 68)) (fun i => a (i + 12)) Rn L V N C hN hN7 hC hC4 hC1) vmX5_search mw619 [68, 69, 70, 12, 13, 14, 15, 16, 17, 18, 19] rfl (by decide) 0 rfl rfl (As := [.ref (a 12)]) (rest := []) rfl rfl hl.1 (Nat.le_of_ble_eq_true rfl) ⟨(show 4 + N + 1 ≤ 12 by omega), (show 8 + (2 + 11) + 40 * (4 + N) ≤ 40 * (12) by omega)⟩ ⟨Nat.le_refl _, Nat.le_refl _⟩ dX8_apart_26 (fun wx H locs hqx hW => ?_)
    obtain rfl := hqx
    have hW : AtC D (tyG cI cZ cN) Ax (pOne cI cZ cN a T Q Ld Vd L V S R C1 C2 (rnS Rn N C (V 0) (L 1)) Wd Im K tr) sx H locs := hW.re [0, 1, 2, 3, 4, 5, 6, 7, 8, 9, 10, 11, 20, 21, 22, 23, 24, 25, 26, 27, 28, 29, 30, 31, 32, 33, 34, 35, 36, 37, 38, 39, 40, 41, 42, 43, 44, 45, 46, 47, 48, 49, 50, 51, 52, 53, 54, 55, 56, 57, 58, 59, 60, 61, 62, 63, 64, 65, 66, 67, 71, 72, 73, 74, 75, 76, 77, 78, 79, 80, 81, 82, 83] 84 (by decide) rfl rfl ⟨rfl, rfl, rfl, rfl, rfl, rfl, rfl, rfl, rfl, rfl, rfl, rfl, rfl, rfl, rfl, rfl, rfl, rfl, rfl, rfl, rfl, rfl, rfl, rfl, rfl, rfl, rfl, rfl, rfl, rfl, rfl, rfl, rfl, rfl, rfl, rfl, rfl, rfl, rfl, rfl, rfl, rfl, rfl, rfl, rfl, rfl, rfl, rfl, rfl, rfl, rfl, rfl, rfl, rfl, rfl, rfl, rfl, rfl, rfl, rfl, rfl, rfl, rfl, rfl, rfl, rfl, rfl, rfl, rfl, rfl, rfl, rfl, rfl, trivial⟩ (by decide +kernel) rfl rfl
    refine lv_aload_n hx hb dX8_apart_29 rfl (lv_at hl 0 rfl) ?_
    refine r_get Sx hW 0 rfl rfl bw_wsX80 6 (by decide) (v := .ref (a 68)) rfl mw36 dX8_apart_30 ?_
    refine callVI Sx hW (c_X5_found l D cI cZ cN (fun i => a (i + 68)) (rnS Rn N C (V 0) (L 1))) vmX5_found mw637 [68, 69, 70] rfl (by decide) 0 rfl rfl (As := []) (rest := []) rfl rfl hl.1 (Nat.le_of_ble_eq_true rfl) ⟨Nat.le_of_ble_eq_true rfl, Nat.le_of_ble_eq_true rfl⟩ ⟨Nat.le_refl _, Nat.le_refl _⟩ dX8_apart_33 (fun rx wx H locs hqx hW => ?_)
    obtain ⟨hrx, rfl⟩ := hqx
    have hW : AtC D (tyG cI cZ cN) Ax (pOne cI cZ cN a T Q Ld Vd L V S R C1 C2 (rnS Rn N C (V 0) (L 1)) Wd Im K tr) sx H locs := hW.re [0, 1, 2, 3, 4, 5, 6, 7, 8, 9, 10, 11, 12, 13, 14, 15, 16, 17, 18, 19, 20, 21, 22, 23, 24, 25, 26, 27, 28, 29, 30, 31, 32, 33, 34, 35, 36, 37, 38, 39, 40, 41, 42, 43, 44, 45, 46, 47, 48, 49, 50, 51, 52, 53, 54, 55, 56, 57, 58, 59, 60, 61, 62, 63, 64, 65, 66, 67, 71, 72, 73, 74, 75, 76, 77, 78, 79, 80, 81, 82, 83] 84 (by decide) rfl rfl ⟨rfl, rfl, rfl, rfl, rfl, rfl, rfl, rfl, rfl, rfl, rfl, rfl, rfl, rfl, rfl, rfl, rfl, rfl, rfl, rfl, rfl, rfl, rfl, rfl, rfl, rfl, rfl, rfl, rfl, rfl, rfl, rfl, rfl, rfl, rfl, rfl, rfl, rfl, rfl, rfl, rfl, rfl, rfl, rfl, rfl, rfl, rfl, rfl, rfl, rfl, rfl, rfl, rfl, rfl, rfl, rfl, rfl, rfl, rfl, rfl, rfl, rfl, rfl, rfl, rfl, rfl, rfl, rfl, rfl, rfl, rfl, rfl, rfl, rfl, rfl, rfl, rfl, rfl, rfl, rfl, rfl, trivial⟩ (by decide +kernel) rfl rfl
    refine r_eq (y := (if 7 < (rnS Rn N C (V 0) (L 1)) 2 0 then (0 : Int32) else 1)) hrx ?_
    refine lv_if_ne (tgt := 42) hx hb dX8_apart_36 rfl (fun c_36 => ?_) (fun c_36 => ?_)
    · have c_36 := fd_1 c_36
      refine lv_iload_n hx hb dX8_apart_42 rfl (lv_at hl 1 rfl) ?_
      refine lv_iconst (v := (-1 : Int32)) hx hb dX8_apart_43 rfl ?_
      refine lv_icmp_ne (tgt := 57) hx hb dX8_apart_44 rfl (fun c_44 => ?_) (fun c_44 => ?_)
      · exact absurd c_2 c_44
      · refine lv_aload_n hx hb dX8_apart_47 rfl (lv_at hl 0 rfl) ?_
        refine r_get Sx hW 0 rfl rfl bw_wsX80 6 (by decide) (v := .ref (a 68)) rfl mw36 dX8_apart_48 ?_
        refine r_get Sx hW 68 rfl rfl bw_wsX50 2 (by decide) (v := .int ((rnS Rn N C (V 0) (L 1)) 2 0)) rfl mw617 dX8_apart_51 ?_
        refine lv_goto (tgt := 66) hx hb dX8_apart_54 rfl ?_
        exact hret _ _ _ _ _ _ hW rfl rfl dX8_apart_66 (⟨by rw [apR, if_pos c_2, if_neg c_36], by rw [apW, if_pos c_2] <;> rfl⟩)
    · have c_36 := fd_0 c_36
      refine lv_bipush (v := (-9 : Int32)) hx hb dX8_apart_39 rfl ?_
      exact hret _ _ _ _ _ _ hW rfl rfl dX8_apart_41 (⟨by rw [apR, if_pos c_2, if_pos c_36], by rw [apW, if_pos c_2] <;> rfl⟩)
  · refine lv_aload_n hx hb dX8_apart_5 rfl (lv_at hl 0 rfl) ?_
    refine r_get Sx hW 0 rfl rfl bw_wsX80 2 (by decide) (v := .ref (a 12)) rfl mw23 dX8_apart_6 ?_
    refine lv_iload_n hx hb dX8_apart_9 rfl (lv_at hl 1 rfl) ?_
    refine callVI Sx hW (c_X1_hasPerson l D cI cZ cN (fun i => a (i + 12)) L V p0 N C hN hN7 hC hC4 hC1 ) vmX1_hasPerson mw297 [12, 13, 14, 15, 16, 17, 18, 19] rfl (by decide) 0 rfl rfl (As := [.int p0]) (rest := []) rfl rfl hl.1 (Nat.le_of_ble_eq_true rfl) ⟨Nat.le_of_ble_eq_true rfl, Nat.le_of_ble_eq_true rfl⟩ ⟨Nat.le_refl _, Nat.le_refl _⟩ dX8_apart_10 (fun rx wx H locs hqx hW => ?_)
    obtain ⟨hrx, rfl⟩ := hqx
    have hW : AtC D (tyG cI cZ cN) Ax (pOne cI cZ cN a T Q Ld Vd L V S R C1 C2 Rn Wd Im K tr) sx H locs := hW.re [0, 1, 2, 3, 4, 5, 6, 7, 8, 9, 10, 11, 20, 21, 22, 23, 24, 25, 26, 27, 28, 29, 30, 31, 32, 33, 34, 35, 36, 37, 38, 39, 40, 41, 42, 43, 44, 45, 46, 47, 48, 49, 50, 51, 52, 53, 54, 55, 56, 57, 58, 59, 60, 61, 62, 63, 64, 65, 66, 67, 68, 69, 70, 71, 72, 73, 74, 75, 76, 77, 78, 79, 80, 81, 82, 83] 84 (by decide) rfl rfl ⟨rfl, rfl, rfl, rfl, rfl, rfl, rfl, rfl, rfl, rfl, rfl, rfl, rfl, rfl, rfl, rfl, rfl, rfl, rfl, rfl, rfl, rfl, rfl, rfl, rfl, rfl, rfl, rfl, rfl, rfl, rfl, rfl, rfl, rfl, rfl, rfl, rfl, rfl, rfl, rfl, rfl, rfl, rfl, rfl, rfl, rfl, rfl, rfl, rfl, rfl, rfl, rfl, rfl, rfl, rfl, rfl, rfl, rfl, rfl, rfl, rfl, rfl, rfl, rfl, rfl, rfl, rfl, rfl, rfl, rfl, rfl, rfl, rfl, rfl, rfl, rfl, trivial⟩ (by decide +kernel) rfl rfl
    refine r_eq (y := (inI (p0) 0 (nI (N) - 1))) hrx ?_
    refine lv_if_ne (tgt := 18) hx hb dX8_apart_13 rfl (fun c_13 => ?_) (fun c_13 => ?_)
    · obtain ⟨P, hP, rfl⟩ := inI_nat (nI_m1 (show N < 1000 by omega)) c_13
      have clP : (nI P).toNatClampNeg = P := nI_clamp (by omega)
      refine lv_aload_n hx hb dX8_apart_18 rfl (lv_at hl 0 rfl) ?_
      refine r_get Sx hW 0 rfl rfl bw_wsX80 6 (by decide) (v := .ref (a 68)) rfl mw36 dX8_apart_19 ?_
      refine lv_aload_n hx hb dX8_apart_22 rfl (lv_at hl 0 rfl) ?_
      refine r_get Sx hW 0 rfl rfl bw_wsX80 2 (by decide) (v := .ref (a 12)) rfl mw23 dX8_apart_23 ?_
      refine callVV Sx hW (c_X5_search l D cI cZ cN (fun i => a (i + 68)) (fun i => a (i + 12)) Rn L V N C hN hN7 hC hC4 hC1) vmX5_search mw619 [68, 69, 70, 12, 13, 14, 15, 16, 17, 18, 19] rfl (by decide) 0 rfl rfl (As := [.ref (a 12)]) (rest := []) rfl rfl hl.1 (Nat.le_of_ble_eq_true rfl) ⟨(show 4 + N + 1 ≤ 12 by omega), (show 8 + (2 + 11) + 40 * (4 + N) ≤ 40 * (12) by omega)⟩ ⟨Nat.le_refl _, Nat.le_refl _⟩ dX8_apart_26 (fun wx H locs hqx hW => ?_)
      obtain rfl := hqx
      have hW : AtC D (tyG cI cZ cN) Ax (pOne cI cZ cN a T Q Ld Vd L V S R C1 C2 (rnS Rn N C (V 0) (L 1)) Wd Im K tr) sx H locs := hW.re [0, 1, 2, 3, 4, 5, 6, 7, 8, 9, 10, 11, 20, 21, 22, 23, 24, 25, 26, 27, 28, 29, 30, 31, 32, 33, 34, 35, 36, 37, 38, 39, 40, 41, 42, 43, 44, 45, 46, 47, 48, 49, 50, 51, 52, 53, 54, 55, 56, 57, 58, 59, 60, 61, 62, 63, 64, 65, 66, 67, 71, 72, 73, 74, 75, 76, 77, 78, 79, 80, 81, 82, 83] 84 (by decide) rfl rfl ⟨rfl, rfl, rfl, rfl, rfl, rfl, rfl, rfl, rfl, rfl, rfl, rfl, rfl, rfl, rfl, rfl, rfl, rfl, rfl, rfl, rfl, rfl, rfl, rfl, rfl, rfl, rfl, rfl, rfl, rfl, rfl, rfl, rfl, rfl, rfl, rfl, rfl, rfl, rfl, rfl, rfl, rfl, rfl, rfl, rfl, rfl, rfl, rfl, rfl, rfl, rfl, rfl, rfl, rfl, rfl, rfl, rfl, rfl, rfl, rfl, rfl, rfl, rfl, rfl, rfl, rfl, rfl, rfl, rfl, rfl, rfl, rfl, rfl, trivial⟩ (by decide +kernel) rfl rfl
      refine lv_aload_n hx hb dX8_apart_29 rfl (lv_at hl 0 rfl) ?_
      refine r_get Sx hW 0 rfl rfl bw_wsX80 6 (by decide) (v := .ref (a 68)) rfl mw36 dX8_apart_30 ?_
      refine callVI Sx hW (c_X5_found l D cI cZ cN (fun i => a (i + 68)) (rnS Rn N C (V 0) (L 1))) vmX5_found mw637 [68, 69, 70] rfl (by decide) 0 rfl rfl (As := []) (rest := []) rfl rfl hl.1 (Nat.le_of_ble_eq_true rfl) ⟨Nat.le_of_ble_eq_true rfl, Nat.le_of_ble_eq_true rfl⟩ ⟨Nat.le_refl _, Nat.le_refl _⟩ dX8_apart_33 (fun rx wx H locs hqx hW => ?_)
      obtain ⟨hrx, rfl⟩ := hqx
      have hW : AtC D (tyG cI cZ cN) Ax (pOne cI cZ cN a T Q Ld Vd L V S R C1 C2 (rnS Rn N C (V 0) (L 1)) Wd Im K tr) sx H locs := hW.re [0, 1, 2, 3, 4, 5, 6, 7, 8, 9, 10, 11, 12, 13, 14, 15, 16, 17, 18, 19, 20, 21, 22, 23, 24, 25, 26, 27, 28, 29, 30, 31, 32, 33, 34, 35, 36, 37, 38, 39, 40, 41, 42, 43, 44, 45, 46, 47, 48, 49, 50, 51, 52, 53, 54, 55, 56, 57, 58, 59, 60, 61, 62, 63, 64, 65, 66, 67, 71, 72, 73, 74, 75, 76, 77, 78, 79, 80, 81, 82, 83] 84 (by decide) rfl rfl ⟨rfl, rfl, rfl, rfl, rfl, rfl, rfl, rfl, rfl, rfl, rfl, rfl, rfl, rfl, rfl, rfl, rfl, rfl, rfl, rfl, rfl, rfl, rfl, rfl, rfl, rfl, rfl, rfl, rfl, rfl, rfl, rfl, rfl, rfl, rfl, rfl, rfl, rfl, rfl, rfl, rfl, rfl, rfl, rfl, rfl, rfl, rfl, rfl, rfl, rfl, rfl, rfl, rfl, rfl, rfl, rfl, rfl, rfl, rfl, rfl, rfl, rfl, rfl, rfl, rfl, rfl, rfl, rfl, rfl, rfl, rfl, rfl, rfl, rfl, rfl, rfl, rfl, rfl, rfl, rfl, rfl, trivial⟩ (by decide +kernel) rfl rfl
      refine r_eq (y := (if 7 < (rnS Rn N C (V 0) (L 1)) 2 0 then (0 : Int32) else 1)) hrx ?_
      refine lv_if_ne (tgt := 42) hx hb dX8_apart_36 rfl (fun c_36 => ?_) (fun c_36 => ?_)
      · have c_36 := fd_1 c_36
        refine lv_iload_n hx hb dX8_apart_42 rfl (lv_at hl 1 rfl) ?_
        refine lv_iconst (v := (-1 : Int32)) hx hb dX8_apart_43 rfl ?_
        refine lv_icmp_ne (tgt := 57) hx hb dX8_apart_44 rfl (fun c_44 => ?_) (fun c_44 => ?_)
        · refine lv_aload_n hx hb dX8_apart_57 rfl (lv_at hl 0 rfl) ?_
          refine r_get Sx hW 0 rfl rfl bw_wsX80 6 (by decide) (v := .ref (a 68)) rfl mw36 dX8_apart_58 ?_
          refine r_get Sx hW 68 rfl rfl bw_wsX50 1 (by decide) (v := .ref (a 70)) rfl mw618 dX8_apart_61 ?_
          refine lv_iload_n hx hb dX8_apart_64 rfl (lv_at hl 1 rfl) ?_
          refine r_iald Sx hW 70 0 rfl rfl (j := P) rfl (by omega) (by decide) dX8_apart_65 ?_
          exact hret _ _ _ _ _ _ hW rfl rfl dX8_apart_66 (⟨by rw [apR, if_neg c_2, if_neg c_13, if_neg c_36]; rw [clP], by rw [apW, if_neg c_2, if_neg c_13] <;> rfl⟩)
        · exact absurd c_44 c_2
      · have c_36 := fd_0 c_36
        refine lv_bipush (v := (-9 : Int32)) hx hb dX8_apart_39 rfl ?_
        exact hret _ _ _ _ _ _ hW rfl rfl dX8_apart_41 (⟨by rw [apR, if_neg c_2, if_neg c_13, if_pos c_36], by rw [apW, if_neg c_2, if_neg c_13] <;> rfl⟩)
    · refine lv_iconst (v := (-1 : Int32)) hx hb dX8_apart_16 rfl ?_
      exact hret _ _ _ _ _ _ hW rfl rfl dX8_apart_17 (⟨by rw [apR, if_neg c_2, if_pos c_13], by rw [apW, if_neg c_2, if_pos c_13] <;> rfl⟩)

set_option maxHeartbeats 4000000 in
set_option maxRecDepth 100000 in
theorem c_X8_married (l : Launch) (D : va_G) (cI cZ cN : ClassId) (a : Nat → Nat) (T Q Ld Vd L V S : NV) (R : Nat → NV) (C1 C2 Rn Wd : NV) (Im : Nat → NV) (K : NV) (tr : Int64) (z N C k y z1 z2 : Nat) (hz : T 1 0 = nI z) (hz2 : z ≤ 200) (hN : L 3 1 = nI N) (hN7 : N ≤ 7) (hC : L 3 0 = nI C) (hC4 : C ≤ 4) (hC1 : 1 ≤ C) (hk : S 0 0 = nI k) (hk10 : k < 10) (hy : S 0 1 = nI y) (hy10 : y ≤ 10) (hc1 : C1 2 0 = nI z1) (hz16 : z1 ≤ 6) (hc2 : C2 2 0 = nI z2) (hz26 : z2 ≤ 6) (p0 : Int32) : CtI l yX8_married cX8_married 2 (some .int) 12 D (tyG cI cZ cN) [.ref (a 0), .int p0] (pOne cI cZ cN a T Q Ld Vd L V S R C1 C2 Rn Wd Im K tr) (fun r w => r = maR N V L Wd p0 ∧ w = (pOne cI cZ cN a T Q Ld Vd L V S R C1 C2 Rn (maW N V L Wd p0) Im K tr)) := by
  refine CtI.of rfl (Nat.le_of_ble_eq_true rfl) ?_
  intro pg ev sx mx ax bx mt cx ls Qx Ax Sx hret hW hl
  have hx := Sx.1
  have hb := Sx.2.1
  have hl : lv_has ls 2 [(0, .ref (a 0)), (1, .int p0)] := hl
  refine lv_iload_n hx hb dX8_married_0 rfl (lv_at hl 1 rfl) ?_
  refine lv_iconst (v := (-1 : Int32)) hx hb dX8_married_1 rfl ?_
  refine lv_icmp_eq (tgt := 18) hx hb dX8_married_2 rfl (fun c_2 => ?_) (fun c_2 => ?_)
  · refine lv_aload_n hx hb dX8_married_18 rfl (lv_at hl 0 rfl) ?_
    refine r_get Sx hW 0 rfl rfl bw_wsX80 7 (by decide) (v := .ref (a 71)) rfl mw40 dX8_married_19 ?_
    refine lv_aload_n hx hb dX8_married_22 rfl (lv_at hl 0 rfl) ?_
    refine r_get Sx hW 0 rfl rfl bw_wsX80 2 (by decide) (v := .ref (a 12)) rfl mw23 dX8_married_23 ?_
    refine callVV Sx hW (c_X7_search l D cI cZ cN (fun i => a (i + 71)) (fun i => a (i + 12)) Wd L V N C hN hN7 hC hC4 hC1) vmX7_search mw731 [71, 72, 73, 12, 13, 14, 15, 16, 17, 18, 19] rfl (by decide) 0 rfl rfl (As := [.ref (a 12)]) (rest := []) rfl rfl hl.1 (Nat.le_of_ble_eq_true rfl) ⟨(show 4 + N + 1 ≤ 12 by omega), (show 8 + (3 + 11) + 40 * (4 + N) ≤ 40 * (12) by omega)⟩ ⟨Nat.le_refl _, Nat.le_refl _⟩ dX8_married_26 (fun wx H locs hqx hW => ?_)
    obtain rfl := hqx
    have hW : AtC D (tyG cI cZ cN) Ax (pOne cI cZ cN a T Q Ld Vd L V S R C1 C2 Rn (wdS Wd N (V 0) (L 1)) Im K tr) sx H locs := hW.re [0, 1, 2, 3, 4, 5, 6, 7, 8, 9, 10, 11, 20, 21, 22, 23, 24, 25, 26, 27, 28, 29, 30, 31, 32, 33, 34, 35, 36, 37, 38, 39, 40, 41, 42, 43, 44, 45, 46, 47, 48, 49, 50, 51, 52, 53, 54, 55, 56, 57, 58, 59, 60, 61, 62, 63, 64, 65, 66, 67, 68, 69, 70, 74, 75, 76, 77, 78, 79, 80, 81, 82, 83] 84 (by decide) rfl rfl ⟨rfl, rfl, rfl, rfl, rfl, rfl, rfl, rfl, rfl, rfl, rfl, rfl, rfl, rfl, rfl, rfl, rfl, rfl, rfl, rfl, rfl, rfl, rfl, rfl, rfl, rfl, rfl, rfl, rfl, rfl, rfl, rfl, rfl, rfl, rfl, rfl, rfl, rfl, rfl, rfl, rfl, rfl, rfl, rfl, rfl, rfl, rfl, rfl, rfl, rfl, rfl, rfl, rfl, rfl, rfl, rfl, rfl, rfl, rfl, rfl, rfl, rfl, rfl, rfl, rfl, rfl, rfl, rfl, rfl, rfl, rfl, rfl, rfl, trivial⟩ (by decide +kernel) rfl rfl
    refine lv_iload_n hx hb dX8_married_29 rfl (lv_at hl 1 rfl) ?_
    refine lv_iconst (v := (-1 : Int32)) hx hb dX8_married_30 rfl ?_
    refine lv_icmp_ne (tgt := 44) hx hb dX8_married_31 rfl (fun c_31 => ?_) (fun c_31 => ?_)
    · exact absurd c_2 c_31
    · refine lv_aload_n hx hb dX8_married_34 rfl (lv_at hl 0 rfl) ?_
      refine r_get Sx hW 0 rfl rfl bw_wsX80 7 (by decide) (v := .ref (a 71)) rfl mw40 dX8_married_35 ?_
      refine r_get Sx hW 71 rfl rfl bw_wsX70 2 (by decide) (v := .int ((wdS Wd N (V 0) (L 1)) 2 0)) rfl mw729 dX8_married_38 ?_
      refine lv_goto (tgt := 53) hx hb dX8_married_41 rfl ?_
      exact hret _ _ _ _ _ _ hW rfl rfl dX8_married_53 (⟨by rw [maR, if_pos c_2], by rw [maW, if_pos c_2] <;> rfl⟩)
  · refine lv_aload_n hx hb dX8_married_5 rfl (lv_at hl 0 rfl) ?_
    refine r_get Sx hW 0 rfl rfl bw_wsX80 2 (by decide) (v := .ref (a 12)) rfl mw23 dX8_married_6 ?_
    refine lv_iload_n hx hb dX8_married_9 rfl (lv_at hl 1 rfl) ?_
    refine callVI Sx hW (c_X1_hasPerson l D cI cZ cN (fun i => a (i + 12)) L V p0 N C hN hN7 hC hC4 hC1 ) vmX1_hasPerson mw297 [12, 13, 14, 15, 16, 17, 18, 19] rfl (by decide) 0 rfl rfl (As := [.int p0]) (rest := []) rfl rfl hl.1 (Nat.le_of_ble_eq_true rfl) ⟨Nat.le_of_ble_eq_true rfl, Nat.le_of_ble_eq_true rfl⟩ ⟨Nat.le_refl _, Nat.le_refl _⟩ dX8_married_10 (fun rx wx H locs hqx hW => ?_)
    obtain ⟨hrx, rfl⟩ := hqx
    have hW : AtC D (tyG cI cZ cN) Ax (pOne cI cZ cN a T Q Ld Vd L V S R C1 C2 Rn Wd Im K tr) sx H locs := hW.re [0, 1, 2, 3, 4, 5, 6, 7, 8, 9, 10, 11, 20, 21, 22, 23, 24, 25, 26, 27, 28, 29, 30, 31, 32, 33, 34, 35, 36, 37, 38, 39, 40, 41, 42, 43, 44, 45, 46, 47, 48, 49, 50, 51, 52, 53, 54, 55, 56, 57, 58, 59, 60, 61, 62, 63, 64, 65, 66, 67, 68, 69, 70, 71, 72, 73, 74, 75, 76, 77, 78, 79, 80, 81, 82, 83] 84 (by decide) rfl rfl ⟨rfl, rfl, rfl, rfl, rfl, rfl, rfl, rfl, rfl, rfl, rfl, rfl, rfl, rfl, rfl, rfl, rfl, rfl, rfl, rfl, rfl, rfl, rfl, rfl, rfl, rfl, rfl, rfl, rfl, rfl, rfl, rfl, rfl, rfl, rfl, rfl, rfl, rfl, rfl, rfl, rfl, rfl, rfl, rfl, rfl, rfl, rfl, rfl, rfl, rfl, rfl, rfl, rfl, rfl, rfl, rfl, rfl, rfl, rfl, rfl, rfl, rfl, rfl, rfl, rfl, rfl, rfl, rfl, rfl, rfl, rfl, rfl, rfl, rfl, rfl, rfl, trivial⟩ (by decide +kernel) rfl rfl
    refine r_eq (y := (inI (p0) 0 (nI (N) - 1))) hrx ?_
    refine lv_if_ne (tgt := 18) hx hb dX8_married_13 rfl (fun c_13 => ?_) (fun c_13 => ?_)
    · obtain ⟨P, hP, rfl⟩ := inI_nat (nI_m1 (show N < 1000 by omega)) c_13
      have clP : (nI P).toNatClampNeg = P := nI_clamp (by omega)
      refine lv_aload_n hx hb dX8_married_18 rfl (lv_at hl 0 rfl) ?_
      refine r_get Sx hW 0 rfl rfl bw_wsX80 7 (by decide) (v := .ref (a 71)) rfl mw40 dX8_married_19 ?_
      refine lv_aload_n hx hb dX8_married_22 rfl (lv_at hl 0 rfl) ?_
      refine r_get Sx hW 0 rfl rfl bw_wsX80 2 (by decide) (v := .ref (a 12)) rfl mw23 dX8_married_23 ?_
      refine callVV Sx hW (c_X7_search l D cI cZ cN (fun i => a (i + 71)) (fun i => a (i + 12)) Wd L V N C hN hN7 hC hC4 hC1) vmX7_search mw731 [71, 72, 73, 12, 13, 14, 15, 16, 17, 18, 19] rfl (by decide) 0 rfl rfl (As := [.ref (a 12)]) (rest := []) rfl rfl hl.1 (Nat.le_of_ble_eq_true rfl) ⟨(show 4 + N + 1 ≤ 12 by omega), (show 8 + (3 + 11) + 40 * (4 + N) ≤ 40 * (12) by omega)⟩ ⟨Nat.le_refl _, Nat.le_refl _⟩ dX8_married_26 (fun wx H locs hqx hW => ?_)
      obtain rfl := hqx
      have hW : AtC D (tyG cI cZ cN) Ax (pOne cI cZ cN a T Q Ld Vd L V S R C1 C2 Rn (wdS Wd N (V 0) (L 1)) Im K tr) sx H locs := hW.re [0, 1, 2, 3, 4, 5, 6, 7, 8, 9, 10, 11, 20, 21, 22, 23, 24, 25, 26, 27, 28, 29, 30, 31, 32, 33, 34, 35, 36, 37, 38, 39, 40, 41, 42, 43, 44, 45, 46, 47, 48, 49, 50, 51, 52, 53, 54, 55, 56, 57, 58, 59, 60, 61, 62, 63, 64, 65, 66, 67, 68, 69, 70, 74, 75, 76, 77, 78, 79, 80, 81, 82, 83] 84 (by decide) rfl rfl ⟨rfl, rfl, rfl, rfl, rfl, rfl, rfl, rfl, rfl, rfl, rfl, rfl, rfl, rfl, rfl, rfl, rfl, rfl, rfl, rfl, rfl, rfl, rfl, rfl, rfl, rfl, rfl, rfl, rfl, rfl, rfl, rfl, rfl, rfl, rfl, rfl, rfl, rfl, rfl, rfl, rfl, rfl, rfl, rfl, rfl, rfl, rfl, rfl, rfl, rfl, rfl, rfl, rfl, rfl, rfl, rfl, rfl, rfl, rfl, rfl, rfl, rfl, rfl, rfl, rfl, rfl, rfl, rfl, rfl, rfl, rfl, rfl, rfl, trivial⟩ (by decide +kernel) rfl rfl
      refine lv_iload_n hx hb dX8_married_29 rfl (lv_at hl 1 rfl) ?_
      refine lv_iconst (v := (-1 : Int32)) hx hb dX8_married_30 rfl ?_
      refine lv_icmp_ne (tgt := 44) hx hb dX8_married_31 rfl (fun c_31 => ?_) (fun c_31 => ?_)
      · refine lv_aload_n hx hb dX8_married_44 rfl (lv_at hl 0 rfl) ?_
        refine r_get Sx hW 0 rfl rfl bw_wsX80 7 (by decide) (v := .ref (a 71)) rfl mw40 dX8_married_45 ?_
        refine r_get Sx hW 71 rfl rfl bw_wsX70 1 (by decide) (v := .ref (a 73)) rfl mw730 dX8_married_48 ?_
        refine lv_iload_n hx hb dX8_married_51 rfl (lv_at hl 1 rfl) ?_
        refine r_iald Sx hW 73 0 rfl rfl (j := P) rfl (by omega) (by decide) dX8_married_52 ?_
        exact hret _ _ _ _ _ _ hW rfl rfl dX8_married_53 (⟨by rw [maR, if_neg c_2, if_neg c_13]; rw [clP], by rw [maW, if_neg c_2, if_neg c_13] <;> rfl⟩)
      · exact absurd c_31 c_2
    · refine lv_iconst (v := (-1 : Int32)) hx hb dX8_married_16 rfl ?_
      exact hret _ _ _ _ _ _ hW rfl rfl dX8_married_17 (⟨by rw [maR, if_neg c_2, if_pos c_13], by rw [maW, if_neg c_2, if_pos c_13] <;> rfl⟩)
