/-! OneJohn -/
def opP (N : Nat) (p : Int32) (f : Nat → Int32) : Int32 := if inI p 0 (nI N - 1) = 0 then -1 else f p.toNatClampNeg
theorem opP_0 {N : Nat} {p : Int32} {f : Nat → Int32} (h : inI p 0 (nI N - 1) = 0) : opP N p f = -1 := if_pos h
theorem opP_1 {N P : Nat} {f : Nat → Int32} (hN : N ≤ 7) (hP : P < N) (h : ¬ inI (nI P) 0 (nI N - 1) = 0) : opP N (nI P) f = f P := by rw [opP, if_neg h, nI_clamp (by omega)]
/-- a place's word, where there is such a place -/
def okP (N : Nat) (p : Int32) : Prop := ¬ inI p 0 (nI N - 1) = 0
theorem fd_1 {c : Prop} [Decidable c] (h : ¬ (if c then (0 : Int32) else 1) = 0) : ¬ c := by intro hc; simp [hc] at h
theorem fd_0 {c : Prop} [Decidable c] (h : (if c then (0 : Int32) else 1) = 0) : c := by
  by_cases hc : c
  · exact hc
  · simp [hc] at h
def tyR (z : Nat) (x : Int32) : Int32 := if inI x 0 255 = 0 then -1 else if nI z < 200 then nI (z + 1) else -3
def tyT (T : NV) (z : Nat) (x : Int32) : NV := if inI x 0 255 = 0 then T else if nI z < 200 then upA (upA T 0 (upd (T 0) z x)) 1 (upd (T 1) 0 (nI (z + 1))) else T
def zeT (T : NV) : NV := upA T 1 (upd (T 1) 0 0)
def zeC (S : NV) : NV := upA S 2 (upd (S 2) 0 0)
def zeS (S : NV) : NV := upA S 0 (upd (S 0) 1 0)
def prR (N C : Nat) (L V : NV) (what : Int32) (P : Nat) : Int32 := if what = 0 then V 0 P else if what = 1 then V 1 P else if what = 2 then L 0 P else if what = 3 then bitI (V 3 0) (nI P) else if what = 4 then bitI (lmpI (V 0) N C (V 3 0) (V 3 1)) (nI P) else if what = 5 then V 2 P else if what = 6 then fmI (V 0) (V 2) N (V 3 1) P else if what = 7 then txI (V 0) (V 1) N (V 3 1) P (V 0 P) else -1
def naR (N C : Nat) (V : NV) (k what : Int32) : Int32 := if inI k 0 (nI C - 1) = 0 then -1 else if what = 0 then br (V 0) k N else if what = 1 then ilI (wo (br (V 0) k N) (V 1) N) (mx1 (bcI (br (V 0) k N))) else if what = 2 then ilI (mx1 (bcI (br (V 0) k N))) (wo (br (V 0) k N) (V 1) N) else -1
def biR (N C : Nat) (L V : NV) (b what : Int32) : Int32 := if inI b 0 4 = 0 then -1 else if what = 0 then yesI (L 0) (V 0) N C b (V 3 1) (-9) else if what = 1 then noI (L 0) (V 0) N C b (V 3 1) (-9) else if what = 2 then psI (L 0) (V 0) N C b (V 3 1) (-9) else if what = 3 then swy (L 0) (V 0) N C b (V 3 1) C else -1
def noR (N C y : Nat) (L V : NV) (what : Int32) : Int32 := if what = 0 then V 3 3 else if what = 1 then V 3 2 else if what = 2 then V 3 1 else if what = 3 then lmpI (V 0) N C (V 3 0) (V 3 1) else if what = 4 then boO (L 1) (V 0) N N else if what = 5 then alo (V 0) N C else if what = 6 then rsl (txI (V 0) (V 1) N (V 3 1)) (V 0) C N else if what = 7 then nI y else -1
def coR (N C z z1 z2 : Nat) (what : Int32) : Int32 := if what = 0 then nI C else if what = 1 then nI N else if what = 2 then nI z1 else if what = 3 then nI z2 else if what = 4 then nI z else -1
theorem psI_01 (fv f : Nat → Int32) (N C : Nat) (b la wi : Int32) (h : ¬ psI fv f N C b la wi = 0) : psI fv f N C b la wi = 1 := by
  unfold psI at h ⊢
  split
  · rename_i h1; simp [h1] at h
  · rfl

set_option maxHeartbeats 4000000 in
set_option maxRecDepth 100000 in
theorem c_X8_type (l : Launch) (D : va_G) (cI cZ cN : ClassId) (a : Nat → Nat) (T Q Ld Vd L V S : NV) (R : Nat → NV) (C1 C2 Rn Wd : NV) (Im : Nat → NV) (K : NV) (tr : Int64) (z N C k y z1 z2 : Nat) (hz : T 1 0 = nI z) (hz2 : z ≤ 200) (hN : L 3 1 = nI N) (hN7 : N ≤ 7) (hC : L 3 0 = nI C) (hC4 : C ≤ 4) (hC1 : 1 ≤ C) (hk : S 0 0 = nI k) (hk10 : k < 10) (hy : S 0 1 = nI y) (hy10 : y ≤ 10) (hc1 : C1 2 0 = nI z1) (hz16 : z1 ≤ 6) (hc2 : C2 2 0 = nI z2) (hz26 : z2 ≤ 6) (x : Int32) : CtI l yX8_type cX8_type 2 (some .int) 1 D (tyG cI cZ cN) [.ref (a 0), .int x] (pOne cI cZ cN a T Q Ld Vd L V S R C1 C2 Rn Wd Im K tr) (fun r w => r = tyR z x ∧ w = (pOne cI cZ cN a (tyT T z x) Q Ld Vd L V S R C1 C2 Rn Wd Im K tr)) := by
  refine CtI.of rfl (Nat.le_of_ble_eq_true rfl) ?_
  intro pg ev sx mx ax bx mt cx ls Qx Ax Sx hret hW hl
  have hx := Sx.1
  have hb := Sx.2.1
  have hl : lv_has ls 2 [(0, .ref (a 0)), (1, .int x)] := hl
  refine lv_iload_n hx hb dX8_type_0 rfl (lv_at hl 1 rfl) ?_
  refine lv_iconst (v := (0 : Int32)) hx hb dX8_type_1 rfl ?_
  refine lv_sipush (v := (255 : Int32)) hx hb dX8_type_2 rfl ?_
  refine callSI Sx hW (c_X8_within l D cI cZ cN x (0 : Int32) (255 : Int32)) smX8_within mw137 (As := [.int x, .int (0 : Int32), .int (255 : Int32)]) (rest := []) rfl rfl hl.1 (Nat.le_of_ble_eq_true rfl) ⟨Nat.le_of_ble_eq_true rfl, Nat.le_of_ble_eq_true rfl⟩ ⟨Nat.le_refl _, Nat.le_refl _⟩ dX8_type_5 (fun rx H locs hqx hW => ?_)
  obtain ⟨hrx, -⟩ := hqx
  refine r_eq (y := (inI x (0 : Int32) (255 : Int32))) hrx ?_
  refine lv_if_ne (tgt := 13) hx hb dX8_type_8 rfl (fun c_8 => ?_) (fun c_8 => ?_)
  · refine lv_aload_n hx hb dX8_type_13 rfl (lv_at hl 0 rfl) ?_
    refine r_get Sx hW 0 rfl rfl bw_wsX80 0 (by decide) (v := .ref (a 1)) rfl mw15 dX8_type_14 ?_
    refine r_get Sx hW 1 rfl rfl bw_wsX60 1 (by decide) (v := .int (T 1 0)) rfl mw135 dX8_type_17 ?_
    refine r_eq (y := (nI z)) hz ?_
    refine lv_sipush (v := (200 : Int32)) hx hb dX8_type_20 rfl ?_
    refine lv_icmp_lt (tgt := 29) hx hb dX8_type_23 rfl (fun c_23 => ?_) (fun c_23 => ?_)
    · have lt_23 : z < 200 := (nI_ltI (a := z) (b := 200) (by omega) (by decide)).mp c_23
      refine lv_aload_n hx hb dX8_type_29 rfl (lv_at hl 0 rfl) ?_
      refine r_get Sx hW 0 rfl rfl bw_wsX80 0 (by decide) (v := .ref (a 1)) rfl mw15 dX8_type_30 ?_
      refine r_get Sx hW 1 rfl rfl bw_wsX60 0 (by decide) (v := .ref (a 2)) rfl mw136 dX8_type_33 ?_
      refine lv_aload_n hx hb dX8_type_36 rfl (lv_at hl 0 rfl) ?_
      refine r_get Sx hW 0 rfl rfl bw_wsX80 0 (by decide) (v := .ref (a 1)) rfl mw15 dX8_type_37 ?_
      refine r_get Sx hW 1 rfl rfl bw_wsX60 1 (by decide) (v := .int (T 1 0)) rfl mw135 dX8_type_40 ?_
      refine r_eq (y := (nI z)) hz ?_
      refine lv_iload_n hx hb dX8_type_43 rfl (lv_at hl 1 rfl) ?_
      refine r_iast Sx hW 2 0 rfl rfl (j := z) rfl (by omega) (by decide) dX8_type_44 (ws' := (pOne cI cZ cN a (upA T 0 (upd (T 0) z x)) Q Ld Vd L V S R C1 C2 Rn Wd Im K tr)) rfl (fun H locs hW => ?_)
      refine lv_aload_n hx hb dX8_type_45 rfl (lv_at hl 0 rfl) ?_
      refine r_get Sx hW 0 rfl rfl bw_wsX80 0 (by decide) (v := .ref (a 1)) rfl mw15 dX8_type_46 ?_
      refine lv_dup hx hb dX8_type_49 rfl ?_
      refine r_get Sx hW 1 rfl rfl bw_wsX60 1 (by decide) (v := .int (T 1 0)) rfl mw135 dX8_type_50 ?_
      refine r_eq (y := (nI z)) hz ?_
      refine lv_iconst (v := (1 : Int32)) hx hb dX8_type_53 rfl ?_
      refine lv_iadd hx hb dX8_type_54 ?_
      refine r_eq (y := (nI (z + 1))) (nI_add z 1) ?_
      refine r_put Sx hW 1 rfl rfl bw_wsX60 tyX6_ok nmX6 1 (by decide) mw135 rfl rfl rfl (Nat.le_of_ble_eq_true rfl) dX8_type_55 (ws' := (pOne cI cZ cN a (upA (upA T 0 (upd (T 0) z x)) 1 (upd (T 1) 0 (nI (z + 1)))) Q Ld Vd L V S R C1 C2 Rn Wd Im K tr)) rfl (fun H locs hW => ?_)
      refine lv_aload_n hx hb dX8_type_58 rfl (lv_at hl 0 rfl) ?_
      refine r_get Sx hW 0 rfl rfl bw_wsX80 0 (by decide) (v := .ref (a 1)) rfl mw15 dX8_type_59 ?_
      refine r_get Sx hW 1 rfl rfl bw_wsX60 1 (by decide) (v := .int (nI (z + 1))) rfl mw135 dX8_type_62 ?_
      exact hret _ _ _ _ _ _ hW rfl rfl dX8_type_65 (⟨by rw [tyR, if_neg c_8, if_pos c_23] <;> rfl, by rw [tyT, if_neg c_8, if_pos c_23] <;> rfl⟩)
    · refine lv_bipush (v := (-3 : Int32)) hx hb dX8_type_26 rfl ?_
      exact hret _ _ _ _ _ _ hW rfl rfl dX8_type_28 (⟨by rw [tyR, if_neg c_8, if_neg c_23] <;> rfl, by rw [tyT, if_neg c_8, if_neg c_23] <;> rfl⟩)
  · refine lv_iconst (v := (-1 : Int32)) hx hb dX8_type_11 rfl ?_
    exact hret _ _ _ _ _ _ hW rfl rfl dX8_type_12 (⟨by rw [tyR, if_pos c_8] <;> rfl, by rw [tyT, if_pos c_8] <;> rfl⟩)

set_option maxHeartbeats 4000000 in
set_option maxRecDepth 100000 in
theorem c_X8_clear (l : Launch) (D : va_G) (cI cZ cN : ClassId) (a : Nat → Nat) (T Q Ld Vd L V S : NV) (R : Nat → NV) (C1 C2 Rn Wd : NV) (Im : Nat → NV) (K : NV) (tr : Int64) (z N C k y z1 z2 : Nat) (hz : T 1 0 = nI z) (hz2 : z ≤ 200) (hN : L 3 1 = nI N) (hN7 : N ≤ 7) (hC : L 3 0 = nI C) (hC4 : C ≤ 4) (hC1 : 1 ≤ C) (hk : S 0 0 = nI k) (hk10 : k < 10) (hy : S 0 1 = nI y) (hy10 : y ≤ 10) (hc1 : C1 2 0 = nI z1) (hz16 : z1 ≤ 6) (hc2 : C2 2 0 = nI z2) (hz26 : z2 ≤ 6) : CtI l yX8_clear cX8_clear 2 (some .int) 0 D (tyG cI cZ cN) [.ref (a 0)] (pOne cI cZ cN a T Q Ld Vd L V S R C1 C2 Rn Wd Im K tr) (fun r w => r = nI z ∧ w = (pOne cI cZ cN a (zeT T) Q Ld Vd L V S R C1 C2 Rn Wd Im K tr)) := by
  refine CtI.of rfl (Nat.le_of_ble_eq_true rfl) ?_
  intro pg ev sx mx ax bx mt cx ls Qx Ax Sx hret hW hl
  have hx := Sx.1
  have hb := Sx.2.1
  have hl : lv_has ls 2 [(0, .ref (a 0))] := hl
  refine lv_aload_n hx hb dX8_clear_0 rfl (lv_at hl 0 rfl) ?_
  refine r_get Sx hW 0 rfl rfl bw_wsX80 0 (by decide) (v := .ref (a 1)) rfl mw15 dX8_clear_1 ?_
  refine r_get Sx hW 1 rfl rfl bw_wsX60 1 (by decide) (v := .int (T 1 0)) rfl mw135 dX8_clear_4 ?_
  refine r_eq (y := (nI z)) hz ?_
  refine lv_istore_n (lv' := [(1, .int (nI z)), (0, .ref (a 0))]) hx hb dX8_clear_7 rfl hl (by decide) rfl (fun ls hl => ?_)
  refine lv_aload_n hx hb dX8_clear_8 rfl (lv_at hl 1 rfl) ?_
  refine r_get Sx hW 0 rfl rfl bw_wsX80 0 (by decide) (v := .ref (a 1)) rfl mw15 dX8_clear_9 ?_
  refine lv_iconst (v := (0 : Int32)) hx hb dX8_clear_12 rfl ?_
  refine r_put Sx hW 1 rfl rfl bw_wsX60 tyX6_ok nmX6 1 (by decide) mw135 rfl rfl rfl (Nat.le_of_ble_eq_true rfl) dX8_clear_13 (ws' := (pOne cI cZ cN a (upA T 1 (upd (T 1) 0 (0 : Int32))) Q Ld Vd L V S R C1 C2 Rn Wd Im K tr)) rfl (fun H locs hW => ?_)
  refine lv_iload_n hx hb dX8_clear_16 rfl (lv_at hl 0 rfl) ?_
  exact hret _ _ _ _ _ _ hW rfl rfl dX8_clear_17 (⟨rfl, rfl⟩)

set_option maxHeartbeats 4000000 in
set_option maxRecDepth 100000 in
theorem c_X8_republic (l : Launch) (D : va_G) (cI cZ cN : ClassId) (a : Nat → Nat) (T Q Ld Vd L V S : NV) (R : Nat → NV) (C1 C2 Rn Wd : NV) (Im : Nat → NV) (K : NV) (tr : Int64) (z N C k y z1 z2 : Nat) (hz : T 1 0 = nI z) (hz2 : z ≤ 200) (hN : L 3 1 = nI N) (hN7 : N ≤ 7) (hC : L 3 0 = nI C) (hC4 : C ≤ 4) (hC1 : 1 ≤ C) (hk : S 0 0 = nI k) (hk10 : k < 10) (hy : S 0 1 = nI y) (hy10 : y ≤ 10) (hc1 : C1 2 0 = nI z1) (hz16 : z1 ≤ 6) (hc2 : C2 2 0 = nI z2) (hz26 : z2 ≤ 6) : CtI l yX8_republic cX8_republic 3 (some .int) 7 D (tyG cI cZ cN) [.ref (a 0)] (pOne cI cZ cN a T Q Ld Vd L V S R C1 C2 Rn Wd Im K tr) (fun r w => r = (rdR T z Q Ld Vd).1 ∧ w = if 0 ≤ (rdR T z Q Ld Vd).1 then (pOne cI cZ cN a (zeT T) ((rdR T z Q Ld Vd).2.2.1) ((rdR T z Q Ld Vd).2.2.2.1) ((rdR T z Q Ld Vd).2.2.2.2) (cpL (rdR T z Q Ld Vd).2.2.2.1 L) (cpN (rdR T z Q Ld Vd).2.2.2.2 V) (zeS S) R (zeC C1) (zeC C2) Rn Wd Im (upA K 0 (fil (K 0) 0 2)) tr) else (pOne cI cZ cN a T ((rdR T z Q Ld Vd).2.2.1) ((rdR T z Q Ld Vd).2.2.2.1) ((rdR T z Q Ld Vd).2.2.2.2) L V S R C1 C2 Rn Wd Im K tr)) := by
  refine CtI.of rfl (Nat.le_of_ble_eq_true rfl) ?_
  intro pg ev sx mx ax bx mt cx ls Qx Ax Sx hret hW hl
  have hx := Sx.1
  have hb := Sx.2.1
  have hl : lv_has ls 3 [(0, .ref (a 0))] := hl
  refine lv_aload_n hx hb dX8_republic_0 rfl (lv_at hl 0 rfl) ?_
  refine r_get Sx hW 0 rfl rfl bw_wsX80 1 (by decide) (v := .ref (a 3)) rfl mw19 dX8_republic_1 ?_
  refine lv_aload_n hx hb dX8_republic_4 rfl (lv_at hl 0 rfl) ?_
  refine r_get Sx hW 0 rfl rfl bw_wsX80 0 (by decide) (v := .ref (a 1)) rfl mw15 dX8_republic_5 ?_
  refine callVI Sx hW (c_X4_read l D cI cZ cN (fun i => a (i + 3)) (fun i => a (i + 1)) Q Ld Vd T z hz hz2) vmX4_read mw164 [3, 4, 5, 6, 7, 8, 9, 10, 11, 1, 2] rfl (by decide) 0 rfl rfl (As := [.ref (a 1)]) (rest := []) rfl rfl hl.1 (Nat.le_of_ble_eq_true rfl) ⟨Nat.le_of_ble_eq_true rfl, Nat.le_of_ble_eq_true rfl⟩ ⟨Nat.le_refl _, Nat.le_refl _⟩ dX8_republic_8 (fun rx wx H locs hqx hW => ?_)
  obtain ⟨hrx, rfl⟩ := hqx
  have hW : AtC D (tyG cI cZ cN) Ax (pOne cI cZ cN a T ((rdR T z Q Ld Vd).2.2.1) ((rdR T z Q Ld Vd).2.2.2.1) ((rdR T z Q Ld Vd).2.2.2.2) L V S R C1 C2 Rn Wd Im K tr) sx H locs := hW.re [0, 12, 13, 14, 15, 16, 17, 18, 19, 20, 21, 22, 23, 24, 25, 26, 27, 28, 29, 30, 31, 32, 33, 34, 35, 36, 37, 38, 39, 40, 41, 42, 43, 44, 45, 46, 47, 48, 49, 50, 51, 52, 53, 54, 55, 56, 57, 58, 59, 60, 61, 62, 63, 64, 65, 66, 67, 68, 69, 70, 71, 72, 73, 74, 75, 76, 77, 78, 79, 80, 81, 82, 83] 84 (by decide) rfl rfl ⟨rfl, rfl, rfl, rfl, rfl, rfl, rfl, rfl, rfl, rfl, rfl, rfl, rfl, rfl, rfl, rfl, rfl, rfl, rfl, rfl, rfl, rfl, rfl, rfl, rfl, rfl, rfl, rfl, rfl, rfl, rfl, rfl, rfl, rfl, rfl, rfl, rfl, rfl, rfl, rfl, rfl, rfl, rfl, rfl, rfl, rfl, rfl, rfl, rfl, rfl, rfl, rfl, rfl, rfl, rfl, rfl, rfl, rfl, rfl, rfl, rfl, rfl, rfl, rfl, rfl, rfl, rfl, rfl, rfl, rfl, rfl, rfl, rfl, trivial⟩ (by decide +kernel) rfl rfl
  refine r_eq (y := (rdR T z Q Ld Vd).1) hrx ?_
  refine lv_istore_n (lv' := [(1, .int (rdR T z Q Ld Vd).1), (0, .ref (a 0))]) hx hb dX8_republic_11 rfl hl (by decide) rfl (fun ls hl => ?_)
  refine lv_iload_n hx hb dX8_republic_12 rfl (lv_at hl 0 rfl) ?_
  refine lv_if_ge (tgt := 18) hx hb dX8_republic_13 rfl (fun c_13 => ?_) (fun c_13 => ?_)
  · refine lv_aload_n hx hb dX8_republic_18 rfl (lv_at hl 1 rfl) ?_
    refine r_get Sx hW 0 rfl rfl bw_wsX80 2 (by decide) (v := .ref (a 12)) rfl mw23 dX8_republic_19 ?_
    refine lv_aload_n hx hb dX8_republic_22 rfl (lv_at hl 1 rfl) ?_
    refine r_get Sx hW 0 rfl rfl bw_wsX80 1 (by decide) (v := .ref (a 3)) rfl mw19 dX8_republic_23 ?_
    refine r_get Sx hW 3 rfl rfl bw_wsX40 0 (by decide) (v := .ref (a 4)) rfl mw161 dX8_republic_26 ?_
    refine callVV Sx hW (c_X1_take l D cI cZ cN (fun i => a (i + 12)) (fun i => a (i + 4)) L V ((rdR T z Q Ld Vd).2.2.2.1) ((rdR T z Q Ld Vd).2.2.2.2)) vmX1_take mw229 [12, 13, 14, 15, 16, 17, 18, 19, 4, 5, 6, 7, 8, 9, 10, 11] rfl (by decide) 0 rfl rfl (As := [.ref (a 4)]) (rest := []) rfl rfl hl.1 (Nat.le_of_ble_eq_true rfl) ⟨Nat.le_of_ble_eq_true rfl, Nat.le_of_ble_eq_true rfl⟩ ⟨Nat.le_refl _, Nat.le_refl _⟩ dX8_republic_29 (fun wx H locs hqx hW => ?_)
    obtain rfl := hqx
    have hW : AtC D (tyG cI cZ cN) Ax (pOne cI cZ cN a T ((rdR T z Q Ld Vd).2.2.1) ((rdR T z Q Ld Vd).2.2.2.1) ((rdR T z Q Ld Vd).2.2.2.2) (cpL ((rdR T z Q Ld Vd).2.2.2.1) L) (cpN ((rdR T z Q Ld Vd).2.2.2.2) V) S R C1 C2 Rn Wd Im K tr) sx H locs := hW.re [0, 1, 2, 3, 20, 21, 22, 23, 24, 25, 26, 27, 28, 29, 30, 31, 32, 33, 34, 35, 36, 37, 38, 39, 40, 41, 42, 43, 44, 45, 46, 47, 48, 49, 50, 51, 52, 53, 54, 55, 56, 57, 58, 59, 60, 61, 62, 63, 64, 65, 66, 67, 68, 69, 70, 71, 72, 73, 74, 75, 76, 77, 78, 79, 80, 81, 82, 83] 84 (by decide) rfl rfl ⟨rfl, rfl, rfl, rfl, rfl, rfl, rfl, rfl, rfl, rfl, rfl, rfl, rfl, rfl, rfl, rfl, rfl, rfl, rfl, rfl, rfl, rfl, rfl, rfl, rfl, rfl, rfl, rfl, rfl, rfl, rfl, rfl, rfl, rfl, rfl, rfl, rfl, rfl, rfl, rfl, rfl, rfl, rfl, rfl, rfl, rfl, rfl, rfl, rfl, rfl, rfl, rfl, rfl, rfl, rfl, rfl, rfl, rfl, rfl, rfl, rfl, rfl, rfl, rfl, rfl, rfl, rfl, rfl, trivial⟩ (by decide +kernel) rfl rfl
    refine lv_aload_n hx hb dX8_republic_32 rfl (lv_at hl 1 rfl) ?_
    refine r_get Sx hW 0 rfl rfl bw_wsX80 3 (by decide) (v := .ref (a 20)) rfl mw27 dX8_republic_33 ?_
    refine lv_iconst (v := (0 : Int32)) hx hb dX8_republic_36 rfl ?_
    refine r_put Sx hW 20 rfl rfl bw_wsX30 tyX3_ok nmX3 2 (by decide) mw162 rfl rfl rfl (Nat.le_of_ble_eq_true rfl) dX8_republic_37 (ws' := (pOne cI cZ cN a T ((rdR T z Q Ld Vd).2.2.1) ((rdR T z Q Ld Vd).2.2.2.1) ((rdR T z Q Ld Vd).2.2.2.2) (cpL ((rdR T z Q Ld Vd).2.2.2.1) L) (cpN ((rdR T z Q Ld Vd).2.2.2.2) V) (upA S 0 (upd (S 0) 1 (0 : Int32))) R C1 C2 Rn Wd Im K tr)) rfl (fun H locs hW => ?_)
    refine lv_aload_n hx hb dX8_republic_40 rfl (lv_at hl 1 rfl) ?_
    refine r_get Sx hW 0 rfl rfl bw_wsX80 4 (by decide) (v := .ref (a 62)) rfl mw31 dX8_republic_41 ?_
    refine lv_iconst (v := (0 : Int32)) hx hb dX8_republic_44 rfl ?_
    refine r_put Sx hW 62 rfl rfl bw_wsX00 tyX0_ok nmX0 2 (by decide) mw163 rfl rfl rfl (Nat.le_of_ble_eq_true rfl) dX8_republic_45 (ws' := (pOne cI cZ cN a T ((rdR T z Q Ld Vd).2.2.1) ((rdR T z Q Ld Vd).2.2.2.1) ((rdR T z Q Ld Vd).2.2.2.2) (cpL ((rdR T z Q Ld Vd).2.2.2.1) L) (cpN ((rdR T z Q Ld Vd).2.2.2.2) V) (upA S 0 (upd (S 0) 1 (0 : Int32))) R (upA C1 2 (upd (C1 2) 0 (0 : Int32))) C2 Rn Wd Im K tr)) rfl (fun H locs hW => ?_)
    refine lv_aload_n hx hb dX8_republic_48 rfl (lv_at hl 1 rfl) ?_
    refine r_get Sx hW 0 rfl rfl bw_wsX80 5 (by decide) (v := .ref (a 65)) rfl mw32 dX8_republic_49 ?_
    refine lv_iconst (v := (0 : Int32)) hx hb dX8_republic_52 rfl ?_
    refine r_put Sx hW 65 rfl rfl bw_wsX00 tyX0_ok nmX0 2 (by decide) mw163 rfl rfl rfl (Nat.le_of_ble_eq_true rfl) dX8_republic_53 (ws' := (pOne cI cZ cN a T ((rdR T z Q Ld Vd).2.2.1) ((rdR T z Q Ld Vd).2.2.2.1) ((rdR T z Q Ld Vd).2.2.2.2) (cpL ((rdR T z Q Ld Vd).2.2.2.1) L) (cpN ((rdR T z Q Ld Vd).2.2.2.2) V) (upA S 0 (upd (S 0) 1 (0 : Int32))) R (upA C1 2 (upd (C1 2) 0 (0 : Int32))) (upA C2 2 (upd (C2 2) 0 (0 : Int32))) Rn Wd Im K tr)) rfl (fun H locs hW => ?_)
    refine lv_iconst (v := (0 : Int32)) hx hb dX8_republic_56 rfl ?_
    refine lv_istore_n (lv' := [(2, .int (0 : Int32)), (1, .int (rdR T z Q Ld Vd).1), (0, .ref (a 0))]) hx hb dX8_republic_57 rfl hl (by decide) rfl (fun ls hl => ?_)
    have lp_58 : ∀ (n : Nat) (i : Nat), ((i ≤ 2)) → ((2 + 1 ≤ i + n)) → ∀ (H : Heap) (locs : List Loc) (ls : Array Slot), AtC D (tyG cI cZ cN) Ax (pOne cI cZ cN a T ((rdR T z Q Ld Vd).2.2.1) ((rdR T z Q Ld Vd).2.2.2.1) ((rdR T z Q Ld Vd).2.2.2.2) (cpL ((rdR T z Q Ld Vd).2.2.2.1) L) (cpN ((rdR T z Q Ld Vd).2.2.2.2) V) (upA S 0 (upd (S 0) 1 (0 : Int32))) R (upA C1 2 (upd (C1 2) 0 (0 : Int32))) (upA C2 2 (upd (C2 2) 0 (0 : Int32))) Rn Wd Im (upA K 0 (fil (K 0) 0 i)) tr) sx H locs → lv_has ls 3 [(0, .ref (a 0)), (1, .int (rdR T z Q Ld Vd).1), (2, .int (nI i))] → W pg l ev (rmN 7) sx mx ax bx mt cx H locs 0 0 Qx (F0 mx 58 ls []) := by
      intro n
      induction n with
      | zero =>
        intro i hi_58 hn_58 H locs ls hW hl
        exact absurd hn_58 (by omega)
      | succ n ih58 =>
        intro i hi_58 hn_58 H locs ls hW hl
        refine lv_iload_n hx hb dX8_republic_58 rfl (lv_at hl 2 rfl) ?_
        refine lv_iconst (v := (2 : Int32)) hx hb dX8_republic_59 rfl ?_
        refine lv_icmp_ge (tgt := 76) hx hb dX8_republic_60 rfl (fun c_60 => ?_) (fun c_60 => ?_)
        · have ge_60 : 2 ≤ i := (nI_leI (a := 2) (b := i) (by omega) (by omega)).mp c_60
          have ee_60 : 2 = i := by omega
          subst ee_60
          refine lv_aload_n hx hb dX8_republic_76 rfl (lv_at hl 0 rfl) ?_
          refine r_get Sx hW 0 rfl rfl bw_wsX80 0 (by decide) (v := .ref (a 1)) rfl mw15 dX8_republic_77 ?_
          refine lv_iconst (v := (0 : Int32)) hx hb dX8_republic_80 rfl ?_
          refine r_put Sx hW 1 rfl rfl bw_wsX60 tyX6_ok nmX6 1 (by decide) mw135 rfl rfl rfl (Nat.le_of_ble_eq_true rfl) dX8_republic_81 (ws' := (pOne cI cZ cN a (upA T 1 (upd (T 1) 0 (0 : Int32))) ((rdR T z Q Ld Vd).2.2.1) ((rdR T z Q Ld Vd).2.2.2.1) ((rdR T z Q Ld Vd).2.2.2.2) (cpL ((rdR T z Q Ld Vd).2.2.2.1) L) (cpN ((rdR T z Q Ld Vd).2.2.2.2) V) (upA S 0 (upd (S 0) 1 (0 : Int32))) R (upA C1 2 (upd (C1 2) 0 (0 : Int32))) (upA C2 2 (upd (C2 2) 0 (0 : Int32))) Rn Wd Im (upA K 0 (fil (K 0) 0 2)) tr)) rfl (fun H locs hW => ?_)
          refine lv_iload_n hx hb dX8_republic_84 rfl (lv_at hl 1 rfl) ?_
          exact hret _ _ _ _ _ _ hW rfl rfl dX8_republic_85 (⟨rfl, by rw [if_pos c_13] <;> rfl⟩)
        · have lt_60 : i < 2 := Nat.not_le.mp (fun h => c_60 ((nI_leI (a := 2) (b := i) (by omega) (by omega)).mpr h))
          refine lv_aload_n hx hb dX8_republic_63 rfl (lv_at hl 0 rfl) ?_
          refine r_get Sx hW 0 rfl rfl bw_wsX80 9 (by decide) (v := .ref (a 83)) rfl mw44 dX8_republic_64 ?_
          refine lv_iload_n hx hb dX8_republic_67 rfl (lv_at hl 2 rfl) ?_
          refine lv_iconst (v := (0 : Int32)) hx hb dX8_republic_68 rfl ?_
          refine r_zast Sx hW 83 1 rfl rfl (j := i) rfl (by omega) (by decide) rfl dX8_republic_69 (ws' := (pOne cI cZ cN a T ((rdR T z Q Ld Vd).2.2.1) ((rdR T z Q Ld Vd).2.2.2.1) ((rdR T z Q Ld Vd).2.2.2.2) (cpL ((rdR T z Q Ld Vd).2.2.2.1) L) (cpN ((rdR T z Q Ld Vd).2.2.2.2) V) (upA S 0 (upd (S 0) 1 (0 : Int32))) R (upA C1 2 (upd (C1 2) 0 (0 : Int32))) (upA C2 2 (upd (C2 2) 0 (0 : Int32))) Rn Wd Im (upA K 0 (upd (fil (K 0) 0 i) i (0 : Int32))) tr)) rfl (fun H locs hW => ?_)
          refine lv_iinc (v := (nI (i + 1))) (lv' := [(2, .int (nI (i + 1))), (0, .ref (a 0)), (1, .int (rdR T z Q Ld Vd).1)]) hx hb dX8_republic_70 hl (k := 2) rfl (inc_n i 1) (by decide) rfl (fun ls hl => ?_)
          refine lv_goto (tgt := 58) hx hb dX8_republic_73 rfl ?_
          exact ih58 (i + 1) (by omega) (by omega) _ _ _ hW (lv_sub hl [1, 2, 0] rfl)
    exact lp_58 (2 + 1) 0 (by omega) (by omega) _ _ _ hW (lv_sub hl [2, 1, 0] rfl)
  · refine lv_iload_n hx hb dX8_republic_16 rfl (lv_at hl 0 rfl) ?_
    exact hret _ _ _ _ _ _ hW rfl rfl dX8_republic_17 (⟨rfl, by rw [if_neg c_13] <;> rfl⟩)

set_option maxHeartbeats 4000000 in
set_option maxRecDepth 100000 in
theorem c_X8_person (l : Launch) (D : va_G) (cI cZ cN : ClassId) (a : Nat → Nat) (T Q Ld Vd L V S : NV) (R : Nat → NV) (C1 C2 Rn Wd : NV) (Im : Nat → NV) (K : NV) (tr : Int64) (z N C k y z1 z2 : Nat) (hz : T 1 0 = nI z) (hz2 : z ≤ 200) (hN : L 3 1 = nI N) (hN7 : N ≤ 7) (hC : L 3 0 = nI C) (hC4 : C ≤ 4) (hC1 : 1 ≤ C) (hk : S 0 0 = nI k) (hk10 : k < 10) (hy : S 0 1 = nI y) (hy10 : y ≤ 10) (hc1 : C1 2 0 = nI z1) (hz16 : z1 ≤ 6) (hc2 : C2 2 0 = nI z2) (hz26 : z2 ≤ 6) (p0 wh : Int32) : CtI l yX8_person cX8_person 3 (some .int) 4 D (tyG cI cZ cN) [.ref (a 0), .int p0, .int wh] (pOne cI cZ cN a T Q Ld Vd L V S R C1 C2 Rn Wd Im K tr) (fun r w => r = opP N p0 (prR N C L V wh) ∧ w = (pOne cI cZ cN a T Q Ld Vd L V S R C1 C2 Rn Wd Im K tr)) := by
  refine CtI.of rfl (Nat.le_of_ble_eq_true rfl) ?_
  intro pg ev sx mx ax bx mt cx ls Qx Ax Sx hret hW hl
  have hx := Sx.1
  have hb := Sx.2.1
  have hl : lv_has ls 3 [(0, .ref (a 0)), (1, .int p0), (2, .int wh)] := hl
  refine lv_aload_n hx hb dX8_person_0 rfl (lv_at hl 0 rfl) ?_
  refine r_get Sx hW 0 rfl rfl bw_wsX80 2 (by decide) (v := .ref (a 12)) rfl mw23 dX8_person_1 ?_
  refine lv_iload_n hx hb dX8_person_4 rfl (lv_at hl 1 rfl) ?_
  refine callVI Sx hW (c_X1_hasPerson l D cI cZ cN (fun i => a (i + 12)) L V p0 N C hN hN7 hC hC4 hC1 ) vmX1_hasPerson mw297 [12, 13, 14, 15, 16, 17, 18, 19] rfl (by decide) 0 rfl rfl (As := [.int p0]) (rest := []) rfl rfl hl.1 (Nat.le_of_ble_eq_true rfl) ⟨Nat.le_of_ble_eq_true rfl, Nat.le_of_ble_eq_true rfl⟩ ⟨Nat.le_refl _, Nat.le_refl _⟩ dX8_person_5 (fun rx wx H locs hqx hW => ?_)
  obtain ⟨hrx, rfl⟩ := hqx
  have hW : AtC D (tyG cI cZ cN) Ax (pOne cI cZ cN a T Q Ld Vd L V S R C1 C2 Rn Wd Im K tr) sx H locs := hW.re [0, 1, 2, 3, 4, 5, 6, 7, 8, 9, 10, 11, 20, 21, 22, 23, 24, 25, 26, 27, 28, 29, 30, 31, 32, 33, 34, 35, 36, 37, 38, 39, 40, 41, 42, 43, 44, 45, 46, 47, 48, 49, 50, 51, 52, 53, 54, 55, 56, 57, 58, 59, 60, 61, 62, 63, 64, 65, 66, 67, 68, 69, 70, 71, 72, 73, 74, 75, 76, 77, 78, 79, 80, 81, 82, 83] 84 (by decide) rfl rfl ⟨rfl, rfl, rfl, rfl, rfl, rfl, rfl, rfl, rfl, rfl, rfl, rfl, rfl, rfl, rfl, rfl, rfl, rfl, rfl, rfl, rfl, rfl, rfl, rfl, rfl, rfl, rfl, rfl, rfl, rfl, rfl, rfl, rfl, rfl, rfl, rfl, rfl, rfl, rfl, rfl, rfl, rfl, rfl, rfl, rfl, rfl, rfl, rfl, rfl, rfl, rfl, rfl, rfl, rfl, rfl, rfl, rfl, rfl, rfl, rfl, rfl, rfl, rfl, rfl, rfl, rfl, rfl, rfl, rfl, rfl, rfl, rfl, rfl, rfl, rfl, rfl, trivial⟩ (by decide +kernel) rfl rfl
  refine r_eq (y := (inI (p0) 0 (nI (N) - 1))) hrx ?_
  refine lv_if_ne (tgt := 13) hx hb dX8_person_8 rfl (fun c_8 => ?_) (fun c_8 => ?_)
  · obtain ⟨P, hP, rfl⟩ := inI_nat (nI_m1 (show N < 1000 by omega)) c_8
    refine lv_iload_n hx hb dX8_person_13 rfl (lv_at hl 2 rfl) ?_
    by_cases e_14_0 : wh = (0 : Int32)
    · refine r_eq e_14_0 ?_
      refine lv_tableIn (off := 46) (tgt := 60) hx hb dX8_person_14 (by decide) (by decide) rfl rfl ?_
      refine lv_aload_n hx hb dX8_person_60 rfl (lv_at hl 0 rfl) ?_
      refine r_get Sx hW 0 rfl rfl bw_wsX80 2 (by decide) (v := .ref (a 12)) rfl mw23 dX8_person_61 ?_
      refine r_get Sx hW 12 rfl rfl bw_wsX10 3 (by decide) (v := .ref (a 16)) rfl mw291 dX8_person_64 ?_
      refine r_get Sx hW 16 rfl rfl bw_wsX20 0 (by decide) (v := .ref (a 17)) rfl mw292 dX8_person_67 ?_
      refine lv_iload_n hx hb dX8_person_70 rfl (lv_at hl 1 rfl) ?_
      refine r_iald Sx hW 17 0 rfl rfl (j := P) rfl (by omega) (by decide) dX8_person_71 ?_
      exact hret _ _ _ _ _ _ hW rfl rfl dX8_person_72 (⟨by rw [opP_1 hN7 hP c_8, prR, if_pos e_14_0] <;> rfl, rfl⟩)
    by_cases e_14_1 : wh = (1 : Int32)
    · refine r_eq e_14_1 ?_
      refine lv_tableIn (off := 59) (tgt := 73) hx hb dX8_person_14 (by decide) (by decide) rfl rfl ?_
      refine lv_aload_n hx hb dX8_person_73 rfl (lv_at hl 0 rfl) ?_
      refine r_get Sx hW 0 rfl rfl bw_wsX80 2 (by decide) (v := .ref (a 12)) rfl mw23 dX8_person_74 ?_
      refine r_get Sx hW 12 rfl rfl bw_wsX10 3 (by decide) (v := .ref (a 16)) rfl mw291 dX8_person_77 ?_
      refine r_get Sx hW 16 rfl rfl bw_wsX20 1 (by decide) (v := .ref (a 18)) rfl mw293 dX8_person_80 ?_
      refine lv_iload_n hx hb dX8_person_83 rfl (lv_at hl 1 rfl) ?_
      refine r_iald Sx hW 18 0 rfl rfl (j := P) rfl (by omega) (by decide) dX8_person_84 ?_
      exact hret _ _ _ _ _ _ hW rfl rfl dX8_person_85 (⟨by rw [opP_1 hN7 hP c_8, prR, if_neg e_14_0, if_pos e_14_1] <;> rfl, rfl⟩)
    by_cases e_14_2 : wh = (2 : Int32)
    · refine r_eq e_14_2 ?_
      refine lv_tableIn (off := 72) (tgt := 86) hx hb dX8_person_14 (by decide) (by decide) rfl rfl ?_
      refine lv_aload_n hx hb dX8_person_86 rfl (lv_at hl 0 rfl) ?_
      refine r_get Sx hW 0 rfl rfl bw_wsX80 2 (by decide) (v := .ref (a 12)) rfl mw23 dX8_person_87 ?_
      refine r_get Sx hW 12 rfl rfl bw_wsX10 0 (by decide) (v := .ref (a 13)) rfl mw294 dX8_person_90 ?_
      refine lv_iload_n hx hb dX8_person_93 rfl (lv_at hl 1 rfl) ?_
      refine r_iald Sx hW 13 0 rfl rfl (j := P) rfl (by omega) (by decide) dX8_person_94 ?_
      exact hret _ _ _ _ _ _ hW rfl rfl dX8_person_95 (⟨by rw [opP_1 hN7 hP c_8, prR, if_neg e_14_0, if_neg e_14_1, if_pos e_14_2] <;> rfl, rfl⟩)
    by_cases e_14_3 : wh = (3 : Int32)
    · refine r_eq e_14_3 ?_
      refine lv_tableIn (off := 82) (tgt := 96) hx hb dX8_person_14 (by decide) (by decide) rfl rfl ?_
      refine lv_aload_n hx hb dX8_person_96 rfl (lv_at hl 0 rfl) ?_
      refine r_get Sx hW 0 rfl rfl bw_wsX80 2 (by decide) (v := .ref (a 12)) rfl mw23 dX8_person_97 ?_
      refine r_get Sx hW 12 rfl rfl bw_wsX10 3 (by decide) (v := .ref (a 16)) rfl mw291 dX8_person_100 ?_
      refine r_get Sx hW 16 rfl rfl bw_wsX20 3 (by decide) (v := .int (V 3 0)) rfl mw295 dX8_person_103 ?_
      refine lv_iload_n hx hb dX8_person_106 rfl (lv_at hl 1 rfl) ?_
      refine callSI Sx hW (c_X8_bit l D cI cZ cN (V 3 0) (nI P)) smX8_bit mw301 (As := [.int (V 3 0), .int (nI P)]) (rest := []) rfl rfl hl.1 (Nat.le_of_ble_eq_true rfl) ⟨Nat.le_of_ble_eq_true rfl, Nat.le_of_ble_eq_true rfl⟩ ⟨Nat.le_refl _, Nat.le_refl _⟩ dX8_person_107 (fun rx H locs hqx hW => ?_)
      obtain ⟨hrx, -⟩ := hqx
      refine r_eq (y := (bitI (V 3 0) (nI P))) hrx ?_
      exact hret _ _ _ _ _ _ hW rfl rfl dX8_person_110 (⟨by rw [opP_1 hN7 hP c_8, prR, if_neg e_14_0, if_neg e_14_1, if_neg e_14_2, if_pos e_14_3] <;> rfl, rfl⟩)
    by_cases e_14_4 : wh = (4 : Int32)
    · refine r_eq e_14_4 ?_
      refine lv_tableIn (off := 97) (tgt := 111) hx hb dX8_person_14 (by decide) (by decide) rfl rfl ?_
      refine lv_aload_n hx hb dX8_person_111 rfl (lv_at hl 0 rfl) ?_
      refine r_get Sx hW 0 rfl rfl bw_wsX80 2 (by decide) (v := .ref (a 12)) rfl mw23 dX8_person_112 ?_
      refine callVI Sx hW (c_X1_limping l D cI cZ cN (fun i => a (i + 12)) L V N C hN hN7 hC hC4 hC1 ) vmX1_limping mw304 [12, 13, 14, 15, 16, 17, 18, 19] rfl (by decide) 0 rfl rfl (As := []) (rest := []) rfl rfl hl.1 (Nat.le_of_ble_eq_true rfl) ⟨Nat.le_of_ble_eq_true rfl, Nat.le_of_ble_eq_true rfl⟩ ⟨Nat.le_refl _, Nat.le_refl _⟩ dX8_person_115 (fun rx wx H locs hqx hW => ?_)
      obtain ⟨hrx, rfl⟩ := hqx
      have hW : AtC D (tyG cI cZ cN) Ax (pOne cI cZ cN a T Q Ld Vd L V S R C1 C2 Rn Wd Im K tr) sx H locs := hW.re [0, 1, 2, 3, 4, 5, 6, 7, 8, 9, 10, 11, 20, 21, 22, 23, 24, 25, 26, 27, 28, 29, 30, 31, 32, 33, 34, 35, 36, 37, 38, 39, 40, 41, 42, 43, 44, 45, 46, 47, 48, 49, 50, 51, 52, 53, 54, 55, 56, 57, 58, 59, 60, 61, 62, 63, 64, 65, 66, 67, 68, 69, 70, 71, 72, 73, 74, 75, 76, 77, 78, 79, 80, 81, 82, 83] 84 (by decide) rfl rfl ⟨rfl, rfl, rfl, rfl, rfl, rfl, rfl, rfl, rfl, rfl, rfl, rfl, rfl, rfl, rfl, rfl, rfl, rfl, rfl, rfl, rfl, rfl, rfl, rfl, rfl, rfl, rfl, rfl, rfl, rfl, rfl, rfl, rfl, rfl, rfl, rfl, rfl, rfl, rfl, rfl, rfl, rfl, rfl, rfl, rfl, rfl, rfl, rfl, rfl, rfl, rfl, rfl, rfl, rfl, rfl, rfl, rfl, rfl, rfl, rfl, rfl, rfl, rfl, rfl, rfl, rfl, rfl, rfl, rfl, rfl, rfl, rfl, rfl, rfl, rfl, rfl, trivial⟩ (by decide +kernel) rfl rfl
      refine r_eq (y := (lmpI (V 0) (N) (C) (V 3 0) (V 3 1))) hrx ?_
      refine lv_iload_n hx hb dX8_person_118 rfl (lv_at hl 1 rfl) ?_
      refine callSI Sx hW (c_X8_bit l D cI cZ cN (lmpI (V 0) (N) (C) (V 3 0) (V 3 1)) (nI P)) smX8_bit mw301 (As := [.int (lmpI (V 0) (N) (C) (V 3 0) (V 3 1)), .int (nI P)]) (rest := []) rfl rfl hl.1 (Nat.le_of_ble_eq_true rfl) ⟨Nat.le_of_ble_eq_true rfl, Nat.le_of_ble_eq_true rfl⟩ ⟨Nat.le_refl _, Nat.le_refl _⟩ dX8_person_119 (fun rx H locs hqx hW => ?_)
      obtain ⟨hrx, -⟩ := hqx
      refine r_eq (y := (bitI (lmpI (V 0) (N) (C) (V 3 0) (V 3 1)) (nI P))) hrx ?_
      exact hret _ _ _ _ _ _ hW rfl rfl dX8_person_122 (⟨by rw [opP_1 hN7 hP c_8, prR, if_neg e_14_0, if_neg e_14_1, if_neg e_14_2, if_neg e_14_3, if_pos e_14_4] <;> rfl, rfl⟩)
    by_cases e_14_5 : wh = (5 : Int32)
    · refine r_eq e_14_5 ?_
      refine lv_tableIn (off := 109) (tgt := 123) hx hb dX8_person_14 (by decide) (by decide) rfl rfl ?_
      refine lv_aload_n hx hb dX8_person_123 rfl (lv_at hl 0 rfl) ?_
      refine r_get Sx hW 0 rfl rfl bw_wsX80 2 (by decide) (v := .ref (a 12)) rfl mw23 dX8_person_124 ?_
      refine r_get Sx hW 12 rfl rfl bw_wsX10 3 (by decide) (v := .ref (a 16)) rfl mw291 dX8_person_127 ?_
      refine r_get Sx hW 16 rfl rfl bw_wsX20 2 (by decide) (v := .ref (a 19)) rfl mw296 dX8_person_130 ?_
      refine lv_iload_n hx hb dX8_person_133 rfl (lv_at hl 1 rfl) ?_
      refine r_iald Sx hW 19 0 rfl rfl (j := P) rfl (by omega) (by decide) dX8_person_134 ?_
      exact hret _ _ _ _ _ _ hW rfl rfl dX8_person_135 (⟨by rw [opP_1 hN7 hP c_8, prR, if_neg e_14_0, if_neg e_14_1, if_neg e_14_2, if_neg e_14_3, if_neg e_14_4, if_pos e_14_5] <;> rfl, rfl⟩)
    by_cases e_14_6 : wh = (6 : Int32)
    · refine r_eq e_14_6 ?_
      refine lv_tableIn (off := 122) (tgt := 136) hx hb dX8_person_14 (by decide) (by decide) rfl rfl ?_
      refine lv_aload_n hx hb dX8_person_136 rfl (lv_at hl 0 rfl) ?_
      refine r_get Sx hW 0 rfl rfl bw_wsX80 2 (by decide) (v := .ref (a 12)) rfl mw23 dX8_person_137 ?_
      refine lv_iload_n hx hb dX8_person_140 rfl (lv_at hl 1 rfl) ?_
      refine callVI Sx hW (c_X1_fame l D cI cZ cN (fun i => a (i + 12)) L V P N C hN hN7 hC hC4 hC1 (by omega)) vmX1_fame mw316 [12, 13, 14, 15, 16, 17, 18, 19] rfl (by decide) 0 rfl rfl (As := [.int (nI P)]) (rest := []) rfl rfl hl.1 (Nat.le_of_ble_eq_true rfl) ⟨Nat.le_of_ble_eq_true rfl, Nat.le_of_ble_eq_true rfl⟩ ⟨Nat.le_refl _, Nat.le_refl _⟩ dX8_person_141 (fun rx wx H locs hqx hW => ?_)
      obtain ⟨hrx, rfl⟩ := hqx
      have hW : AtC D (tyG cI cZ cN) Ax (pOne cI cZ cN a T Q Ld Vd L V S R C1 C2 Rn Wd Im K tr) sx H locs := hW.re [0, 1, 2, 3, 4, 5, 6, 7, 8, 9, 10, 11, 20, 21, 22, 23, 24, 25, 26, 27, 28, 29, 30, 31, 32, 33, 34, 35, 36, 37, 38, 39, 40, 41, 42, 43, 44, 45, 46, 47, 48, 49, 50, 51, 52, 53, 54, 55, 56, 57, 58, 59, 60, 61, 62, 63, 64, 65, 66, 67, 68, 69, 70, 71, 72, 73, 74, 75, 76, 77, 78, 79, 80, 81, 82, 83] 84 (by decide) rfl rfl ⟨rfl, rfl, rfl, rfl, rfl, rfl, rfl, rfl, rfl, rfl, rfl, rfl, rfl, rfl, rfl, rfl, rfl, rfl, rfl, rfl, rfl, rfl, rfl, rfl, rfl, rfl, rfl, rfl, rfl, rfl, rfl, rfl, rfl, rfl, rfl, rfl, rfl, rfl, rfl, rfl, rfl, rfl, rfl, rfl, rfl, rfl, rfl, rfl, rfl, rfl, rfl, rfl, rfl, rfl, rfl, rfl, rfl, rfl, rfl, rfl, rfl, rfl, rfl, rfl, rfl, rfl, rfl, rfl, rfl, rfl, rfl, rfl, rfl, rfl, rfl, rfl, trivial⟩ (by decide +kernel) rfl rfl
      refine r_eq (y := (fmI (V 0) (V 2) (N) (V 3 1) (P))) hrx ?_
      exact hret _ _ _ _ _ _ hW rfl rfl dX8_person_144 (⟨by rw [opP_1 hN7 hP c_8, prR, if_neg e_14_0, if_neg e_14_1, if_neg e_14_2, if_neg e_14_3, if_neg e_14_4, if_neg e_14_5, if_pos e_14_6] <;> rfl, rfl⟩)
    by_cases e_14_7 : wh = (7 : Int32)
    · refine r_eq e_14_7 ?_
      refine lv_tableIn (off := 131) (tgt := 145) hx hb dX8_person_14 (by decide) (by decide) rfl rfl ?_
      refine lv_aload_n hx hb dX8_person_145 rfl (lv_at hl 0 rfl) ?_
      refine r_get Sx hW 0 rfl rfl bw_wsX80 2 (by decide) (v := .ref (a 12)) rfl mw23 dX8_person_146 ?_
      refine lv_iload_n hx hb dX8_person_149 rfl (lv_at hl 1 rfl) ?_
      refine callVI Sx hW (c_X1_tax l D cI cZ cN (fun i => a (i + 12)) L V P N C hN hN7 hC hC4 hC1 (by omega)) vmX1_tax mw320 [12, 13, 14, 15, 16, 17, 18, 19] rfl (by decide) 0 rfl rfl (As := [.int (nI P)]) (rest := []) rfl rfl hl.1 (Nat.le_of_ble_eq_true rfl) ⟨Nat.le_of_ble_eq_true rfl, Nat.le_of_ble_eq_true rfl⟩ ⟨Nat.le_refl _, Nat.le_refl _⟩ dX8_person_150 (fun rx wx H locs hqx hW => ?_)
      obtain ⟨hrx, rfl⟩ := hqx
      have hW : AtC D (tyG cI cZ cN) Ax (pOne cI cZ cN a T Q Ld Vd L V S R C1 C2 Rn Wd Im K tr) sx H locs := hW.re [0, 1, 2, 3, 4, 5, 6, 7, 8, 9, 10, 11, 20, 21, 22, 23, 24, 25, 26, 27, 28, 29, 30, 31, 32, 33, 34, 35, 36, 37, 38, 39, 40, 41, 42, 43, 44, 45, 46, 47, 48, 49, 50, 51, 52, 53, 54, 55, 56, 57, 58, 59, 60, 61, 62, 63, 64, 65, 66, 67, 68, 69, 70, 71, 72, 73, 74, 75, 76, 77, 78, 79, 80, 81, 82, 83] 84 (by decide) rfl rfl ⟨rfl, rfl, rfl, rfl, rfl, rfl, rfl, rfl, rfl, rfl, rfl, rfl, rfl, rfl, rfl, rfl, rfl, rfl, rfl, rfl, rfl, rfl, rfl, rfl, rfl, rfl, rfl, rfl, rfl, rfl, rfl, rfl, rfl, rfl, rfl, rfl, rfl, rfl, rfl, rfl, rfl, rfl, rfl, rfl, rfl, rfl, rfl, rfl, rfl, rfl, rfl, rfl, rfl, rfl, rfl, rfl, rfl, rfl, rfl, rfl, rfl, rfl, rfl, rfl, rfl, rfl, rfl, rfl, rfl, rfl, rfl, rfl, rfl, rfl, rfl, rfl, trivial⟩ (by decide +kernel) rfl rfl
      refine r_eq (y := (txI (V 0) (V 1) (N) (V 3 1) (P) (V 0 (P)))) hrx ?_
      exact hret _ _ _ _ _ _ hW rfl rfl dX8_person_153 (⟨by rw [opP_1 hN7 hP c_8, prR, if_neg e_14_0, if_neg e_14_1, if_neg e_14_2, if_neg e_14_3, if_neg e_14_4, if_neg e_14_5, if_neg e_14_6, if_pos e_14_7] <;> rfl, rfl⟩)
    refine lv_tableOut (tgt := 154) hx hb dX8_person_14 (by have q0 := lv_neT e_14_0 (show ((0 : Int32)).toInt = 0 from by decide); have q1 := lv_neT e_14_1 (show ((1 : Int32)).toInt = 1 from by decide); have q2 := lv_neT e_14_2 (show ((2 : Int32)).toInt = 2 from by decide); have q3 := lv_neT e_14_3 (show ((3 : Int32)).toInt = 3 from by decide); have q4 := lv_neT e_14_4 (show ((4 : Int32)).toInt = 4 from by decide); have q5 := lv_neT e_14_5 (show ((5 : Int32)).toInt = 5 from by decide); have q6 := lv_neT e_14_6 (show ((6 : Int32)).toInt = 6 from by decide); have q7 := lv_neT e_14_7 (show ((7 : Int32)).toInt = 7 from by decide); omega) rfl ?_
    refine lv_iconst (v := (-1 : Int32)) hx hb dX8_person_154 rfl ?_
    exact hret _ _ _ _ _ _ hW rfl rfl dX8_person_155 (⟨by rw [opP_1 hN7 hP c_8, prR, if_neg e_14_0, if_neg e_14_1, if_neg e_14_2, if_neg e_14_3, if_neg e_14_4, if_neg e_14_5, if_neg e_14_6, if_neg e_14_7] <;> rfl, rfl⟩)
  · refine lv_iconst (v := (-1 : Int32)) hx hb dX8_person_11 rfl ?_
    exact hret _ _ _ _ _ _ hW rfl rfl dX8_person_12 (⟨opP_0 c_8 |>.symm, rfl⟩)

set_option maxHeartbeats 4000000 in
set_option maxRecDepth 100000 in
theorem c_X8_quarrels (l : Launch) (D : va_G) (cI cZ cN : ClassId) (a : Nat → Nat) (T Q Ld Vd L V S : NV) (R : Nat → NV) (C1 C2 Rn Wd : NV) (Im : Nat → NV) (K : NV) (tr : Int64) (z N C k y z1 z2 : Nat) (hz : T 1 0 = nI z) (hz2 : z ≤ 200) (hN : L 3 1 = nI N) (hN7 : N ≤ 7) (hC : L 3 0 = nI C) (hC4 : C ≤ 4) (hC1 : 1 ≤ C) (hk : S 0 0 = nI k) (hk10 : k < 10) (hy : S 0 1 = nI y) (hy10 : y ≤ 10) (hc1 : C1 2 0 = nI z1) (hz16 : z1 ≤ 6) (hc2 : C2 2 0 = nI z2) (hz26 : z2 ≤ 6) (p0 : Int32) : CtI l yX8_quarrels cX8_quarrels 2 (some .int) 2 D (tyG cI cZ cN) [.ref (a 0), .int p0] (pOne cI cZ cN a T Q Ld Vd L V S R C1 C2 Rn Wd Im K tr) (fun r w => r = opP N p0 (L 1) ∧ w = (pOne cI cZ cN a T Q Ld Vd L V S R C1 C2 Rn Wd Im K tr)) := by
  refine CtI.of rfl (Nat.le_of_ble_eq_true rfl) ?_
  intro pg ev sx mx ax bx mt cx ls Qx Ax Sx hret hW hl
  have hx := Sx.1
  have hb := Sx.2.1
  have hl : lv_has ls 2 [(0, .ref (a 0)), (1, .int p0)] := hl
  refine lv_aload_n hx hb dX8_quarrels_0 rfl (lv_at hl 0 rfl) ?_
  refine r_get Sx hW 0 rfl rfl bw_wsX80 2 (by decide) (v := .ref (a 12)) rfl mw23 dX8_quarrels_1 ?_
  refine lv_iload_n hx hb dX8_quarrels_4 rfl (lv_at hl 1 rfl) ?_
  refine callVI Sx hW (c_X1_hasPerson l D cI cZ cN (fun i => a (i + 12)) L V p0 N C hN hN7 hC hC4 hC1 ) vmX1_hasPerson mw297 [12, 13, 14, 15, 16, 17, 18, 19] rfl (by decide) 0 rfl rfl (As := [.int p0]) (rest := []) rfl rfl hl.1 (Nat.le_of_ble_eq_true rfl) ⟨Nat.le_of_ble_eq_true rfl, Nat.le_of_ble_eq_true rfl⟩ ⟨Nat.le_refl _, Nat.le_refl _⟩ dX8_quarrels_5 (fun rx wx H locs hqx hW => ?_)
  obtain ⟨hrx, rfl⟩ := hqx
  have hW : AtC D (tyG cI cZ cN) Ax (pOne cI cZ cN a T Q Ld Vd L V S R C1 C2 Rn Wd Im K tr) sx H locs := hW.re [0, 1, 2, 3, 4, 5, 6, 7, 8, 9, 10, 11, 20, 21, 22, 23, 24, 25, 26, 27, 28, 29, 30, 31, 32, 33, 34, 35, 36, 37, 38, 39, 40, 41, 42, 43, 44, 45, 46, 47, 48, 49, 50, 51, 52, 53, 54, 55, 56, 57, 58, 59, 60, 61, 62, 63, 64, 65, 66, 67, 68, 69, 70, 71, 72, 73, 74, 75, 76, 77, 78, 79, 80, 81, 82, 83] 84 (by decide) rfl rfl ⟨rfl, rfl, rfl, rfl, rfl, rfl, rfl, rfl, rfl, rfl, rfl, rfl, rfl, rfl, rfl, rfl, rfl, rfl, rfl, rfl, rfl, rfl, rfl, rfl, rfl, rfl, rfl, rfl, rfl, rfl, rfl, rfl, rfl, rfl, rfl, rfl, rfl, rfl, rfl, rfl, rfl, rfl, rfl, rfl, rfl, rfl, rfl, rfl, rfl, rfl, rfl, rfl, rfl, rfl, rfl, rfl, rfl, rfl, rfl, rfl, rfl, rfl, rfl, rfl, rfl, rfl, rfl, rfl, rfl, rfl, rfl, rfl, rfl, rfl, rfl, rfl, trivial⟩ (by decide +kernel) rfl rfl
  refine r_eq (y := (inI (p0) 0 (nI (N) - 1))) hrx ?_
  refine lv_if_eq (tgt := 23) hx hb dX8_quarrels_8 rfl (fun c_8 => ?_) (fun c_8 => ?_)
  · refine lv_iconst (v := (-1 : Int32)) hx hb dX8_quarrels_23 rfl ?_
    exact hret _ _ _ _ _ _ hW rfl rfl dX8_quarrels_24 (⟨opP_0 c_8 |>.symm, rfl⟩)
  · obtain ⟨P, hP, rfl⟩ := inI_nat (nI_m1 (show N < 1000 by omega)) c_8
    refine lv_aload_n hx hb dX8_quarrels_11 rfl (lv_at hl 0 rfl) ?_
    refine r_get Sx hW 0 rfl rfl bw_wsX80 2 (by decide) (v := .ref (a 12)) rfl mw23 dX8_quarrels_12 ?_
    refine r_get Sx hW 12 rfl rfl bw_wsX10 1 (by decide) (v := .ref (a 14)) rfl mw381 dX8_quarrels_15 ?_
    refine lv_iload_n hx hb dX8_quarrels_18 rfl (lv_at hl 1 rfl) ?_
    refine r_iald Sx hW 14 0 rfl rfl (j := P) rfl (by omega) (by decide) dX8_quarrels_19 ?_
    refine lv_goto (tgt := 24) hx hb dX8_quarrels_20 rfl ?_
    exact hret _ _ _ _ _ _ hW rfl rfl dX8_quarrels_24 (⟨(opP_1 hN7 hP c_8).symm, rfl⟩)

set_option maxHeartbeats 4000000 in
set_option maxRecDepth 100000 in
theorem c_X8_name (l : Launch) (D : va_G) (cI cZ cN : ClassId) (a : Nat → Nat) (T Q Ld Vd L V S : NV) (R : Nat → NV) (C1 C2 Rn Wd : NV) (Im : Nat → NV) (K : NV) (tr : Int64) (z N C k y z1 z2 : Nat) (hz : T 1 0 = nI z) (hz2 : z ≤ 200) (hN : L 3 1 = nI N) (hN7 : N ≤ 7) (hC : L 3 0 = nI C) (hC4 : C ≤ 4) (hC1 : 1 ≤ C) (hk : S 0 0 = nI k) (hk10 : k < 10) (hy : S 0 1 = nI y) (hy10 : y ≤ 10) (hc1 : C1 2 0 = nI z1) (hz16 : z1 ≤ 6) (hc2 : C2 2 0 = nI z2) (hz26 : z2 ≤ 6) (p0 wh : Int32) : CtI l yX8_name cX8_name 5 (some .int) 2 D (tyG cI cZ cN) [.ref (a 0), .int p0, .int wh] (pOne cI cZ cN a T Q Ld Vd L V S R C1 C2 Rn Wd Im K tr) (fun r w => r = naR N C V p0 wh ∧ w = (pOne cI cZ cN a T Q Ld Vd L V S R C1 C2 Rn Wd Im K tr)) := by
  refine CtI.of rfl (Nat.le_of_ble_eq_true rfl) ?_
  intro pg ev sx mx ax bx mt cx ls Qx Ax Sx hret hW hl
  have hx := Sx.1
  have hb := Sx.2.1
  have hl : lv_has ls 5 [(0, .ref (a 0)), (1, .int p0), (2, .int wh)] := hl
  refine lv_aload_n hx hb dX8_name_0 rfl (lv_at hl 0 rfl) ?_
  refine r_get Sx hW 0 rfl rfl bw_wsX80 2 (by decide) (v := .ref (a 12)) rfl mw23 dX8_name_1 ?_
  refine lv_iload_n hx hb dX8_name_4 rfl (lv_at hl 1 rfl) ?_
  refine callVI Sx hW (c_X1_hasName l D cI cZ cN (fun i => a (i + 12)) L V p0 N C hN hN7 hC hC4 hC1 ) vmX1_hasName mw391 [12, 13, 14, 15, 16, 17, 18, 19] rfl (by decide) 0 rfl rfl (As := [.int p0]) (rest := []) rfl rfl hl.1 (Nat.le_of_ble_eq_true rfl) ⟨Nat.le_of_ble_eq_true rfl, Nat.le_of_ble_eq_true rfl⟩ ⟨Nat.le_refl _, Nat.le_refl _⟩ dX8_name_5 (fun rx wx H locs hqx hW => ?_)
  obtain ⟨hrx, rfl⟩ := hqx
  have hW : AtC D (tyG cI cZ cN) Ax (pOne cI cZ cN a T Q Ld Vd L V S R C1 C2 Rn Wd Im K tr) sx H locs := hW.re [0, 1, 2, 3, 4, 5, 6, 7, 8, 9, 10, 11, 20, 21, 22, 23, 24, 25, 26, 27, 28, 29, 30, 31, 32, 33, 34, 35, 36, 37, 38, 39, 40, 41, 42, 43, 44, 45, 46, 47, 48, 49, 50, 51, 52, 53, 54, 55, 56, 57, 58, 59, 60, 61, 62, 63, 64, 65, 66, 67, 68, 69, 70, 71, 72, 73, 74, 75, 76, 77, 78, 79, 80, 81, 82, 83] 84 (by decide) rfl rfl ⟨rfl, rfl, rfl, rfl, rfl, rfl, rfl, rfl, rfl, rfl, rfl, rfl, rfl, rfl, rfl, rfl, rfl, rfl, rfl, rfl, rfl, rfl, rfl, rfl, rfl, rfl, rfl, rfl, rfl, rfl, rfl, rfl, rfl, rfl, rfl, rfl, rfl, rfl, rfl, rfl, rfl, rfl, rfl, rfl, rfl, rfl, rfl, rfl, rfl, rfl, rfl, rfl, rfl, rfl, rfl, rfl, rfl, rfl, rfl, rfl, rfl, rfl, rfl, rfl, rfl, rfl, rfl, rfl, rfl, rfl, rfl, rfl, rfl, rfl, rfl, rfl, trivial⟩ (by decide +kernel) rfl rfl
  refine r_eq (y := (inI (p0) 0 (nI (C) - 1))) hrx ?_
  refine lv_if_ne (tgt := 13) hx hb dX8_name_8 rfl (fun c_8 => ?_) (fun c_8 => ?_)
  · refine lv_aload_n hx hb dX8_name_13 rfl (lv_at hl 0 rfl) ?_
    refine r_get Sx hW 0 rfl rfl bw_wsX80 2 (by decide) (v := .ref (a 12)) rfl mw23 dX8_name_14 ?_
    refine lv_iload_n hx hb dX8_name_17 rfl (lv_at hl 1 rfl) ?_
    refine callVI Sx hW (c_X1_bearers l D cI cZ cN (fun i => a (i + 12)) L V p0 N C hN hN7 hC hC4 hC1 ) vmX1_bearers mw395 [12, 13, 14, 15, 16, 17, 18, 19] rfl (by decide) 0 rfl rfl (As := [.int p0]) (rest := []) rfl rfl hl.1 (Nat.le_of_ble_eq_true rfl) ⟨Nat.le_of_ble_eq_true rfl, Nat.le_of_ble_eq_true rfl⟩ ⟨Nat.le_refl _, Nat.le_refl _⟩ dX8_name_18 (fun rx wx H locs hqx hW => ?_)
    obtain ⟨hrx, rfl⟩ := hqx
    have hW : AtC D (tyG cI cZ cN) Ax (pOne cI cZ cN a T Q Ld Vd L V S R C1 C2 Rn Wd Im K tr) sx H locs := hW.re [0, 1, 2, 3, 4, 5, 6, 7, 8, 9, 10, 11, 20, 21, 22, 23, 24, 25, 26, 27, 28, 29, 30, 31, 32, 33, 34, 35, 36, 37, 38, 39, 40, 41, 42, 43, 44, 45, 46, 47, 48, 49, 50, 51, 52, 53, 54, 55, 56, 57, 58, 59, 60, 61, 62, 63, 64, 65, 66, 67, 68, 69, 70, 71, 72, 73, 74, 75, 76, 77, 78, 79, 80, 81, 82, 83] 84 (by decide) rfl rfl ⟨rfl, rfl, rfl, rfl, rfl, rfl, rfl, rfl, rfl, rfl, rfl, rfl, rfl, rfl, rfl, rfl, rfl, rfl, rfl, rfl, rfl, rfl, rfl, rfl, rfl, rfl, rfl, rfl, rfl, rfl, rfl, rfl, rfl, rfl, rfl, rfl, rfl, rfl, rfl, rfl, rfl, rfl, rfl, rfl, rfl, rfl, rfl, rfl, rfl, rfl, rfl, rfl, rfl, rfl, rfl, rfl, rfl, rfl, rfl, rfl, rfl, rfl, rfl, rfl, rfl, rfl, rfl, rfl, rfl, rfl, rfl, rfl, rfl, rfl, rfl, rfl, trivial⟩ (by decide +kernel) rfl rfl
    refine r_eq (y := (br (V 0) (p0) (N))) hrx ?_
    refine lv_istore_n (lv' := [(3, .int (br (V 0) (p0) (N))), (0, .ref (a 0)), (1, .int p0), (2, .int wh)]) hx hb dX8_name_21 rfl hl (by decide) rfl (fun ls hl => ?_)
    refine lv_iconst (v := (1 : Int32)) hx hb dX8_name_22 rfl ?_
    refine lv_iload_n hx hb dX8_name_23 rfl (lv_at hl 0 rfl) ?_
    refine callSI Sx hW (c_J6_bitCount l D cI cZ cN (br (V 0) (p0) (N))) smJ6_bitCount_0f7a4 mw396 (As := [.int (br (V 0) (p0) (N))]) (rest := [.int (1 : Int32)]) rfl rfl hl.1 (Nat.le_of_ble_eq_true rfl) ⟨Nat.le_of_ble_eq_true rfl, Nat.le_of_ble_eq_true rfl⟩ ⟨Nat.le_refl _, Nat.le_refl _⟩ dX8_name_24 (fun rx H locs hqx hW => ?_)
    obtain ⟨hrx, -⟩ := hqx
    refine r_eq (y := (bcI (br (V 0) (p0) (N)))) hrx ?_
    refine r_max Sx mw390 mw329 mw330 mw331 hl.1 (by decide) (Nat.le_of_ble_eq_true rfl) ⟨by decide, by decide⟩ dX8_name_27 ?_
    refine lv_istore (lv' := [(4, .int (if (1 : Int32) < (bcI (br (V 0) (p0) (N))) then (bcI (br (V 0) (p0) (N))) else (1 : Int32))), (3, .int (br (V 0) (p0) (N))), (0, .ref (a 0)), (1, .int p0), (2, .int wh)]) hx hb dX8_name_30 hl (by decide) rfl (fun ls hl => ?_)
    refine lv_iload_n hx hb dX8_name_32 rfl (lv_at hl 4 rfl) ?_
    by_cases e_33_0 : wh = (0 : Int32)
    · refine r_eq e_33_0 ?_
      refine lv_tableIn (off := 27) (tgt := 60) hx hb dX8_name_33 (by decide) (by decide) rfl rfl ?_
      refine lv_iload_n hx hb dX8_name_60 rfl (lv_at hl 1 rfl) ?_
      exact hret _ _ _ _ _ _ hW rfl rfl dX8_name_61 (⟨by rw [naR, if_neg c_8, if_pos e_33_0] <;> rfl, rfl⟩)
    by_cases e_33_1 : wh = (1 : Int32)
    · refine r_eq e_33_1 ?_
      refine lv_tableIn (off := 29) (tgt := 62) hx hb dX8_name_33 (by decide) (by decide) rfl rfl ?_
      refine lv_aload_n hx hb dX8_name_62 rfl (lv_at hl 2 rfl) ?_
      refine r_get Sx hW 0 rfl rfl bw_wsX80 2 (by decide) (v := .ref (a 12)) rfl mw23 dX8_name_63 ?_
      refine lv_iload_n hx hb dX8_name_66 rfl (lv_at hl 1 rfl) ?_
      refine callVI Sx hW (c_X1_wealthOf l D cI cZ cN (fun i => a (i + 12)) L V (br (V 0) (p0) (N)) N C hN hN7 hC hC4 hC1 ) vmX1_wealthOf mw397 [12, 13, 14, 15, 16, 17, 18, 19] rfl (by decide) 0 rfl rfl (As := [.int (br (V 0) (p0) (N))]) (rest := []) rfl rfl hl.1 (Nat.le_of_ble_eq_true rfl) ⟨Nat.le_of_ble_eq_true rfl, Nat.le_of_ble_eq_true rfl⟩ ⟨Nat.le_refl _, Nat.le_refl _⟩ dX8_name_67 (fun rx wx H locs hqx hW => ?_)
      obtain ⟨hrx, rfl⟩ := hqx
      have hW : AtC D (tyG cI cZ cN) Ax (pOne cI cZ cN a T Q Ld Vd L V S R C1 C2 Rn Wd Im K tr) sx H locs := hW.re [0, 1, 2, 3, 4, 5, 6, 7, 8, 9, 10, 11, 20, 21, 22, 23, 24, 25, 26, 27, 28, 29, 30, 31, 32, 33, 34, 35, 36, 37, 38, 39, 40, 41, 42, 43, 44, 45, 46, 47, 48, 49, 50, 51, 52, 53, 54, 55, 56, 57, 58, 59, 60, 61, 62, 63, 64, 65, 66, 67, 68, 69, 70, 71, 72, 73, 74, 75, 76, 77, 78, 79, 80, 81, 82, 83] 84 (by decide) rfl rfl ⟨rfl, rfl, rfl, rfl, rfl, rfl, rfl, rfl, rfl, rfl, rfl, rfl, rfl, rfl, rfl, rfl, rfl, rfl, rfl, rfl, rfl, rfl, rfl, rfl, rfl, rfl, rfl, rfl, rfl, rfl, rfl, rfl, rfl, rfl, rfl, rfl, rfl, rfl, rfl, rfl, rfl, rfl, rfl, rfl, rfl, rfl, rfl, rfl, rfl, rfl, rfl, rfl, rfl, rfl, rfl, rfl, rfl, rfl, rfl, rfl, rfl, rfl, rfl, rfl, rfl, rfl, rfl, rfl, rfl, rfl, rfl, rfl, rfl, rfl, rfl, rfl, trivial⟩ (by decide +kernel) rfl rfl
      refine r_eq (y := (wo ((br (V 0) (p0) (N))) (V 1) (N))) hrx ?_
      refine lv_iload hx hb dX8_name_70 (lv_at hl 0 rfl) ?_
      refine callSI Sx hW (c_X8_inLeastTerms l D cI cZ cN (wo ((br (V 0) (p0) (N))) (V 1) (N)) (if (1 : Int32) < (bcI (br (V 0) (p0) (N))) then (bcI (br (V 0) (p0) (N))) else (1 : Int32))) smX8_inLeastTerms mw398 (As := [.int (wo ((br (V 0) (p0) (N))) (V 1) (N)), .int (if (1 : Int32) < (bcI (br (V 0) (p0) (N))) then (bcI (br (V 0) (p0) (N))) else (1 : Int32))]) (rest := []) rfl rfl hl.1 (Nat.le_of_ble_eq_true rfl) ⟨Nat.le_of_ble_eq_true rfl, Nat.le_of_ble_eq_true rfl⟩ ⟨Nat.le_refl _, Nat.le_refl _⟩ dX8_name_72 (fun rx H locs hqx hW => ?_)
      obtain ⟨hrx, -⟩ := hqx
      refine r_eq (y := (ilI (wo ((br (V 0) (p0) (N))) (V 1) (N)) (if (1 : Int32) < (bcI (br (V 0) (p0) (N))) then (bcI (br (V 0) (p0) (N))) else (1 : Int32)))) hrx ?_
      exact hret _ _ _ _ _ _ hW rfl rfl dX8_name_75 (⟨by rw [naR, if_neg c_8, if_neg e_33_0, if_pos e_33_1] <;> rfl, rfl⟩)
    by_cases e_33_2 : wh = (2 : Int32)
    · refine r_eq e_33_2 ?_
      refine lv_tableIn (off := 43) (tgt := 76) hx hb dX8_name_33 (by decide) (by decide) rfl rfl ?_
      refine lv_iload hx hb dX8_name_76 (lv_at hl 0 rfl) ?_
      refine lv_aload_n hx hb dX8_name_78 rfl (lv_at hl 2 rfl) ?_
      refine r_get Sx hW 0 rfl rfl bw_wsX80 2 (by decide) (v := .ref (a 12)) rfl mw23 dX8_name_79 ?_
      refine lv_iload_n hx hb dX8_name_82 rfl (lv_at hl 1 rfl) ?_
      refine callVI Sx hW (c_X1_wealthOf l D cI cZ cN (fun i => a (i + 12)) L V (br (V 0) (p0) (N)) N C hN hN7 hC hC4 hC1 ) vmX1_wealthOf mw397 [12, 13, 14, 15, 16, 17, 18, 19] rfl (by decide) 0 rfl rfl (As := [.int (br (V 0) (p0) (N))]) (rest := [.int (if (1 : Int32) < (bcI (br (V 0) (p0) (N))) then (bcI (br (V 0) (p0) (N))) else (1 : Int32))]) rfl rfl hl.1 (Nat.le_of_ble_eq_true rfl) ⟨Nat.le_of_ble_eq_true rfl, Nat.le_of_ble_eq_true rfl⟩ ⟨Nat.le_refl _, Nat.le_refl _⟩ dX8_name_83 (fun rx wx H locs hqx hW => ?_)
      obtain ⟨hrx, rfl⟩ := hqx
      have hW : AtC D (tyG cI cZ cN) Ax (pOne cI cZ cN a T Q Ld Vd L V S R C1 C2 Rn Wd Im K tr) sx H locs := hW.re [0, 1, 2, 3, 4, 5, 6, 7, 8, 9, 10, 11, 20, 21, 22, 23, 24, 25, 26, 27, 28, 29, 30, 31, 32, 33, 34, 35, 36, 37, 38, 39, 40, 41, 42, 43, 44, 45, 46, 47, 48, 49, 50, 51, 52, 53, 54, 55, 56, 57, 58, 59, 60, 61, 62, 63, 64, 65, 66, 67, 68, 69, 70, 71, 72, 73, 74, 75, 76, 77, 78, 79, 80, 81, 82, 83] 84 (by decide) rfl rfl ⟨rfl, rfl, rfl, rfl, rfl, rfl, rfl, rfl, rfl, rfl, rfl, rfl, rfl, rfl, rfl, rfl, rfl, rfl, rfl, rfl, rfl, rfl, rfl, rfl, rfl, rfl, rfl, rfl, rfl, rfl, rfl, rfl, rfl, rfl, rfl, rfl, rfl, rfl, rfl, rfl, rfl, rfl, rfl, rfl, rfl, rfl, rfl, rfl, rfl, rfl, rfl, rfl, rfl, rfl, rfl, rfl, rfl, rfl, rfl, rfl, rfl, rfl, rfl, rfl, rfl, rfl, rfl, rfl, rfl, rfl, rfl, rfl, rfl, rfl, rfl, rfl, trivial⟩ (by decide +kernel) rfl rfl
      refine r_eq (y := (wo ((br (V 0) (p0) (N))) (V 1) (N))) hrx ?_
      refine callSI Sx hW (c_X8_inLeastTerms l D cI cZ cN (if (1 : Int32) < (bcI (br (V 0) (p0) (N))) then (bcI (br (V 0) (p0) (N))) else (1 : Int32)) (wo ((br (V 0) (p0) (N))) (V 1) (N))) smX8_inLeastTerms mw398 (As := [.int (if (1 : Int32) < (bcI (br (V 0) (p0) (N))) then (bcI (br (V 0) (p0) (N))) else (1 : Int32)), .int (wo ((br (V 0) (p0) (N))) (V 1) (N))]) (rest := []) rfl rfl hl.1 (Nat.le_of_ble_eq_true rfl) ⟨Nat.le_of_ble_eq_true rfl, Nat.le_of_ble_eq_true rfl⟩ ⟨Nat.le_refl _, Nat.le_refl _⟩ dX8_name_86 (fun rx H locs hqx hW => ?_)
      obtain ⟨hrx, -⟩ := hqx
      refine r_eq (y := (ilI (if (1 : Int32) < (bcI (br (V 0) (p0) (N))) then (bcI (br (V 0) (p0) (N))) else (1 : Int32)) (wo ((br (V 0) (p0) (N))) (V 1) (N)))) hrx ?_
      exact hret _ _ _ _ _ _ hW rfl rfl dX8_name_89 (⟨by rw [naR, if_neg c_8, if_neg e_33_0, if_neg e_33_1, if_pos e_33_2] <;> rfl, rfl⟩)
    refine lv_tableOut (tgt := 90) hx hb dX8_name_33 (by have q0 := lv_neT e_33_0 (show ((0 : Int32)).toInt = 0 from by decide); have q1 := lv_neT e_33_1 (show ((1 : Int32)).toInt = 1 from by decide); have q2 := lv_neT e_33_2 (show ((2 : Int32)).toInt = 2 from by decide); omega) rfl ?_
    refine lv_iconst (v := (-1 : Int32)) hx hb dX8_name_90 rfl ?_
    exact hret _ _ _ _ _ _ hW rfl rfl dX8_name_91 (⟨by rw [naR, if_neg c_8, if_neg e_33_0, if_neg e_33_1, if_neg e_33_2] <;> rfl, rfl⟩)
  · refine lv_iconst (v := (-1 : Int32)) hx hb dX8_name_11 rfl ?_
    exact hret _ _ _ _ _ _ hW rfl rfl dX8_name_12 (⟨by rw [naR, if_pos c_8] <;> rfl, rfl⟩)

set_option maxHeartbeats 4000000 in
set_option maxRecDepth 100000 in
theorem c_X8_bill (l : Launch) (D : va_G) (cI cZ cN : ClassId) (a : Nat → Nat) (T Q Ld Vd L V S : NV) (R : Nat → NV) (C1 C2 Rn Wd : NV) (Im : Nat → NV) (K : NV) (tr : Int64) (z N C k y z1 z2 : Nat) (hz : T 1 0 = nI z) (hz2 : z ≤ 200) (hN : L 3 1 = nI N) (hN7 : N ≤ 7) (hC : L 3 0 = nI C) (hC4 : C ≤ 4) (hC1 : 1 ≤ C) (hk : S 0 0 = nI k) (hk10 : k < 10) (hy : S 0 1 = nI y) (hy10 : y ≤ 10) (hc1 : C1 2 0 = nI z1) (hz16 : z1 ≤ 6) (hc2 : C2 2 0 = nI z2) (hz26 : z2 ≤ 6) (p0 wh : Int32) : CtI l yX8_bill cX8_bill 4 (some .int) 5 D (tyG cI cZ cN) [.ref (a 0), .int p0, .int wh] (pOne cI cZ cN a T Q Ld Vd L V S R C1 C2 Rn Wd Im K tr) (fun r w => r = biR N C L V p0 wh ∧ w = (pOne cI cZ cN a T Q Ld Vd L V S R C1 C2 Rn Wd Im K tr)) := by
  refine CtI.of rfl (Nat.le_of_ble_eq_true rfl) ?_
  intro pg ev sx mx ax bx mt cx ls Qx Ax Sx hret hW hl
  have hx := Sx.1
  have hb := Sx.2.1
  have hl : lv_has ls 4 [(0, .ref (a 0)), (1, .int p0), (2, .int wh)] := hl
  refine lv_iload_n hx hb dX8_bill_0 rfl (lv_at hl 1 rfl) ?_
  refine lv_iconst (v := (0 : Int32)) hx hb dX8_bill_1 rfl ?_
  refine lv_iconst (v := (4 : Int32)) hx hb dX8_bill_2 rfl ?_
  refine callSI Sx hW (c_X8_within l D cI cZ cN p0 (0 : Int32) (4 : Int32)) smX8_within mw137 (As := [.int p0, .int (0 : Int32), .int (4 : Int32)]) (rest := []) rfl rfl hl.1 (Nat.le_of_ble_eq_true rfl) ⟨Nat.le_of_ble_eq_true rfl, Nat.le_of_ble_eq_true rfl⟩ ⟨Nat.le_refl _, Nat.le_refl _⟩ dX8_bill_3 (fun rx H locs hqx hW => ?_)
  obtain ⟨hrx, -⟩ := hqx
  refine r_eq (y := (inI p0 (0 : Int32) (4 : Int32))) hrx ?_
  refine lv_if_ne (tgt := 11) hx hb dX8_bill_6 rfl (fun c_6 => ?_) (fun c_6 => ?_)
  · refine lv_aload_n hx hb dX8_bill_11 rfl (lv_at hl 0 rfl) ?_
    refine r_get Sx hW 0 rfl rfl bw_wsX80 2 (by decide) (v := .ref (a 12)) rfl mw23 dX8_bill_12 ?_
    refine r_get Sx hW 12 rfl rfl bw_wsX10 3 (by decide) (v := .ref (a 16)) rfl mw291 dX8_bill_15 ?_
    refine r_get Sx hW 16 rfl rfl bw_wsX20 4 (by decide) (v := .int (V 3 1)) rfl mw422 dX8_bill_18 ?_
    refine lv_istore_n (lv' := [(3, .int (V 3 1)), (0, .ref (a 0)), (1, .int p0), (2, .int wh)]) hx hb dX8_bill_21 rfl hl (by decide) rfl (fun ls hl => ?_)
    refine lv_iload_n hx hb dX8_bill_22 rfl (lv_at hl 3 rfl) ?_
    by_cases e_23_0 : wh = (0 : Int32)
    · refine r_eq e_23_0 ?_
      refine lv_tableIn (off := 29) (tgt := 52) hx hb dX8_bill_23 (by decide) (by decide) rfl rfl ?_
      refine lv_aload_n hx hb dX8_bill_52 rfl (lv_at hl 1 rfl) ?_
      refine r_get Sx hW 0 rfl rfl bw_wsX80 2 (by decide) (v := .ref (a 12)) rfl mw23 dX8_bill_53 ?_
      refine lv_iload_n hx hb dX8_bill_56 rfl (lv_at hl 2 rfl) ?_
      refine lv_iload_n hx hb dX8_bill_57 rfl (lv_at hl 0 rfl) ?_
      refine lv_bipush (v := (-9 : Int32)) hx hb dX8_bill_58 rfl ?_
      refine callVI Sx hW (c_X1_yes l D cI cZ cN (fun i => a (i + 12)) L V p0 (V 3 1) (-9 : Int32) N C hN hN7 hC hC4 hC1 ) vmX1_yes mw423 [12, 13, 14, 15, 16, 17, 18, 19] rfl (by decide) 0 rfl rfl (As := [.int p0, .int (V 3 1), .int (-9 : Int32)]) (rest := []) rfl rfl hl.1 (Nat.le_of_ble_eq_true rfl) ⟨Nat.le_of_ble_eq_true rfl, Nat.le_of_ble_eq_true rfl⟩ ⟨Nat.le_refl _, Nat.le_refl _⟩ dX8_bill_60 (fun rx wx H locs hqx hW => ?_)
      obtain ⟨hrx, rfl⟩ := hqx
      have hW : AtC D (tyG cI cZ cN) Ax (pOne cI cZ cN a T Q Ld Vd L V S R C1 C2 Rn Wd Im K tr) sx H locs := hW.re [0, 1, 2, 3, 4, 5, 6, 7, 8, 9, 10, 11, 20, 21, 22, 23, 24, 25, 26, 27, 28, 29, 30, 31, 32, 33, 34, 35, 36, 37, 38, 39, 40, 41, 42, 43, 44, 45, 46, 47, 48, 49, 50, 51, 52, 53, 54, 55, 56, 57, 58, 59, 60, 61, 62, 63, 64, 65, 66, 67, 68, 69, 70, 71, 72, 73, 74, 75, 76, 77, 78, 79, 80, 81, 82, 83] 84 (by decide) rfl rfl ⟨rfl, rfl, rfl, rfl, rfl, rfl, rfl, rfl, rfl, rfl, rfl, rfl, rfl, rfl, rfl, rfl, rfl, rfl, rfl, rfl, rfl, rfl, rfl, rfl, rfl, rfl, rfl, rfl, rfl, rfl, rfl, rfl, rfl, rfl, rfl, rfl, rfl, rfl, rfl, rfl, rfl, rfl, rfl, rfl, rfl, rfl, rfl, rfl, rfl, rfl, rfl, rfl, rfl, rfl, rfl, rfl, rfl, rfl, rfl, rfl, rfl, rfl, rfl, rfl, rfl, rfl, rfl, rfl, rfl, rfl, rfl, rfl, rfl, rfl, rfl, rfl, trivial⟩ (by decide +kernel) rfl rfl
      refine r_eq (y := (yesI (L 0) (V 0) (N) (C) (p0) ((V 3 1)) ((-9 : Int32)))) hrx ?_
      exact hret _ _ _ _ _ _ hW rfl rfl dX8_bill_63 (⟨by rw [biR, if_neg c_6, if_pos e_23_0] <;> rfl, rfl⟩)
    by_cases e_23_1 : wh = (1 : Int32)
    · refine r_eq e_23_1 ?_
      refine lv_tableIn (off := 41) (tgt := 64) hx hb dX8_bill_23 (by decide) (by decide) rfl rfl ?_
      refine lv_aload_n hx hb dX8_bill_64 rfl (lv_at hl 1 rfl) ?_
      refine r_get Sx hW 0 rfl rfl bw_wsX80 2 (by decide) (v := .ref (a 12)) rfl mw23 dX8_bill_65 ?_
      refine lv_iload_n hx hb dX8_bill_68 rfl (lv_at hl 2 rfl) ?_
      refine lv_iload_n hx hb dX8_bill_69 rfl (lv_at hl 0 rfl) ?_
      refine lv_bipush (v := (-9 : Int32)) hx hb dX8_bill_70 rfl ?_
      refine callVI Sx hW (c_X1_no l D cI cZ cN (fun i => a (i + 12)) L V p0 (V 3 1) (-9 : Int32) N C hN hN7 hC hC4 hC1 ) vmX1_no mw435 [12, 13, 14, 15, 16, 17, 18, 19] rfl (by decide) 0 rfl rfl (As := [.int p0, .int (V 3 1), .int (-9 : Int32)]) (rest := []) rfl rfl hl.1 (Nat.le_of_ble_eq_true rfl) ⟨Nat.le_of_ble_eq_true rfl, Nat.le_of_ble_eq_true rfl⟩ ⟨Nat.le_refl _, Nat.le_refl _⟩ dX8_bill_72 (fun rx wx H locs hqx hW => ?_)
      obtain ⟨hrx, rfl⟩ := hqx
      have hW : AtC D (tyG cI cZ cN) Ax (pOne cI cZ cN a T Q Ld Vd L V S R C1 C2 Rn Wd Im K tr) sx H locs := hW.re [0, 1, 2, 3, 4, 5, 6, 7, 8, 9, 10, 11, 20, 21, 22, 23, 24, 25, 26, 27, 28, 29, 30, 31, 32, 33, 34, 35, 36, 37, 38, 39, 40, 41, 42, 43, 44, 45, 46, 47, 48, 49, 50, 51, 52, 53, 54, 55, 56, 57, 58, 59, 60, 61, 62, 63, 64, 65, 66, 67, 68, 69, 70, 71, 72, 73, 74, 75, 76, 77, 78, 79, 80, 81, 82, 83] 84 (by decide) rfl rfl ⟨rfl, rfl, rfl, rfl, rfl, rfl, rfl, rfl, rfl, rfl, rfl, rfl, rfl, rfl, rfl, rfl, rfl, rfl, rfl, rfl, rfl, rfl, rfl, rfl, rfl, rfl, rfl, rfl, rfl, rfl, rfl, rfl, rfl, rfl, rfl, rfl, rfl, rfl, rfl, rfl, rfl, rfl, rfl, rfl, rfl, rfl, rfl, rfl, rfl, rfl, rfl, rfl, rfl, rfl, rfl, rfl, rfl, rfl, rfl, rfl, rfl, rfl, rfl, rfl, rfl, rfl, rfl, rfl, rfl, rfl, rfl, rfl, rfl, rfl, rfl, rfl, trivial⟩ (by decide +kernel) rfl rfl
      refine r_eq (y := (noI (L 0) (V 0) (N) (C) (p0) ((V 3 1)) ((-9 : Int32)))) hrx ?_
      exact hret _ _ _ _ _ _ hW rfl rfl dX8_bill_75 (⟨by rw [biR, if_neg c_6, if_neg e_23_0, if_pos e_23_1] <;> rfl, rfl⟩)
    by_cases e_23_2 : wh = (2 : Int32)
    · refine r_eq e_23_2 ?_
      refine lv_tableIn (off := 53) (tgt := 76) hx hb dX8_bill_23 (by decide) (by decide) rfl rfl ?_
      refine lv_aload_n hx hb dX8_bill_76 rfl (lv_at hl 1 rfl) ?_
      refine r_get Sx hW 0 rfl rfl bw_wsX80 2 (by decide) (v := .ref (a 12)) rfl mw23 dX8_bill_77 ?_
      refine lv_iload_n hx hb dX8_bill_80 rfl (lv_at hl 2 rfl) ?_
      refine lv_iload_n hx hb dX8_bill_81 rfl (lv_at hl 0 rfl) ?_
      refine lv_bipush (v := (-9 : Int32)) hx hb dX8_bill_82 rfl ?_
      refine callVI Sx hW (c_X1_passes l D cI cZ cN (fun i => a (i + 12)) L V p0 (V 3 1) (-9 : Int32) N C hN hN7 hC hC4 hC1 ) vmX1_passes mw439 [12, 13, 14, 15, 16, 17, 18, 19] rfl (by decide) 0 rfl rfl (As := [.int p0, .int (V 3 1), .int (-9 : Int32)]) (rest := []) rfl rfl hl.1 (Nat.le_of_ble_eq_true rfl) ⟨Nat.le_of_ble_eq_true rfl, Nat.le_of_ble_eq_true rfl⟩ ⟨Nat.le_refl _, Nat.le_refl _⟩ dX8_bill_84 (fun rx wx H locs hqx hW => ?_)
      obtain ⟨hrx, rfl⟩ := hqx
      have hW : AtC D (tyG cI cZ cN) Ax (pOne cI cZ cN a T Q Ld Vd L V S R C1 C2 Rn Wd Im K tr) sx H locs := hW.re [0, 1, 2, 3, 4, 5, 6, 7, 8, 9, 10, 11, 20, 21, 22, 23, 24, 25, 26, 27, 28, 29, 30, 31, 32, 33, 34, 35, 36, 37, 38, 39, 40, 41, 42, 43, 44, 45, 46, 47, 48, 49, 50, 51, 52, 53, 54, 55, 56, 57, 58, 59, 60, 61, 62, 63, 64, 65, 66, 67, 68, 69, 70, 71, 72, 73, 74, 75, 76, 77, 78, 79, 80, 81, 82, 83] 84 (by decide) rfl rfl ⟨rfl, rfl, rfl, rfl, rfl, rfl, rfl, rfl, rfl, rfl, rfl, rfl, rfl, rfl, rfl, rfl, rfl, rfl, rfl, rfl, rfl, rfl, rfl, rfl, rfl, rfl, rfl, rfl, rfl, rfl, rfl, rfl, rfl, rfl, rfl, rfl, rfl, rfl, rfl, rfl, rfl, rfl, rfl, rfl, rfl, rfl, rfl, rfl, rfl, rfl, rfl, rfl, rfl, rfl, rfl, rfl, rfl, rfl, rfl, rfl, rfl, rfl, rfl, rfl, rfl, rfl, rfl, rfl, rfl, rfl, rfl, rfl, rfl, rfl, rfl, rfl, trivial⟩ (by decide +kernel) rfl rfl
      refine r_eq (y := (psI (L 0) (V 0) (N) (C) (p0) ((V 3 1)) ((-9 : Int32)))) hrx ?_
      refine lv_if_eq (tgt := 94) hx hb dX8_bill_87 rfl (fun c_87 => ?_) (fun c_87 => ?_)
      · refine lv_iconst (v := (0 : Int32)) hx hb dX8_bill_94 rfl ?_
        exact hret _ _ _ _ _ _ hW rfl rfl dX8_bill_95 (⟨by rw [biR, if_neg c_6, if_neg e_23_0, if_neg e_23_1, if_pos e_23_2]; exact c_87.symm, rfl⟩)
      · refine lv_iconst (v := (1 : Int32)) hx hb dX8_bill_90 rfl ?_
        refine lv_goto (tgt := 95) hx hb dX8_bill_91 rfl ?_
        exact hret _ _ _ _ _ _ hW rfl rfl dX8_bill_95 (⟨by rw [biR, if_neg c_6, if_neg e_23_0, if_neg e_23_1, if_pos e_23_2]; exact (psI_01 _ _ _ _ _ _ _ c_87).symm, rfl⟩)
    by_cases e_23_3 : wh = (3 : Int32)
    · refine r_eq e_23_3 ?_
      refine lv_tableIn (off := 73) (tgt := 96) hx hb dX8_bill_23 (by decide) (by decide) rfl rfl ?_
      refine lv_aload_n hx hb dX8_bill_96 rfl (lv_at hl 1 rfl) ?_
      refine r_get Sx hW 0 rfl rfl bw_wsX80 2 (by decide) (v := .ref (a 12)) rfl mw23 dX8_bill_97 ?_
      refine lv_iload_n hx hb dX8_bill_100 rfl (lv_at hl 2 rfl) ?_
      refine callVI Sx hW (c_X1_sway l D cI cZ cN (fun i => a (i + 12)) L V p0 N C hN hN7 hC hC4 hC1 ) vmX1_sway mw445 [12, 13, 14, 15, 16, 17, 18, 19] rfl (by decide) 0 rfl rfl (As := [.int p0]) (rest := []) rfl rfl hl.1 (Nat.le_of_ble_eq_true rfl) ⟨Nat.le_of_ble_eq_true rfl, Nat.le_of_ble_eq_true rfl⟩ ⟨Nat.le_refl _, Nat.le_refl _⟩ dX8_bill_101 (fun rx wx H locs hqx hW => ?_)
      obtain ⟨hrx, rfl⟩ := hqx
      have hW : AtC D (tyG cI cZ cN) Ax (pOne cI cZ cN a T Q Ld Vd L V S R C1 C2 Rn Wd Im K tr) sx H locs := hW.re [0, 1, 2, 3, 4, 5, 6, 7, 8, 9, 10, 11, 20, 21, 22, 23, 24, 25, 26, 27, 28, 29, 30, 31, 32, 33, 34, 35, 36, 37, 38, 39, 40, 41, 42, 43, 44, 45, 46, 47, 48, 49, 50, 51, 52, 53, 54, 55, 56, 57, 58, 59, 60, 61, 62, 63, 64, 65, 66, 67, 68, 69, 70, 71, 72, 73, 74, 75, 76, 77, 78, 79, 80, 81, 82, 83] 84 (by decide) rfl rfl ⟨rfl, rfl, rfl, rfl, rfl, rfl, rfl, rfl, rfl, rfl, rfl, rfl, rfl, rfl, rfl, rfl, rfl, rfl, rfl, rfl, rfl, rfl, rfl, rfl, rfl, rfl, rfl, rfl, rfl, rfl, rfl, rfl, rfl, rfl, rfl, rfl, rfl, rfl, rfl, rfl, rfl, rfl, rfl, rfl, rfl, rfl, rfl, rfl, rfl, rfl, rfl, rfl, rfl, rfl, rfl, rfl, rfl, rfl, rfl, rfl, rfl, rfl, rfl, rfl, rfl, rfl, rfl, rfl, rfl, rfl, rfl, rfl, rfl, rfl, rfl, rfl, trivial⟩ (by decide +kernel) rfl rfl
      refine r_eq (y := (swy (L 0) (V 0) (N) (C) (p0) (V 3 1) (C))) hrx ?_
      exact hret _ _ _ _ _ _ hW rfl rfl dX8_bill_104 (⟨by rw [biR, if_neg c_6, if_neg e_23_0, if_neg e_23_1, if_neg e_23_2, if_pos e_23_3] <;> rfl, rfl⟩)
    refine lv_tableOut (tgt := 105) hx hb dX8_bill_23 (by have q0 := lv_neT e_23_0 (show ((0 : Int32)).toInt = 0 from by decide); have q1 := lv_neT e_23_1 (show ((1 : Int32)).toInt = 1 from by decide); have q2 := lv_neT e_23_2 (show ((2 : Int32)).toInt = 2 from by decide); have q3 := lv_neT e_23_3 (show ((3 : Int32)).toInt = 3 from by decide); omega) rfl ?_
    refine lv_iconst (v := (-1 : Int32)) hx hb dX8_bill_105 rfl ?_
    exact hret _ _ _ _ _ _ hW rfl rfl dX8_bill_106 (⟨by rw [biR, if_neg c_6, if_neg e_23_0, if_neg e_23_1, if_neg e_23_2, if_neg e_23_3] <;> rfl, rfl⟩)
  · refine lv_iconst (v := (-1 : Int32)) hx hb dX8_bill_9 rfl ?_
    exact hret _ _ _ _ _ _ hW rfl rfl dX8_bill_10 (⟨by rw [biR, if_pos c_6] <;> rfl, rfl⟩)

set_option maxHeartbeats 4000000 in
set_option maxRecDepth 100000 in
theorem c_X8_now (l : Launch) (D : va_G) (cI cZ cN : ClassId) (a : Nat → Nat) (T Q Ld Vd L V S : NV) (R : Nat → NV) (C1 C2 Rn Wd : NV) (Im : Nat → NV) (K : NV) (tr : Int64) (z N C k y z1 z2 : Nat) (hz : T 1 0 = nI z) (hz2 : z ≤ 200) (hN : L 3 1 = nI N) (hN7 : N ≤ 7) (hC : L 3 0 = nI C) (hC4 : C ≤ 4) (hC1 : 1 ≤ C) (hk : S 0 0 = nI k) (hk10 : k < 10) (hy : S 0 1 = nI y) (hy10 : y ≤ 10) (hc1 : C1 2 0 = nI z1) (hz16 : z1 ≤ 6) (hc2 : C2 2 0 = nI z2) (hz26 : z2 ≤ 6) (wh : Int32) : CtI l yX8_now cX8_now 2 (some .int) 5 D (tyG cI cZ cN) [.ref (a 0), .int wh] (pOne cI cZ cN a T Q Ld Vd L V S R C1 C2 Rn Wd Im K tr) (fun r w => r = noR N C y L V wh ∧ w = (pOne cI cZ cN a T Q Ld Vd L V S R C1 C2 Rn Wd Im K tr)) := by
  refine CtI.of rfl (Nat.le_of_ble_eq_true rfl) ?_
  intro pg ev sx mx ax bx mt cx ls Qx Ax Sx hret hW hl
  have hx := Sx.1
  have hb := Sx.2.1
  have hl : lv_has ls 2 [(0, .ref (a 0)), (1, .int wh)] := hl
  refine lv_iload_n hx hb dX8_now_0 rfl (lv_at hl 1 rfl) ?_
  by_cases e_1_0 : wh = (0 : Int32)
  · refine r_eq e_1_0 ?_
    refine lv_tableIn (off := 47) (tgt := 48) hx hb dX8_now_1 (by decide) (by decide) rfl rfl ?_
    refine lv_aload_n hx hb dX8_now_48 rfl (lv_at hl 0 rfl) ?_
    refine r_get Sx hW 0 rfl rfl bw_wsX80 2 (by decide) (v := .ref (a 12)) rfl mw23 dX8_now_49 ?_
    refine r_get Sx hW 12 rfl rfl bw_wsX10 3 (by decide) (v := .ref (a 16)) rfl mw291 dX8_now_52 ?_
    refine r_get Sx hW 16 rfl rfl bw_wsX20 6 (by decide) (v := .int (V 3 3)) rfl mw478 dX8_now_55 ?_
    exact hret _ _ _ _ _ _ hW rfl rfl dX8_now_58 (⟨by rw [noR, if_pos e_1_0] <;> rfl, rfl⟩)
  by_cases e_1_1 : wh = (1 : Int32)
  · refine r_eq e_1_1 ?_
    refine lv_tableIn (off := 58) (tgt := 59) hx hb dX8_now_1 (by decide) (by decide) rfl rfl ?_
    refine lv_aload_n hx hb dX8_now_59 rfl (lv_at hl 0 rfl) ?_
    refine r_get Sx hW 0 rfl rfl bw_wsX80 2 (by decide) (v := .ref (a 12)) rfl mw23 dX8_now_60 ?_
    refine r_get Sx hW 12 rfl rfl bw_wsX10 3 (by decide) (v := .ref (a 16)) rfl mw291 dX8_now_63 ?_
    refine r_get Sx hW 16 rfl rfl bw_wsX20 5 (by decide) (v := .int (V 3 2)) rfl mw479 dX8_now_66 ?_
    exact hret _ _ _ _ _ _ hW rfl rfl dX8_now_69 (⟨by rw [noR, if_neg e_1_0, if_pos e_1_1] <;> rfl, rfl⟩)
  by_cases e_1_2 : wh = (2 : Int32)
  · refine r_eq e_1_2 ?_
    refine lv_tableIn (off := 69) (tgt := 70) hx hb dX8_now_1 (by decide) (by decide) rfl rfl ?_
    refine lv_aload_n hx hb dX8_now_70 rfl (lv_at hl 0 rfl) ?_
    refine r_get Sx hW 0 rfl rfl bw_wsX80 2 (by decide) (v := .ref (a 12)) rfl mw23 dX8_now_71 ?_
    refine r_get Sx hW 12 rfl rfl bw_wsX10 3 (by decide) (v := .ref (a 16)) rfl mw291 dX8_now_74 ?_
    refine r_get Sx hW 16 rfl rfl bw_wsX20 4 (by decide) (v := .int (V 3 1)) rfl mw422 dX8_now_77 ?_
    exact hret _ _ _ _ _ _ hW rfl rfl dX8_now_80 (⟨by rw [noR, if_neg e_1_0, if_neg e_1_1, if_pos e_1_2] <;> rfl, rfl⟩)
  by_cases e_1_3 : wh = (3 : Int32)
  · refine r_eq e_1_3 ?_
    refine lv_tableIn (off := 80) (tgt := 81) hx hb dX8_now_1 (by decide) (by decide) rfl rfl ?_
    refine lv_aload_n hx hb dX8_now_81 rfl (lv_at hl 0 rfl) ?_
    refine r_get Sx hW 0 rfl rfl bw_wsX80 2 (by decide) (v := .ref (a 12)) rfl mw23 dX8_now_82 ?_
    refine callVI Sx hW (c_X1_limping l D cI cZ cN (fun i => a (i + 12)) L V N C hN hN7 hC hC4 hC1 ) vmX1_limping mw304 [12, 13, 14, 15, 16, 17, 18, 19] rfl (by decide) 0 rfl rfl (As := []) (rest := []) rfl rfl hl.1 (Nat.le_of_ble_eq_true rfl) ⟨Nat.le_of_ble_eq_true rfl, Nat.le_of_ble_eq_true rfl⟩ ⟨Nat.le_refl _, Nat.le_refl _⟩ dX8_now_85 (fun rx wx H locs hqx hW => ?_)
    obtain ⟨hrx, rfl⟩ := hqx
    have hW : AtC D (tyG cI cZ cN) Ax (pOne cI cZ cN a T Q Ld Vd L V S R C1 C2 Rn Wd Im K tr) sx H locs := hW.re [0, 1, 2, 3, 4, 5, 6, 7, 8, 9, 10, 11, 20, 21, 22, 23, 24, 25, 26, 27, 28, 29, 30, 31, 32, 33, 34, 35, 36, 37, 38, 39, 40, 41, 42, 43, 44, 45, 46, 47, 48, 49, 50, 51, 52, 53, 54, 55, 56, 57, 58, 59, 60, 61, 62, 63, 64, 65, 66, 67, 68, 69, 70, 71, 72, 73, 74, 75, 76, 77, 78, 79, 80, 81, 82, 83] 84 (by decide) rfl rfl ⟨rfl, rfl, rfl, rfl, rfl, rfl, rfl, rfl, rfl, rfl, rfl, rfl, rfl, rfl, rfl, rfl, rfl, rfl, rfl, rfl, rfl, rfl, rfl, rfl, rfl, rfl, rfl, rfl, rfl, rfl, rfl, rfl, rfl, rfl, rfl, rfl, rfl, rfl, rfl, rfl, rfl, rfl, rfl, rfl, rfl, rfl, rfl, rfl, rfl, rfl, rfl, rfl, rfl, rfl, rfl, rfl, rfl, rfl, rfl, rfl, rfl, rfl, rfl, rfl, rfl, rfl, rfl, rfl, rfl, rfl, rfl, rfl, rfl, rfl, rfl, rfl, trivial⟩ (by decide +kernel) rfl rfl
    refine r_eq (y := (lmpI (V 0) (N) (C) (V 3 0) (V 3 1))) hrx ?_
    exact hret _ _ _ _ _ _ hW rfl rfl dX8_now_88 (⟨by rw [noR, if_neg e_1_0, if_neg e_1_1, if_neg e_1_2, if_pos e_1_3] <;> rfl, rfl⟩)
  by_cases e_1_4 : wh = (4 : Int32)
  · refine r_eq e_1_4 ?_
    refine lv_tableIn (off := 88) (tgt := 89) hx hb dX8_now_1 (by decide) (by decide) rfl rfl ?_
    refine lv_aload_n hx hb dX8_now_89 rfl (lv_at hl 0 rfl) ?_
    refine r_get Sx hW 0 rfl rfl bw_wsX80 2 (by decide) (v := .ref (a 12)) rfl mw23 dX8_now_90 ?_
    refine callVI Sx hW (c_X1_badOnes l D cI cZ cN (fun i => a (i + 12)) L V N C hN hN7 hC hC4 hC1 ) vmX1_badOnes mw480 [12, 13, 14, 15, 16, 17, 18, 19] rfl (by decide) 0 rfl rfl (As := []) (rest := []) rfl rfl hl.1 (Nat.le_of_ble_eq_true rfl) ⟨Nat.le_of_ble_eq_true rfl, Nat.le_of_ble_eq_true rfl⟩ ⟨Nat.le_refl _, Nat.le_refl _⟩ dX8_now_93 (fun rx wx H locs hqx hW => ?_)
    obtain ⟨hrx, rfl⟩ := hqx
    have hW : AtC D (tyG cI cZ cN) Ax (pOne cI cZ cN a T Q Ld Vd L V S R C1 C2 Rn Wd Im K tr) sx H locs := hW.re [0, 1, 2, 3, 4, 5, 6, 7, 8, 9, 10, 11, 20, 21, 22, 23, 24, 25, 26, 27, 28, 29, 30, 31, 32, 33, 34, 35, 36, 37, 38, 39, 40, 41, 42, 43, 44, 45, 46, 47, 48, 49, 50, 51, 52, 53, 54, 55, 56, 57, 58, 59, 60, 61, 62, 63, 64, 65, 66, 67, 68, 69, 70, 71, 72, 73, 74, 75, 76, 77, 78, 79, 80, 81, 82, 83] 84 (by decide) rfl rfl ⟨rfl, rfl, rfl, rfl, rfl, rfl, rfl, rfl, rfl, rfl, rfl, rfl, rfl, rfl, rfl, rfl, rfl, rfl, rfl, rfl, rfl, rfl, rfl, rfl, rfl, rfl, rfl, rfl, rfl, rfl, rfl, rfl, rfl, rfl, rfl, rfl, rfl, rfl, rfl, rfl, rfl, rfl, rfl, rfl, rfl, rfl, rfl, rfl, rfl, rfl, rfl, rfl, rfl, rfl, rfl, rfl, rfl, rfl, rfl, rfl, rfl, rfl, rfl, rfl, rfl, rfl, rfl, rfl, rfl, rfl, rfl, rfl, rfl, rfl, rfl, rfl, trivial⟩ (by decide +kernel) rfl rfl
    refine r_eq (y := (boO (L 1) (V 0) (N) (N))) hrx ?_
    exact hret _ _ _ _ _ _ hW rfl rfl dX8_now_96 (⟨by rw [noR, if_neg e_1_0, if_neg e_1_1, if_neg e_1_2, if_neg e_1_3, if_pos e_1_4] <;> rfl, rfl⟩)
  by_cases e_1_5 : wh = (5 : Int32)
  · refine r_eq e_1_5 ?_
    refine lv_tableIn (off := 96) (tgt := 97) hx hb dX8_now_1 (by decide) (by decide) rfl rfl ?_
    refine lv_aload_n hx hb dX8_now_97 rfl (lv_at hl 0 rfl) ?_
    refine r_get Sx hW 0 rfl rfl bw_wsX80 2 (by decide) (v := .ref (a 12)) rfl mw23 dX8_now_98 ?_
    refine callVI Sx hW (c_X1_alone l D cI cZ cN (fun i => a (i + 12)) L V N C hN hN7 hC hC4 hC1 ) vmX1_alone mw488 [12, 13, 14, 15, 16, 17, 18, 19] rfl (by decide) 0 rfl rfl (As := []) (rest := []) rfl rfl hl.1 (Nat.le_of_ble_eq_true rfl) ⟨Nat.le_of_ble_eq_true rfl, Nat.le_of_ble_eq_true rfl⟩ ⟨Nat.le_refl _, Nat.le_refl _⟩ dX8_now_101 (fun rx wx H locs hqx hW => ?_)
    obtain ⟨hrx, rfl⟩ := hqx
    have hW : AtC D (tyG cI cZ cN) Ax (pOne cI cZ cN a T Q Ld Vd L V S R C1 C2 Rn Wd Im K tr) sx H locs := hW.re [0, 1, 2, 3, 4, 5, 6, 7, 8, 9, 10, 11, 20, 21, 22, 23, 24, 25, 26, 27, 28, 29, 30, 31, 32, 33, 34, 35, 36, 37, 38, 39, 40, 41, 42, 43, 44, 45, 46, 47, 48, 49, 50, 51, 52, 53, 54, 55, 56, 57, 58, 59, 60, 61, 62, 63, 64, 65, 66, 67, 68, 69, 70, 71, 72, 73, 74, 75, 76, 77, 78, 79, 80, 81, 82, 83] 84 (by decide) rfl rfl ⟨rfl, rfl, rfl, rfl, rfl, rfl, rfl, rfl, rfl, rfl, rfl, rfl, rfl, rfl, rfl, rfl, rfl, rfl, rfl, rfl, rfl, rfl, rfl, rfl, rfl, rfl, rfl, rfl, rfl, rfl, rfl, rfl, rfl, rfl, rfl, rfl, rfl, rfl, rfl, rfl, rfl, rfl, rfl, rfl, rfl, rfl, rfl, rfl, rfl, rfl, rfl, rfl, rfl, rfl, rfl, rfl, rfl, rfl, rfl, rfl, rfl, rfl, rfl, rfl, rfl, rfl, rfl, rfl, rfl, rfl, rfl, rfl, rfl, rfl, rfl, rfl, trivial⟩ (by decide +kernel) rfl rfl
    refine r_eq (y := (alo (V 0) (N) (C))) hrx ?_
    exact hret _ _ _ _ _ _ hW rfl rfl dX8_now_104 (⟨by rw [noR, if_neg e_1_0, if_neg e_1_1, if_neg e_1_2, if_neg e_1_3, if_neg e_1_4, if_pos e_1_5] <;> rfl, rfl⟩)
  by_cases e_1_6 : wh = (6 : Int32)
  · refine r_eq e_1_6 ?_
    refine lv_tableIn (off := 104) (tgt := 105) hx hb dX8_now_1 (by decide) (by decide) rfl rfl ?_
    refine lv_aload_n hx hb dX8_now_105 rfl (lv_at hl 0 rfl) ?_
    refine r_get Sx hW 0 rfl rfl bw_wsX80 2 (by decide) (v := .ref (a 12)) rfl mw23 dX8_now_106 ?_
    refine callVI Sx hW (c_X1_restless l D cI cZ cN (fun i => a (i + 12)) L V N C hN hN7 hC hC4 hC1 ) vmX1_restless mw492 [12, 13, 14, 15, 16, 17, 18, 19] rfl (by decide) 0 rfl rfl (As := []) (rest := []) rfl rfl hl.1 (Nat.le_of_ble_eq_true rfl) ⟨Nat.le_of_ble_eq_true rfl, Nat.le_of_ble_eq_true rfl⟩ ⟨Nat.le_refl _, Nat.le_refl _⟩ dX8_now_109 (fun rx wx H locs hqx hW => ?_)
    obtain ⟨hrx, rfl⟩ := hqx
    have hW : AtC D (tyG cI cZ cN) Ax (pOne cI cZ cN a T Q Ld Vd L V S R C1 C2 Rn Wd Im K tr) sx H locs := hW.re [0, 1, 2, 3, 4, 5, 6, 7, 8, 9, 10, 11, 20, 21, 22, 23, 24, 25, 26, 27, 28, 29, 30, 31, 32, 33, 34, 35, 36, 37, 38, 39, 40, 41, 42, 43, 44, 45, 46, 47, 48, 49, 50, 51, 52, 53, 54, 55, 56, 57, 58, 59, 60, 61, 62, 63, 64, 65, 66, 67, 68, 69, 70, 71, 72, 73, 74, 75, 76, 77, 78, 79, 80, 81, 82, 83] 84 (by decide) rfl rfl ⟨rfl, rfl, rfl, rfl, rfl, rfl, rfl, rfl, rfl, rfl, rfl, rfl, rfl, rfl, rfl, rfl, rfl, rfl, rfl, rfl, rfl, rfl, rfl, rfl, rfl, rfl, rfl, rfl, rfl, rfl, rfl, rfl, rfl, rfl, rfl, rfl, rfl, rfl, rfl, rfl, rfl, rfl, rfl, rfl, rfl, rfl, rfl, rfl, rfl, rfl, rfl, rfl, rfl, rfl, rfl, rfl, rfl, rfl, rfl, rfl, rfl, rfl, rfl, rfl, rfl, rfl, rfl, rfl, rfl, rfl, rfl, rfl, rfl, rfl, rfl, rfl, trivial⟩ (by decide +kernel) rfl rfl
    refine r_eq (y := (rsl (txI (V 0) (V 1) (N) (V 3 1)) (V 0) (C) (N))) hrx ?_
    exact hret _ _ _ _ _ _ hW rfl rfl dX8_now_112 (⟨by rw [noR, if_neg e_1_0, if_neg e_1_1, if_neg e_1_2, if_neg e_1_3, if_neg e_1_4, if_neg e_1_5, if_pos e_1_6] <;> rfl, rfl⟩)
  by_cases e_1_7 : wh = (7 : Int32)
  · refine r_eq e_1_7 ?_
    refine lv_tableIn (off := 112) (tgt := 113) hx hb dX8_now_1 (by decide) (by decide) rfl rfl ?_
    refine lv_aload_n hx hb dX8_now_113 rfl (lv_at hl 0 rfl) ?_
    refine r_get Sx hW 0 rfl rfl bw_wsX80 3 (by decide) (v := .ref (a 20)) rfl mw27 dX8_now_114 ?_
    refine r_get Sx hW 20 rfl rfl bw_wsX30 2 (by decide) (v := .int (S 0 1)) rfl mw162 dX8_now_117 ?_
    refine r_eq (y := (nI y)) hy ?_
    exact hret _ _ _ _ _ _ hW rfl rfl dX8_now_120 (⟨by rw [noR, if_neg e_1_0, if_neg e_1_1, if_neg e_1_2, if_neg e_1_3, if_neg e_1_4, if_neg e_1_5, if_neg e_1_6, if_pos e_1_7] <;> rfl, rfl⟩)
  refine lv_tableOut (tgt := 121) hx hb dX8_now_1 (by have q0 := lv_neT e_1_0 (show ((0 : Int32)).toInt = 0 from by decide); have q1 := lv_neT e_1_1 (show ((1 : Int32)).toInt = 1 from by decide); have q2 := lv_neT e_1_2 (show ((2 : Int32)).toInt = 2 from by decide); have q3 := lv_neT e_1_3 (show ((3 : Int32)).toInt = 3 from by decide); have q4 := lv_neT e_1_4 (show ((4 : Int32)).toInt = 4 from by decide); have q5 := lv_neT e_1_5 (show ((5 : Int32)).toInt = 5 from by decide); have q6 := lv_neT e_1_6 (show ((6 : Int32)).toInt = 6 from by decide); have q7 := lv_neT e_1_7 (show ((7 : Int32)).toInt = 7 from by decide); omega) rfl ?_
  refine lv_iconst (v := (-1 : Int32)) hx hb dX8_now_121 rfl ?_
  exact hret _ _ _ _ _ _ hW rfl rfl dX8_now_122 (⟨by rw [noR, if_neg e_1_0, if_neg e_1_1, if_neg e_1_2, if_neg e_1_3, if_neg e_1_4, if_neg e_1_5, if_neg e_1_6, if_neg e_1_7] <;> rfl, rfl⟩)

set_option maxHeartbeats 4000000 in
set_option maxRecDepth 100000 in
theorem c_X8_count (l : Launch) (D : va_G) (cI cZ cN : ClassId) (a : Nat → Nat) (T Q Ld Vd L V S : NV) (R : Nat → NV) (C1 C2 Rn Wd : NV) (Im : Nat → NV) (K : NV) (tr : Int64) (z N C k y z1 z2 : Nat) (hz : T 1 0 = nI z) (hz2 : z ≤ 200) (hN : L 3 1 = nI N) (hN7 : N ≤ 7) (hC : L 3 0 = nI C) (hC4 : C ≤ 4) (hC1 : 1 ≤ C) (hk : S 0 0 = nI k) (hk10 : k < 10) (hy : S 0 1 = nI y) (hy10 : y ≤ 10) (hc1 : C1 2 0 = nI z1) (hz16 : z1 ≤ 6) (hc2 : C2 2 0 = nI z2) (hz26 : z2 ≤ 6) (wh : Int32) : CtI l yX8_count cX8_count 2 (some .int) 0 D (tyG cI cZ cN) [.ref (a 0), .int wh] (pOne cI cZ cN a T Q Ld Vd L V S R C1 C2 Rn Wd Im K tr) (fun r w => r = coR N C z z1 z2 wh ∧ w = (pOne cI cZ cN a T Q Ld Vd L V S R C1 C2 Rn Wd Im K tr)) := by
  refine CtI.of rfl (Nat.le_of_ble_eq_true rfl) ?_
  intro pg ev sx mx ax bx mt cx ls Qx Ax Sx hret hW hl
  have hx := Sx.1
  have hb := Sx.2.1
  have hl : lv_has ls 2 [(0, .ref (a 0)), (1, .int wh)] := hl
  refine lv_iload_n hx hb dX8_count_0 rfl (lv_at hl 1 rfl) ?_
  by_cases e_1_0 : wh = (0 : Int32)
  · refine r_eq e_1_0 ?_
    refine lv_tableIn (off := 35) (tgt := 36) hx hb dX8_count_1 (by decide) (by decide) rfl rfl ?_
    refine lv_aload_n hx hb dX8_count_36 rfl (lv_at hl 0 rfl) ?_
    refine r_get Sx hW 0 rfl rfl bw_wsX80 2 (by decide) (v := .ref (a 12)) rfl mw23 dX8_count_37 ?_
    refine r_get Sx hW 12 rfl rfl bw_wsX10 4 (by decide) (v := .int (L 3 0)) rfl mw763 dX8_count_40 ?_
    refine r_eq (y := (nI C)) hC ?_
    exact hret _ _ _ _ _ _ hW rfl rfl dX8_count_43 (⟨by rw [coR, if_pos e_1_0] <;> rfl, rfl⟩)
  by_cases e_1_1 : wh = (1 : Int32)
  · refine r_eq e_1_1 ?_
    refine lv_tableIn (off := 43) (tgt := 44) hx hb dX8_count_1 (by decide) (by decide) rfl rfl ?_
    refine lv_aload_n hx hb dX8_count_44 rfl (lv_at hl 0 rfl) ?_
    refine r_get Sx hW 0 rfl rfl bw_wsX80 2 (by decide) (v := .ref (a 12)) rfl mw23 dX8_count_45 ?_
    refine r_get Sx hW 12 rfl rfl bw_wsX10 5 (by decide) (v := .int (L 3 1)) rfl mw691 dX8_count_48 ?_
    refine r_eq (y := (nI N)) hN ?_
    exact hret _ _ _ _ _ _ hW rfl rfl dX8_count_51 (⟨by rw [coR, if_neg e_1_0, if_pos e_1_1] <;> rfl, rfl⟩)
  by_cases e_1_2 : wh = (2 : Int32)
  · refine r_eq e_1_2 ?_
    refine lv_tableIn (off := 51) (tgt := 52) hx hb dX8_count_1 (by decide) (by decide) rfl rfl ?_
    refine lv_aload_n hx hb dX8_count_52 rfl (lv_at hl 0 rfl) ?_
    refine r_get Sx hW 0 rfl rfl bw_wsX80 4 (by decide) (v := .ref (a 62)) rfl mw31 dX8_count_53 ?_
    refine r_get Sx hW 62 rfl rfl bw_wsX00 2 (by decide) (v := .int (C1 2 0)) rfl mw163 dX8_count_56 ?_
    refine r_eq (y := (nI z1)) hc1 ?_
    exact hret _ _ _ _ _ _ hW rfl rfl dX8_count_59 (⟨by rw [coR, if_neg e_1_0, if_neg e_1_1, if_pos e_1_2] <;> rfl, rfl⟩)
  by_cases e_1_3 : wh = (3 : Int32)
  · refine r_eq e_1_3 ?_
    refine lv_tableIn (off := 59) (tgt := 60) hx hb dX8_count_1 (by decide) (by decide) rfl rfl ?_
    refine lv_aload_n hx hb dX8_count_60 rfl (lv_at hl 0 rfl) ?_
    refine r_get Sx hW 0 rfl rfl bw_wsX80 5 (by decide) (v := .ref (a 65)) rfl mw32 dX8_count_61 ?_
    refine r_get Sx hW 65 rfl rfl bw_wsX00 2 (by decide) (v := .int (C2 2 0)) rfl mw163 dX8_count_64 ?_
    refine r_eq (y := (nI z2)) hc2 ?_
    exact hret _ _ _ _ _ _ hW rfl rfl dX8_count_67 (⟨by rw [coR, if_neg e_1_0, if_neg e_1_1, if_neg e_1_2, if_pos e_1_3] <;> rfl, rfl⟩)
  by_cases e_1_4 : wh = (4 : Int32)
  · refine r_eq e_1_4 ?_
    refine lv_tableIn (off := 67) (tgt := 68) hx hb dX8_count_1 (by decide) (by decide) rfl rfl ?_
    refine lv_aload_n hx hb dX8_count_68 rfl (lv_at hl 0 rfl) ?_
    refine r_get Sx hW 0 rfl rfl bw_wsX80 0 (by decide) (v := .ref (a 1)) rfl mw15 dX8_count_69 ?_
    refine r_get Sx hW 1 rfl rfl bw_wsX60 1 (by decide) (v := .int (T 1 0)) rfl mw135 dX8_count_72 ?_
    refine r_eq (y := (nI z)) hz ?_
    exact hret _ _ _ _ _ _ hW rfl rfl dX8_count_75 (⟨by rw [coR, if_neg e_1_0, if_neg e_1_1, if_neg e_1_2, if_neg e_1_3, if_pos e_1_4] <;> rfl, rfl⟩)
  refine lv_tableOut (tgt := 76) hx hb dX8_count_1 (by have q0 := lv_neT e_1_0 (show ((0 : Int32)).toInt = 0 from by decide); have q1 := lv_neT e_1_1 (show ((1 : Int32)).toInt = 1 from by decide); have q2 := lv_neT e_1_2 (show ((2 : Int32)).toInt = 2 from by decide); have q3 := lv_neT e_1_3 (show ((3 : Int32)).toInt = 3 from by decide); have q4 := lv_neT e_1_4 (show ((4 : Int32)).toInt = 4 from by decide); omega) rfl ?_
  refine lv_iconst (v := (-1 : Int32)) hx hb dX8_count_76 rfl ?_
  exact hret _ _ _ _ _ _ hW rfl rfl dX8_count_77 (⟨by rw [coR, if_neg e_1_0, if_neg e_1_1, if_neg e_1_2, if_neg e_1_3, if_neg e_1_4] <;> rfl, rfl⟩)
