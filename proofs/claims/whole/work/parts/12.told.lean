/-! OneJohn: what was told, odds, images -/
theorem dec_n (i : Nat) : nI i + Int32.ofInt (-1) = nI i - 1 := by rw [Int32.sub_eq_add_neg]; rfl
theorem fa_or_sum' {a k : Nat} (b : Nat) (h : a < 2 ^ k) : nI (2 ^ k * b) ||| nI a = nI (2 ^ k * b + a) := by
  apply Int32.toBitVec_inj.mp
  rw [Int32.toBitVec_or]
  show BitVec.ofNat 32 _ ||| BitVec.ofNat 32 _ = BitVec.ofNat 32 _
  rw [← BitVec.ofNat_or, Nat.two_pow_add_eq_or_of_lt h]
def whO (N C : Nat) (V C1 : NV) (z1 : Nat) : Nat → Int32
  | 0 => if agI (lmpI (V 0) N C 0 (V 3 1)) (C1 0) (C1 1) z1 = 0 then 0 else 128
  | i + 1 => if agI (lmpI (V 0) N C ((1 : Int32) <<< (nI i &&& 31)) (V 3 1)) (C1 0) (C1 1) z1 = 0 then whO N C V C1 z1 i else whO N C V C1 z1 i ||| ((1 : Int32) <<< (nI i &&& 31))
def asI (N C z1 z2 : Nat) (L V C1 C2 : NV) (la : Int32) : Int32 := if agI (lmpI (V 0) N C (V 3 0) la) (C1 0) (C1 1) z1 = 0 then 0 else agI (psg (L 0) (V 0) N C la 5) (C2 0) (C2 1) z2
theorem agI_1 {b : Int32} {s t : Nat → Int32} {n : Nat} (h : ¬ agI b s t n = 0) : agI b s t n = 1 := (agI_01 b s t n).resolve_left h
def whK (f : Int32 → Int32) : Nat → Int32 × Int32 × Int32
  | 0 => (0, -9, 15)
  | j + 1 => if f (nI (15 - j)) = 0 then whK f j else ((whK f j).1 + 1, nI (15 - j), (whK f j).2.2 &&& nI (15 - j))
def whR (f : Int32 → Int32) (what : Int32) : Int32 := if inI what 0 2 = 0 then -1 else if what = 0 then (whK f 16).1 else if (whK f 16).1 = 0 then -9 else if what = 1 then (whK f 16).2.1 else (whK f 16).2.2
theorem br_nat (f : Nat → Int32) (k : Int32) : ∀ n, n ≤ 7 → ∃ m : Nat, m < 2 ^ n ∧ br f k n = nI m
  | 0, _ => ⟨0, by decide, rfl⟩
  | n + 1, h => by
    obtain ⟨m, hm, e⟩ := br_nat f k n (by omega)
    have h2 : 2 ^ (n + 1) = 2 ^ n + 2 ^ n := by rw [Nat.pow_succ]; omega
    rw [br]
    split
    · refine ⟨2 ^ n + m, by omega, ?_⟩
      rw [e, show ((1 : Int32) <<< (nI n &&& 31)) = nI (2 ^ n) from by
        rcases (show n = 0 ∨ n = 1 ∨ n = 2 ∨ n = 3 ∨ n = 4 ∨ n = 5 ∨ n = 6 by omega) with rfl | rfl | rfl | rfl | rfl | rfl | rfl <;> decide]
      have h3 := fa_or_sum' (a := m) (k := n) 1 hm
      rw [Nat.mul_one] at h3
      rw [← h3]
      exact Int32.or_comm _ _
    · exact ⟨m, by omega, e⟩
def pcN (m : Nat) : Nat := m % 2 + m / 2 % 2 + m / 4 % 2 + m / 8 % 2 + m / 16 % 2 + m / 32 % 2 + m / 64 % 2
theorem bc_nat : ∀ m, m < 128 → bcI (nI m) = nI (pcN m) := by decide +kernel
theorem bc_br {f : Nat → Int32} {k : Int32} {N : Nat} (h : N ≤ 7) : ∃ b : Nat, b ≤ 7 ∧ bcI (br f k N) = nI b := by
  obtain ⟨m, hm, e⟩ := br_nat f k N h
  have hm2 : m < 128 := Nat.lt_of_lt_of_le hm (Nat.pow_le_pow_right (by decide) h)
  exact ⟨pcN m, by unfold pcN; omega, by rw [e, bc_nat m hm2]⟩
theorem max0 {v b : Nat} (hv : v < 1000) (hb : b < 1000) : (if (0 : Int32) < nI v - nI b then nI v - nI b else 0) = nI (v - b) := by
  by_cases h : b ≤ v
  · rw [pk_sub h]
    split
    · rfl
    · rename_i h2
      have : ¬ 0 < v - b := fun q => h2 ((nI_ltI (a := 0) (b := v - b) (by decide) (by omega)).mpr q)
      rw [show v - b = 0 from by omega]; rfl
  · rw [if_neg (fun q => absurd (Int32.lt_of_le_of_lt (Int32.le_of_lt q) (pk_sneg (a := v) (b := b) (by omega) (by omega))) (by decide)), show v - b = 0 from by omega]; rfl
def odR (N C : Nat) (V : NV) (k n v what : Int32) : Int32 := if ¬ inI k 0 (nI C - 1) = 0 ∧ ¬ inI n 0 6 = 0 ∧ ¬ inI v 0 20 = 0 ∧ ¬ inI what 0 1 = 0 then
  (if what = 0 then ilI (crI C n.toNatClampNeg (v.toNatClampNeg - (bcI (br (V 0) k N)).toNatClampNeg) (n.toNatClampNeg + 1 - (v.toNatClampNeg - (bcI (br (V 0) k N)).toNatClampNeg))) (pwI (nI C) n.toNatClampNeg)
   else ilI (pwI (nI C) n.toNatClampNeg) (crI C n.toNatClampNeg (v.toNatClampNeg - (bcI (br (V 0) k N)).toNatClampNeg) (n.toNatClampNeg + 1 - (v.toNatClampNeg - (bcI (br (V 0) k N)).toNatClampNeg)))) else -1

set_option maxHeartbeats 4000000 in
set_option maxRecDepth 100000 in
theorem c_X8_who (l : Launch) (D : va_G) (cI cZ cN : ClassId) (a : Nat → Nat) (T Q Ld Vd L V S : NV) (R : Nat → NV) (C1 C2 Rn Wd : NV) (Im : Nat → NV) (K : NV) (tr : Int64) (z N C k y z1 z2 : Nat) (hz : T 1 0 = nI z) (hz2 : z ≤ 200) (hN : L 3 1 = nI N) (hN7 : N ≤ 7) (hC : L 3 0 = nI C) (hC4 : C ≤ 4) (hC1 : 1 ≤ C) (hk : S 0 0 = nI k) (hk10 : k < 10) (hy : S 0 1 = nI y) (hy10 : y ≤ 10) (hc1 : C1 2 0 = nI z1) (hz16 : z1 ≤ 6) (hc2 : C2 2 0 = nI z2) (hz26 : z2 ≤ 6) : CtI l yX8_who cX8_who 4 (some .int) 3 D (tyG cI cZ cN) [.ref (a 0)] (pOne cI cZ cN a T Q Ld Vd L V S R C1 C2 Rn Wd Im K tr) (fun r w => r = whO N C V C1 z1 N ∧ w = (pOne cI cZ cN a T Q Ld Vd L V S R C1 C2 Rn Wd Im K tr)) := by
  refine CtI.of rfl (Nat.le_of_ble_eq_true rfl) ?_
  intro pg ev sx mx ax bx mt cx ls Qx Ax Sx hret hW hl
  have hx := Sx.1
  have hb := Sx.2.1
  have hl : lv_has ls 4 [(0, .ref (a 0))] := hl
  refine lv_aload_n hx hb dX8_who_0 rfl (lv_at hl 0 rfl) ?_
  refine r_get Sx hW 0 rfl rfl bw_wsX80 2 (by decide) (v := .ref (a 12)) rfl mw23 dX8_who_1 ?_
  refine r_get Sx hW 12 rfl rfl bw_wsX10 3 (by decide) (v := .ref (a 16)) rfl mw291 dX8_who_4 ?_
  refine r_get Sx hW 16 rfl rfl bw_wsX20 4 (by decide) (v := .int (V 3 1)) rfl mw422 dX8_who_7 ?_
  refine lv_istore_n (lv' := [(1, .int (V 3 1)), (0, .ref (a 0))]) hx hb dX8_who_10 rfl hl (by decide) rfl (fun ls hl => ?_)
  refine lv_aload_n hx hb dX8_who_11 rfl (lv_at hl 1 rfl) ?_
  refine r_get Sx hW 0 rfl rfl bw_wsX80 4 (by decide) (v := .ref (a 62)) rfl mw31 dX8_who_12 ?_
  refine lv_aload_n hx hb dX8_who_15 rfl (lv_at hl 1 rfl) ?_
  refine r_get Sx hW 0 rfl rfl bw_wsX80 2 (by decide) (v := .ref (a 12)) rfl mw23 dX8_who_16 ?_
  refine lv_iconst (v := (0 : Int32)) hx hb dX8_who_19 rfl ?_
  refine lv_iload_n hx hb dX8_who_20 rfl (lv_at hl 0 rfl) ?_
  refine callVI Sx hW (c_X1_limpingIf l D cI cZ cN (fun i => a (i + 12)) L V (0 : Int32) (V 3 1) N C hN hN7 hC hC4 hC1 ) vmX1_limpingIf mw692 [12, 13, 14, 15, 16, 17, 18, 19] rfl (by decide) 0 rfl rfl (As := [.int (0 : Int32), .int (V 3 1)]) (rest := [.ref (a 62)]) rfl rfl hl.1 (Nat.le_of_ble_eq_true rfl) ⟨Nat.le_of_ble_eq_true rfl, Nat.le_of_ble_eq_true rfl⟩ ⟨Nat.le_refl _, Nat.le_refl _⟩ dX8_who_21 (fun rx wx H locs hqx hW => ?_)
  obtain ⟨hrx, rfl⟩ := hqx
  have hW : AtC D (tyG cI cZ cN) Ax (pOne cI cZ cN a T Q Ld Vd L V S R C1 C2 Rn Wd Im K tr) sx H locs := hW.re [0, 1, 2, 3, 4, 5, 6, 7, 8, 9, 10, 11, 20, 21, 22, 23, 24, 25, 26, 27, 28, 29, 30, 31, 32, 33, 34, 35, 36, 37, 38, 39, 40, 41, 42, 43, 44, 45, 46, 47, 48, 49, 50, 51, 52, 53, 54, 55, 56, 57, 58, 59, 60, 61, 62, 63, 64, 65, 66, 67, 68, 69, 70, 71, 72, 73, 74, 75, 76, 77, 78, 79, 80, 81, 82, 83] 84 (by decide) rfl rfl ⟨rfl, rfl, rfl, rfl, rfl, rfl, rfl, rfl, rfl, rfl, rfl, rfl, rfl, rfl, rfl, rfl, rfl, rfl, rfl, rfl, rfl, rfl, rfl, rfl, rfl, rfl, rfl, rfl, rfl, rfl, rfl, rfl, rfl, rfl, rfl, rfl, rfl, rfl, rfl, rfl, rfl, rfl, rfl, rfl, rfl, rfl, rfl, rfl, rfl, rfl, rfl, rfl, rfl, rfl, rfl, rfl, rfl, rfl, rfl, rfl, rfl, rfl, rfl, rfl, rfl, rfl, rfl, rfl, rfl, rfl, rfl, rfl, rfl, rfl, rfl, rfl, trivial⟩ (by decide +kernel) rfl rfl
  refine r_eq (y := (lmpI (V 0) (N) (C) ((0 : Int32)) ((V 3 1)))) hrx ?_
  refine callVI Sx hW (c_X0_agree l D cI cZ cN (fun i => a (i + 62)) C1 (lmpI (V 0) (N) (C) ((0 : Int32)) ((V 3 1))) z1 hc1 hz16) vmX0_agree mw693 [62, 63, 64] rfl (by decide) 0 rfl rfl (As := [.int (lmpI (V 0) (N) (C) ((0 : Int32)) ((V 3 1)))]) (rest := []) rfl rfl hl.1 (Nat.le_of_ble_eq_true rfl) ⟨Nat.le_of_ble_eq_true rfl, Nat.le_of_ble_eq_true rfl⟩ ⟨Nat.le_refl _, Nat.le_refl _⟩ dX8_who_24 (fun rx wx H locs hqx hW => ?_)
  obtain ⟨hrx, rfl⟩ := hqx
  have hW : AtC D (tyG cI cZ cN) Ax (pOne cI cZ cN a T Q Ld Vd L V S R C1 C2 Rn Wd Im K tr) sx H locs := hW.re [0, 1, 2, 3, 4, 5, 6, 7, 8, 9, 10, 11, 12, 13, 14, 15, 16, 17, 18, 19, 20, 21, 22, 23, 24, 25, 26, 27, 28, 29, 30, 31, 32, 33, 34, 35, 36, 37, 38, 39, 40, 41, 42, 43, 44, 45, 46, 47, 48, 49, 50, 51, 52, 53, 54, 55, 56, 57, 58, 59, 60, 61, 65, 66, 67, 68, 69, 70, 71, 72, 73, 74, 75, 76, 77, 78, 79, 80, 81, 82, 83] 84 (by decide) rfl rfl ⟨rfl, rfl, rfl, rfl, rfl, rfl, rfl, rfl, rfl, rfl, rfl, rfl, rfl, rfl, rfl, rfl, rfl, rfl, rfl, rfl, rfl, rfl, rfl, rfl, rfl, rfl, rfl, rfl, rfl, rfl, rfl, rfl, rfl, rfl, rfl, rfl, rfl, rfl, rfl, rfl, rfl, rfl, rfl, rfl, rfl, rfl, rfl, rfl, rfl, rfl, rfl, rfl, rfl, rfl, rfl, rfl, rfl, rfl, rfl, rfl, rfl, rfl, rfl, rfl, rfl, rfl, rfl, rfl, rfl, rfl, rfl, rfl, rfl, rfl, rfl, rfl, rfl, rfl, rfl, rfl, rfl, trivial⟩ (by decide +kernel) rfl rfl
  refine r_eq (y := (agI (lmpI (V 0) (N) (C) ((0 : Int32)) ((V 3 1))) (C1 0) (C1 1) z1)) hrx ?_
  refine lv_if_eq (tgt := 36) hx hb dX8_who_27 rfl (fun c_27 => ?_) (fun c_27 => ?_)
  · refine lv_iconst (v := (0 : Int32)) hx hb dX8_who_36 rfl ?_
    refine lv_istore_n (lv' := [(2, .int (0 : Int32)), (1, .int (V 3 1)), (0, .ref (a 0))]) hx hb dX8_who_37 rfl hl (by decide) rfl (fun ls hl => ?_)
    refine lv_iconst (v := (0 : Int32)) hx hb dX8_who_38 rfl ?_
    refine lv_istore_n (lv' := [(3, .int (0 : Int32)), (2, .int (0 : Int32)), (1, .int (V 3 1)), (0, .ref (a 0))]) hx hb dX8_who_39 rfl hl (by decide) rfl (fun ls hl => ?_)
    have lp_40 : ∀ (n : Nat) (i : Nat), ((i ≤ N)) → ((N + 1 ≤ i + n)) → ∀ (H : Heap) (locs : List Loc) (ls : Array Slot), AtC D (tyG cI cZ cN) Ax (pOne cI cZ cN a T Q Ld Vd L V S R C1 C2 Rn Wd Im K tr) sx H locs → lv_has ls 4 [(0, .ref (a 0)), (1, .int (V 3 1)), (2, .int (whO N C V C1 z1 i)), (3, .int (nI i))] → W pg l ev (rmN 3) sx mx ax bx mt cx H locs 0 0 Qx (F0 mx 40 ls []) := by
      intro n
      induction n with
      | zero =>
        intro i hi_40 hn_40 H locs ls hW hl
        exact absurd hn_40 (by omega)
      | succ n ih40 =>
        intro i hi_40 hn_40 H locs ls hW hl
        refine lv_iload_n hx hb dX8_who_40 rfl (lv_at hl 3 rfl) ?_
        refine lv_aload_n hx hb dX8_who_41 rfl (lv_at hl 0 rfl) ?_
        refine r_get Sx hW 0 rfl rfl bw_wsX80 2 (by decide) (v := .ref (a 12)) rfl mw23 dX8_who_42 ?_
        refine r_get Sx hW 12 rfl rfl bw_wsX10 5 (by decide) (v := .int (L 3 1)) rfl mw691 dX8_who_45 ?_
        refine r_eq (y := (nI N)) hN ?_
        refine lv_icmp_ge (tgt := 84) hx hb dX8_who_48 rfl (fun c_48 => ?_) (fun c_48 => ?_)
        · have ge_48 : N ≤ i := (nI_leI (a := N) (b := i) (by omega) (by omega)).mp c_48
          have ee_48 : N = i := by omega
          subst ee_48
          refine lv_iload_n hx hb dX8_who_84 rfl (lv_at hl 2 rfl) ?_
          exact hret _ _ _ _ _ _ hW rfl rfl dX8_who_85 (⟨rfl, rfl⟩)
        · have lt_48 : i < N := Nat.not_le.mp (fun h => c_48 ((nI_leI (a := N) (b := i) (by omega) (by omega)).mpr h))
          refine lv_aload_n hx hb dX8_who_51 rfl (lv_at hl 0 rfl) ?_
          refine r_get Sx hW 0 rfl rfl bw_wsX80 4 (by decide) (v := .ref (a 62)) rfl mw31 dX8_who_52 ?_
          refine lv_aload_n hx hb dX8_who_55 rfl (lv_at hl 0 rfl) ?_
          refine r_get Sx hW 0 rfl rfl bw_wsX80 2 (by decide) (v := .ref (a 12)) rfl mw23 dX8_who_56 ?_
          refine lv_iconst (v := (1 : Int32)) hx hb dX8_who_59 rfl ?_
          refine lv_iload_n hx hb dX8_who_60 rfl (lv_at hl 3 rfl) ?_
          refine lv_ishl hx hb dX8_who_61 ?_
          refine lv_iload_n hx hb dX8_who_62 rfl (lv_at hl 1 rfl) ?_
          refine callVI Sx hW (c_X1_limpingIf l D cI cZ cN (fun i => a (i + 12)) L V ((1 : Int32) <<< ((nI i) &&& 31)) (V 3 1) N C hN hN7 hC hC4 hC1 ) vmX1_limpingIf mw692 [12, 13, 14, 15, 16, 17, 18, 19] rfl (by decide) 0 rfl rfl (As := [.int ((1 : Int32) <<< ((nI i) &&& 31)), .int (V 3 1)]) (rest := [.ref (a 62)]) rfl rfl hl.1 (Nat.le_of_ble_eq_true rfl) ⟨Nat.le_of_ble_eq_true rfl, Nat.le_of_ble_eq_true rfl⟩ ⟨Nat.le_refl _, Nat.le_refl _⟩ dX8_who_63 (fun rx wx H locs hqx hW => ?_)
          obtain ⟨hrx, rfl⟩ := hqx
          have hW : AtC D (tyG cI cZ cN) Ax (pOne cI cZ cN a T Q Ld Vd L V S R C1 C2 Rn Wd Im K tr) sx H locs := hW.re [0, 1, 2, 3, 4, 5, 6, 7, 8, 9, 10, 11, 20, 21, 22, 23, 24, 25, 26, 27, 28, 29, 30, 31, 32, 33, 34, 35, 36, 37, 38, 39, 40, 41, 42, 43, 44, 45, 46, 47, 48, 49, 50, 51, 52, 53, 54, 55, 56, 57, 58, 59, 60, 61, 62, 63, 64, 65, 66, 67, 68, 69, 70, 71, 72, 73, 74, 75, 76, 77, 78, 79, 80, 81, 82, 83] 84 (by decide) rfl rfl ⟨rfl, rfl, rfl, rfl, rfl, rfl, rfl, rfl, rfl, rfl, rfl, rfl, rfl, rfl, rfl, rfl, rfl, rfl, rfl, rfl, rfl, rfl, rfl, rfl, rfl, rfl, rfl, rfl, rfl, rfl, rfl, rfl, rfl, rfl, rfl, rfl, rfl, rfl, rfl, rfl, rfl, rfl, rfl, rfl, rfl, rfl, rfl, rfl, rfl, rfl, rfl, rfl, rfl, rfl, rfl, rfl, rfl, rfl, rfl, rfl, rfl, rfl, rfl, rfl, rfl, rfl, rfl, rfl, rfl, rfl, rfl, rfl, rfl, rfl, rfl, rfl, trivial⟩ (by decide +kernel) rfl rfl
          refine r_eq (y := (lmpI (V 0) (N) (C) (((1 : Int32) <<< ((nI i) &&& 31))) ((V 3 1)))) hrx ?_
          refine callVI Sx hW (c_X0_agree l D cI cZ cN (fun i => a (i + 62)) C1 (lmpI (V 0) (N) (C) (((1 : Int32) <<< ((nI i) &&& 31))) ((V 3 1))) z1 hc1 hz16) vmX0_agree mw693 [62, 63, 64] rfl (by decide) 0 rfl rfl (As := [.int (lmpI (V 0) (N) (C) (((1 : Int32) <<< ((nI i) &&& 31))) ((V 3 1)))]) (rest := []) rfl rfl hl.1 (Nat.le_of_ble_eq_true rfl) ⟨Nat.le_of_ble_eq_true rfl, Nat.le_of_ble_eq_true rfl⟩ ⟨Nat.le_refl _, Nat.le_refl _⟩ dX8_who_66 (fun rx wx H locs hqx hW => ?_)
          obtain ⟨hrx, rfl⟩ := hqx
          have hW : AtC D (tyG cI cZ cN) Ax (pOne cI cZ cN a T Q Ld Vd L V S R C1 C2 Rn Wd Im K tr) sx H locs := hW.re [0, 1, 2, 3, 4, 5, 6, 7, 8, 9, 10, 11, 12, 13, 14, 15, 16, 17, 18, 19, 20, 21, 22, 23, 24, 25, 26, 27, 28, 29, 30, 31, 32, 33, 34, 35, 36, 37, 38, 39, 40, 41, 42, 43, 44, 45, 46, 47, 48, 49, 50, 51, 52, 53, 54, 55, 56, 57, 58, 59, 60, 61, 65, 66, 67, 68, 69, 70, 71, 72, 73, 74, 75, 76, 77, 78, 79, 80, 81, 82, 83] 84 (by decide) rfl rfl ⟨rfl, rfl, rfl, rfl, rfl, rfl, rfl, rfl, rfl, rfl, rfl, rfl, rfl, rfl, rfl, rfl, rfl, rfl, rfl, rfl, rfl, rfl, rfl, rfl, rfl, rfl, rfl, rfl, rfl, rfl, rfl, rfl, rfl, rfl, rfl, rfl, rfl, rfl, rfl, rfl, rfl, rfl, rfl, rfl, rfl, rfl, rfl, rfl, rfl, rfl, rfl, rfl, rfl, rfl, rfl, rfl, rfl, rfl, rfl, rfl, rfl, rfl, rfl, rfl, rfl, rfl, rfl, rfl, rfl, rfl, rfl, rfl, rfl, rfl, rfl, rfl, rfl, rfl, rfl, rfl, rfl, trivial⟩ (by decide +kernel) rfl rfl
          refine r_eq (y := (agI (lmpI (V 0) (N) (C) (((1 : Int32) <<< ((nI i) &&& 31))) ((V 3 1))) (C1 0) (C1 1) z1)) hrx ?_
          refine lv_if_eq (tgt := 78) hx hb dX8_who_69 rfl (fun c_69 => ?_) (fun c_69 => ?_)
          · refine lv_iinc (v := (nI (i + 1))) (lv' := [(3, .int (nI (i + 1))), (0, .ref (a 0)), (1, .int (V 3 1)), (2, .int (whO N C V C1 z1 i))]) hx hb dX8_who_78 hl (k := 3) rfl (inc_n i 1) (by decide) rfl (fun ls hl => ?_)
            refine lv_goto (tgt := 40) hx hb dX8_who_81 rfl ?_
            have hl_1 : lv_has ls 4 [(0, .ref (a 0)), (1, .int (V 3 1)), (2, .int (whO N C V C1 z1 (i + 1))), (3, .int (nI (i + 1)))] := by
              rw [show (whO N C V C1 z1 (i + 1)) = (whO N C V C1 z1 i) from by rw [whO, if_pos c_69]]
              exact lv_sub hl [1, 2, 3, 0] rfl
            exact ih40 (i + 1) (by omega) (by omega) _ _ _ hW hl_1
          · refine lv_iload_n hx hb dX8_who_72 rfl (lv_at hl 2 rfl) ?_
            refine lv_iconst (v := (1 : Int32)) hx hb dX8_who_73 rfl ?_
            refine lv_iload_n hx hb dX8_who_74 rfl (lv_at hl 3 rfl) ?_
            refine lv_ishl hx hb dX8_who_75 ?_
            refine lv_ior hx hb dX8_who_76 ?_
            refine lv_istore_n (lv' := [(2, .int ((whO N C V C1 z1 i) ||| ((1 : Int32) <<< ((nI i) &&& 31)))), (0, .ref (a 0)), (1, .int (V 3 1)), (3, .int (nI i))]) hx hb dX8_who_77 rfl hl (by decide) rfl (fun ls hl => ?_)
            refine lv_iinc (v := (nI (i + 1))) (lv' := [(3, .int (nI (i + 1))), (2, .int ((whO N C V C1 z1 i) ||| ((1 : Int32) <<< ((nI i) &&& 31)))), (0, .ref (a 0)), (1, .int (V 3 1))]) hx hb dX8_who_78 hl (k := 3) rfl (inc_n i 1) (by decide) rfl (fun ls hl => ?_)
            refine lv_goto (tgt := 40) hx hb dX8_who_81 rfl ?_
            have hl_2 : lv_has ls 4 [(0, .ref (a 0)), (1, .int (V 3 1)), (2, .int (whO N C V C1 z1 (i + 1))), (3, .int (nI (i + 1)))] := by
              rw [show (whO N C V C1 z1 (i + 1)) = ((whO N C V C1 z1 i) ||| ((1 : Int32) <<< ((nI i) &&& 31))) from by rw [whO, if_neg c_69]]
              exact lv_sub hl [2, 3, 1, 0] rfl
            exact ih40 (i + 1) (by omega) (by omega) _ _ _ hW hl_2
    have hl_3 : lv_has ls 4 [(0, .ref (a 0)), (1, .int (V 3 1)), (2, .int (whO N C V C1 z1 0)), (3, .int (nI 0))] := by
      rw [show (whO N C V C1 z1 0) = (0 : Int32) from by rw [whO, if_pos c_27]]
      exact lv_sub hl [3, 2, 1, 0] rfl
    exact lp_40 (N + 1) 0 (by omega) (by omega) _ _ _ hW hl_3
  · refine lv_sipush (v := (128 : Int32)) hx hb dX8_who_30 rfl ?_
    refine lv_goto (tgt := 37) hx hb dX8_who_33 rfl ?_
    refine lv_istore_n (lv' := [(2, .int (128 : Int32)), (1, .int (V 3 1)), (0, .ref (a 0))]) hx hb dX8_who_37 rfl hl (by decide) rfl (fun ls hl => ?_)
    refine lv_iconst (v := (0 : Int32)) hx hb dX8_who_38 rfl ?_
    refine lv_istore_n (lv' := [(3, .int (0 : Int32)), (2, .int (128 : Int32)), (1, .int (V 3 1)), (0, .ref (a 0))]) hx hb dX8_who_39 rfl hl (by decide) rfl (fun ls hl => ?_)
    have lp_40 : ∀ (n : Nat) (i : Nat), ((i ≤ N)) → ((N + 1 ≤ i + n)) → ∀ (H : Heap) (locs : List Loc) (ls : Array Slot), AtC D (tyG cI cZ cN) Ax (pOne cI cZ cN a T Q Ld Vd L V S R C1 C2 Rn Wd Im K tr) sx H locs → lv_has ls 4 [(0, .ref (a 0)), (1, .int (V 3 1)), (2, .int (whO N C V C1 z1 i)), (3, .int (nI i))] → W pg l ev (rmN 3) sx mx ax bx mt cx H locs 0 0 Qx (F0 mx 40 ls []) := by
      intro n
      induction n with
      | zero =>
        intro i hi_40 hn_40 H locs ls hW hl
        exact absurd hn_40 (by omega)
      | succ n ih40 =>
        intro i hi_40 hn_40 H locs ls hW hl
        refine lv_iload_n hx hb dX8_who_40 rfl (lv_at hl 3 rfl) ?_
        refine lv_aload_n hx hb dX8_who_41 rfl (lv_at hl 0 rfl) ?_
        refine r_get Sx hW 0 rfl rfl bw_wsX80 2 (by decide) (v := .ref (a 12)) rfl mw23 dX8_who_42 ?_
        refine r_get Sx hW 12 rfl rfl bw_wsX10 5 (by decide) (v := .int (L 3 1)) rfl mw691 dX8_who_45 ?_
        refine r_eq (y := (nI N)) hN ?_
        refine lv_icmp_ge (tgt := 84) hx hb dX8_who_48 rfl (fun c_48 => ?_) (fun c_48 => ?_)
        · have ge_48 : N ≤ i := (nI_leI (a := N) (b := i) (by omega) (by omega)).mp c_48
          have ee_48 : N = i := by omega
          subst ee_48
          refine lv_iload_n hx hb dX8_who_84 rfl (lv_at hl 2 rfl) ?_
          exact hret _ _ _ _ _ _ hW rfl rfl dX8_who_85 (⟨rfl, rfl⟩)
        · have lt_48 : i < N := Nat.not_le.mp (fun h => c_48 ((nI_leI (a := N) (b := i) (by omega) (by omega)).mpr h))
          refine lv_aload_n hx hb dX8_who_51 rfl (lv_at hl 0 rfl) ?_
          refine r_get Sx hW 0 rfl rfl bw_wsX80 4 (by decide) (v := .ref (a 62)) rfl mw31 dX8_who_52 ?_
          refine lv_aload_n hx hb dX8_who_55 rfl (lv_at hl 0 rfl) ?_
          refine r_get Sx hW 0 rfl rfl bw_wsX80 2 (by decide) (v := .ref (a 12)) rfl mw23 dX8_who_56 ?_
          refine lv_iconst (v := (1 : Int32)) hx hb dX8_who_59 rfl ?_
          refine lv_iload_n hx hb dX8_who_60 rfl (lv_at hl 3 rfl) ?_
          refine lv_ishl hx hb dX8_who_61 ?_
          refine lv_iload_n hx hb dX8_who_62 rfl (lv_at hl 1 rfl) ?_
          refine callVI Sx hW (c_X1_limpingIf l D cI cZ cN (fun i => a (i + 12)) L V ((1 : Int32) <<< ((nI i) &&& 31)) (V 3 1) N C hN hN7 hC hC4 hC1 ) vmX1_limpingIf mw692 [12, 13, 14, 15, 16, 17, 18, 19] rfl (by decide) 0 rfl rfl (As := [.int ((1 : Int32) <<< ((nI i) &&& 31)), .int (V 3 1)]) (rest := [.ref (a 62)]) rfl rfl hl.1 (Nat.le_of_ble_eq_true rfl) ⟨Nat.le_of_ble_eq_true rfl, Nat.le_of_ble_eq_true rfl⟩ ⟨Nat.le_refl _, Nat.le_refl _⟩ dX8_who_63 (fun rx wx H locs hqx hW => ?_)
          obtain ⟨hrx, rfl⟩ := hqx
          have hW : AtC D (tyG cI cZ cN) Ax (pOne cI cZ cN a T Q Ld Vd L V S R C1 C2 Rn Wd Im K tr) sx H locs := hW.re [0, 1, 2, 3, 4, 5, 6, 7, 8, 9, 10, 11, 20, 21, 22, 23, 24, 25, 26, 27, 28, 29, 30, 31, 32, 33, 34, 35, 36, 37, 38, 39, 40, 41, 42, 43, 44, 45, 46, 47, 48, 49, 50, 51, 52, 53, 54, 55, 56, 57, 58, 59, 60, 61, 62, 63, 64, 65, 66, 67, 68, 69, 70, 71, 72, 73, 74, 75, 76, 77, 78, 79, 80, 81, 82, 83] 84 (by decide) rfl rfl ⟨rfl, rfl, rfl, rfl, rfl, rfl, rfl, rfl, rfl, rfl, rfl, rfl, rfl, rfl, rfl, rfl, rfl, rfl, rfl, rfl, rfl, rfl, rfl, rfl, rfl, rfl, rfl, rfl, rfl, rfl, rfl, rfl, rfl, rfl, rfl, rfl, rfl, rfl, rfl, rfl, rfl, rfl, rfl, rfl, rfl, rfl, rfl, rfl, rfl, rfl, rfl, rfl, rfl, rfl, rfl, rfl, rfl, rfl, rfl, rfl, rfl, rfl, rfl, rfl, rfl, rfl, rfl, rfl, rfl, rfl, rfl, rfl, rfl, rfl, rfl, rfl, trivial⟩ (by decide +kernel) rfl rfl
          refine r_eq (y := (lmpI (V 0) (N) (C) (((1 : Int32) <<< ((nI i) &&& 31))) ((V 3 1)))) hrx ?_
          refine callVI Sx hW (c_X0_agree l D cI cZ cN (fun i => a (i + 62)) C1 (lmpI (V 0) (N) (C) (((1 : Int32) <<< ((nI i) &&& 31))) ((V 3 1))) z1 hc1 hz16) vmX0_agree mw693 [62, 63, 64] rfl (by decide) 0 rfl rfl (As := [.int (lmpI (V 0) (N) (C) (((1 : Int32) <<< ((nI i) &&& 31))) ((V 3 1)))]) (rest := []) rfl rfl hl.1 (Nat.le_of_ble_eq_true rfl) ⟨Nat.le_of_ble_eq_true rfl, Nat.le_of_ble_eq_true rfl⟩ ⟨Nat.le_refl _, Nat.le_refl _⟩ dX8_who_66 (fun rx wx H locs hqx hW => ?_)
          obtain ⟨hrx, rfl⟩ := hqx
          have hW : AtC D (tyG cI cZ cN) Ax (pOne cI cZ cN a T Q Ld Vd L V S R C1 C2 Rn Wd Im K tr) sx H locs := hW.re [0, 1, 2, 3, 4, 5, 6, 7, 8, 9, 10, 11, 12, 13, 14, 15, 16, 17, 18, 19, 20, 21, 22, 23, 24, 25, 26, 27, 28, 29, 30, 31, 32, 33, 34, 35, 36, 37, 38, 39, 40, 41, 42, 43, 44, 45, 46, 47, 48, 49, 50, 51, 52, 53, 54, 55, 56, 57, 58, 59, 60, 61, 65, 66, 67, 68, 69, 70, 71, 72, 73, 74, 75, 76, 77, 78, 79, 80, 81, 82, 83] 84 (by decide) rfl rfl ⟨rfl, rfl, rfl, rfl, rfl, rfl, rfl, rfl, rfl, rfl, rfl, rfl, rfl, rfl, rfl, rfl, rfl, rfl, rfl, rfl, rfl, rfl, rfl, rfl, rfl, rfl, rfl, rfl, rfl, rfl, rfl, rfl, rfl, rfl, rfl, rfl, rfl, rfl, rfl, rfl, rfl, rfl, rfl, rfl, rfl, rfl, rfl, rfl, rfl, rfl, rfl, rfl, rfl, rfl, rfl, rfl, rfl, rfl, rfl, rfl, rfl, rfl, rfl, rfl, rfl, rfl, rfl, rfl, rfl, rfl, rfl, rfl, rfl, rfl, rfl, rfl, rfl, rfl, rfl, rfl, rfl, trivial⟩ (by decide +kernel) rfl rfl
          refine r_eq (y := (agI (lmpI (V 0) (N) (C) (((1 : Int32) <<< ((nI i) &&& 31))) ((V 3 1))) (C1 0) (C1 1) z1)) hrx ?_
          refine lv_if_eq (tgt := 78) hx hb dX8_who_69 rfl (fun c_69 => ?_) (fun c_69 => ?_)
          · refine lv_iinc (v := (nI (i + 1))) (lv' := [(3, .int (nI (i + 1))), (0, .ref (a 0)), (1, .int (V 3 1)), (2, .int (whO N C V C1 z1 i))]) hx hb dX8_who_78 hl (k := 3) rfl (inc_n i 1) (by decide) rfl (fun ls hl => ?_)
            refine lv_goto (tgt := 40) hx hb dX8_who_81 rfl ?_
            have hl_4 : lv_has ls 4 [(0, .ref (a 0)), (1, .int (V 3 1)), (2, .int (whO N C V C1 z1 (i + 1))), (3, .int (nI (i + 1)))] := by
              rw [show (whO N C V C1 z1 (i + 1)) = (whO N C V C1 z1 i) from by rw [whO, if_pos c_69]]
              exact lv_sub hl [1, 2, 3, 0] rfl
            exact ih40 (i + 1) (by omega) (by omega) _ _ _ hW hl_4
          · refine lv_iload_n hx hb dX8_who_72 rfl (lv_at hl 2 rfl) ?_
            refine lv_iconst (v := (1 : Int32)) hx hb dX8_who_73 rfl ?_
            refine lv_iload_n hx hb dX8_who_74 rfl (lv_at hl 3 rfl) ?_
            refine lv_ishl hx hb dX8_who_75 ?_
            refine lv_ior hx hb dX8_who_76 ?_
            refine lv_istore_n (lv' := [(2, .int ((whO N C V C1 z1 i) ||| ((1 : Int32) <<< ((nI i) &&& 31)))), (0, .ref (a 0)), (1, .int (V 3 1)), (3, .int (nI i))]) hx hb dX8_who_77 rfl hl (by decide) rfl (fun ls hl => ?_)
            refine lv_iinc (v := (nI (i + 1))) (lv' := [(3, .int (nI (i + 1))), (2, .int ((whO N C V C1 z1 i) ||| ((1 : Int32) <<< ((nI i) &&& 31)))), (0, .ref (a 0)), (1, .int (V 3 1))]) hx hb dX8_who_78 hl (k := 3) rfl (inc_n i 1) (by decide) rfl (fun ls hl => ?_)
            refine lv_goto (tgt := 40) hx hb dX8_who_81 rfl ?_
            have hl_5 : lv_has ls 4 [(0, .ref (a 0)), (1, .int (V 3 1)), (2, .int (whO N C V C1 z1 (i + 1))), (3, .int (nI (i + 1)))] := by
              rw [show (whO N C V C1 z1 (i + 1)) = ((whO N C V C1 z1 i) ||| ((1 : Int32) <<< ((nI i) &&& 31))) from by rw [whO, if_neg c_69]]
              exact lv_sub hl [2, 3, 1, 0] rfl
            exact ih40 (i + 1) (by omega) (by omega) _ _ _ hW hl_5
    have hl_6 : lv_has ls 4 [(0, .ref (a 0)), (1, .int (V 3 1)), (2, .int (whO N C V C1 z1 0)), (3, .int (nI 0))] := by
      rw [show (whO N C V C1 z1 0) = (128 : Int32) from by rw [whO, if_neg c_27]]
      exact lv_sub hl [3, 2, 1, 0] rfl
    exact lp_40 (N + 1) 0 (by omega) (by omega) _ _ _ hW hl_6

set_option maxHeartbeats 4000000 in
set_option maxRecDepth 100000 in
theorem c_X8_allIsSo (l : Launch) (D : va_G) (cI cZ cN : ClassId) (a : Nat → Nat) (T Q Ld Vd L V S : NV) (R : Nat → NV) (C1 C2 Rn Wd : NV) (Im : Nat → NV) (K : NV) (tr : Int64) (z N C k y z1 z2 : Nat) (hz : T 1 0 = nI z) (hz2 : z ≤ 200) (hN : L 3 1 = nI N) (hN7 : N ≤ 7) (hC : L 3 0 = nI C) (hC4 : C ≤ 4) (hC1 : 1 ≤ C) (hk : S 0 0 = nI k) (hk10 : k < 10) (hy : S 0 1 = nI y) (hy10 : y ≤ 10) (hc1 : C1 2 0 = nI z1) (hz16 : z1 ≤ 6) (hc2 : C2 2 0 = nI z2) (hz26 : z2 ≤ 6) (la : Int32) : CtI l yX8_allIsSo cX8_allIsSo 2 (some .boolean) 5 D (tyG cI cZ cN) [.ref (a 0), .int la] (pOne cI cZ cN a T Q Ld Vd L V S R C1 C2 Rn Wd Im K tr) (fun r w => r = asI N C z1 z2 L V C1 C2 la ∧ w = (pOne cI cZ cN a T Q Ld Vd L V S R C1 C2 Rn Wd Im K tr)) := by
  refine CtI.of rfl (Nat.le_of_ble_eq_true rfl) ?_
  intro pg ev sx mx ax bx mt cx ls Qx Ax Sx hret hW hl
  have hx := Sx.1
  have hb := Sx.2.1
  have hl : lv_has ls 2 [(0, .ref (a 0)), (1, .int la)] := hl
  refine lv_aload_n hx hb dX8_allIsSo_0 rfl (lv_at hl 0 rfl) ?_
  refine r_get Sx hW 0 rfl rfl bw_wsX80 4 (by decide) (v := .ref (a 62)) rfl mw31 dX8_allIsSo_1 ?_
  refine lv_aload_n hx hb dX8_allIsSo_4 rfl (lv_at hl 0 rfl) ?_
  refine r_get Sx hW 0 rfl rfl bw_wsX80 2 (by decide) (v := .ref (a 12)) rfl mw23 dX8_allIsSo_5 ?_
  refine lv_aload_n hx hb dX8_allIsSo_8 rfl (lv_at hl 0 rfl) ?_
  refine r_get Sx hW 0 rfl rfl bw_wsX80 2 (by decide) (v := .ref (a 12)) rfl mw23 dX8_allIsSo_9 ?_
  refine r_get Sx hW 12 rfl rfl bw_wsX10 3 (by decide) (v := .ref (a 16)) rfl mw291 dX8_allIsSo_12 ?_
  refine r_get Sx hW 16 rfl rfl bw_wsX20 3 (by decide) (v := .int (V 3 0)) rfl mw295 dX8_allIsSo_15 ?_
  refine lv_iload_n hx hb dX8_allIsSo_18 rfl (lv_at hl 1 rfl) ?_
  refine callVI Sx hW (c_X1_limpingIf l D cI cZ cN (fun i => a (i + 12)) L V (V 3 0) la N C hN hN7 hC hC4 hC1 ) vmX1_limpingIf mw692 [12, 13, 14, 15, 16, 17, 18, 19] rfl (by decide) 0 rfl rfl (As := [.int (V 3 0), .int la]) (rest := [.ref (a 62)]) rfl rfl hl.1 (Nat.le_of_ble_eq_true rfl) ⟨Nat.le_of_ble_eq_true rfl, Nat.le_of_ble_eq_true rfl⟩ ⟨Nat.le_refl _, Nat.le_refl _⟩ dX8_allIsSo_19 (fun rx wx H locs hqx hW => ?_)
  obtain ⟨hrx, rfl⟩ := hqx
  have hW : AtC D (tyG cI cZ cN) Ax (pOne cI cZ cN a T Q Ld Vd L V S R C1 C2 Rn Wd Im K tr) sx H locs := hW.re [0, 1, 2, 3, 4, 5, 6, 7, 8, 9, 10, 11, 20, 21, 22, 23, 24, 25, 26, 27, 28, 29, 30, 31, 32, 33, 34, 35, 36, 37, 38, 39, 40, 41, 42, 43, 44, 45, 46, 47, 48, 49, 50, 51, 52, 53, 54, 55, 56, 57, 58, 59, 60, 61, 62, 63, 64, 65, 66, 67, 68, 69, 70, 71, 72, 73, 74, 75, 76, 77, 78, 79, 80, 81, 82, 83] 84 (by decide) rfl rfl ⟨rfl, rfl, rfl, rfl, rfl, rfl, rfl, rfl, rfl, rfl, rfl, rfl, rfl, rfl, rfl, rfl, rfl, rfl, rfl, rfl, rfl, rfl, rfl, rfl, rfl, rfl, rfl, rfl, rfl, rfl, rfl, rfl, rfl, rfl, rfl, rfl, rfl, rfl, rfl, rfl, rfl, rfl, rfl, rfl, rfl, rfl, rfl, rfl, rfl, rfl, rfl, rfl, rfl, rfl, rfl, rfl, rfl, rfl, rfl, rfl, rfl, rfl, rfl, rfl, rfl, rfl, rfl, rfl, rfl, rfl, rfl, rfl, rfl, rfl, rfl, rfl, trivial⟩ (by decide +kernel) rfl rfl
  refine r_eq (y := (lmpI (V 0) (N) (C) ((V 3 0)) (la))) hrx ?_
  refine callVI Sx hW (c_X0_agree l D cI cZ cN (fun i => a (i + 62)) C1 (lmpI (V 0) (N) (C) ((V 3 0)) (la)) z1 hc1 hz16) vmX0_agree mw693 [62, 63, 64] rfl (by decide) 0 rfl rfl (As := [.int (lmpI (V 0) (N) (C) ((V 3 0)) (la))]) (rest := []) rfl rfl hl.1 (Nat.le_of_ble_eq_true rfl) ⟨Nat.le_of_ble_eq_true rfl, Nat.le_of_ble_eq_true rfl⟩ ⟨Nat.le_refl _, Nat.le_refl _⟩ dX8_allIsSo_22 (fun rx wx H locs hqx hW => ?_)
  obtain ⟨hrx, rfl⟩ := hqx
  have hW : AtC D (tyG cI cZ cN) Ax (pOne cI cZ cN a T Q Ld Vd L V S R C1 C2 Rn Wd Im K tr) sx H locs := hW.re [0, 1, 2, 3, 4, 5, 6, 7, 8, 9, 10, 11, 12, 13, 14, 15, 16, 17, 18, 19, 20, 21, 22, 23, 24, 25, 26, 27, 28, 29, 30, 31, 32, 33, 34, 35, 36, 37, 38, 39, 40, 41, 42, 43, 44, 45, 46, 47, 48, 49, 50, 51, 52, 53, 54, 55, 56, 57, 58, 59, 60, 61, 65, 66, 67, 68, 69, 70, 71, 72, 73, 74, 75, 76, 77, 78, 79, 80, 81, 82, 83] 84 (by decide) rfl rfl ⟨rfl, rfl, rfl, rfl, rfl, rfl, rfl, rfl, rfl, rfl, rfl, rfl, rfl, rfl, rfl, rfl, rfl, rfl, rfl, rfl, rfl, rfl, rfl, rfl, rfl, rfl, rfl, rfl, rfl, rfl, rfl, rfl, rfl, rfl, rfl, rfl, rfl, rfl, rfl, rfl, rfl, rfl, rfl, rfl, rfl, rfl, rfl, rfl, rfl, rfl, rfl, rfl, rfl, rfl, rfl, rfl, rfl, rfl, rfl, rfl, rfl, rfl, rfl, rfl, rfl, rfl, rfl, rfl, rfl, rfl, rfl, rfl, rfl, rfl, rfl, rfl, rfl, rfl, rfl, rfl, rfl, trivial⟩ (by decide +kernel) rfl rfl
  refine r_eq (y := (agI (lmpI (V 0) (N) (C) ((V 3 0)) (la)) (C1 0) (C1 1) z1)) hrx ?_
  refine lv_if_eq (tgt := 50) hx hb dX8_allIsSo_25 rfl (fun c_25 => ?_) (fun c_25 => ?_)
  · refine lv_iconst (v := (0 : Int32)) hx hb dX8_allIsSo_50 rfl ?_
    exact hret _ _ _ _ _ _ hW rfl rfl dX8_allIsSo_51 (⟨by rw [asI, if_pos c_25], rfl⟩)
  · refine lv_aload_n hx hb dX8_allIsSo_28 rfl (lv_at hl 0 rfl) ?_
    refine r_get Sx hW 0 rfl rfl bw_wsX80 5 (by decide) (v := .ref (a 65)) rfl mw32 dX8_allIsSo_29 ?_
    refine lv_aload_n hx hb dX8_allIsSo_32 rfl (lv_at hl 0 rfl) ?_
    refine r_get Sx hW 0 rfl rfl bw_wsX80 2 (by decide) (v := .ref (a 12)) rfl mw23 dX8_allIsSo_33 ?_
    refine lv_iload_n hx hb dX8_allIsSo_36 rfl (lv_at hl 1 rfl) ?_
    refine callVI Sx hW (c_X1_passing l D cI cZ cN (fun i => a (i + 12)) L V la N C hN hN7 hC hC4 hC1 ) vmX1_passing mw713 [12, 13, 14, 15, 16, 17, 18, 19] rfl (by decide) 0 rfl rfl (As := [.int la]) (rest := [.ref (a 65)]) rfl rfl hl.1 (Nat.le_of_ble_eq_true rfl) ⟨Nat.le_of_ble_eq_true rfl, Nat.le_of_ble_eq_true rfl⟩ ⟨Nat.le_refl _, Nat.le_refl _⟩ dX8_allIsSo_37 (fun rx wx H locs hqx hW => ?_)
    obtain ⟨hrx, rfl⟩ := hqx
    have hW : AtC D (tyG cI cZ cN) Ax (pOne cI cZ cN a T Q Ld Vd L V S R C1 C2 Rn Wd Im K tr) sx H locs := hW.re [0, 1, 2, 3, 4, 5, 6, 7, 8, 9, 10, 11, 20, 21, 22, 23, 24, 25, 26, 27, 28, 29, 30, 31, 32, 33, 34, 35, 36, 37, 38, 39, 40, 41, 42, 43, 44, 45, 46, 47, 48, 49, 50, 51, 52, 53, 54, 55, 56, 57, 58, 59, 60, 61, 62, 63, 64, 65, 66, 67, 68, 69, 70, 71, 72, 73, 74, 75, 76, 77, 78, 79, 80, 81, 82, 83] 84 (by decide) rfl rfl ⟨rfl, rfl, rfl, rfl, rfl, rfl, rfl, rfl, rfl, rfl, rfl, rfl, rfl, rfl, rfl, rfl, rfl, rfl, rfl, rfl, rfl, rfl, rfl, rfl, rfl, rfl, rfl, rfl, rfl, rfl, rfl, rfl, rfl, rfl, rfl, rfl, rfl, rfl, rfl, rfl, rfl, rfl, rfl, rfl, rfl, rfl, rfl, rfl, rfl, rfl, rfl, rfl, rfl, rfl, rfl, rfl, rfl, rfl, rfl, rfl, rfl, rfl, rfl, rfl, rfl, rfl, rfl, rfl, rfl, rfl, rfl, rfl, rfl, rfl, rfl, rfl, trivial⟩ (by decide +kernel) rfl rfl
    refine r_eq (y := (psg (L 0) (V 0) (N) (C) (la) 5)) hrx ?_
    refine callVI Sx hW (c_X0_agree l D cI cZ cN (fun i => a (i + 65)) C2 (psg (L 0) (V 0) (N) (C) (la) 5) z2 hc2 hz26) vmX0_agree mw693 [65, 66, 67] rfl (by decide) 0 rfl rfl (As := [.int (psg (L 0) (V 0) (N) (C) (la) 5)]) (rest := []) rfl rfl hl.1 (Nat.le_of_ble_eq_true rfl) ⟨Nat.le_of_ble_eq_true rfl, Nat.le_of_ble_eq_true rfl⟩ ⟨Nat.le_refl _, Nat.le_refl _⟩ dX8_allIsSo_40 (fun rx wx H locs hqx hW => ?_)
    obtain ⟨hrx, rfl⟩ := hqx
    have hW : AtC D (tyG cI cZ cN) Ax (pOne cI cZ cN a T Q Ld Vd L V S R C1 C2 Rn Wd Im K tr) sx H locs := hW.re [0, 1, 2, 3, 4, 5, 6, 7, 8, 9, 10, 11, 12, 13, 14, 15, 16, 17, 18, 19, 20, 21, 22, 23, 24, 25, 26, 27, 28, 29, 30, 31, 32, 33, 34, 35, 36, 37, 38, 39, 40, 41, 42, 43, 44, 45, 46, 47, 48, 49, 50, 51, 52, 53, 54, 55, 56, 57, 58, 59, 60, 61, 62, 63, 64, 68, 69, 70, 71, 72, 73, 74, 75, 76, 77, 78, 79, 80, 81, 82, 83] 84 (by decide) rfl rfl ⟨rfl, rfl, rfl, rfl, rfl, rfl, rfl, rfl, rfl, rfl, rfl, rfl, rfl, rfl, rfl, rfl, rfl, rfl, rfl, rfl, rfl, rfl, rfl, rfl, rfl, rfl, rfl, rfl, rfl, rfl, rfl, rfl, rfl, rfl, rfl, rfl, rfl, rfl, rfl, rfl, rfl, rfl, rfl, rfl, rfl, rfl, rfl, rfl, rfl, rfl, rfl, rfl, rfl, rfl, rfl, rfl, rfl, rfl, rfl, rfl, rfl, rfl, rfl, rfl, rfl, rfl, rfl, rfl, rfl, rfl, rfl, rfl, rfl, rfl, rfl, rfl, rfl, rfl, rfl, rfl, rfl, trivial⟩ (by decide +kernel) rfl rfl
    refine r_eq (y := (agI (psg (L 0) (V 0) (N) (C) (la) 5) (C2 0) (C2 1) z2)) hrx ?_
    refine lv_if_eq (tgt := 50) hx hb dX8_allIsSo_43 rfl (fun c_43 => ?_) (fun c_43 => ?_)
    · refine lv_iconst (v := (0 : Int32)) hx hb dX8_allIsSo_50 rfl ?_
      exact hret _ _ _ _ _ _ hW rfl rfl dX8_allIsSo_51 (⟨by rw [asI, if_neg c_25]; exact c_43.symm, rfl⟩)
    · refine lv_iconst (v := (1 : Int32)) hx hb dX8_allIsSo_46 rfl ?_
      refine lv_goto (tgt := 51) hx hb dX8_allIsSo_47 rfl ?_
      exact hret _ _ _ _ _ _ hW rfl rfl dX8_allIsSo_51 (⟨by rw [asI, if_neg c_25]; exact (agI_1 c_43).symm, rfl⟩)

set_option maxHeartbeats 4000000 in
set_option maxRecDepth 100000 in
theorem c_X8_which (l : Launch) (D : va_G) (cI cZ cN : ClassId) (a : Nat → Nat) (T Q Ld Vd L V S : NV) (R : Nat → NV) (C1 C2 Rn Wd : NV) (Im : Nat → NV) (K : NV) (tr : Int64) (z N C k y z1 z2 : Nat) (hz : T 1 0 = nI z) (hz2 : z ≤ 200) (hN : L 3 1 = nI N) (hN7 : N ≤ 7) (hC : L 3 0 = nI C) (hC4 : C ≤ 4) (hC1 : 1 ≤ C) (hk : S 0 0 = nI k) (hk10 : k < 10) (hy : S 0 1 = nI y) (hy10 : y ≤ 10) (hc1 : C1 2 0 = nI z1) (hz16 : z1 ≤ 6) (hc2 : C2 2 0 = nI z2) (hz26 : z2 ≤ 6) (wh : Int32) : CtI l yX8_which cX8_which 6 (some .int) 6 D (tyG cI cZ cN) [.ref (a 0), .int wh] (pOne cI cZ cN a T Q Ld Vd L V S R C1 C2 Rn Wd Im K tr) (fun r w => r = whR (asI N C z1 z2 L V C1 C2) wh ∧ w = (pOne cI cZ cN a T Q Ld Vd L V S R C1 C2 Rn Wd Im K tr)) := by
  refine CtI.of rfl (Nat.le_of_ble_eq_true rfl) ?_
  intro pg ev sx mx ax bx mt cx ls Qx Ax Sx hret hW hl
  have hx := Sx.1
  have hb := Sx.2.1
  have hl : lv_has ls 6 [(0, .ref (a 0)), (1, .int wh)] := hl
  refine lv_iload_n hx hb dX8_which_0 rfl (lv_at hl 1 rfl) ?_
  refine lv_iconst (v := (0 : Int32)) hx hb dX8_which_1 rfl ?_
  refine lv_iconst (v := (2 : Int32)) hx hb dX8_which_2 rfl ?_
  refine callSI Sx hW (c_X8_within l D cI cZ cN wh (0 : Int32) (2 : Int32)) smX8_within mw137 (As := [.int wh, .int (0 : Int32), .int (2 : Int32)]) (rest := []) rfl rfl hl.1 (Nat.le_of_ble_eq_true rfl) ⟨Nat.le_of_ble_eq_true rfl, Nat.le_of_ble_eq_true rfl⟩ ⟨Nat.le_refl _, Nat.le_refl _⟩ dX8_which_3 (fun rx H locs hqx hW => ?_)
  obtain ⟨hrx, -⟩ := hqx
  refine r_eq (y := (inI wh (0 : Int32) (2 : Int32))) hrx ?_
  refine lv_if_ne (tgt := 11) hx hb dX8_which_6 rfl (fun c_6 => ?_) (fun c_6 => ?_)
  · refine lv_iconst (v := (0 : Int32)) hx hb dX8_which_11 rfl ?_
    refine lv_istore_n (lv' := [(2, .int (0 : Int32)), (0, .ref (a 0)), (1, .int wh)]) hx hb dX8_which_12 rfl hl (by decide) rfl (fun ls hl => ?_)
    refine lv_bipush (v := (-9 : Int32)) hx hb dX8_which_13 rfl ?_
    refine lv_istore_n (lv' := [(3, .int (-9 : Int32)), (2, .int (0 : Int32)), (0, .ref (a 0)), (1, .int wh)]) hx hb dX8_which_15 rfl hl (by decide) rfl (fun ls hl => ?_)
    refine lv_bipush (v := (15 : Int32)) hx hb dX8_which_16 rfl ?_
    refine lv_istore (lv' := [(4, .int (15 : Int32)), (3, .int (-9 : Int32)), (2, .int (0 : Int32)), (0, .ref (a 0)), (1, .int wh)]) hx hb dX8_which_18 hl (by decide) rfl (fun ls hl => ?_)
    refine lv_bipush (v := (15 : Int32)) hx hb dX8_which_20 rfl ?_
    refine lv_istore (lv' := [(5, .int (15 : Int32)), (4, .int (15 : Int32)), (3, .int (-9 : Int32)), (2, .int (0 : Int32)), (0, .ref (a 0)), (1, .int wh)]) hx hb dX8_which_22 hl (by decide) rfl (fun ls hl => ?_)
    have lp_24 : ∀ (n : Nat) (j : Nat), ((j ≤ 16)) → ((16 + 1 ≤ j + n)) → ∀ (H : Heap) (locs : List Loc) (ls : Array Slot), AtC D (tyG cI cZ cN) Ax (pOne cI cZ cN a T Q Ld Vd L V S R C1 C2 Rn Wd Im K tr) sx H locs → lv_has ls 6 [(0, .ref (a 0)), (1, .int wh), (2, .int (whK (asI N C z1 z2 L V C1 C2) j).1), (3, .int (whK (asI N C z1 z2 L V C1 C2) j).2.1), (4, .int (whK (asI N C z1 z2 L V C1 C2) j).2.2), (5, .int (nI (16 - j) - 1))] → W pg l ev (rmN 6) sx mx ax bx mt cx H locs 0 0 Qx (F0 mx 24 ls []) := by
      intro n
      induction n with
      | zero =>
        intro j hj hn H locs ls hW hl
        exact absurd hn (by omega)
      | succ n ih24 =>
        intro j hj hn H locs ls hW hl
        refine lv_iload hx hb dX8_which_24 (lv_at hl 5 rfl) ?_
        refine lv_if_lt (tgt := 57) hx hb dX8_which_26 rfl (fun c_26 => ?_) (fun c_26 => ?_)
        · have ee_26 : 16 = j := by
                rcases Nat.lt_or_ge j 16 with q | q
                · exact absurd c_26 (by rw [show 16 - j = (15 - j) + 1 from by omega, nI_pred]; exact nI_pos (by omega))
                · omega
          subst ee_26
          refine lv_iload_n hx hb dX8_which_57 rfl (lv_at hl 1 rfl) ?_
          refine lv_if_ne (tgt := 63) hx hb dX8_which_58 rfl (fun c_58 => ?_) (fun c_58 => ?_)
          · refine lv_iload_n hx hb dX8_which_63 rfl (lv_at hl 2 rfl) ?_
            refine lv_if_ne (tgt := 70) hx hb dX8_which_64 rfl (fun c_64 => ?_) (fun c_64 => ?_)
            · refine lv_iload_n hx hb dX8_which_70 rfl (lv_at hl 1 rfl) ?_
              refine lv_iconst (v := (1 : Int32)) hx hb dX8_which_71 rfl ?_
              refine lv_icmp_ne (tgt := 79) hx hb dX8_which_72 rfl (fun c_72 => ?_) (fun c_72 => ?_)
              · refine lv_iload hx hb dX8_which_79 (lv_at hl 4 rfl) ?_
                exact hret _ _ _ _ _ _ hW rfl rfl dX8_which_81 (⟨by rw [whR, if_neg c_6, if_neg c_58, if_neg c_64, if_neg c_72] <;> rfl, rfl⟩)
              · refine lv_iload_n hx hb dX8_which_75 rfl (lv_at hl 3 rfl) ?_
                refine lv_goto (tgt := 81) hx hb dX8_which_76 rfl ?_
                exact hret _ _ _ _ _ _ hW rfl rfl dX8_which_81 (⟨by rw [whR, if_neg c_6, if_neg c_58, if_neg c_64, if_pos c_72] <;> rfl, rfl⟩)
            · refine lv_bipush (v := (-9 : Int32)) hx hb dX8_which_67 rfl ?_
              exact hret _ _ _ _ _ _ hW rfl rfl dX8_which_69 (⟨by rw [whR, if_neg c_6, if_neg c_58, if_pos c_64] <;> rfl, rfl⟩)
          · refine lv_iload_n hx hb dX8_which_61 rfl (lv_at hl 2 rfl) ?_
            exact hret _ _ _ _ _ _ hW rfl rfl dX8_which_62 (⟨by rw [whR, if_neg c_6, if_pos c_58] <;> rfl, rfl⟩)
        · have lt_26 : j < 16 := by
                rcases Nat.lt_or_ge j 16 with q | q
                · exact q
                · exact absurd (by rw [show 16 - j = 0 from by omega]; decide) c_26
          rw [show nI (16 - j) - 1 = nI (15 - j) from by rw [show 16 - j = (15 - j) + 1 from by omega]; exact nI_pred _] at hl
          refine lv_aload_n hx hb dX8_which_29 rfl (lv_at hl 0 rfl) ?_
          refine lv_iload hx hb dX8_which_30 (lv_at hl 5 rfl) ?_
          refine callVI Sx hW (c_X8_allIsSo l D cI cZ cN a T Q Ld Vd L V S R C1 C2 Rn Wd Im K tr z N C k y z1 z2 hz hz2 hN hN7 hC hC4 hC1 hk hk10 hy hy10 hc1 hz16 hc2 hz26 (nI (15 - j))) vmX8_allIsSo mw709 [0, 1, 2, 3, 4, 5, 6, 7, 8, 9, 10, 11, 12, 13, 14, 15, 16, 17, 18, 19, 20, 21, 22, 23, 24, 25, 26, 27, 28, 29, 30, 31, 32, 33, 34, 35, 36, 37, 38, 39, 40, 41, 42, 43, 44, 45, 46, 47, 48, 49, 50, 51, 52, 53, 54, 55, 56, 57, 58, 59, 60, 61, 62, 63, 64, 65, 66, 67, 68, 69, 70, 71, 72, 73, 74, 75, 76, 77, 78, 79, 80, 81, 82, 83] rfl (by decide) 0 rfl rfl (As := [.int (nI (15 - j))]) (rest := []) rfl rfl hl.1 (Nat.le_of_ble_eq_true rfl) ⟨Nat.le_of_ble_eq_true rfl, Nat.le_of_ble_eq_true rfl⟩ ⟨Nat.le_refl _, Nat.le_refl _⟩ dX8_which_32 (fun rx wx H locs hqx hW => ?_)
          obtain ⟨hrx, rfl⟩ := hqx
          have hW : AtC D (tyG cI cZ cN) Ax (pOne cI cZ cN a T Q Ld Vd L V S R C1 C2 Rn Wd Im K tr) sx H locs := hW.re [] 84 (by decide) rfl rfl trivial (by decide +kernel) rfl rfl
          refine r_eq (y := (asI N C z1 z2 L V C1 C2 (nI (15 - j)))) hrx ?_
          refine lv_if_eq (tgt := 51) hx hb dX8_which_35 rfl (fun c_35 => ?_) (fun c_35 => ?_)
          · refine lv_iinc (v := (nI (15 - j) - 1)) (lv' := [(5, .int (nI (15 - j) - 1)), (0, .ref (a 0)), (1, .int wh), (2, .int (whK (asI N C z1 z2 L V C1 C2) j).1), (3, .int (whK (asI N C z1 z2 L V C1 C2) j).2.1), (4, .int (whK (asI N C z1 z2 L V C1 C2) j).2.2)]) hx hb dX8_which_51 hl (k := 5) rfl (dec_n (15 - j)) (by decide) rfl (fun ls hl => ?_)
            refine lv_goto (tgt := 24) hx hb dX8_which_54 rfl ?_
            have hl_1 : lv_has ls 6 [(0, .ref (a 0)), (1, .int wh), (2, .int (whK (asI N C z1 z2 L V C1 C2) (j + 1)).1), (3, .int (whK (asI N C z1 z2 L V C1 C2) (j + 1)).2.1), (4, .int (whK (asI N C z1 z2 L V C1 C2) (j + 1)).2.2), (5, .int (nI (16 - (j + 1)) - 1))] := by
              rw [show (whK (asI N C z1 z2 L V C1 C2) (j + 1)).1 = (whK (asI N C z1 z2 L V C1 C2) j).1 from by rw [whK, if_pos c_35]]
              rw [show (whK (asI N C z1 z2 L V C1 C2) (j + 1)).2.1 = (whK (asI N C z1 z2 L V C1 C2) j).2.1 from by rw [whK, if_pos c_35]]
              rw [show (whK (asI N C z1 z2 L V C1 C2) (j + 1)).2.2 = (whK (asI N C z1 z2 L V C1 C2) j).2.2 from by rw [whK, if_pos c_35]]
              rw [show (nI (16 - (j + 1)) - 1) = (nI (15 - j) - 1) from by rw [show 16 - (j + 1) = 15 - j from by omega]]
              exact lv_sub hl [1, 2, 3, 4, 5, 0] rfl
            exact ih24 (j + 1) (by omega) (by omega) _ _ _ hW hl_1
          · refine lv_iinc (v := ((whK (asI N C z1 z2 L V C1 C2) j).1 + 1)) (lv' := [(2, .int ((whK (asI N C z1 z2 L V C1 C2) j).1 + 1)), (0, .ref (a 0)), (1, .int wh), (3, .int (whK (asI N C z1 z2 L V C1 C2) j).2.1), (4, .int (whK (asI N C z1 z2 L V C1 C2) j).2.2), (5, .int (nI (15 - j)))]) hx hb dX8_which_38 hl (k := 2) rfl rfl (by decide) rfl (fun ls hl => ?_)
            refine lv_iload hx hb dX8_which_41 (lv_at hl 5 rfl) ?_
            refine lv_istore_n (lv' := [(3, .int (nI (15 - j))), (2, .int ((whK (asI N C z1 z2 L V C1 C2) j).1 + 1)), (0, .ref (a 0)), (1, .int wh), (4, .int (whK (asI N C z1 z2 L V C1 C2) j).2.2), (5, .int (nI (15 - j)))]) hx hb dX8_which_43 rfl hl (by decide) rfl (fun ls hl => ?_)
            refine lv_iload hx hb dX8_which_44 (lv_at hl 4 rfl) ?_
            refine lv_iload hx hb dX8_which_46 (lv_at hl 5 rfl) ?_
            refine lv_iand hx hb dX8_which_48 ?_
            refine lv_istore (lv' := [(4, .int ((whK (asI N C z1 z2 L V C1 C2) j).2.2 &&& (nI (15 - j)))), (3, .int (nI (15 - j))), (2, .int ((whK (asI N C z1 z2 L V C1 C2) j).1 + 1)), (0, .ref (a 0)), (1, .int wh), (5, .int (nI (15 - j)))]) hx hb dX8_which_49 hl (by decide) rfl (fun ls hl => ?_)
            refine lv_iinc (v := (nI (15 - j) - 1)) (lv' := [(5, .int (nI (15 - j) - 1)), (4, .int ((whK (asI N C z1 z2 L V C1 C2) j).2.2 &&& (nI (15 - j)))), (3, .int (nI (15 - j))), (2, .int ((whK (asI N C z1 z2 L V C1 C2) j).1 + 1)), (0, .ref (a 0)), (1, .int wh)]) hx hb dX8_which_51 hl (k := 5) rfl (dec_n (15 - j)) (by decide) rfl (fun ls hl => ?_)
            refine lv_goto (tgt := 24) hx hb dX8_which_54 rfl ?_
            have hl_2 : lv_has ls 6 [(0, .ref (a 0)), (1, .int wh), (2, .int (whK (asI N C z1 z2 L V C1 C2) (j + 1)).1), (3, .int (whK (asI N C z1 z2 L V C1 C2) (j + 1)).2.1), (4, .int (whK (asI N C z1 z2 L V C1 C2) (j + 1)).2.2), (5, .int (nI (16 - (j + 1)) - 1))] := by
              rw [show (whK (asI N C z1 z2 L V C1 C2) (j + 1)).1 = ((whK (asI N C z1 z2 L V C1 C2) j).1 + 1) from by rw [whK, if_neg c_35]]
              rw [show (whK (asI N C z1 z2 L V C1 C2) (j + 1)).2.1 = (nI (15 - j)) from by rw [whK, if_neg c_35]]
              rw [show (whK (asI N C z1 z2 L V C1 C2) (j + 1)).2.2 = ((whK (asI N C z1 z2 L V C1 C2) j).2.2 &&& (nI (15 - j))) from by rw [whK, if_neg c_35]]
              rw [show (nI (16 - (j + 1)) - 1) = (nI (15 - j) - 1) from by rw [show 16 - (j + 1) = 15 - j from by omega]]
              exact lv_sub hl [4, 5, 3, 2, 1, 0] rfl
            exact ih24 (j + 1) (by omega) (by omega) _ _ _ hW hl_2
    have hl_3 : lv_has ls 6 [(0, .ref (a 0)), (1, .int wh), (2, .int (whK (asI N C z1 z2 L V C1 C2) 0).1), (3, .int (whK (asI N C z1 z2 L V C1 C2) 0).2.1), (4, .int (whK (asI N C z1 z2 L V C1 C2) 0).2.2), (5, .int (nI (16 - 0) - 1))] := by
      rw [show (nI (16 - 0) - 1) = (15 : Int32) from by decide]
      exact lv_sub hl [4, 5, 3, 2, 1, 0] rfl
    exact lp_24 17 0 (by omega) (by omega) _ _ _ hW hl_3
  · refine lv_iconst (v := (-1 : Int32)) hx hb dX8_which_9 rfl ?_
    exact hret _ _ _ _ _ _ hW rfl rfl dX8_which_10 (⟨by rw [whR, if_pos c_6] <;> rfl, rfl⟩)

def stK (K : NV) (j : Nat) : NV := upA K 0 (upd (K 0) j 1)

set_option maxHeartbeats 4000000 in
set_option maxRecDepth 100000 in
theorem c_X8_keep_0 (l : Launch) (D : va_G) (cI cZ cN : ClassId) (a : Nat → Nat) (T Q Ld Vd L V S : NV) (R : Nat → NV) (C1 C2 Rn Wd : NV) (Im : Nat → NV) (K : NV) (tr : Int64) (z N C k y z1 z2 : Nat) (hz : T 1 0 = nI z) (hz2 : z ≤ 200) (hN : L 3 1 = nI N) (hN7 : N ≤ 7) (hC : L 3 0 = nI C) (hC4 : C ≤ 4) (hC1 : 1 ≤ C) (hk : S 0 0 = nI k) (hk10 : k < 10) (hy : S 0 1 = nI y) (hy10 : y ≤ 10) (hc1 : C1 2 0 = nI z1) (hz16 : z1 ≤ 6) (hc2 : C2 2 0 = nI z2) (hz26 : z2 ≤ 6) : CtI l yX8_keep cX8_keep 2 (some .int) 3 D (tyG cI cZ cN) [.ref (a 0), .int (nI 0)] (pOne cI cZ cN a T Q Ld Vd L V S R C1 C2 Rn Wd Im K tr) (fun r w => r = V 3 3 ∧ w = (pOne cI cZ cN a T Q Ld Vd L V S R C1 C2 Rn Wd (upR Im 0 (cpN V (Im 0))) (stK K 0) tr)) := by
  refine CtI.of rfl (Nat.le_of_ble_eq_true rfl) ?_
  intro pg ev sx mx ax bx mt cx ls Qx Ax Sx hret hW hl
  have hx := Sx.1
  have hb := Sx.2.1
  have hl : lv_has ls 2 [(0, .ref (a 0)), (1, .int (nI 0))] := hl
  refine lv_iload_n hx hb dX8_keep_0 rfl (lv_at hl 1 rfl) ?_
  refine lv_iconst (v := (0 : Int32)) hx hb dX8_keep_1 rfl ?_
  refine lv_iconst (v := (1 : Int32)) hx hb dX8_keep_2 rfl ?_
  refine callSI Sx hW (c_X8_within l D cI cZ cN (nI 0) (0 : Int32) (1 : Int32)) smX8_within mw137 (As := [.int (nI 0), .int (0 : Int32), .int (1 : Int32)]) (rest := []) rfl rfl hl.1 (Nat.le_of_ble_eq_true rfl) ⟨Nat.le_of_ble_eq_true rfl, Nat.le_of_ble_eq_true rfl⟩ ⟨Nat.le_refl _, Nat.le_refl _⟩ dX8_keep_3 (fun rx H locs hqx hW => ?_)
  obtain ⟨hrx, -⟩ := hqx
  refine r_eq (y := (inI (nI 0) (0 : Int32) (1 : Int32))) hrx ?_
  refine lv_if_ne (tgt := 11) hx hb dX8_keep_6 rfl (fun c_6 => ?_) (fun c_6 => ?_)
  · refine lv_aload_n hx hb dX8_keep_11 rfl (lv_at hl 0 rfl) ?_
    refine r_get Sx hW 0 rfl rfl bw_wsX80 8 (by decide) (v := .ref (a 74)) rfl mw42 dX8_keep_12 ?_
    refine lv_iload_n hx hb dX8_keep_15 rfl (lv_at hl 1 rfl) ?_
    refine r_aald Sx hW 74 2 rfl rfl (j := 0) rfl (by decide) (by decide) (v := (a 75)) rfl dX8_keep_16 ?_
    refine lv_aload_n hx hb dX8_keep_17 rfl (lv_at hl 0 rfl) ?_
    refine r_get Sx hW 0 rfl rfl bw_wsX80 2 (by decide) (v := .ref (a 12)) rfl mw23 dX8_keep_18 ?_
    refine r_get Sx hW 12 rfl rfl bw_wsX10 3 (by decide) (v := .ref (a 16)) rfl mw291 dX8_keep_21 ?_
    refine callVV Sx hW (c_X2_take l D cI cZ cN (fun i => a (i + 75)) (fun i => a (i + 16)) (Im 0) V) vmX2_take mw806 [75, 76, 77, 78, 16, 17, 18, 19] rfl (by decide) 0 rfl rfl (As := [.ref (a 16)]) (rest := []) rfl rfl hl.1 (Nat.le_of_ble_eq_true rfl) ⟨Nat.le_of_ble_eq_true rfl, Nat.le_of_ble_eq_true rfl⟩ ⟨Nat.le_refl _, Nat.le_refl _⟩ dX8_keep_24 (fun wx H locs hqx hW => ?_)
    obtain rfl := hqx
    have hW : AtC D (tyG cI cZ cN) Ax (pOne cI cZ cN a T Q Ld Vd L V S R C1 C2 Rn Wd (upR Im 0 (cpN V (Im 0))) K tr) sx H locs := hW.re [0, 1, 2, 3, 4, 5, 6, 7, 8, 9, 10, 11, 12, 13, 14, 15, 20, 21, 22, 23, 24, 25, 26, 27, 28, 29, 30, 31, 32, 33, 34, 35, 36, 37, 38, 39, 40, 41, 42, 43, 44, 45, 46, 47, 48, 49, 50, 51, 52, 53, 54, 55, 56, 57, 58, 59, 60, 61, 62, 63, 64, 65, 66, 67, 68, 69, 70, 71, 72, 73, 74, 79, 80, 81, 82, 83] 84 (by decide) rfl rfl ⟨rfl, rfl, rfl, rfl, rfl, rfl, rfl, rfl, rfl, rfl, rfl, rfl, rfl, rfl, rfl, rfl, rfl, rfl, rfl, rfl, rfl, rfl, rfl, rfl, rfl, rfl, rfl, rfl, rfl, rfl, rfl, rfl, rfl, rfl, rfl, rfl, rfl, rfl, rfl, rfl, rfl, rfl, rfl, rfl, rfl, rfl, rfl, rfl, rfl, rfl, rfl, rfl, rfl, rfl, rfl, rfl, rfl, rfl, rfl, rfl, rfl, rfl, rfl, rfl, rfl, rfl, rfl, rfl, rfl, rfl, rfl, rfl, rfl, rfl, rfl, rfl, trivial⟩ (by decide +kernel) rfl rfl
    refine lv_aload_n hx hb dX8_keep_27 rfl (lv_at hl 0 rfl) ?_
    refine r_get Sx hW 0 rfl rfl bw_wsX80 9 (by decide) (v := .ref (a 83)) rfl mw44 dX8_keep_28 ?_
    refine lv_iload_n hx hb dX8_keep_31 rfl (lv_at hl 1 rfl) ?_
    refine lv_iconst (v := (1 : Int32)) hx hb dX8_keep_32 rfl ?_
    refine r_zast Sx hW 83 1 rfl rfl (j := 0) rfl (by decide) (by decide) rfl dX8_keep_33 (ws' := (pOne cI cZ cN a T Q Ld Vd L V S R C1 C2 Rn Wd (upR Im 0 (cpN V (Im 0))) (upA K 0 (upd (K 0) 0 (1 : Int32))) tr)) rfl (fun H locs hW => ?_)
    refine lv_aload_n hx hb dX8_keep_34 rfl (lv_at hl 0 rfl) ?_
    refine r_get Sx hW 0 rfl rfl bw_wsX80 2 (by decide) (v := .ref (a 12)) rfl mw23 dX8_keep_35 ?_
    refine r_get Sx hW 12 rfl rfl bw_wsX10 3 (by decide) (v := .ref (a 16)) rfl mw291 dX8_keep_38 ?_
    refine r_get Sx hW 16 rfl rfl bw_wsX20 6 (by decide) (v := .int (V 3 3)) rfl mw478 dX8_keep_41 ?_
    exact hret _ _ _ _ _ _ hW rfl rfl dX8_keep_44 (⟨rfl, rfl⟩)
  · exact absurd c_6 (by decide)

set_option maxHeartbeats 4000000 in
set_option maxRecDepth 100000 in
theorem c_X8_keep_1 (l : Launch) (D : va_G) (cI cZ cN : ClassId) (a : Nat → Nat) (T Q Ld Vd L V S : NV) (R : Nat → NV) (C1 C2 Rn Wd : NV) (Im : Nat → NV) (K : NV) (tr : Int64) (z N C k y z1 z2 : Nat) (hz : T 1 0 = nI z) (hz2 : z ≤ 200) (hN : L 3 1 = nI N) (hN7 : N ≤ 7) (hC : L 3 0 = nI C) (hC4 : C ≤ 4) (hC1 : 1 ≤ C) (hk : S 0 0 = nI k) (hk10 : k < 10) (hy : S 0 1 = nI y) (hy10 : y ≤ 10) (hc1 : C1 2 0 = nI z1) (hz16 : z1 ≤ 6) (hc2 : C2 2 0 = nI z2) (hz26 : z2 ≤ 6) : CtI l yX8_keep cX8_keep 2 (some .int) 3 D (tyG cI cZ cN) [.ref (a 0), .int (nI 1)] (pOne cI cZ cN a T Q Ld Vd L V S R C1 C2 Rn Wd Im K tr) (fun r w => r = V 3 3 ∧ w = (pOne cI cZ cN a T Q Ld Vd L V S R C1 C2 Rn Wd (upR Im 1 (cpN V (Im 1))) (stK K 1) tr)) := by
  refine CtI.of rfl (Nat.le_of_ble_eq_true rfl) ?_
  intro pg ev sx mx ax bx mt cx ls Qx Ax Sx hret hW hl
  have hx := Sx.1
  have hb := Sx.2.1
  have hl : lv_has ls 2 [(0, .ref (a 0)), (1, .int (nI 1))] := hl
  refine lv_iload_n hx hb dX8_keep_0 rfl (lv_at hl 1 rfl) ?_
  refine lv_iconst (v := (0 : Int32)) hx hb dX8_keep_1 rfl ?_
  refine lv_iconst (v := (1 : Int32)) hx hb dX8_keep_2 rfl ?_
  refine callSI Sx hW (c_X8_within l D cI cZ cN (nI 1) (0 : Int32) (1 : Int32)) smX8_within mw137 (As := [.int (nI 1), .int (0 : Int32), .int (1 : Int32)]) (rest := []) rfl rfl hl.1 (Nat.le_of_ble_eq_true rfl) ⟨Nat.le_of_ble_eq_true rfl, Nat.le_of_ble_eq_true rfl⟩ ⟨Nat.le_refl _, Nat.le_refl _⟩ dX8_keep_3 (fun rx H locs hqx hW => ?_)
  obtain ⟨hrx, -⟩ := hqx
  refine r_eq (y := (inI (nI 1) (0 : Int32) (1 : Int32))) hrx ?_
  refine lv_if_ne (tgt := 11) hx hb dX8_keep_6 rfl (fun c_6 => ?_) (fun c_6 => ?_)
  · refine lv_aload_n hx hb dX8_keep_11 rfl (lv_at hl 0 rfl) ?_
    refine r_get Sx hW 0 rfl rfl bw_wsX80 8 (by decide) (v := .ref (a 74)) rfl mw42 dX8_keep_12 ?_
    refine lv_iload_n hx hb dX8_keep_15 rfl (lv_at hl 1 rfl) ?_
    refine r_aald Sx hW 74 2 rfl rfl (j := 1) rfl (by decide) (by decide) (v := (a 79)) rfl dX8_keep_16 ?_
    refine lv_aload_n hx hb dX8_keep_17 rfl (lv_at hl 0 rfl) ?_
    refine r_get Sx hW 0 rfl rfl bw_wsX80 2 (by decide) (v := .ref (a 12)) rfl mw23 dX8_keep_18 ?_
    refine r_get Sx hW 12 rfl rfl bw_wsX10 3 (by decide) (v := .ref (a 16)) rfl mw291 dX8_keep_21 ?_
    refine callVV Sx hW (c_X2_take l D cI cZ cN (fun i => a (i + 79)) (fun i => a (i + 16)) (Im 1) V) vmX2_take mw806 [79, 80, 81, 82, 16, 17, 18, 19] rfl (by decide) 0 rfl rfl (As := [.ref (a 16)]) (rest := []) rfl rfl hl.1 (Nat.le_of_ble_eq_true rfl) ⟨Nat.le_of_ble_eq_true rfl, Nat.le_of_ble_eq_true rfl⟩ ⟨Nat.le_refl _, Nat.le_refl _⟩ dX8_keep_24 (fun wx H locs hqx hW => ?_)
    obtain rfl := hqx
    have hW : AtC D (tyG cI cZ cN) Ax (pOne cI cZ cN a T Q Ld Vd L V S R C1 C2 Rn Wd (upR Im 1 (cpN V (Im 1))) K tr) sx H locs := hW.re [0, 1, 2, 3, 4, 5, 6, 7, 8, 9, 10, 11, 12, 13, 14, 15, 20, 21, 22, 23, 24, 25, 26, 27, 28, 29, 30, 31, 32, 33, 34, 35, 36, 37, 38, 39, 40, 41, 42, 43, 44, 45, 46, 47, 48, 49, 50, 51, 52, 53, 54, 55, 56, 57, 58, 59, 60, 61, 62, 63, 64, 65, 66, 67, 68, 69, 70, 71, 72, 73, 74, 75, 76, 77, 78, 83] 84 (by decide) rfl rfl ⟨rfl, rfl, rfl, rfl, rfl, rfl, rfl, rfl, rfl, rfl, rfl, rfl, rfl, rfl, rfl, rfl, rfl, rfl, rfl, rfl, rfl, rfl, rfl, rfl, rfl, rfl, rfl, rfl, rfl, rfl, rfl, rfl, rfl, rfl, rfl, rfl, rfl, rfl, rfl, rfl, rfl, rfl, rfl, rfl, rfl, rfl, rfl, rfl, rfl, rfl, rfl, rfl, rfl, rfl, rfl, rfl, rfl, rfl, rfl, rfl, rfl, rfl, rfl, rfl, rfl, rfl, rfl, rfl, rfl, rfl, rfl, rfl, rfl, rfl, rfl, rfl, trivial⟩ (by decide +kernel) rfl rfl
    refine lv_aload_n hx hb dX8_keep_27 rfl (lv_at hl 0 rfl) ?_
    refine r_get Sx hW 0 rfl rfl bw_wsX80 9 (by decide) (v := .ref (a 83)) rfl mw44 dX8_keep_28 ?_
    refine lv_iload_n hx hb dX8_keep_31 rfl (lv_at hl 1 rfl) ?_
    refine lv_iconst (v := (1 : Int32)) hx hb dX8_keep_32 rfl ?_
    refine r_zast Sx hW 83 1 rfl rfl (j := 1) rfl (by decide) (by decide) rfl dX8_keep_33 (ws' := (pOne cI cZ cN a T Q Ld Vd L V S R C1 C2 Rn Wd (upR Im 1 (cpN V (Im 1))) (upA K 0 (upd (K 0) 1 (1 : Int32))) tr)) rfl (fun H locs hW => ?_)
    refine lv_aload_n hx hb dX8_keep_34 rfl (lv_at hl 0 rfl) ?_
    refine r_get Sx hW 0 rfl rfl bw_wsX80 2 (by decide) (v := .ref (a 12)) rfl mw23 dX8_keep_35 ?_
    refine r_get Sx hW 12 rfl rfl bw_wsX10 3 (by decide) (v := .ref (a 16)) rfl mw291 dX8_keep_38 ?_
    refine r_get Sx hW 16 rfl rfl bw_wsX20 6 (by decide) (v := .int (V 3 3)) rfl mw478 dX8_keep_41 ?_
    exact hret _ _ _ _ _ _ hW rfl rfl dX8_keep_44 (⟨rfl, rfl⟩)
  · exact absurd c_6 (by decide)

set_option maxHeartbeats 4000000 in
set_option maxRecDepth 100000 in
theorem c_X8_keep_x (l : Launch) (D : va_G) (cI cZ cN : ClassId) (a : Nat → Nat) (T Q Ld Vd L V S : NV) (R : Nat → NV) (C1 C2 Rn Wd : NV) (Im : Nat → NV) (K : NV) (tr : Int64) (z N C k y z1 z2 : Nat) (hz : T 1 0 = nI z) (hz2 : z ≤ 200) (hN : L 3 1 = nI N) (hN7 : N ≤ 7) (hC : L 3 0 = nI C) (hC4 : C ≤ 4) (hC1 : 1 ≤ C) (hk : S 0 0 = nI k) (hk10 : k < 10) (hy : S 0 1 = nI y) (hy10 : y ≤ 10) (hc1 : C1 2 0 = nI z1) (hz16 : z1 ≤ 6) (hc2 : C2 2 0 = nI z2) (hz26 : z2 ≤ 6) (x : Int32) (hx0 : inI x 0 1 = 0) : CtI l yX8_keep cX8_keep 2 (some .int) 3 D (tyG cI cZ cN) [.ref (a 0), .int x] (pOne cI cZ cN a T Q Ld Vd L V S R C1 C2 Rn Wd Im K tr) (fun r w => r = -1 ∧ w = (pOne cI cZ cN a T Q Ld Vd L V S R C1 C2 Rn Wd Im K tr)) := by
  refine CtI.of rfl (Nat.le_of_ble_eq_true rfl) ?_
  intro pg ev sx mx ax bx mt cx ls Qx Ax Sx hret hW hl
  have hx := Sx.1
  have hb := Sx.2.1
  have hl : lv_has ls 2 [(0, .ref (a 0)), (1, .int x)] := hl
  refine lv_iload_n hx hb dX8_keep_0 rfl (lv_at hl 1 rfl) ?_
  refine lv_iconst (v := (0 : Int32)) hx hb dX8_keep_1 rfl ?_
  refine lv_iconst (v := (1 : Int32)) hx hb dX8_keep_2 rfl ?_
  refine callSI Sx hW (c_X8_within l D cI cZ cN x (0 : Int32) (1 : Int32)) smX8_within mw137 (As := [.int x, .int (0 : Int32), .int (1 : Int32)]) (rest := []) rfl rfl hl.1 (Nat.le_of_ble_eq_true rfl) ⟨Nat.le_of_ble_eq_true rfl, Nat.le_of_ble_eq_true rfl⟩ ⟨Nat.le_refl _, Nat.le_refl _⟩ dX8_keep_3 (fun rx H locs hqx hW => ?_)
  obtain ⟨hrx, -⟩ := hqx
  refine r_eq (y := (inI x (0 : Int32) (1 : Int32))) hrx ?_
  refine lv_if_ne (tgt := 11) hx hb dX8_keep_6 rfl (fun c_6 => ?_) (fun c_6 => ?_)
  · exact absurd hx0 c_6
  · refine lv_iconst (v := (-1 : Int32)) hx hb dX8_keep_9 rfl ?_
    exact hret _ _ _ _ _ _ hW rfl rfl dX8_keep_10 (⟨rfl, rfl⟩)

set_option maxHeartbeats 4000000 in
set_option maxRecDepth 100000 in
theorem c_X8_back_0 (l : Launch) (D : va_G) (cI cZ cN : ClassId) (a : Nat → Nat) (T Q Ld Vd L V S : NV) (R : Nat → NV) (C1 C2 Rn Wd : NV) (Im : Nat → NV) (K : NV) (tr : Int64) (z N C k y z1 z2 : Nat) (hz : T 1 0 = nI z) (hz2 : z ≤ 200) (hN : L 3 1 = nI N) (hN7 : N ≤ 7) (hC : L 3 0 = nI C) (hC4 : C ≤ 4) (hC1 : 1 ≤ C) (hk : S 0 0 = nI k) (hk10 : k < 10) (hy : S 0 1 = nI y) (hy10 : y ≤ 10) (hc1 : C1 2 0 = nI z1) (hz16 : z1 ≤ 6) (hc2 : C2 2 0 = nI z2) (hz26 : z2 ≤ 6) : CtI l yX8_back cX8_back 2 (some .int) 3 D (tyG cI cZ cN) [.ref (a 0), .int (nI 0)] (pOne cI cZ cN a T Q Ld Vd L V S R C1 C2 Rn Wd Im K tr) (fun r w => r = (if K 0 0 = 0 then -2 else Im 0 3 3) ∧ w = (if K 0 0 = 0 then (pOne cI cZ cN a T Q Ld Vd L V S R C1 C2 Rn Wd Im K tr) else (pOne cI cZ cN a T Q Ld Vd L (cpN (Im 0) V) (zeS S) R C1 C2 Rn Wd Im K tr))) := by
  refine CtI.of rfl (Nat.le_of_ble_eq_true rfl) ?_
  intro pg ev sx mx ax bx mt cx ls Qx Ax Sx hret hW hl
  have hx := Sx.1
  have hb := Sx.2.1
  have hl : lv_has ls 2 [(0, .ref (a 0)), (1, .int (nI 0))] := hl
  refine lv_iload_n hx hb dX8_back_0 rfl (lv_at hl 1 rfl) ?_
  refine lv_iconst (v := (0 : Int32)) hx hb dX8_back_1 rfl ?_
  refine lv_iconst (v := (1 : Int32)) hx hb dX8_back_2 rfl ?_
  refine callSI Sx hW (c_X8_within l D cI cZ cN (nI 0) (0 : Int32) (1 : Int32)) smX8_within mw137 (As := [.int (nI 0), .int (0 : Int32), .int (1 : Int32)]) (rest := []) rfl rfl hl.1 (Nat.le_of_ble_eq_true rfl) ⟨Nat.le_of_ble_eq_true rfl, Nat.le_of_ble_eq_true rfl⟩ ⟨Nat.le_refl _, Nat.le_refl _⟩ dX8_back_3 (fun rx H locs hqx hW => ?_)
  obtain ⟨hrx, -⟩ := hqx
  refine r_eq (y := (inI (nI 0) (0 : Int32) (1 : Int32))) hrx ?_
  refine lv_if_ne (tgt := 11) hx hb dX8_back_6 rfl (fun c_6 => ?_) (fun c_6 => ?_)
  · refine lv_aload_n hx hb dX8_back_11 rfl (lv_at hl 0 rfl) ?_
    refine r_get Sx hW 0 rfl rfl bw_wsX80 9 (by decide) (v := .ref (a 83)) rfl mw44 dX8_back_12 ?_
    refine lv_iload_n hx hb dX8_back_15 rfl (lv_at hl 1 rfl) ?_
    refine r_zald Sx hW 83 1 rfl rfl (j := 0) rfl (by decide) (by decide) dX8_back_16 ?_
    refine lv_if_ne (tgt := 23) hx hb dX8_back_17 rfl (fun c_17 => ?_) (fun c_17 => ?_)
    · refine lv_aload_n hx hb dX8_back_23 rfl (lv_at hl 0 rfl) ?_
      refine r_get Sx hW 0 rfl rfl bw_wsX80 2 (by decide) (v := .ref (a 12)) rfl mw23 dX8_back_24 ?_
      refine r_get Sx hW 12 rfl rfl bw_wsX10 3 (by decide) (v := .ref (a 16)) rfl mw291 dX8_back_27 ?_
      refine lv_aload_n hx hb dX8_back_30 rfl (lv_at hl 0 rfl) ?_
      refine r_get Sx hW 0 rfl rfl bw_wsX80 8 (by decide) (v := .ref (a 74)) rfl mw42 dX8_back_31 ?_
      refine lv_iload_n hx hb dX8_back_34 rfl (lv_at hl 1 rfl) ?_
      refine r_aald Sx hW 74 2 rfl rfl (j := 0) rfl (by decide) (by decide) (v := (a 75)) rfl dX8_back_35 ?_
      refine callVV Sx hW (c_X2_take l D cI cZ cN (fun i => a (i + 16)) (fun i => a (i + 75)) V (Im 0)) vmX2_take mw806 [16, 17, 18, 19, 75, 76, 77, 78] rfl (by decide) 0 rfl rfl (As := [.ref (a 75)]) (rest := []) rfl rfl hl.1 (Nat.le_of_ble_eq_true rfl) ⟨Nat.le_of_ble_eq_true rfl, Nat.le_of_ble_eq_true rfl⟩ ⟨Nat.le_refl _, Nat.le_refl _⟩ dX8_back_36 (fun wx H locs hqx hW => ?_)
      obtain rfl := hqx
      have hW : AtC D (tyG cI cZ cN) Ax (pOne cI cZ cN a T Q Ld Vd L (cpN (Im 0) V) S R C1 C2 Rn Wd Im K tr) sx H locs := hW.re [0, 1, 2, 3, 4, 5, 6, 7, 8, 9, 10, 11, 12, 13, 14, 15, 20, 21, 22, 23, 24, 25, 26, 27, 28, 29, 30, 31, 32, 33, 34, 35, 36, 37, 38, 39, 40, 41, 42, 43, 44, 45, 46, 47, 48, 49, 50, 51, 52, 53, 54, 55, 56, 57, 58, 59, 60, 61, 62, 63, 64, 65, 66, 67, 68, 69, 70, 71, 72, 73, 74, 79, 80, 81, 82, 83] 84 (by decide) rfl rfl ⟨rfl, rfl, rfl, rfl, rfl, rfl, rfl, rfl, rfl, rfl, rfl, rfl, rfl, rfl, rfl, rfl, rfl, rfl, rfl, rfl, rfl, rfl, rfl, rfl, rfl, rfl, rfl, rfl, rfl, rfl, rfl, rfl, rfl, rfl, rfl, rfl, rfl, rfl, rfl, rfl, rfl, rfl, rfl, rfl, rfl, rfl, rfl, rfl, rfl, rfl, rfl, rfl, rfl, rfl, rfl, rfl, rfl, rfl, rfl, rfl, rfl, rfl, rfl, rfl, rfl, rfl, rfl, rfl, rfl, rfl, rfl, rfl, rfl, rfl, rfl, rfl, trivial⟩ (by decide +kernel) rfl rfl
      refine lv_aload_n hx hb dX8_back_39 rfl (lv_at hl 0 rfl) ?_
      refine r_get Sx hW 0 rfl rfl bw_wsX80 3 (by decide) (v := .ref (a 20)) rfl mw27 dX8_back_40 ?_
      refine lv_iconst (v := (0 : Int32)) hx hb dX8_back_43 rfl ?_
      refine r_put Sx hW 20 rfl rfl bw_wsX30 tyX3_ok nmX3 2 (by decide) mw162 rfl rfl rfl (Nat.le_of_ble_eq_true rfl) dX8_back_44 (ws' := (pOne cI cZ cN a T Q Ld Vd L (cpN (Im 0) V) (upA S 0 (upd (S 0) 1 (0 : Int32))) R C1 C2 Rn Wd Im K tr)) rfl (fun H locs hW => ?_)
      refine lv_aload_n hx hb dX8_back_47 rfl (lv_at hl 0 rfl) ?_
      refine r_get Sx hW 0 rfl rfl bw_wsX80 2 (by decide) (v := .ref (a 12)) rfl mw23 dX8_back_48 ?_
      refine r_get Sx hW 12 rfl rfl bw_wsX10 3 (by decide) (v := .ref (a 16)) rfl mw291 dX8_back_51 ?_
      refine r_get Sx hW 16 rfl rfl bw_wsX20 6 (by decide) (v := .int ((cpN (Im 0) V) 3 3)) rfl mw478 dX8_back_54 ?_
      exact hret _ _ _ _ _ _ hW rfl rfl dX8_back_57 (⟨by rw [if_neg c_17] <;> rfl, by rw [if_neg c_17] <;> rfl⟩)
    · refine lv_bipush (v := (-2 : Int32)) hx hb dX8_back_20 rfl ?_
      exact hret _ _ _ _ _ _ hW rfl rfl dX8_back_22 (⟨by rw [if_pos c_17] <;> rfl, by rw [if_pos c_17] <;> rfl⟩)
  · exact absurd c_6 (by decide)

set_option maxHeartbeats 4000000 in
set_option maxRecDepth 100000 in
theorem c_X8_back_1 (l : Launch) (D : va_G) (cI cZ cN : ClassId) (a : Nat → Nat) (T Q Ld Vd L V S : NV) (R : Nat → NV) (C1 C2 Rn Wd : NV) (Im : Nat → NV) (K : NV) (tr : Int64) (z N C k y z1 z2 : Nat) (hz : T 1 0 = nI z) (hz2 : z ≤ 200) (hN : L 3 1 = nI N) (hN7 : N ≤ 7) (hC : L 3 0 = nI C) (hC4 : C ≤ 4) (hC1 : 1 ≤ C) (hk : S 0 0 = nI k) (hk10 : k < 10) (hy : S 0 1 = nI y) (hy10 : y ≤ 10) (hc1 : C1 2 0 = nI z1) (hz16 : z1 ≤ 6) (hc2 : C2 2 0 = nI z2) (hz26 : z2 ≤ 6) : CtI l yX8_back cX8_back 2 (some .int) 3 D (tyG cI cZ cN) [.ref (a 0), .int (nI 1)] (pOne cI cZ cN a T Q Ld Vd L V S R C1 C2 Rn Wd Im K tr) (fun r w => r = (if K 0 1 = 0 then -2 else Im 1 3 3) ∧ w = (if K 0 1 = 0 then (pOne cI cZ cN a T Q Ld Vd L V S R C1 C2 Rn Wd Im K tr) else (pOne cI cZ cN a T Q Ld Vd L (cpN (Im 1) V) (zeS S) R C1 C2 Rn Wd Im K tr))) := by
  refine CtI.of rfl (Nat.le_of_ble_eq_true rfl) ?_
  intro pg ev sx mx ax bx mt cx ls Qx Ax Sx hret hW hl
  have hx := Sx.1
  have hb := Sx.2.1
  have hl : lv_has ls 2 [(0, .ref (a 0)), (1, .int (nI 1))] := hl
  refine lv_iload_n hx hb dX8_back_0 rfl (lv_at hl 1 rfl) ?_
  refine lv_iconst (v := (0 : Int32)) hx hb dX8_back_1 rfl ?_
  refine lv_iconst (v := (1 : Int32)) hx hb dX8_back_2 rfl ?_
  refine callSI Sx hW (c_X8_within l D cI cZ cN (nI 1) (0 : Int32) (1 : Int32)) smX8_within mw137 (As := [.int (nI 1), .int (0 : Int32), .int (1 : Int32)]) (rest := []) rfl rfl hl.1 (Nat.le_of_ble_eq_true rfl) ⟨Nat.le_of_ble_eq_true rfl, Nat.le_of_ble_eq_true rfl⟩ ⟨Nat.le_refl _, Nat.le_refl _⟩ dX8_back_3 (fun rx H locs hqx hW => ?_)
  obtain ⟨hrx, -⟩ := hqx
  refine r_eq (y := (inI (nI 1) (0 : Int32) (1 : Int32))) hrx ?_
  refine lv_if_ne (tgt := 11) hx hb dX8_back_6 rfl (fun c_6 => ?_) (fun c_6 => ?_)
  · refine lv_aload_n hx hb dX8_back_11 rfl (lv_at hl 0 rfl) ?_
    refine r_get Sx hW 0 rfl rfl bw_wsX80 9 (by decide) (v := .ref (a 83)) rfl mw44 dX8_back_12 ?_
    refine lv_iload_n hx hb dX8_back_15 rfl (lv_at hl 1 rfl) ?_
    refine r_zald Sx hW 83 1 rfl rfl (j := 1) rfl (by decide) (by decide) dX8_back_16 ?_
    refine lv_if_ne (tgt := 23) hx hb dX8_back_17 rfl (fun c_17 => ?_) (fun c_17 => ?_)
    · refine lv_aload_n hx hb dX8_back_23 rfl (lv_at hl 0 rfl) ?_
      refine r_get Sx hW 0 rfl rfl bw_wsX80 2 (by decide) (v := .ref (a 12)) rfl mw23 dX8_back_24 ?_
      refine r_get Sx hW 12 rfl rfl bw_wsX10 3 (by decide) (v := .ref (a 16)) rfl mw291 dX8_back_27 ?_
      refine lv_aload_n hx hb dX8_back_30 rfl (lv_at hl 0 rfl) ?_
      refine r_get Sx hW 0 rfl rfl bw_wsX80 8 (by decide) (v := .ref (a 74)) rfl mw42 dX8_back_31 ?_
      refine lv_iload_n hx hb dX8_back_34 rfl (lv_at hl 1 rfl) ?_
      refine r_aald Sx hW 74 2 rfl rfl (j := 1) rfl (by decide) (by decide) (v := (a 79)) rfl dX8_back_35 ?_
      refine callVV Sx hW (c_X2_take l D cI cZ cN (fun i => a (i + 16)) (fun i => a (i + 79)) V (Im 1)) vmX2_take mw806 [16, 17, 18, 19, 79, 80, 81, 82] rfl (by decide) 0 rfl rfl (As := [.ref (a 79)]) (rest := []) rfl rfl hl.1 (Nat.le_of_ble_eq_true rfl) ⟨Nat.le_of_ble_eq_true rfl, Nat.le_of_ble_eq_true rfl⟩ ⟨Nat.le_refl _, Nat.le_refl _⟩ dX8_back_36 (fun wx H locs hqx hW => ?_)
      obtain rfl := hqx
      have hW : AtC D (tyG cI cZ cN) Ax (pOne cI cZ cN a T Q Ld Vd L (cpN (Im 1) V) S R C1 C2 Rn Wd Im K tr) sx H locs := hW.re [0, 1, 2, 3, 4, 5, 6, 7, 8, 9, 10, 11, 12, 13, 14, 15, 20, 21, 22, 23, 24, 25, 26, 27, 28, 29, 30, 31, 32, 33, 34, 35, 36, 37, 38, 39, 40, 41, 42, 43, 44, 45, 46, 47, 48, 49, 50, 51, 52, 53, 54, 55, 56, 57, 58, 59, 60, 61, 62, 63, 64, 65, 66, 67, 68, 69, 70, 71, 72, 73, 74, 75, 76, 77, 78, 83] 84 (by decide) rfl rfl ⟨rfl, rfl, rfl, rfl, rfl, rfl, rfl, rfl, rfl, rfl, rfl, rfl, rfl, rfl, rfl, rfl, rfl, rfl, rfl, rfl, rfl, rfl, rfl, rfl, rfl, rfl, rfl, rfl, rfl, rfl, rfl, rfl, rfl, rfl, rfl, rfl, rfl, rfl, rfl, rfl, rfl, rfl, rfl, rfl, rfl, rfl, rfl, rfl, rfl, rfl, rfl, rfl, rfl, rfl, rfl, rfl, rfl, rfl, rfl, rfl, rfl, rfl, rfl, rfl, rfl, rfl, rfl, rfl, rfl, rfl, rfl, rfl, rfl, rfl, rfl, rfl, trivial⟩ (by decide +kernel) rfl rfl
      refine lv_aload_n hx hb dX8_back_39 rfl (lv_at hl 0 rfl) ?_
      refine r_get Sx hW 0 rfl rfl bw_wsX80 3 (by decide) (v := .ref (a 20)) rfl mw27 dX8_back_40 ?_
      refine lv_iconst (v := (0 : Int32)) hx hb dX8_back_43 rfl ?_
      refine r_put Sx hW 20 rfl rfl bw_wsX30 tyX3_ok nmX3 2 (by decide) mw162 rfl rfl rfl (Nat.le_of_ble_eq_true rfl) dX8_back_44 (ws' := (pOne cI cZ cN a T Q Ld Vd L (cpN (Im 1) V) (upA S 0 (upd (S 0) 1 (0 : Int32))) R C1 C2 Rn Wd Im K tr)) rfl (fun H locs hW => ?_)
      refine lv_aload_n hx hb dX8_back_47 rfl (lv_at hl 0 rfl) ?_
      refine r_get Sx hW 0 rfl rfl bw_wsX80 2 (by decide) (v := .ref (a 12)) rfl mw23 dX8_back_48 ?_
      refine r_get Sx hW 12 rfl rfl bw_wsX10 3 (by decide) (v := .ref (a 16)) rfl mw291 dX8_back_51 ?_
      refine r_get Sx hW 16 rfl rfl bw_wsX20 6 (by decide) (v := .int ((cpN (Im 1) V) 3 3)) rfl mw478 dX8_back_54 ?_
      exact hret _ _ _ _ _ _ hW rfl rfl dX8_back_57 (⟨by rw [if_neg c_17] <;> rfl, by rw [if_neg c_17] <;> rfl⟩)
    · refine lv_bipush (v := (-2 : Int32)) hx hb dX8_back_20 rfl ?_
      exact hret _ _ _ _ _ _ hW rfl rfl dX8_back_22 (⟨by rw [if_pos c_17] <;> rfl, by rw [if_pos c_17] <;> rfl⟩)
  · exact absurd c_6 (by decide)

set_option maxHeartbeats 4000000 in
set_option maxRecDepth 100000 in
theorem c_X8_back_x (l : Launch) (D : va_G) (cI cZ cN : ClassId) (a : Nat → Nat) (T Q Ld Vd L V S : NV) (R : Nat → NV) (C1 C2 Rn Wd : NV) (Im : Nat → NV) (K : NV) (tr : Int64) (z N C k y z1 z2 : Nat) (hz : T 1 0 = nI z) (hz2 : z ≤ 200) (hN : L 3 1 = nI N) (hN7 : N ≤ 7) (hC : L 3 0 = nI C) (hC4 : C ≤ 4) (hC1 : 1 ≤ C) (hk : S 0 0 = nI k) (hk10 : k < 10) (hy : S 0 1 = nI y) (hy10 : y ≤ 10) (hc1 : C1 2 0 = nI z1) (hz16 : z1 ≤ 6) (hc2 : C2 2 0 = nI z2) (hz26 : z2 ≤ 6) (x : Int32) (hx0 : inI x 0 1 = 0) : CtI l yX8_back cX8_back 2 (some .int) 3 D (tyG cI cZ cN) [.ref (a 0), .int x] (pOne cI cZ cN a T Q Ld Vd L V S R C1 C2 Rn Wd Im K tr) (fun r w => r = -1 ∧ w = (pOne cI cZ cN a T Q Ld Vd L V S R C1 C2 Rn Wd Im K tr)) := by
  refine CtI.of rfl (Nat.le_of_ble_eq_true rfl) ?_
  intro pg ev sx mx ax bx mt cx ls Qx Ax Sx hret hW hl
  have hx := Sx.1
  have hb := Sx.2.1
  have hl : lv_has ls 2 [(0, .ref (a 0)), (1, .int x)] := hl
  refine lv_iload_n hx hb dX8_back_0 rfl (lv_at hl 1 rfl) ?_
  refine lv_iconst (v := (0 : Int32)) hx hb dX8_back_1 rfl ?_
  refine lv_iconst (v := (1 : Int32)) hx hb dX8_back_2 rfl ?_
  refine callSI Sx hW (c_X8_within l D cI cZ cN x (0 : Int32) (1 : Int32)) smX8_within mw137 (As := [.int x, .int (0 : Int32), .int (1 : Int32)]) (rest := []) rfl rfl hl.1 (Nat.le_of_ble_eq_true rfl) ⟨Nat.le_of_ble_eq_true rfl, Nat.le_of_ble_eq_true rfl⟩ ⟨Nat.le_refl _, Nat.le_refl _⟩ dX8_back_3 (fun rx H locs hqx hW => ?_)
  obtain ⟨hrx, -⟩ := hqx
  refine r_eq (y := (inI x (0 : Int32) (1 : Int32))) hrx ?_
  refine lv_if_ne (tgt := 11) hx hb dX8_back_6 rfl (fun c_6 => ?_) (fun c_6 => ?_)
  · exact absurd hx0 c_6
  · refine lv_iconst (v := (-1 : Int32)) hx hb dX8_back_9 rfl ?_
    exact hret _ _ _ _ _ _ hW rfl rfl dX8_back_10 (⟨rfl, rfl⟩)

set_option maxHeartbeats 4000000 in
set_option maxRecDepth 100000 in
theorem c_X8_trace (l : Launch) (D : va_G) (cI cZ cN : ClassId) (a : Nat → Nat) (T Q Ld Vd L V S : NV) (R : Nat → NV) (C1 C2 Rn Wd : NV) (Im : Nat → NV) (K : NV) (tr : Int64) (z N C k y z1 z2 : Nat) (hz : T 1 0 = nI z) (hz2 : z ≤ 200) (hN : L 3 1 = nI N) (hN7 : N ≤ 7) (hC : L 3 0 = nI C) (hC4 : C ≤ 4) (hC1 : 1 ≤ C) (hk : S 0 0 = nI k) (hk10 : k < 10) (hy : S 0 1 = nI y) (hy10 : y ≤ 10) (hc1 : C1 2 0 = nI z1) (hz16 : z1 ≤ 6) (hc2 : C2 2 0 = nI z2) (hz26 : z2 ≤ 6) : CtL l yX8_trace cX8_trace 1 0 D (tyG cI cZ cN) [.ref (a 0)] (pOne cI cZ cN a T Q Ld Vd L V S R C1 C2 Rn Wd Im K tr) (fun r w => r = tr ∧ w = (pOne cI cZ cN a T Q Ld Vd L V S R C1 C2 Rn Wd Im K tr)) := by
  refine CtL.of rfl (Nat.le_of_ble_eq_true rfl) ?_
  intro pg ev sx mx ax bx mt cx ls Qx Ax Sx hret hW hl
  have hx := Sx.1
  have hb := Sx.2.1
  have hl : lv_has ls 1 [(0, .ref (a 0))] := hl
  refine lv_aload_n hx hb dX8_trace_0 rfl (lv_at hl 0 rfl) ?_
  refine r_get Sx hW 0 rfl rfl bw_wsX80 10 (by decide) (v := .long tr) rfl mw45 dX8_trace_1 ?_
  exact hret _ _ _ _ _ _ hW rfl dX8_trace_4 (⟨rfl, rfl⟩)

set_option maxHeartbeats 4000000 in
set_option maxRecDepth 100000 in
theorem c_X8_christenings (l : Launch) (D : va_G) (cI cZ cN : ClassId) (a : Nat → Nat) (T Q Ld Vd L V S : NV) (R : Nat → NV) (C1 C2 Rn Wd : NV) (Im : Nat → NV) (K : NV) (tr : Int64) (z N C k y z1 z2 : Nat) (hz : T 1 0 = nI z) (hz2 : z ≤ 200) (hN : L 3 1 = nI N) (hN7 : N ≤ 7) (hC : L 3 0 = nI C) (hC4 : C ≤ 4) (hC1 : 1 ≤ C) (hk : S 0 0 = nI k) (hk10 : k < 10) (hy : S 0 1 = nI y) (hy10 : y ≤ 10) (hc1 : C1 2 0 = nI z1) (hz16 : z1 ≤ 6) (hc2 : C2 2 0 = nI z2) (hz26 : z2 ≤ 6) (E B : Nat) (hE : E ≤ 6) (hB : B ≤ 20) : CtI l yX8_christenings cX8_christenings 5 (some .int) 1 D (tyG cI cZ cN) [.ref (a 0), .int (nI E), .int (nI B)] (pOne cI cZ cN a T Q Ld Vd L V S R C1 C2 Rn Wd Im K tr) (fun r w => r = crI C E B (E + 1 - B) ∧ w = (pOne cI cZ cN a T Q Ld Vd L V S R C1 C2 Rn Wd Im K tr)) := by
  refine CtI.of rfl (Nat.le_of_ble_eq_true rfl) ?_
  intro pg ev sx mx ax bx mt cx ls Qx Ax Sx hret hW hl
  have hx := Sx.1
  have hb := Sx.2.1
  have hl : lv_has ls 5 [(0, .ref (a 0)), (1, .int (nI E)), (2, .int (nI B))] := hl
  refine lv_iconst (v := (0 : Int32)) hx hb dX8_christenings_0 rfl ?_
  refine lv_istore_n (lv' := [(3, .int (0 : Int32)), (0, .ref (a 0)), (1, .int (nI E)), (2, .int (nI B))]) hx hb dX8_christenings_1 rfl hl (by decide) rfl (fun ls hl => ?_)
  refine lv_iload_n hx hb dX8_christenings_2 rfl (lv_at hl 3 rfl) ?_
  refine lv_istore (lv' := [(4, .int (nI B)), (3, .int (0 : Int32)), (0, .ref (a 0)), (1, .int (nI E)), (2, .int (nI B))]) hx hb dX8_christenings_3 hl (by decide) rfl (fun ls hl => ?_)
  have lp_5 : ∀ (n : Nat) (j : Nat), ((j ≤ E + 1 - B)) → (((E + 1 - B) + 1 ≤ j + n)) → ∀ (H : Heap) (locs : List Loc) (ls : Array Slot), AtC D (tyG cI cZ cN) Ax (pOne cI cZ cN a T Q Ld Vd L V S R C1 C2 Rn Wd Im K tr) sx H locs → lv_has ls 5 [(0, .ref (a 0)), (1, .int (nI E)), (2, .int (nI B)), (3, .int (crI C E B j)), (4, .int (nI (B + j)))] → W pg l ev (rmN 1) sx mx ax bx mt cx H locs 0 0 Qx (F0 mx 5 ls []) := by
    intro n
    induction n with
    | zero =>
      intro j hj hn H locs ls hW hl
      exact absurd hn (by omega)
    | succ n ih5 =>
      intro j hj hn H locs ls hW hl
      refine lv_iload hx hb dX8_christenings_5 (lv_at hl 4 rfl) ?_
      refine lv_iload_n hx hb dX8_christenings_7 rfl (lv_at hl 1 rfl) ?_
      refine lv_icmp_gt (tgt := 43) hx hb dX8_christenings_8 rfl (fun c_8 => ?_) (fun c_8 => ?_)
      · have ge_8 : E < B + j := (nI_ltI (a := E) (b := B + j) (by omega) (by omega)).mp c_8
        have ee_8 : E + 1 - B = j := by omega
        subst ee_8
        refine lv_iload_n hx hb dX8_christenings_43 rfl (lv_at hl 3 rfl) ?_
        exact hret _ _ _ _ _ _ hW rfl rfl dX8_christenings_44 (⟨rfl, rfl⟩)
      · have le_8 : B + j ≤ E := Nat.not_lt.mp (fun h => c_8 ((nI_ltI (a := E) (b := B + j) (by omega) (by omega)).mpr h))
        refine lv_iload_n hx hb dX8_christenings_11 rfl (lv_at hl 3 rfl) ?_
        refine lv_iload_n hx hb dX8_christenings_12 rfl (lv_at hl 1 rfl) ?_
        refine lv_iload hx hb dX8_christenings_13 (lv_at hl 4 rfl) ?_
        refine callSI Sx hW (c_X8_choices l D cI cZ cN (nI E) (B + j) (by omega)) smX8_choices mw768 (As := [.int (nI E), .int (nI (B + j))]) (rest := [.int (crI C E B j)]) rfl rfl hl.1 (Nat.le_of_ble_eq_true rfl) ⟨Nat.le_of_ble_eq_true rfl, Nat.le_of_ble_eq_true rfl⟩ ⟨Nat.le_refl _, Nat.le_refl _⟩ dX8_christenings_15 (fun rx H locs hqx hW => ?_)
        obtain ⟨hrx, -⟩ := hqx
        refine r_eq (y := (chI (nI E) (nI (B + j)) (B + j))) hrx ?_
        refine lv_aload_n hx hb dX8_christenings_18 rfl (lv_at hl 0 rfl) ?_
        refine r_get Sx hW 0 rfl rfl bw_wsX80 2 (by decide) (v := .ref (a 12)) rfl mw23 dX8_christenings_19 ?_
        refine r_get Sx hW 12 rfl rfl bw_wsX10 4 (by decide) (v := .int (L 3 0)) rfl mw763 dX8_christenings_22 ?_
        refine r_eq (y := (nI C)) hC ?_
        refine lv_iconst (v := (1 : Int32)) hx hb dX8_christenings_25 rfl ?_
        refine lv_isub hx hb dX8_christenings_26 ?_
        refine lv_iload_n hx hb dX8_christenings_27 rfl (lv_at hl 1 rfl) ?_
        refine lv_iload hx hb dX8_christenings_28 (lv_at hl 4 rfl) ?_
        refine lv_isub hx hb dX8_christenings_30 ?_
        refine r_eq (y := (nI (E - (B + j)))) (pk_sub (a := E) (b := B + j) (by omega)) ?_
        refine callSI Sx hW (c_X8_power l D cI cZ cN ((nI C) - (1 : Int32)) (E - (B + j)) (by omega)) smX8_power mw771 (As := [.int ((nI C) - (1 : Int32)), .int (nI (E - (B + j)))]) (rest := [.int (chI (nI E) (nI (B + j)) (B + j)), .int (crI C E B j)]) rfl rfl hl.1 (Nat.le_of_ble_eq_true rfl) ⟨Nat.le_of_ble_eq_true rfl, Nat.le_of_ble_eq_true rfl⟩ ⟨Nat.le_refl _, Nat.le_refl _⟩ dX8_christenings_31 (fun rx H locs hqx hW => ?_)
        obtain ⟨hrx, -⟩ := hqx
        refine r_eq (y := (pwI ((nI C) - (1 : Int32)) (E - (B + j)))) hrx ?_
        refine lv_imul hx hb dX8_christenings_34 ?_
        refine lv_iadd hx hb dX8_christenings_35 ?_
        refine lv_istore_n (lv' := [(3, .int ((crI C E B j) + ((chI (nI E) (nI (B + j)) (B + j)) * (pwI ((nI C) - (1 : Int32)) (E - (B + j)))))), (0, .ref (a 0)), (1, .int (nI E)), (2, .int (nI B)), (4, .int (nI (B + j)))]) hx hb dX8_christenings_36 rfl hl (by decide) rfl (fun ls hl => ?_)
        refine lv_iinc (v := (nI ((B + j) + 1))) (lv' := [(4, .int (nI ((B + j) + 1))), (3, .int ((crI C E B j) + ((chI (nI E) (nI (B + j)) (B + j)) * (pwI ((nI C) - (1 : Int32)) (E - (B + j)))))), (0, .ref (a 0)), (1, .int (nI E)), (2, .int (nI B))]) hx hb dX8_christenings_37 hl (k := 4) rfl (inc_n (B + j) 1) (by decide) rfl (fun ls hl => ?_)
        refine lv_goto (tgt := 5) hx hb dX8_christenings_40 rfl ?_
        exact ih5 (j + 1) (by omega) (by omega) _ _ _ hW (lv_sub hl [2, 3, 4, 1, 0] rfl)
  exact lp_5 (E + 1 - B + 1) 0 (by omega) (by omega) _ _ _ hW (lv_sub hl [2, 3, 4, 1, 0] rfl)

set_option maxHeartbeats 4000000 in
set_option maxRecDepth 100000 in
theorem c_X8_odds (l : Launch) (D : va_G) (cI cZ cN : ClassId) (a : Nat → Nat) (T Q Ld Vd L V S : NV) (R : Nat → NV) (C1 C2 Rn Wd : NV) (Im : Nat → NV) (K : NV) (tr : Int64) (z N C k y z1 z2 : Nat) (hz : T 1 0 = nI z) (hz2 : z ≤ 200) (hN : L 3 1 = nI N) (hN7 : N ≤ 7) (hC : L 3 0 = nI C) (hC4 : C ≤ 4) (hC1 : 1 ≤ C) (hk : S 0 0 = nI k) (hk10 : k < 10) (hy : S 0 1 = nI y) (hy10 : y ≤ 10) (hc1 : C1 2 0 = nI z1) (hz16 : z1 ≤ 6) (hc2 : C2 2 0 = nI z2) (hz26 : z2 ≤ 6) (p0 p1 p2 p3 : Int32) : CtI l yX8_odds cX8_odds 8 (some .int) 4 D (tyG cI cZ cN) [.ref (a 0), .int p0, .int p1, .int p2, .int p3] (pOne cI cZ cN a T Q Ld Vd L V S R C1 C2 Rn Wd Im K tr) (fun r w => r = odR N C V p0 p1 p2 p3 ∧ w = (pOne cI cZ cN a T Q Ld Vd L V S R C1 C2 Rn Wd Im K tr)) := by
  refine CtI.of rfl (Nat.le_of_ble_eq_true rfl) ?_
  intro pg ev sx mx ax bx mt cx ls Qx Ax Sx hret hW hl
  have hx := Sx.1
  have hb := Sx.2.1
  have hl : lv_has ls 8 [(0, .ref (a 0)), (1, .int p0), (2, .int p1), (3, .int p2), (4, .int p3)] := hl
  obtain ⟨bb, hbb, hbc⟩ := bc_br (f := V 0) (k := p0) hN7
  refine lv_aload_n hx hb dX8_odds_0 rfl (lv_at hl 0 rfl) ?_
  refine r_get Sx hW 0 rfl rfl bw_wsX80 2 (by decide) (v := .ref (a 12)) rfl mw23 dX8_odds_1 ?_
  refine lv_iload_n hx hb dX8_odds_4 rfl (lv_at hl 1 rfl) ?_
  refine callVI Sx hW (c_X1_hasName l D cI cZ cN (fun i => a (i + 12)) L V p0 N C hN hN7 hC hC4 hC1 ) vmX1_hasName mw391 [12, 13, 14, 15, 16, 17, 18, 19] rfl (by decide) 0 rfl rfl (As := [.int p0]) (rest := []) rfl rfl hl.1 (Nat.le_of_ble_eq_true rfl) ⟨Nat.le_of_ble_eq_true rfl, Nat.le_of_ble_eq_true rfl⟩ ⟨Nat.le_refl _, Nat.le_refl _⟩ dX8_odds_5 (fun rx wx H locs hqx hW => ?_)
  obtain ⟨hrx, rfl⟩ := hqx
  have hW : AtC D (tyG cI cZ cN) Ax (pOne cI cZ cN a T Q Ld Vd L V S R C1 C2 Rn Wd Im K tr) sx H locs := hW.re [0, 1, 2, 3, 4, 5, 6, 7, 8, 9, 10, 11, 20, 21, 22, 23, 24, 25, 26, 27, 28, 29, 30, 31, 32, 33, 34, 35, 36, 37, 38, 39, 40, 41, 42, 43, 44, 45, 46, 47, 48, 49, 50, 51, 52, 53, 54, 55, 56, 57, 58, 59, 60, 61, 62, 63, 64, 65, 66, 67, 68, 69, 70, 71, 72, 73, 74, 75, 76, 77, 78, 79, 80, 81, 82, 83] 84 (by decide) rfl rfl ⟨rfl, rfl, rfl, rfl, rfl, rfl, rfl, rfl, rfl, rfl, rfl, rfl, rfl, rfl, rfl, rfl, rfl, rfl, rfl, rfl, rfl, rfl, rfl, rfl, rfl, rfl, rfl, rfl, rfl, rfl, rfl, rfl, rfl, rfl, rfl, rfl, rfl, rfl, rfl, rfl, rfl, rfl, rfl, rfl, rfl, rfl, rfl, rfl, rfl, rfl, rfl, rfl, rfl, rfl, rfl, rfl, rfl, rfl, rfl, rfl, rfl, rfl, rfl, rfl, rfl, rfl, rfl, rfl, rfl, rfl, rfl, rfl, rfl, rfl, rfl, rfl, trivial⟩ (by decide +kernel) rfl rfl
  refine r_eq (y := (inI (p0) 0 (nI (C) - 1))) hrx ?_
  refine lv_if_eq (tgt := 21) hx hb dX8_odds_8 rfl (fun c_8 => ?_) (fun c_8 => ?_)
  · refine lv_iconst (v := (-1 : Int32)) hx hb dX8_odds_21 rfl ?_
    exact hret _ _ _ _ _ _ hW rfl rfl dX8_odds_22 (⟨by rw [odR, if_neg (fun h => h.1 c_8)], rfl⟩)
  · refine lv_iload_n hx hb dX8_odds_11 rfl (lv_at hl 2 rfl) ?_
    refine lv_iconst (v := (0 : Int32)) hx hb dX8_odds_12 rfl ?_
    refine lv_bipush (v := (6 : Int32)) hx hb dX8_odds_13 rfl ?_
    refine callSI Sx hW (c_X8_within l D cI cZ cN p1 (0 : Int32) (6 : Int32)) smX8_within mw137 (As := [.int p1, .int (0 : Int32), .int (6 : Int32)]) (rest := []) rfl rfl hl.1 (Nat.le_of_ble_eq_true rfl) ⟨Nat.le_of_ble_eq_true rfl, Nat.le_of_ble_eq_true rfl⟩ ⟨Nat.le_refl _, Nat.le_refl _⟩ dX8_odds_15 (fun rx H locs hqx hW => ?_)
    obtain ⟨hrx, -⟩ := hqx
    refine r_eq (y := (inI p1 (0 : Int32) (6 : Int32))) hrx ?_
    refine lv_if_ne (tgt := 23) hx hb dX8_odds_18 rfl (fun c_18 => ?_) (fun c_18 => ?_)
    · obtain ⟨E, hE, rfl⟩ := inI_nat (n := 7) (show ((6 : Int32)).toInt = ((7 : Nat) : Int) - 1 from by decide) c_18
      have clE : (nI E).toNatClampNeg = E := nI_clamp (by omega)
      refine lv_iload_n hx hb dX8_odds_23 rfl (lv_at hl 3 rfl) ?_
      refine lv_iconst (v := (0 : Int32)) hx hb dX8_odds_24 rfl ?_
      refine lv_bipush (v := (20 : Int32)) hx hb dX8_odds_25 rfl ?_
      refine callSI Sx hW (c_X8_within l D cI cZ cN p2 (0 : Int32) (20 : Int32)) smX8_within mw137 (As := [.int p2, .int (0 : Int32), .int (20 : Int32)]) (rest := []) rfl rfl hl.1 (Nat.le_of_ble_eq_true rfl) ⟨Nat.le_of_ble_eq_true rfl, Nat.le_of_ble_eq_true rfl⟩ ⟨Nat.le_refl _, Nat.le_refl _⟩ dX8_odds_27 (fun rx H locs hqx hW => ?_)
      obtain ⟨hrx, -⟩ := hqx
      refine r_eq (y := (inI p2 (0 : Int32) (20 : Int32))) hrx ?_
      refine lv_if_eq (tgt := 43) hx hb dX8_odds_30 rfl (fun c_30 => ?_) (fun c_30 => ?_)
      · refine lv_iconst (v := (-1 : Int32)) hx hb dX8_odds_43 rfl ?_
        exact hret _ _ _ _ _ _ hW rfl rfl dX8_odds_44 (⟨by rw [odR, if_neg (fun h => h.2.2.1 c_30)], rfl⟩)
      · obtain ⟨W, hWv, rfl⟩ := inI_nat (n := 21) (show ((20 : Int32)).toInt = ((21 : Nat) : Int) - 1 from by decide) c_30
        have clW : (nI W).toNatClampNeg = W := nI_clamp (by omega)
        refine lv_iload hx hb dX8_odds_33 (lv_at hl 4 rfl) ?_
        refine lv_iconst (v := (0 : Int32)) hx hb dX8_odds_35 rfl ?_
        refine lv_iconst (v := (1 : Int32)) hx hb dX8_odds_36 rfl ?_
        refine callSI Sx hW (c_X8_within l D cI cZ cN p3 (0 : Int32) (1 : Int32)) smX8_within mw137 (As := [.int p3, .int (0 : Int32), .int (1 : Int32)]) (rest := []) rfl rfl hl.1 (Nat.le_of_ble_eq_true rfl) ⟨Nat.le_of_ble_eq_true rfl, Nat.le_of_ble_eq_true rfl⟩ ⟨Nat.le_refl _, Nat.le_refl _⟩ dX8_odds_37 (fun rx H locs hqx hW => ?_)
        obtain ⟨hrx, -⟩ := hqx
        refine r_eq (y := (inI p3 (0 : Int32) (1 : Int32))) hrx ?_
        refine lv_if_ne (tgt := 45) hx hb dX8_odds_40 rfl (fun c_40 => ?_) (fun c_40 => ?_)
        · refine lv_iload_n hx hb dX8_odds_45 rfl (lv_at hl 3 rfl) ?_
          refine lv_aload_n hx hb dX8_odds_46 rfl (lv_at hl 0 rfl) ?_
          refine r_get Sx hW 0 rfl rfl bw_wsX80 2 (by decide) (v := .ref (a 12)) rfl mw23 dX8_odds_47 ?_
          refine lv_iload_n hx hb dX8_odds_50 rfl (lv_at hl 1 rfl) ?_
          refine callVI Sx hW (c_X1_bearers l D cI cZ cN (fun i => a (i + 12)) L V p0 N C hN hN7 hC hC4 hC1 ) vmX1_bearers mw395 [12, 13, 14, 15, 16, 17, 18, 19] rfl (by decide) 0 rfl rfl (As := [.int p0]) (rest := [.int (nI W)]) rfl rfl hl.1 (Nat.le_of_ble_eq_true rfl) ⟨Nat.le_of_ble_eq_true rfl, Nat.le_of_ble_eq_true rfl⟩ ⟨Nat.le_refl _, Nat.le_refl _⟩ dX8_odds_51 (fun rx wx H locs hqx hW => ?_)
          obtain ⟨hrx, rfl⟩ := hqx
          have hW : AtC D (tyG cI cZ cN) Ax (pOne cI cZ cN a T Q Ld Vd L V S R C1 C2 Rn Wd Im K tr) sx H locs := hW.re [0, 1, 2, 3, 4, 5, 6, 7, 8, 9, 10, 11, 20, 21, 22, 23, 24, 25, 26, 27, 28, 29, 30, 31, 32, 33, 34, 35, 36, 37, 38, 39, 40, 41, 42, 43, 44, 45, 46, 47, 48, 49, 50, 51, 52, 53, 54, 55, 56, 57, 58, 59, 60, 61, 62, 63, 64, 65, 66, 67, 68, 69, 70, 71, 72, 73, 74, 75, 76, 77, 78, 79, 80, 81, 82, 83] 84 (by decide) rfl rfl ⟨rfl, rfl, rfl, rfl, rfl, rfl, rfl, rfl, rfl, rfl, rfl, rfl, rfl, rfl, rfl, rfl, rfl, rfl, rfl, rfl, rfl, rfl, rfl, rfl, rfl, rfl, rfl, rfl, rfl, rfl, rfl, rfl, rfl, rfl, rfl, rfl, rfl, rfl, rfl, rfl, rfl, rfl, rfl, rfl, rfl, rfl, rfl, rfl, rfl, rfl, rfl, rfl, rfl, rfl, rfl, rfl, rfl, rfl, rfl, rfl, rfl, rfl, rfl, rfl, rfl, rfl, rfl, rfl, rfl, rfl, rfl, rfl, rfl, rfl, rfl, rfl, trivial⟩ (by decide +kernel) rfl rfl
          refine r_eq (y := (br (V 0) (p0) (N))) hrx ?_
          refine callSI Sx hW (c_J6_bitCount l D cI cZ cN (br (V 0) (p0) (N))) smJ6_bitCount_0f7a4 mw396 (As := [.int (br (V 0) (p0) (N))]) (rest := [.int (nI W)]) rfl rfl hl.1 (Nat.le_of_ble_eq_true rfl) ⟨Nat.le_of_ble_eq_true rfl, Nat.le_of_ble_eq_true rfl⟩ ⟨Nat.le_refl _, Nat.le_refl _⟩ dX8_odds_54 (fun rx H locs hqx hW => ?_)
          obtain ⟨hrx, -⟩ := hqx
          refine r_eq (y := (bcI (br (V 0) (p0) (N)))) hrx ?_
          refine r_eq (y := (nI bb)) hbc ?_
          refine lv_isub hx hb dX8_odds_57 ?_
          refine lv_istore (lv' := [(5, .int ((nI W) - (nI bb))), (0, .ref (a 0)), (1, .int p0), (2, .int (nI E)), (3, .int (nI W)), (4, .int p3)]) hx hb dX8_odds_58 hl (by decide) rfl (fun ls hl => ?_)
          refine lv_aload_n hx hb dX8_odds_60 rfl (lv_at hl 1 rfl) ?_
          refine lv_iload_n hx hb dX8_odds_61 rfl (lv_at hl 3 rfl) ?_
          refine lv_iconst (v := (0 : Int32)) hx hb dX8_odds_62 rfl ?_
          refine lv_iload hx hb dX8_odds_63 (lv_at hl 0 rfl) ?_
          refine r_max Sx mw390 mw329 mw330 mw331 hl.1 (by decide) (Nat.le_of_ble_eq_true rfl) ⟨by decide, by decide⟩ dX8_odds_65 ?_
          refine r_eq (y := (nI (W - bb))) (max0 (by omega) (by omega)) ?_
          refine callVI Sx hW (c_X8_christenings l D cI cZ cN a T Q Ld Vd L V S R C1 C2 Rn Wd Im K tr z N C k y z1 z2 hz hz2 hN hN7 hC hC4 hC1 hk hk10 hy hy10 hc1 hz16 hc2 hz26 E (W - bb) (by omega) (by omega)) vmX8_christenings mw764 [0, 1, 2, 3, 4, 5, 6, 7, 8, 9, 10, 11, 12, 13, 14, 15, 16, 17, 18, 19, 20, 21, 22, 23, 24, 25, 26, 27, 28, 29, 30, 31, 32, 33, 34, 35, 36, 37, 38, 39, 40, 41, 42, 43, 44, 45, 46, 47, 48, 49, 50, 51, 52, 53, 54, 55, 56, 57, 58, 59, 60, 61, 62, 63, 64, 65, 66, 67, 68, 69, 70, 71, 72, 73, 74, 75, 76, 77, 78, 79, 80, 81, 82, 83] rfl (by decide) 0 rfl rfl (As := [.int (nI E), .int (nI (W - bb))]) (rest := []) rfl rfl hl.1 (Nat.le_of_ble_eq_true rfl) ⟨Nat.le_of_ble_eq_true rfl, Nat.le_of_ble_eq_true rfl⟩ ⟨Nat.le_refl _, Nat.le_refl _⟩ dX8_odds_68 (fun rx wx H locs hqx hW => ?_)
          obtain ⟨hrx, rfl⟩ := hqx
          have hW : AtC D (tyG cI cZ cN) Ax (pOne cI cZ cN a T Q Ld Vd L V S R C1 C2 Rn Wd Im K tr) sx H locs := hW.re [] 84 (by decide) rfl rfl trivial (by decide +kernel) rfl rfl
          refine r_eq (y := (crI C E (W - bb) (E + 1 - (W - bb)))) hrx ?_
          refine lv_istore (lv' := [(6, .int (crI C E (W - bb) (E + 1 - (W - bb)))), (5, .int ((nI W) - (nI bb))), (0, .ref (a 0)), (1, .int p0), (2, .int (nI E)), (3, .int (nI W)), (4, .int p3)]) hx hb dX8_odds_71 hl (by decide) rfl (fun ls hl => ?_)
          refine lv_aload_n hx hb dX8_odds_73 rfl (lv_at hl 2 rfl) ?_
          refine r_get Sx hW 0 rfl rfl bw_wsX80 2 (by decide) (v := .ref (a 12)) rfl mw23 dX8_odds_74 ?_
          refine r_get Sx hW 12 rfl rfl bw_wsX10 4 (by decide) (v := .int (L 3 0)) rfl mw763 dX8_odds_77 ?_
          refine r_eq (y := (nI C)) hC ?_
          refine lv_iload_n hx hb dX8_odds_80 rfl (lv_at hl 4 rfl) ?_
          refine callSI Sx hW (c_X8_power l D cI cZ cN (nI C) E (by omega)) smX8_power mw771 (As := [.int (nI C), .int (nI E)]) (rest := []) rfl rfl hl.1 (Nat.le_of_ble_eq_true rfl) ⟨Nat.le_of_ble_eq_true rfl, Nat.le_of_ble_eq_true rfl⟩ ⟨Nat.le_refl _, Nat.le_refl _⟩ dX8_odds_81 (fun rx H locs hqx hW => ?_)
          obtain ⟨hrx, -⟩ := hqx
          refine r_eq (y := (pwI (nI C) E)) hrx ?_
          refine lv_istore (lv' := [(7, .int (pwI (nI C) E)), (6, .int (crI C E (W - bb) (E + 1 - (W - bb)))), (5, .int ((nI W) - (nI bb))), (0, .ref (a 0)), (1, .int p0), (2, .int (nI E)), (3, .int (nI W)), (4, .int p3)]) hx hb dX8_odds_84 hl (by decide) rfl (fun ls hl => ?_)
          refine lv_iload hx hb dX8_odds_86 (lv_at hl 7 rfl) ?_
          refine lv_if_ne (tgt := 101) hx hb dX8_odds_88 rfl (fun c_88 => ?_) (fun c_88 => ?_)
          · refine lv_iload hx hb dX8_odds_101 (lv_at hl 0 rfl) ?_
            refine lv_iload hx hb dX8_odds_103 (lv_at hl 1 rfl) ?_
            refine callSI Sx hW (c_X8_inLeastTerms l D cI cZ cN (pwI (nI C) E) (crI C E (W - bb) (E + 1 - (W - bb)))) smX8_inLeastTerms mw398 (As := [.int (pwI (nI C) E), .int (crI C E (W - bb) (E + 1 - (W - bb)))]) (rest := []) rfl rfl hl.1 (Nat.le_of_ble_eq_true rfl) ⟨Nat.le_of_ble_eq_true rfl, Nat.le_of_ble_eq_true rfl⟩ ⟨Nat.le_refl _, Nat.le_refl _⟩ dX8_odds_105 (fun rx H locs hqx hW => ?_)
            obtain ⟨hrx, -⟩ := hqx
            refine r_eq (y := (ilI (pwI (nI C) E) (crI C E (W - bb) (E + 1 - (W - bb))))) hrx ?_
            exact hret _ _ _ _ _ _ hW rfl rfl dX8_odds_108 (⟨by rw [odR, if_pos ⟨c_8, c_18, c_30, c_40⟩, if_neg c_88, hbc, nI_clamp (n := bb) (by omega), clE, clW], rfl⟩)
          · refine lv_iload hx hb dX8_odds_91 (lv_at hl 1 rfl) ?_
            refine lv_iload hx hb dX8_odds_93 (lv_at hl 0 rfl) ?_
            refine callSI Sx hW (c_X8_inLeastTerms l D cI cZ cN (crI C E (W - bb) (E + 1 - (W - bb))) (pwI (nI C) E)) smX8_inLeastTerms mw398 (As := [.int (crI C E (W - bb) (E + 1 - (W - bb))), .int (pwI (nI C) E)]) (rest := []) rfl rfl hl.1 (Nat.le_of_ble_eq_true rfl) ⟨Nat.le_of_ble_eq_true rfl, Nat.le_of_ble_eq_true rfl⟩ ⟨Nat.le_refl _, Nat.le_refl _⟩ dX8_odds_95 (fun rx H locs hqx hW => ?_)
            obtain ⟨hrx, -⟩ := hqx
            refine r_eq (y := (ilI (crI C E (W - bb) (E + 1 - (W - bb))) (pwI (nI C) E))) hrx ?_
            refine lv_goto (tgt := 108) hx hb dX8_odds_98 rfl ?_
            exact hret _ _ _ _ _ _ hW rfl rfl dX8_odds_108 (⟨by rw [odR, if_pos ⟨c_8, c_18, c_30, c_40⟩, if_pos c_88, hbc, nI_clamp (n := bb) (by omega), clE, clW], rfl⟩)
        · refine lv_iconst (v := (-1 : Int32)) hx hb dX8_odds_43 rfl ?_
          exact hret _ _ _ _ _ _ hW rfl rfl dX8_odds_44 (⟨by rw [odR, if_neg (fun h => h.2.2.2 c_40)], rfl⟩)
    · refine lv_iconst (v := (-1 : Int32)) hx hb dX8_odds_21 rfl ?_
      exact hret _ _ _ _ _ _ hW rfl rfl dX8_odds_22 (⟨by rw [odR, if_neg (fun h => h.2.1 c_18)], rfl⟩)
