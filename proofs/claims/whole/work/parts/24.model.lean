/-! OneJohnModel: the text -/
def flQ (f : Nat → Int32) : Nat → (Nat → Int32)
  | 0 => f
  | j + 1 => upd (flQ f j) (7 + j) 0
def rp0 (M : NV) : NV := (upA (upA (upA M 2 (upd (upd (upd (M 2) 3 (4 : Int32)) 4 (0 : Int32)) 5 (15 : Int32))) 6 (flQ (M 6) 7)) 0 (upd (upd (upd (upd (M 0) 0 (0 : Int32)) 2 (0 : Int32)) 6 (-1 : Int32)) 7 (0 : Int32)))
def rpA (q : NV × Nat) : Int32 := if q.1 0 6 < 0 then nI q.2 else -10 - q.1 0 6
def rpZ (q : NV × Nat) : NV := if q.1 0 6 < 0 then seM q.1 (tn (q.1 2 4)) else q.1
def rpR (z : Nat) (M : NV) : NV × Nat := rpL z (z + 2) (adM z (rp0 M)) 0
theorem rpL_on {z f : Nat} {X : NV} {t : Nat} (h : X 0 6 < 0) (h3 : ¬ X 0 3 = 0) : rpL z (f + 1) X t = rpL z f (rpB z X t) (t + 1) := by rw [rpL, if_pos h, if_neg h3]
theorem rpL_of1 {z f : Nat} {X : NV} {t : Nat} (h : ¬ X 0 6 < 0) : rpL z (f + 1) X t = (X, t) := by rw [rpL, if_neg h]
theorem rpL_of2 {z f : Nat} {X : NV} {t : Nat} (h3 : X 0 3 = 0) : rpL z (f + 1) X t = (X, t) := by
  rw [rpL, if_pos h3]
  split <;> rfl
theorem rpA_1 {X : NV} {t : Nat} (h : X 0 6 < 0) : rpA (X, t) = nI t := if_pos h
theorem rpA_0 {X : NV} {t : Nat} (h : ¬ X 0 6 < 0) : rpA (X, t) = -10 - X 0 6 := if_neg h
theorem rpZ_1 {X : NV} {t d : Nat} (h : X 0 6 < 0) (hd : d ≤ 7) (h4 : X 2 4 = nI d) : rpZ (X, t) = seM X d := by
  have e : tn (X 2 4) = d := by rw [h4]; exact nI_clamp (by omega)
  have e2 : rpZ (X, t) = seM X (tn (X 2 4)) := if_pos h
  rw [e2, e]
theorem rpZ_0 {X : NV} {t : Nat} (h : ¬ X 0 6 < 0) : rpZ (X, t) = X := if_neg h
theorem rp0_wf {z : Nat} {M : NV} (hz : M 0 1 = nI z) (hl : lOk (M 1) z) : wfm z (rp0 M) := by
  have e : pM (rp0 M) = 0 := show Int32.toNatClampNeg 0 = 0 by decide
  refine ⟨hz, hl, ?_, by rw [e]; exact Nat.zero_le z⟩
  rw [e]; rfl
theorem rp0_ok {z : Nat} {M : NV} (hz2 : z ≤ 200) (h : wfm z (rp0 M)) : rOk z (adM z (rp0 M)) := by
  have := (skB_le (rp0 M 1) z (z - pM (rp0 M)) (pM (rp0 M)) h.2.2.2).2
  exact ⟨wfm_ad hz2 h, nI_nn (s := skB (rp0 M 1) z (z - pM (rp0 M)) (pM (rp0 M))) (by omega), 0, by omega, rfl⟩

set_option maxHeartbeats 4000000 in
set_option maxRecDepth 100000 in
theorem c_X9_republic (l : Launch) (D : va_G) (cI cZ cN : ClassId) (b : Nat → Nat) (M : NV) (tr : Int64) (z : Nat) (hz : M 0 1 = nI z) (hz2 : z ≤ 200) (hl0 : lOk (M 1) z) : CtI l yX9_republic cX9_republic 3 (some .int) 5 D (tyG cI cZ cN) [.ref (b 0)] (pMod cI cZ b M tr) (fun r w => r = rpA (rpR z M) ∧ w = (pMod cI cZ b (rpZ (rpR z M)) tr)) := by
  refine CtI.of rfl (Nat.le_of_ble_eq_true rfl) ?_
  intro pg ev sx mx ax bx mt cx ls Qx Ax Sx hret hW hl
  have hx := Sx.1
  have hb := Sx.2.1
  have hl : lv_has ls 3 [(0, .ref (b 0))] := hl
  refine lv_aload_n hx hb dX9_republic_0 rfl (lv_at hl 0 rfl) ?_
  refine lv_iconst (v := (0 : Int32)) hx hb dX9_republic_1 rfl ?_
  refine r_put Sx hW 0 rfl rfl bw_wsX90 tyX9_ok nmX9 0 (by decide) mw144 rfl rfl rfl (Nat.le_of_ble_eq_true rfl) dX9_republic_2 (ws' := (pMod cI cZ b (upA M 0 (upd (M 0) 0 (0 : Int32))) tr)) rfl (fun H locs hW => ?_)
  refine lv_aload_n hx hb dX9_republic_5 rfl (lv_at hl 0 rfl) ?_
  refine lv_iconst (v := (-1 : Int32)) hx hb dX9_republic_6 rfl ?_
  refine r_put Sx hW 0 rfl rfl bw_wsX90 tyX9_ok nmX9 8 (by decide) mw246 rfl rfl rfl (Nat.le_of_ble_eq_true rfl) dX9_republic_7 (ws' := (pMod cI cZ b (upA M 0 (upd (upd (M 0) 0 (0 : Int32)) 6 (-1 : Int32))) tr)) rfl (fun H locs hW => ?_)
  refine lv_aload_n hx hb dX9_republic_10 rfl (lv_at hl 0 rfl) ?_
  refine lv_iconst (v := (0 : Int32)) hx hb dX9_republic_11 rfl ?_
  refine r_put Sx hW 0 rfl rfl bw_wsX90 tyX9_ok nmX9 4 (by decide) mw247 rfl rfl rfl (Nat.le_of_ble_eq_true rfl) dX9_republic_12 (ws' := (pMod cI cZ b (upA M 0 (upd (upd (upd (M 0) 0 (0 : Int32)) 2 (0 : Int32)) 6 (-1 : Int32))) tr)) rfl (fun H locs hW => ?_)
  refine lv_iconst (v := (0 : Int32)) hx hb dX9_republic_15 rfl ?_
  refine lv_istore_n (lv' := [(1, .int (0 : Int32)), (0, .ref (b 0))]) hx hb dX9_republic_16 rfl hl (by decide) rfl (fun ls hl => ?_)
  refine lv_aload_n hx hb dX9_republic_17 rfl (lv_at hl 1 rfl) ?_
  refine r_get Sx hW 0 rfl rfl bw_wsX90 9 (by decide) (v := .ref (b 2)) rfl mw115 dX9_republic_18 ?_
  refine lv_iconst (v := (3 : Int32)) hx hb dX9_republic_21 rfl ?_
  refine lv_iconst (v := (4 : Int32)) hx hb dX9_republic_22 rfl ?_
  refine r_iast Sx hW 2 0 rfl rfl (j := 3) rfl (by decide) (by decide) dX9_republic_23 (ws' := (pMod cI cZ b (upA (upA M 2 (upd (M 2) 3 (4 : Int32))) 0 (upd (upd (upd (M 0) 0 (0 : Int32)) 2 (0 : Int32)) 6 (-1 : Int32))) tr)) rfl (fun H locs hW => ?_)
  refine lv_aload_n hx hb dX9_republic_24 rfl (lv_at hl 1 rfl) ?_
  refine r_get Sx hW 0 rfl rfl bw_wsX90 9 (by decide) (v := .ref (b 2)) rfl mw115 dX9_republic_25 ?_
  refine lv_iconst (v := (4 : Int32)) hx hb dX9_republic_28 rfl ?_
  refine lv_iconst (v := (0 : Int32)) hx hb dX9_republic_29 rfl ?_
  refine r_iast Sx hW 2 0 rfl rfl (j := 4) rfl (by decide) (by decide) dX9_republic_30 (ws' := (pMod cI cZ b (upA (upA M 2 (upd (upd (M 2) 3 (4 : Int32)) 4 (0 : Int32))) 0 (upd (upd (upd (M 0) 0 (0 : Int32)) 2 (0 : Int32)) 6 (-1 : Int32))) tr)) rfl (fun H locs hW => ?_)
  refine lv_aload_n hx hb dX9_republic_31 rfl (lv_at hl 1 rfl) ?_
  refine r_get Sx hW 0 rfl rfl bw_wsX90 9 (by decide) (v := .ref (b 2)) rfl mw115 dX9_republic_32 ?_
  refine lv_iconst (v := (5 : Int32)) hx hb dX9_republic_35 rfl ?_
  refine lv_bipush (v := (15 : Int32)) hx hb dX9_republic_36 rfl ?_
  refine r_iast Sx hW 2 0 rfl rfl (j := 5) rfl (by decide) (by decide) dX9_republic_38 (ws' := (pMod cI cZ b (upA (upA M 2 (upd (upd (upd (M 2) 3 (4 : Int32)) 4 (0 : Int32)) 5 (15 : Int32))) 0 (upd (upd (upd (M 0) 0 (0 : Int32)) 2 (0 : Int32)) 6 (-1 : Int32))) tr)) rfl (fun H locs hW => ?_)
  refine lv_aload_n hx hb dX9_republic_39 rfl (lv_at hl 1 rfl) ?_
  refine lv_iconst (v := (0 : Int32)) hx hb dX9_republic_40 rfl ?_
  refine r_put Sx hW 0 rfl rfl bw_wsX90 tyX9_ok nmX9 14 (by decide) mw248 rfl rfl rfl (Nat.le_of_ble_eq_true rfl) dX9_republic_41 (ws' := (pMod cI cZ b (upA (upA M 2 (upd (upd (upd (M 2) 3 (4 : Int32)) 4 (0 : Int32)) 5 (15 : Int32))) 0 (upd (upd (upd (upd (M 0) 0 (0 : Int32)) 2 (0 : Int32)) 6 (-1 : Int32)) 7 (0 : Int32))) tr)) rfl (fun H locs hW => ?_)
  refine lv_bipush (v := (7 : Int32)) hx hb dX9_republic_44 rfl ?_
  refine lv_istore_n (lv' := [(2, .int (7 : Int32)), (1, .int (0 : Int32)), (0, .ref (b 0))]) hx hb dX9_republic_46 rfl hl (by decide) rfl (fun ls hl => ?_)
  have lp_47 : ∀ (n : Nat) (j : Nat), ((7 + j ≤ 14)) → ((14 + 1 ≤ 7 + j + n)) → ∀ (H : Heap) (locs : List Loc) (ls : Array Slot), AtC D (tyG cI cZ cN) Ax (pMod cI cZ b (upA (upA (upA M 2 (upd (upd (upd (M 2) 3 (4 : Int32)) 4 (0 : Int32)) 5 (15 : Int32))) 6 (flQ (M 6) j)) 0 (upd (upd (upd (upd (M 0) 0 (0 : Int32)) 2 (0 : Int32)) 6 (-1 : Int32)) 7 (0 : Int32))) tr) sx H locs → lv_has ls 3 [(0, .ref (b 0)), (1, .int (0 : Int32)), (2, .int (nI (7 + j)))] → W pg l ev (rmN 5) sx mx ax bx mt cx H locs 0 0 Qx (F0 mx 47 ls []) := by
    intro n
    induction n with
    | zero =>
      intro j hj_47 hn_47 H locs ls hW hl
      exact absurd hn_47 (by omega)
    | succ n ih47 =>
      intro j hj_47 hn_47 H locs ls hW hl
      refine lv_iload_n hx hb dX9_republic_47 rfl (lv_at hl 2 rfl) ?_
      refine lv_bipush (v := (14 : Int32)) hx hb dX9_republic_48 rfl ?_
      refine lv_icmp_ge (tgt := 66) hx hb dX9_republic_50 rfl (fun c_50 => ?_) (fun c_50 => ?_)
      · have ge_50 : 14 ≤ 7 + j := (nI_leI (a := 14) (b := 7 + j) (by omega) (by omega)).mp c_50
        have ee_50 : 7 = j := by omega
        subst ee_50
        obtain ⟨M0, hM0⟩ : ∃ X, X = rp0 M := ⟨_, rfl⟩
        have hW : AtC D (tyG cI cZ cN) Ax (pMod cI cZ b M0 tr) sx H locs := by rw [hM0]; exact hW
        have hw0 : wfm z M0 := by rw [hM0]; exact rp0_wf hz hl0
        have hr0 : rOk z (adM z M0) := by rw [hM0]; exact rp0_ok hz2 (rp0_wf hz hl0)
        refine lv_aload_n hx hb dX9_republic_66 rfl (lv_at hl 0 rfl) ?_
        refine callVV Sx hW (c_X9_advances l D cI cZ cN b M0 tr z hw0.1 hz2 hw0.2.1 (pM M0) hw0.2.2.1 hw0.2.2.2) vmX9_advances mw250 [0, 1, 2, 3, 4, 5, 6, 7, 8, 9, 10, 11, 12, 13, 14, 15, 16, 17] rfl (by decide) 0 rfl rfl (As := []) (rest := []) rfl rfl hl.1 (Nat.le_of_ble_eq_true rfl) ⟨Nat.le_of_ble_eq_true rfl, Nat.le_of_ble_eq_true rfl⟩ ⟨Nat.le_refl _, Nat.le_refl _⟩ dX9_republic_67 (fun wx H locs hqx hW => ?_)
        obtain rfl := hqx
        have hW : AtC D (tyG cI cZ cN) Ax (pMod cI cZ b (adM z M0) tr) sx H locs := hW.re [] 18 (by decide) rfl rfl trivial (by decide +kernel) rfl rfl
        have lp_70 : ∀ (n : Nat) (X : NV) (t : Nat), ((rOk z X)) → ((rpL z n X t = rpL z (z + 2) (adM z M0) 0)) → (((X 0 6 < 0 → z + 2 ≤ pM X + n) ∧ 1 ≤ n)) → ∀ (H : Heap) (locs : List Loc) (ls : Array Slot), AtC D (tyG cI cZ cN) Ax (pMod cI cZ b X tr) sx H locs → lv_has ls 3 [(0, .ref (b 0)), (1, .int (nI t))] → W pg l ev (rmN 5) sx mx ax bx mt cx H locs 0 0 Qx (F0 mx 70 ls []) := by
          intro n
          induction n with
          | zero =>
            intro X t hr he hn H locs ls hW hl
            exact absurd hn.2 (by omega)
          | succ n ih70 =>
            intro X t hr he hn H locs ls hW hl
            refine lv_aload_n hx hb dX9_republic_70 rfl (lv_at hl 0 rfl) ?_
            refine callVI Sx hW (c_X9_isWell l D cI cZ cN b X tr) vmX9_isWell mw260 [0, 1, 2, 3, 4, 5, 6, 7, 8, 9, 10, 11, 12, 13, 14, 15, 16, 17] rfl (by decide) 0 rfl rfl (As := []) (rest := []) rfl rfl hl.1 (Nat.le_of_ble_eq_true rfl) ⟨Nat.le_of_ble_eq_true rfl, Nat.le_of_ble_eq_true rfl⟩ ⟨Nat.le_refl _, Nat.le_refl _⟩ dX9_republic_71 (fun rx wx H locs hqx hW => ?_)
            obtain ⟨hrx, rfl⟩ := hqx
            have hW : AtC D (tyG cI cZ cN) Ax (pMod cI cZ b X tr) sx H locs := hW.re [] 18 (by decide) rfl rfl trivial (by decide +kernel) rfl rfl
            refine r_eq (y := (if (X 0 6) < 0 then (1 : Int32) else 0)) hrx ?_
            refine lv_if_eq (tgt := 146) hx hb dX9_republic_74 rfl (fun c_74 => ?_) (fun c_74 => ?_)
            · have hwl := wl_0 c_74
              have hR : rpR z M = (X, t) := by rw [rpR, ← hM0, ← he]; exact rpL_of1 hwl
              refine lv_aload_n hx hb dX9_republic_146 rfl (lv_at hl 0 rfl) ?_
              refine callVI Sx hW (c_X9_isWell l D cI cZ cN b X tr) vmX9_isWell mw260 [0, 1, 2, 3, 4, 5, 6, 7, 8, 9, 10, 11, 12, 13, 14, 15, 16, 17] rfl (by decide) 0 rfl rfl (As := []) (rest := []) rfl rfl hl.1 (Nat.le_of_ble_eq_true rfl) ⟨Nat.le_of_ble_eq_true rfl, Nat.le_of_ble_eq_true rfl⟩ ⟨Nat.le_refl _, Nat.le_refl _⟩ dX9_republic_147 (fun rx wx H locs hqx hW => ?_)
              obtain ⟨hrx, rfl⟩ := hqx
              have hW : AtC D (tyG cI cZ cN) Ax (pMod cI cZ b X tr) sx H locs := hW.re [] 18 (by decide) rfl rfl trivial (by decide +kernel) rfl rfl
              refine r_eq (y := (if (X 0 6) < 0 then (1 : Int32) else 0)) hrx ?_
              refine lv_if_ne (tgt := 161) hx hb dX9_republic_150 rfl (fun c_150 => ?_) (fun c_150 => ?_)
              · have hw5 := wl_1 c_150
                obtain ⟨d1, hd7, hd4⟩ := hr.2.2
                refine lv_aload_n hx hb dX9_republic_161 rfl (lv_at hl 0 rfl) ?_
                refine callVV Sx hW (c_X9_settles l D cI cZ cN b X tr d1 hd4 hd7) vmX9_settles mw280 [0, 1, 2, 3, 4, 5, 6, 7, 8, 9, 10, 11, 12, 13, 14, 15, 16, 17] rfl (by decide) 0 rfl rfl (As := []) (rest := []) rfl rfl hl.1 (Nat.le_of_ble_eq_true rfl) ⟨Nat.le_of_ble_eq_true rfl, Nat.le_of_ble_eq_true rfl⟩ ⟨Nat.le_refl _, Nat.le_refl _⟩ dX9_republic_162 (fun wx H locs hqx hW => ?_)
                obtain rfl := hqx
                have hW : AtC D (tyG cI cZ cN) Ax (pMod cI cZ b (seM X d1) tr) sx H locs := hW.re [] 18 (by decide) rfl rfl trivial (by decide +kernel) rfl rfl
                refine lv_iload_n hx hb dX9_republic_165 rfl (lv_at hl 1 rfl) ?_
                exact hret _ _ _ _ _ _ hW rfl rfl dX9_republic_166 (⟨by rw [hR, rpA_1 hw5], by rw [hR, rpZ_1 hw5 hd7 hd4]⟩)
              · have hw5 := wl_0 c_150
                refine lv_bipush (v := (-10 : Int32)) hx hb dX9_republic_153 rfl ?_
                refine lv_aload_n hx hb dX9_republic_155 rfl (lv_at hl 0 rfl) ?_
                refine r_get Sx hW 0 rfl rfl bw_wsX90 8 (by decide) (v := .int (X 0 6)) rfl mw246 dX9_republic_156 ?_
                refine lv_isub hx hb dX9_republic_159 ?_
                exact hret _ _ _ _ _ _ hW rfl rfl dX9_republic_160 (⟨by rw [hR, rpA_0 hw5], by rw [hR, rpZ_0 hw5]⟩)
            · have hwl := wl_1 c_74
              refine lv_aload_n hx hb dX9_republic_77 rfl (lv_at hl 0 rfl) ?_
              refine r_get Sx hW 0 rfl rfl bw_wsX90 5 (by decide) (v := .int (X 0 3)) rfl mw249 dX9_republic_78 ?_
              refine lv_if_eq (tgt := 146) hx hb dX9_republic_81 rfl (fun c_81 => ?_) (fun c_81 => ?_)
              · have hR : rpR z M = (X, t) := by rw [rpR, ← hM0, ← he]; exact rpL_of2 c_81
                refine lv_aload_n hx hb dX9_republic_146 rfl (lv_at hl 0 rfl) ?_
                refine callVI Sx hW (c_X9_isWell l D cI cZ cN b X tr) vmX9_isWell mw260 [0, 1, 2, 3, 4, 5, 6, 7, 8, 9, 10, 11, 12, 13, 14, 15, 16, 17] rfl (by decide) 0 rfl rfl (As := []) (rest := []) rfl rfl hl.1 (Nat.le_of_ble_eq_true rfl) ⟨Nat.le_of_ble_eq_true rfl, Nat.le_of_ble_eq_true rfl⟩ ⟨Nat.le_refl _, Nat.le_refl _⟩ dX9_republic_147 (fun rx wx H locs hqx hW => ?_)
                obtain ⟨hrx, rfl⟩ := hqx
                have hW : AtC D (tyG cI cZ cN) Ax (pMod cI cZ b X tr) sx H locs := hW.re [] 18 (by decide) rfl rfl trivial (by decide +kernel) rfl rfl
                refine r_eq (y := (if (X 0 6) < 0 then (1 : Int32) else 0)) hrx ?_
                refine lv_if_ne (tgt := 161) hx hb dX9_republic_150 rfl (fun c_150 => ?_) (fun c_150 => ?_)
                · have hw5 := wl_1 c_150
                  obtain ⟨d1, hd7, hd4⟩ := hr.2.2
                  refine lv_aload_n hx hb dX9_republic_161 rfl (lv_at hl 0 rfl) ?_
                  refine callVV Sx hW (c_X9_settles l D cI cZ cN b X tr d1 hd4 hd7) vmX9_settles mw280 [0, 1, 2, 3, 4, 5, 6, 7, 8, 9, 10, 11, 12, 13, 14, 15, 16, 17] rfl (by decide) 0 rfl rfl (As := []) (rest := []) rfl rfl hl.1 (Nat.le_of_ble_eq_true rfl) ⟨Nat.le_of_ble_eq_true rfl, Nat.le_of_ble_eq_true rfl⟩ ⟨Nat.le_refl _, Nat.le_refl _⟩ dX9_republic_162 (fun wx H locs hqx hW => ?_)
                  obtain rfl := hqx
                  have hW : AtC D (tyG cI cZ cN) Ax (pMod cI cZ b (seM X d1) tr) sx H locs := hW.re [] 18 (by decide) rfl rfl trivial (by decide +kernel) rfl rfl
                  refine lv_iload_n hx hb dX9_republic_165 rfl (lv_at hl 1 rfl) ?_
                  exact hret _ _ _ _ _ _ hW rfl rfl dX9_republic_166 (⟨by rw [hR, rpA_1 hw5], by rw [hR, rpZ_1 hw5 hd7 hd4]⟩)
                · have hw5 := wl_0 c_150
                  refine lv_bipush (v := (-10 : Int32)) hx hb dX9_republic_153 rfl ?_
                  refine lv_aload_n hx hb dX9_republic_155 rfl (lv_at hl 0 rfl) ?_
                  refine r_get Sx hW 0 rfl rfl bw_wsX90 8 (by decide) (v := .int (X 0 6)) rfl mw246 dX9_republic_156 ?_
                  refine lv_isub hx hb dX9_republic_159 ?_
                  exact hret _ _ _ _ _ _ hW rfl rfl dX9_republic_160 (⟨by rw [hR, rpA_0 hw5], by rw [hR, rpZ_0 hw5]⟩)
              · refine lv_aload_n hx hb dX9_republic_84 rfl (lv_at hl 0 rfl) ?_
                refine lv_aload_n hx hb dX9_republic_85 rfl (lv_at hl 0 rfl) ?_
                refine r_get Sx hW 0 rfl rfl bw_wsX90 5 (by decide) (v := .int (X 0 3)) rfl mw249 dX9_republic_86 ?_
                refine lv_iconst (v := (1 : Int32)) hx hb dX9_republic_89 rfl ?_
                refine lv_icmp_ne (tgt := 105) hx hb dX9_republic_90 rfl (fun c_90 => ?_) (fun c_90 => ?_)
                · refine lv_iconst (v := (0 : Int32)) hx hb dX9_republic_105 rfl ?_
                  refine r_eq (y := (rpC X t)) (by rw [rpC, if_neg c_90]) ?_
                  refine callVI Sx hW (c_X9_takes l D cI cZ cN b X tr z hz2 hr.1 (rpC X t)) vmX9_takes mw268 [0, 1, 2, 3, 4, 5, 6, 7, 8, 9, 10, 11, 12, 13, 14, 15, 16, 17] rfl (by decide) 0 rfl rfl (As := [.int (rpC X t)]) (rest := []) rfl rfl hl.1 (Nat.le_of_ble_eq_true rfl) ⟨Nat.le_of_ble_eq_true rfl, Nat.le_of_ble_eq_true rfl⟩ ⟨Nat.le_refl _, Nat.le_refl _⟩ dX9_republic_106 (fun rx wx H locs hqx hW => ?_)
                  obtain ⟨hrx, rfl⟩ := hqx
                  obtain ⟨M_106, hM_106⟩ : ∃ gX, gX = tkS z X (rpC X t) := ⟨_, rfl⟩
                  obtain ⟨v_106, hv_106⟩ : ∃ gX, gX = tkI X (rpC X t) := ⟨_, rfl⟩
                  rw [← hM_106] at hW
                  rw [← hv_106] at hrx
                  have hw_106 : wfm z M_106 := by rw [hM_106]; exact wfm_tk hz2 hr.1
                  have hW : AtC D (tyG cI cZ cN) Ax (pMod cI cZ b M_106 tr) sx H locs := hW.re [] 18 (by decide) rfl rfl trivial (by decide +kernel) rfl rfl
                  refine r_eq (y := v_106) hrx ?_
                  refine lv_istore_n (lv' := [(2, .int v_106), (0, .ref (b 0)), (1, .int (nI t))]) hx hb dX9_republic_109 rfl hl (by decide) rfl (fun ls hl => ?_)
                  refine lv_aload_n hx hb dX9_republic_110 rfl (lv_at hl 1 rfl) ?_
                  refine callVI Sx hW (c_X9_isWell l D cI cZ cN b M_106 tr) vmX9_isWell mw260 [0, 1, 2, 3, 4, 5, 6, 7, 8, 9, 10, 11, 12, 13, 14, 15, 16, 17] rfl (by decide) 0 rfl rfl (As := []) (rest := []) rfl rfl hl.1 (Nat.le_of_ble_eq_true rfl) ⟨Nat.le_of_ble_eq_true rfl, Nat.le_of_ble_eq_true rfl⟩ ⟨Nat.le_refl _, Nat.le_refl _⟩ dX9_republic_111 (fun rx wx H locs hqx hW => ?_)
                  obtain ⟨hrx, rfl⟩ := hqx
                  have hW : AtC D (tyG cI cZ cN) Ax (pMod cI cZ b M_106 tr) sx H locs := hW.re [] 18 (by decide) rfl rfl trivial (by decide +kernel) rfl rfl
                  refine r_eq (y := (if (M_106 0 6) < 0 then (1 : Int32) else 0)) hrx ?_
                  refine lv_if_eq (tgt := 122) hx hb dX9_republic_114 rfl (fun c_114 => ?_) (fun c_114 => ?_)
                  · have hw1 := wl_0 c_114
                    have hY : M_106 = rpI z M_106 v_106 := by rw [rpI, if_neg hw1]
                    refine lv_aload_n hx hb dX9_republic_122 rfl (lv_at hl 1 rfl) ?_
                    refine lv_aload_n hx hb dX9_republic_123 rfl (lv_at hl 1 rfl) ?_
                    refine r_get Sx hW 0 rfl rfl bw_wsX90 5 (by decide) (v := .int (M_106 0 3)) rfl mw249 dX9_republic_124 ?_
                    refine lv_iconst (v := (3 : Int32)) hx hb dX9_republic_127 rfl ?_
                    refine lv_icmp_ne (tgt := 135) hx hb dX9_republic_128 rfl (fun c_128 => ?_) (fun c_128 => ?_)
                    · refine lv_iconst (v := (0 : Int32)) hx hb dX9_republic_135 rfl ?_
                      refine r_eq (y := (if M_106 0 3 = 3 then (1 : Int32) else 0)) (by rw [if_neg c_128]) ?_
                      refine callVI Sx hW (c_X9_takes l D cI cZ cN b M_106 tr z hz2 hw_106 (if M_106 0 3 = 3 then (1 : Int32) else 0)) vmX9_takes mw268 [0, 1, 2, 3, 4, 5, 6, 7, 8, 9, 10, 11, 12, 13, 14, 15, 16, 17] rfl (by decide) 0 rfl rfl (As := [.int (if M_106 0 3 = 3 then (1 : Int32) else 0)]) (rest := []) rfl rfl hl.1 (Nat.le_of_ble_eq_true rfl) ⟨Nat.le_of_ble_eq_true rfl, Nat.le_of_ble_eq_true rfl⟩ ⟨Nat.le_refl _, Nat.le_refl _⟩ dX9_republic_136 (fun rx wx H locs hqx hW => ?_)
                      obtain ⟨hrx, rfl⟩ := hqx
                      obtain ⟨M_136, hM_136⟩ : ∃ gX, gX = tkS z M_106 (if M_106 0 3 = 3 then (1 : Int32) else 0) := ⟨_, rfl⟩
                      obtain ⟨v_136, hv_136⟩ : ∃ gX, gX = tkI M_106 (if M_106 0 3 = 3 then (1 : Int32) else 0) := ⟨_, rfl⟩
                      rw [← hM_136] at hW
                      rw [← hv_136] at hrx
                      have hw_136 : wfm z M_136 := by rw [hM_136]; exact wfm_tk hz2 hw_106
                      have hW : AtC D (tyG cI cZ cN) Ax (pMod cI cZ b M_136 tr) sx H locs := hW.re [] 18 (by decide) rfl rfl trivial (by decide +kernel) rfl rfl
                      refine r_eq (y := v_136) hrx ?_
                      have hB : M_136 = rpB z X t := by rw [hM_136, rpB, rpS, ← hM_106, ← hv_106, ← hY]
                      refine lv_pop hx hb dX9_republic_139 rfl ?_
                      refine lv_iinc (v := (nI (t + 1))) (lv' := [(1, .int (nI (t + 1))), (2, .int v_106), (0, .ref (b 0))]) hx hb dX9_republic_140 hl (k := 2) rfl (inc_n t 1) (by decide) rfl (fun ls hl => ?_)
                      refine lv_goto (tgt := 70) hx hb dX9_republic_143 rfl ?_
                      exact ih70 M_136 (t + 1) (by rw [hB]; exact (rpB_go hz2 hr).1) (by rw [hB, ← he]; exact (rpL_on hwl c_81).symm) (⟨fun w => by have u1 := hn.1 hwl; have u2 := (rpB_go (t := t) hz2 hr).2 (by rw [← hB]; exact w); rw [hB]; omega, by have u1 := hn.1 hwl; have u2 := hr.1.2.2.2; omega⟩) _ _ _ hW (lv_sub hl [2, 0] rfl)
                    · refine lv_iconst (v := (1 : Int32)) hx hb dX9_republic_131 rfl ?_
                      refine lv_goto (tgt := 136) hx hb dX9_republic_132 rfl ?_
                      refine r_eq (y := (if M_106 0 3 = 3 then (1 : Int32) else 0)) (by rw [if_pos c_128]) ?_
                      refine callVI Sx hW (c_X9_takes l D cI cZ cN b M_106 tr z hz2 hw_106 (if M_106 0 3 = 3 then (1 : Int32) else 0)) vmX9_takes mw268 [0, 1, 2, 3, 4, 5, 6, 7, 8, 9, 10, 11, 12, 13, 14, 15, 16, 17] rfl (by decide) 0 rfl rfl (As := [.int (if M_106 0 3 = 3 then (1 : Int32) else 0)]) (rest := []) rfl rfl hl.1 (Nat.le_of_ble_eq_true rfl) ⟨Nat.le_of_ble_eq_true rfl, Nat.le_of_ble_eq_true rfl⟩ ⟨Nat.le_refl _, Nat.le_refl _⟩ dX9_republic_136 (fun rx wx H locs hqx hW => ?_)
                      obtain ⟨hrx, rfl⟩ := hqx
                      obtain ⟨M_136, hM_136⟩ : ∃ gX, gX = tkS z M_106 (if M_106 0 3 = 3 then (1 : Int32) else 0) := ⟨_, rfl⟩
                      obtain ⟨v_136, hv_136⟩ : ∃ gX, gX = tkI M_106 (if M_106 0 3 = 3 then (1 : Int32) else 0) := ⟨_, rfl⟩
                      rw [← hM_136] at hW
                      rw [← hv_136] at hrx
                      have hw_136 : wfm z M_136 := by rw [hM_136]; exact wfm_tk hz2 hw_106
                      have hW : AtC D (tyG cI cZ cN) Ax (pMod cI cZ b M_136 tr) sx H locs := hW.re [] 18 (by decide) rfl rfl trivial (by decide +kernel) rfl rfl
                      refine r_eq (y := v_136) hrx ?_
                      have hB : M_136 = rpB z X t := by rw [hM_136, rpB, rpS, ← hM_106, ← hv_106, ← hY]
                      refine lv_pop hx hb dX9_republic_139 rfl ?_
                      refine lv_iinc (v := (nI (t + 1))) (lv' := [(1, .int (nI (t + 1))), (2, .int v_106), (0, .ref (b 0))]) hx hb dX9_republic_140 hl (k := 2) rfl (inc_n t 1) (by decide) rfl (fun ls hl => ?_)
                      refine lv_goto (tgt := 70) hx hb dX9_republic_143 rfl ?_
                      exact ih70 M_136 (t + 1) (by rw [hB]; exact (rpB_go hz2 hr).1) (by rw [hB, ← he]; exact (rpL_on hwl c_81).symm) (⟨fun w => by have u1 := hn.1 hwl; have u2 := (rpB_go (t := t) hz2 hr).2 (by rw [← hB]; exact w); rw [hB]; omega, by have u1 := hn.1 hwl; have u2 := hr.1.2.2.2; omega⟩) _ _ _ hW (lv_sub hl [2, 0] rfl)
                  · have hw1 := wl_1 c_114
                    obtain ⟨d1, hd7, hd4⟩ := hr.2.2
                    have hr1 : M_106 2 4 = nI d1 := by rw [hM_106, tkS_row _ _ _ (by decide)]; exact hd4
                    have hp1 : 0 ≤ M_106 0 4 := by rw [hM_106]; exact tk_pl hz2 hr.1 hr.2.1
                    have hk1 : v_106 = 112 → d1 < 7 := fun q => rp_p hd4 hd7 hr.2.1 (by rw [← hM_106]; exact hw1) (by rw [← hv_106]; exact q)
                    refine lv_aload_n hx hb dX9_republic_117 rfl (lv_at hl 1 rfl) ?_
                    refine lv_iload_n hx hb dX9_republic_118 rfl (lv_at hl 0 rfl) ?_
                    refine callVV Sx hW (c_X9_readsItem l D cI cZ cN b M_106 tr z hz2 hw_106 d1 hr1 hd7 hp1 v_106 hk1) vmX9_readsItem mw272 [0, 1, 2, 3, 4, 5, 6, 7, 8, 9, 10, 11, 12, 13, 14, 15, 16, 17] rfl (by decide) 0 rfl rfl (As := [.int v_106]) (rest := []) rfl rfl hl.1 (Nat.le_of_ble_eq_true rfl) ⟨Nat.le_of_ble_eq_true rfl, Nat.le_of_ble_eq_true rfl⟩ ⟨Nat.le_refl _, Nat.le_refl _⟩ dX9_republic_119 (fun wx H locs hqx hW => ?_)
                    obtain rfl := hqx
                    obtain ⟨M_119, hM_119⟩ : ∃ gX, gX = (riM z M_106 v_106 d1) := ⟨_, rfl⟩
                    rw [← hM_119] at hW
                    have hY : M_119 = rpI z M_106 v_106 := by rw [hM_119, rpI, if_pos hw1, hr1, show tn (nI d1) = d1 from nI_clamp (by omega)]
                    have hw_119 : wfm z M_119 := by rw [hY, hM_106, hv_106]; exact (rpI_go hz2 hr).1.1
                    have hW : AtC D (tyG cI cZ cN) Ax (pMod cI cZ b M_119 tr) sx H locs := hW.re [] 18 (by decide) rfl rfl trivial (by decide +kernel) rfl rfl
                    refine lv_aload_n hx hb dX9_republic_122 rfl (lv_at hl 1 rfl) ?_
                    refine lv_aload_n hx hb dX9_republic_123 rfl (lv_at hl 1 rfl) ?_
                    refine r_get Sx hW 0 rfl rfl bw_wsX90 5 (by decide) (v := .int (M_119 0 3)) rfl mw249 dX9_republic_124 ?_
                    refine lv_iconst (v := (3 : Int32)) hx hb dX9_republic_127 rfl ?_
                    refine lv_icmp_ne (tgt := 135) hx hb dX9_republic_128 rfl (fun c_128 => ?_) (fun c_128 => ?_)
                    · refine lv_iconst (v := (0 : Int32)) hx hb dX9_republic_135 rfl ?_
                      refine r_eq (y := (if M_119 0 3 = 3 then (1 : Int32) else 0)) (by rw [if_neg c_128]) ?_
                      refine callVI Sx hW (c_X9_takes l D cI cZ cN b M_119 tr z hz2 hw_119 (if M_119 0 3 = 3 then (1 : Int32) else 0)) vmX9_takes mw268 [0, 1, 2, 3, 4, 5, 6, 7, 8, 9, 10, 11, 12, 13, 14, 15, 16, 17] rfl (by decide) 0 rfl rfl (As := [.int (if M_119 0 3 = 3 then (1 : Int32) else 0)]) (rest := []) rfl rfl hl.1 (Nat.le_of_ble_eq_true rfl) ⟨Nat.le_of_ble_eq_true rfl, Nat.le_of_ble_eq_true rfl⟩ ⟨Nat.le_refl _, Nat.le_refl _⟩ dX9_republic_136 (fun rx wx H locs hqx hW => ?_)
                      obtain ⟨hrx, rfl⟩ := hqx
                      obtain ⟨M_136, hM_136⟩ : ∃ gX, gX = tkS z M_119 (if M_119 0 3 = 3 then (1 : Int32) else 0) := ⟨_, rfl⟩
                      obtain ⟨v_136, hv_136⟩ : ∃ gX, gX = tkI M_119 (if M_119 0 3 = 3 then (1 : Int32) else 0) := ⟨_, rfl⟩
                      rw [← hM_136] at hW
                      rw [← hv_136] at hrx
                      have hw_136 : wfm z M_136 := by rw [hM_136]; exact wfm_tk hz2 hw_119
                      have hW : AtC D (tyG cI cZ cN) Ax (pMod cI cZ b M_136 tr) sx H locs := hW.re [] 18 (by decide) rfl rfl trivial (by decide +kernel) rfl rfl
                      refine r_eq (y := v_136) hrx ?_
                      have hB : M_136 = rpB z X t := by rw [hM_136, rpB, rpS, ← hM_106, ← hv_106, ← hY]
                      refine lv_pop hx hb dX9_republic_139 rfl ?_
                      refine lv_iinc (v := (nI (t + 1))) (lv' := [(1, .int (nI (t + 1))), (2, .int v_106), (0, .ref (b 0))]) hx hb dX9_republic_140 hl (k := 2) rfl (inc_n t 1) (by decide) rfl (fun ls hl => ?_)
                      refine lv_goto (tgt := 70) hx hb dX9_republic_143 rfl ?_
                      exact ih70 M_136 (t + 1) (by rw [hB]; exact (rpB_go hz2 hr).1) (by rw [hB, ← he]; exact (rpL_on hwl c_81).symm) (⟨fun w => by have u1 := hn.1 hwl; have u2 := (rpB_go (t := t) hz2 hr).2 (by rw [← hB]; exact w); rw [hB]; omega, by have u1 := hn.1 hwl; have u2 := hr.1.2.2.2; omega⟩) _ _ _ hW (lv_sub hl [2, 0] rfl)
                    · refine lv_iconst (v := (1 : Int32)) hx hb dX9_republic_131 rfl ?_
                      refine lv_goto (tgt := 136) hx hb dX9_republic_132 rfl ?_
                      refine r_eq (y := (if M_119 0 3 = 3 then (1 : Int32) else 0)) (by rw [if_pos c_128]) ?_
                      refine callVI Sx hW (c_X9_takes l D cI cZ cN b M_119 tr z hz2 hw_119 (if M_119 0 3 = 3 then (1 : Int32) else 0)) vmX9_takes mw268 [0, 1, 2, 3, 4, 5, 6, 7, 8, 9, 10, 11, 12, 13, 14, 15, 16, 17] rfl (by decide) 0 rfl rfl (As := [.int (if M_119 0 3 = 3 then (1 : Int32) else 0)]) (rest := []) rfl rfl hl.1 (Nat.le_of_ble_eq_true rfl) ⟨Nat.le_of_ble_eq_true rfl, Nat.le_of_ble_eq_true rfl⟩ ⟨Nat.le_refl _, Nat.le_refl _⟩ dX9_republic_136 (fun rx wx H locs hqx hW => ?_)
                      obtain ⟨hrx, rfl⟩ := hqx
                      obtain ⟨M_136, hM_136⟩ : ∃ gX, gX = tkS z M_119 (if M_119 0 3 = 3 then (1 : Int32) else 0) := ⟨_, rfl⟩
                      obtain ⟨v_136, hv_136⟩ : ∃ gX, gX = tkI M_119 (if M_119 0 3 = 3 then (1 : Int32) else 0) := ⟨_, rfl⟩
                      rw [← hM_136] at hW
                      rw [← hv_136] at hrx
                      have hw_136 : wfm z M_136 := by rw [hM_136]; exact wfm_tk hz2 hw_119
                      have hW : AtC D (tyG cI cZ cN) Ax (pMod cI cZ b M_136 tr) sx H locs := hW.re [] 18 (by decide) rfl rfl trivial (by decide +kernel) rfl rfl
                      refine r_eq (y := v_136) hrx ?_
                      have hB : M_136 = rpB z X t := by rw [hM_136, rpB, rpS, ← hM_106, ← hv_106, ← hY]
                      refine lv_pop hx hb dX9_republic_139 rfl ?_
                      refine lv_iinc (v := (nI (t + 1))) (lv' := [(1, .int (nI (t + 1))), (2, .int v_106), (0, .ref (b 0))]) hx hb dX9_republic_140 hl (k := 2) rfl (inc_n t 1) (by decide) rfl (fun ls hl => ?_)
                      refine lv_goto (tgt := 70) hx hb dX9_republic_143 rfl ?_
                      exact ih70 M_136 (t + 1) (by rw [hB]; exact (rpB_go hz2 hr).1) (by rw [hB, ← he]; exact (rpL_on hwl c_81).symm) (⟨fun w => by have u1 := hn.1 hwl; have u2 := (rpB_go (t := t) hz2 hr).2 (by rw [← hB]; exact w); rw [hB]; omega, by have u1 := hn.1 hwl; have u2 := hr.1.2.2.2; omega⟩) _ _ _ hW (lv_sub hl [2, 0] rfl)
                · refine lv_aload_n hx hb dX9_republic_93 rfl (lv_at hl 0 rfl) ?_
                  refine lv_iload_n hx hb dX9_republic_94 rfl (lv_at hl 1 rfl) ?_
                  refine callVI Sx hW (c_X9_mayBegin l D cI cZ cN b X tr (nI t)) vmX9_mayBegin mw264 [0, 1, 2, 3, 4, 5, 6, 7, 8, 9, 10, 11, 12, 13, 14, 15, 16, 17] rfl (by decide) 0 rfl rfl (As := [.int (nI t)]) (rest := [.ref (b 0)]) rfl rfl hl.1 (Nat.le_of_ble_eq_true rfl) ⟨Nat.le_of_ble_eq_true rfl, Nat.le_of_ble_eq_true rfl⟩ ⟨Nat.le_refl _, Nat.le_refl _⟩ dX9_republic_95 (fun rx wx H locs hqx hW => ?_)
                  obtain ⟨hrx, rfl⟩ := hqx
                  have hW : AtC D (tyG cI cZ cN) Ax (pMod cI cZ b X tr) sx H locs := hW.re [] 18 (by decide) rfl rfl trivial (by decide +kernel) rfl rfl
                  refine r_eq (y := (mbM X (nI t))) hrx ?_
                  refine lv_if_eq (tgt := 105) hx hb dX9_republic_98 rfl (fun c_98 => ?_) (fun c_98 => ?_)
                  · refine lv_iconst (v := (0 : Int32)) hx hb dX9_republic_105 rfl ?_
                    refine r_eq (y := (rpC X t)) (by rw [rpC, if_pos c_90, if_pos c_98]) ?_
                    refine callVI Sx hW (c_X9_takes l D cI cZ cN b X tr z hz2 hr.1 (rpC X t)) vmX9_takes mw268 [0, 1, 2, 3, 4, 5, 6, 7, 8, 9, 10, 11, 12, 13, 14, 15, 16, 17] rfl (by decide) 0 rfl rfl (As := [.int (rpC X t)]) (rest := []) rfl rfl hl.1 (Nat.le_of_ble_eq_true rfl) ⟨Nat.le_of_ble_eq_true rfl, Nat.le_of_ble_eq_true rfl⟩ ⟨Nat.le_refl _, Nat.le_refl _⟩ dX9_republic_106 (fun rx wx H locs hqx hW => ?_)
                    obtain ⟨hrx, rfl⟩ := hqx
                    obtain ⟨M_106, hM_106⟩ : ∃ gX, gX = tkS z X (rpC X t) := ⟨_, rfl⟩
                    obtain ⟨v_106, hv_106⟩ : ∃ gX, gX = tkI X (rpC X t) := ⟨_, rfl⟩
                    rw [← hM_106] at hW
                    rw [← hv_106] at hrx
                    have hw_106 : wfm z M_106 := by rw [hM_106]; exact wfm_tk hz2 hr.1
                    have hW : AtC D (tyG cI cZ cN) Ax (pMod cI cZ b M_106 tr) sx H locs := hW.re [] 18 (by decide) rfl rfl trivial (by decide +kernel) rfl rfl
                    refine r_eq (y := v_106) hrx ?_
                    refine lv_istore_n (lv' := [(2, .int v_106), (0, .ref (b 0)), (1, .int (nI t))]) hx hb dX9_republic_109 rfl hl (by decide) rfl (fun ls hl => ?_)
                    refine lv_aload_n hx hb dX9_republic_110 rfl (lv_at hl 1 rfl) ?_
                    refine callVI Sx hW (c_X9_isWell l D cI cZ cN b M_106 tr) vmX9_isWell mw260 [0, 1, 2, 3, 4, 5, 6, 7, 8, 9, 10, 11, 12, 13, 14, 15, 16, 17] rfl (by decide) 0 rfl rfl (As := []) (rest := []) rfl rfl hl.1 (Nat.le_of_ble_eq_true rfl) ⟨Nat.le_of_ble_eq_true rfl, Nat.le_of_ble_eq_true rfl⟩ ⟨Nat.le_refl _, Nat.le_refl _⟩ dX9_republic_111 (fun rx wx H locs hqx hW => ?_)
                    obtain ⟨hrx, rfl⟩ := hqx
                    have hW : AtC D (tyG cI cZ cN) Ax (pMod cI cZ b M_106 tr) sx H locs := hW.re [] 18 (by decide) rfl rfl trivial (by decide +kernel) rfl rfl
                    refine r_eq (y := (if (M_106 0 6) < 0 then (1 : Int32) else 0)) hrx ?_
                    refine lv_if_eq (tgt := 122) hx hb dX9_republic_114 rfl (fun c_114 => ?_) (fun c_114 => ?_)
                    · have hw1 := wl_0 c_114
                      have hY : M_106 = rpI z M_106 v_106 := by rw [rpI, if_neg hw1]
                      refine lv_aload_n hx hb dX9_republic_122 rfl (lv_at hl 1 rfl) ?_
                      refine lv_aload_n hx hb dX9_republic_123 rfl (lv_at hl 1 rfl) ?_
                      refine r_get Sx hW 0 rfl rfl bw_wsX90 5 (by decide) (v := .int (M_106 0 3)) rfl mw249 dX9_republic_124 ?_
                      refine lv_iconst (v := (3 : Int32)) hx hb dX9_republic_127 rfl ?_
                      refine lv_icmp_ne (tgt := 135) hx hb dX9_republic_128 rfl (fun c_128 => ?_) (fun c_128 => ?_)
                      · refine lv_iconst (v := (0 : Int32)) hx hb dX9_republic_135 rfl ?_
                        refine r_eq (y := (if M_106 0 3 = 3 then (1 : Int32) else 0)) (by rw [if_neg c_128]) ?_
                        refine callVI Sx hW (c_X9_takes l D cI cZ cN b M_106 tr z hz2 hw_106 (if M_106 0 3 = 3 then (1 : Int32) else 0)) vmX9_takes mw268 [0, 1, 2, 3, 4, 5, 6, 7, 8, 9, 10, 11, 12, 13, 14, 15, 16, 17] rfl (by decide) 0 rfl rfl (As := [.int (if M_106 0 3 = 3 then (1 : Int32) else 0)]) (rest := []) rfl rfl hl.1 (Nat.le_of_ble_eq_true rfl) ⟨Nat.le_of_ble_eq_true rfl, Nat.le_of_ble_eq_true rfl⟩ ⟨Nat.le_refl _, Nat.le_refl _⟩ dX9_republic_136 (fun rx wx H locs hqx hW => ?_)
                        obtain ⟨hrx, rfl⟩ := hqx
                        obtain ⟨M_136, hM_136⟩ : ∃ gX, gX = tkS z M_106 (if M_106 0 3 = 3 then (1 : Int32) else 0) := ⟨_, rfl⟩
                        obtain ⟨v_136, hv_136⟩ : ∃ gX, gX = tkI M_106 (if M_106 0 3 = 3 then (1 : Int32) else 0) := ⟨_, rfl⟩
                        rw [← hM_136] at hW
                        rw [← hv_136] at hrx
                        have hw_136 : wfm z M_136 := by rw [hM_136]; exact wfm_tk hz2 hw_106
                        have hW : AtC D (tyG cI cZ cN) Ax (pMod cI cZ b M_136 tr) sx H locs := hW.re [] 18 (by decide) rfl rfl trivial (by decide +kernel) rfl rfl
                        refine r_eq (y := v_136) hrx ?_
                        have hB : M_136 = rpB z X t := by rw [hM_136, rpB, rpS, ← hM_106, ← hv_106, ← hY]
                        refine lv_pop hx hb dX9_republic_139 rfl ?_
                        refine lv_iinc (v := (nI (t + 1))) (lv' := [(1, .int (nI (t + 1))), (2, .int v_106), (0, .ref (b 0))]) hx hb dX9_republic_140 hl (k := 2) rfl (inc_n t 1) (by decide) rfl (fun ls hl => ?_)
                        refine lv_goto (tgt := 70) hx hb dX9_republic_143 rfl ?_
                        exact ih70 M_136 (t + 1) (by rw [hB]; exact (rpB_go hz2 hr).1) (by rw [hB, ← he]; exact (rpL_on hwl c_81).symm) (⟨fun w => by have u1 := hn.1 hwl; have u2 := (rpB_go (t := t) hz2 hr).2 (by rw [← hB]; exact w); rw [hB]; omega, by have u1 := hn.1 hwl; have u2 := hr.1.2.2.2; omega⟩) _ _ _ hW (lv_sub hl [2, 0] rfl)
                      · refine lv_iconst (v := (1 : Int32)) hx hb dX9_republic_131 rfl ?_
                        refine lv_goto (tgt := 136) hx hb dX9_republic_132 rfl ?_
                        refine r_eq (y := (if M_106 0 3 = 3 then (1 : Int32) else 0)) (by rw [if_pos c_128]) ?_
                        refine callVI Sx hW (c_X9_takes l D cI cZ cN b M_106 tr z hz2 hw_106 (if M_106 0 3 = 3 then (1 : Int32) else 0)) vmX9_takes mw268 [0, 1, 2, 3, 4, 5, 6, 7, 8, 9, 10, 11, 12, 13, 14, 15, 16, 17] rfl (by decide) 0 rfl rfl (As := [.int (if M_106 0 3 = 3 then (1 : Int32) else 0)]) (rest := []) rfl rfl hl.1 (Nat.le_of_ble_eq_true rfl) ⟨Nat.le_of_ble_eq_true rfl, Nat.le_of_ble_eq_true rfl⟩ ⟨Nat.le_refl _, Nat.le_refl _⟩ dX9_republic_136 (fun rx wx H locs hqx hW => ?_)
                        obtain ⟨hrx, rfl⟩ := hqx
                        obtain ⟨M_136, hM_136⟩ : ∃ gX, gX = tkS z M_106 (if M_106 0 3 = 3 then (1 : Int32) else 0) := ⟨_, rfl⟩
                        obtain ⟨v_136, hv_136⟩ : ∃ gX, gX = tkI M_106 (if M_106 0 3 = 3 then (1 : Int32) else 0) := ⟨_, rfl⟩
                        rw [← hM_136] at hW
                        rw [← hv_136] at hrx
                        have hw_136 : wfm z M_136 := by rw [hM_136]; exact wfm_tk hz2 hw_106
                        have hW : AtC D (tyG cI cZ cN) Ax (pMod cI cZ b M_136 tr) sx H locs := hW.re [] 18 (by decide) rfl rfl trivial (by decide +kernel) rfl rfl
                        refine r_eq (y := v_136) hrx ?_
                        have hB : M_136 = rpB z X t := by rw [hM_136, rpB, rpS, ← hM_106, ← hv_106, ← hY]
                        refine lv_pop hx hb dX9_republic_139 rfl ?_
                        refine lv_iinc (v := (nI (t + 1))) (lv' := [(1, .int (nI (t + 1))), (2, .int v_106), (0, .ref (b 0))]) hx hb dX9_republic_140 hl (k := 2) rfl (inc_n t 1) (by decide) rfl (fun ls hl => ?_)
                        refine lv_goto (tgt := 70) hx hb dX9_republic_143 rfl ?_
                        exact ih70 M_136 (t + 1) (by rw [hB]; exact (rpB_go hz2 hr).1) (by rw [hB, ← he]; exact (rpL_on hwl c_81).symm) (⟨fun w => by have u1 := hn.1 hwl; have u2 := (rpB_go (t := t) hz2 hr).2 (by rw [← hB]; exact w); rw [hB]; omega, by have u1 := hn.1 hwl; have u2 := hr.1.2.2.2; omega⟩) _ _ _ hW (lv_sub hl [2, 0] rfl)
                    · have hw1 := wl_1 c_114
                      obtain ⟨d1, hd7, hd4⟩ := hr.2.2
                      have hr1 : M_106 2 4 = nI d1 := by rw [hM_106, tkS_row _ _ _ (by decide)]; exact hd4
                      have hp1 : 0 ≤ M_106 0 4 := by rw [hM_106]; exact tk_pl hz2 hr.1 hr.2.1
                      have hk1 : v_106 = 112 → d1 < 7 := fun q => rp_p hd4 hd7 hr.2.1 (by rw [← hM_106]; exact hw1) (by rw [← hv_106]; exact q)
                      refine lv_aload_n hx hb dX9_republic_117 rfl (lv_at hl 1 rfl) ?_
                      refine lv_iload_n hx hb dX9_republic_118 rfl (lv_at hl 0 rfl) ?_
                      refine callVV Sx hW (c_X9_readsItem l D cI cZ cN b M_106 tr z hz2 hw_106 d1 hr1 hd7 hp1 v_106 hk1) vmX9_readsItem mw272 [0, 1, 2, 3, 4, 5, 6, 7, 8, 9, 10, 11, 12, 13, 14, 15, 16, 17] rfl (by decide) 0 rfl rfl (As := [.int v_106]) (rest := []) rfl rfl hl.1 (Nat.le_of_ble_eq_true rfl) ⟨Nat.le_of_ble_eq_true rfl, Nat.le_of_ble_eq_true rfl⟩ ⟨Nat.le_refl _, Nat.le_refl _⟩ dX9_republic_119 (fun wx H locs hqx hW => ?_)
                      obtain rfl := hqx
                      obtain ⟨M_119, hM_119⟩ : ∃ gX, gX = (riM z M_106 v_106 d1) := ⟨_, rfl⟩
                      rw [← hM_119] at hW
                      have hY : M_119 = rpI z M_106 v_106 := by rw [hM_119, rpI, if_pos hw1, hr1, show tn (nI d1) = d1 from nI_clamp (by omega)]
                      have hw_119 : wfm z M_119 := by rw [hY, hM_106, hv_106]; exact (rpI_go hz2 hr).1.1
                      have hW : AtC D (tyG cI cZ cN) Ax (pMod cI cZ b M_119 tr) sx H locs := hW.re [] 18 (by decide) rfl rfl trivial (by decide +kernel) rfl rfl
                      refine lv_aload_n hx hb dX9_republic_122 rfl (lv_at hl 1 rfl) ?_
                      refine lv_aload_n hx hb dX9_republic_123 rfl (lv_at hl 1 rfl) ?_
                      refine r_get Sx hW 0 rfl rfl bw_wsX90 5 (by decide) (v := .int (M_119 0 3)) rfl mw249 dX9_republic_124 ?_
                      refine lv_iconst (v := (3 : Int32)) hx hb dX9_republic_127 rfl ?_
                      refine lv_icmp_ne (tgt := 135) hx hb dX9_republic_128 rfl (fun c_128 => ?_) (fun c_128 => ?_)
                      · refine lv_iconst (v := (0 : Int32)) hx hb dX9_republic_135 rfl ?_
                        refine r_eq (y := (if M_119 0 3 = 3 then (1 : Int32) else 0)) (by rw [if_neg c_128]) ?_
                        refine callVI Sx hW (c_X9_takes l D cI cZ cN b M_119 tr z hz2 hw_119 (if M_119 0 3 = 3 then (1 : Int32) else 0)) vmX9_takes mw268 [0, 1, 2, 3, 4, 5, 6, 7, 8, 9, 10, 11, 12, 13, 14, 15, 16, 17] rfl (by decide) 0 rfl rfl (As := [.int (if M_119 0 3 = 3 then (1 : Int32) else 0)]) (rest := []) rfl rfl hl.1 (Nat.le_of_ble_eq_true rfl) ⟨Nat.le_of_ble_eq_true rfl, Nat.le_of_ble_eq_true rfl⟩ ⟨Nat.le_refl _, Nat.le_refl _⟩ dX9_republic_136 (fun rx wx H locs hqx hW => ?_)
                        obtain ⟨hrx, rfl⟩ := hqx
                        obtain ⟨M_136, hM_136⟩ : ∃ gX, gX = tkS z M_119 (if M_119 0 3 = 3 then (1 : Int32) else 0) := ⟨_, rfl⟩
                        obtain ⟨v_136, hv_136⟩ : ∃ gX, gX = tkI M_119 (if M_119 0 3 = 3 then (1 : Int32) else 0) := ⟨_, rfl⟩
                        rw [← hM_136] at hW
                        rw [← hv_136] at hrx
                        have hw_136 : wfm z M_136 := by rw [hM_136]; exact wfm_tk hz2 hw_119
                        have hW : AtC D (tyG cI cZ cN) Ax (pMod cI cZ b M_136 tr) sx H locs := hW.re [] 18 (by decide) rfl rfl trivial (by decide +kernel) rfl rfl
                        refine r_eq (y := v_136) hrx ?_
                        have hB : M_136 = rpB z X t := by rw [hM_136, rpB, rpS, ← hM_106, ← hv_106, ← hY]
                        refine lv_pop hx hb dX9_republic_139 rfl ?_
                        refine lv_iinc (v := (nI (t + 1))) (lv' := [(1, .int (nI (t + 1))), (2, .int v_106), (0, .ref (b 0))]) hx hb dX9_republic_140 hl (k := 2) rfl (inc_n t 1) (by decide) rfl (fun ls hl => ?_)
                        refine lv_goto (tgt := 70) hx hb dX9_republic_143 rfl ?_
                        exact ih70 M_136 (t + 1) (by rw [hB]; exact (rpB_go hz2 hr).1) (by rw [hB, ← he]; exact (rpL_on hwl c_81).symm) (⟨fun w => by have u1 := hn.1 hwl; have u2 := (rpB_go (t := t) hz2 hr).2 (by rw [← hB]; exact w); rw [hB]; omega, by have u1 := hn.1 hwl; have u2 := hr.1.2.2.2; omega⟩) _ _ _ hW (lv_sub hl [2, 0] rfl)
                      · refine lv_iconst (v := (1 : Int32)) hx hb dX9_republic_131 rfl ?_
                        refine lv_goto (tgt := 136) hx hb dX9_republic_132 rfl ?_
                        refine r_eq (y := (if M_119 0 3 = 3 then (1 : Int32) else 0)) (by rw [if_pos c_128]) ?_
                        refine callVI Sx hW (c_X9_takes l D cI cZ cN b M_119 tr z hz2 hw_119 (if M_119 0 3 = 3 then (1 : Int32) else 0)) vmX9_takes mw268 [0, 1, 2, 3, 4, 5, 6, 7, 8, 9, 10, 11, 12, 13, 14, 15, 16, 17] rfl (by decide) 0 rfl rfl (As := [.int (if M_119 0 3 = 3 then (1 : Int32) else 0)]) (rest := []) rfl rfl hl.1 (Nat.le_of_ble_eq_true rfl) ⟨Nat.le_of_ble_eq_true rfl, Nat.le_of_ble_eq_true rfl⟩ ⟨Nat.le_refl _, Nat.le_refl _⟩ dX9_republic_136 (fun rx wx H locs hqx hW => ?_)
                        obtain ⟨hrx, rfl⟩ := hqx
                        obtain ⟨M_136, hM_136⟩ : ∃ gX, gX = tkS z M_119 (if M_119 0 3 = 3 then (1 : Int32) else 0) := ⟨_, rfl⟩
                        obtain ⟨v_136, hv_136⟩ : ∃ gX, gX = tkI M_119 (if M_119 0 3 = 3 then (1 : Int32) else 0) := ⟨_, rfl⟩
                        rw [← hM_136] at hW
                        rw [← hv_136] at hrx
                        have hw_136 : wfm z M_136 := by rw [hM_136]; exact wfm_tk hz2 hw_119
                        have hW : AtC D (tyG cI cZ cN) Ax (pMod cI cZ b M_136 tr) sx H locs := hW.re [] 18 (by decide) rfl rfl trivial (by decide +kernel) rfl rfl
                        refine r_eq (y := v_136) hrx ?_
                        have hB : M_136 = rpB z X t := by rw [hM_136, rpB, rpS, ← hM_106, ← hv_106, ← hY]
                        refine lv_pop hx hb dX9_republic_139 rfl ?_
                        refine lv_iinc (v := (nI (t + 1))) (lv' := [(1, .int (nI (t + 1))), (2, .int v_106), (0, .ref (b 0))]) hx hb dX9_republic_140 hl (k := 2) rfl (inc_n t 1) (by decide) rfl (fun ls hl => ?_)
                        refine lv_goto (tgt := 70) hx hb dX9_republic_143 rfl ?_
                        exact ih70 M_136 (t + 1) (by rw [hB]; exact (rpB_go hz2 hr).1) (by rw [hB, ← he]; exact (rpL_on hwl c_81).symm) (⟨fun w => by have u1 := hn.1 hwl; have u2 := (rpB_go (t := t) hz2 hr).2 (by rw [← hB]; exact w); rw [hB]; omega, by have u1 := hn.1 hwl; have u2 := hr.1.2.2.2; omega⟩) _ _ _ hW (lv_sub hl [2, 0] rfl)
                  · refine lv_iconst (v := (1 : Int32)) hx hb dX9_republic_101 rfl ?_
                    refine lv_goto (tgt := 106) hx hb dX9_republic_102 rfl ?_
                    refine r_eq (y := (rpC X t)) (by rw [rpC, if_pos c_90, if_neg c_98]) ?_
                    refine callVI Sx hW (c_X9_takes l D cI cZ cN b X tr z hz2 hr.1 (rpC X t)) vmX9_takes mw268 [0, 1, 2, 3, 4, 5, 6, 7, 8, 9, 10, 11, 12, 13, 14, 15, 16, 17] rfl (by decide) 0 rfl rfl (As := [.int (rpC X t)]) (rest := []) rfl rfl hl.1 (Nat.le_of_ble_eq_true rfl) ⟨Nat.le_of_ble_eq_true rfl, Nat.le_of_ble_eq_true rfl⟩ ⟨Nat.le_refl _, Nat.le_refl _⟩ dX9_republic_106 (fun rx wx H locs hqx hW => ?_)
                    obtain ⟨hrx, rfl⟩ := hqx
                    obtain ⟨M_106, hM_106⟩ : ∃ gX, gX = tkS z X (rpC X t) := ⟨_, rfl⟩
                    obtain ⟨v_106, hv_106⟩ : ∃ gX, gX = tkI X (rpC X t) := ⟨_, rfl⟩
                    rw [← hM_106] at hW
                    rw [← hv_106] at hrx
                    have hw_106 : wfm z M_106 := by rw [hM_106]; exact wfm_tk hz2 hr.1
                    have hW : AtC D (tyG cI cZ cN) Ax (pMod cI cZ b M_106 tr) sx H locs := hW.re [] 18 (by decide) rfl rfl trivial (by decide +kernel) rfl rfl
                    refine r_eq (y := v_106) hrx ?_
                    refine lv_istore_n (lv' := [(2, .int v_106), (0, .ref (b 0)), (1, .int (nI t))]) hx hb dX9_republic_109 rfl hl (by decide) rfl (fun ls hl => ?_)
                    refine lv_aload_n hx hb dX9_republic_110 rfl (lv_at hl 1 rfl) ?_
                    refine callVI Sx hW (c_X9_isWell l D cI cZ cN b M_106 tr) vmX9_isWell mw260 [0, 1, 2, 3, 4, 5, 6, 7, 8, 9, 10, 11, 12, 13, 14, 15, 16, 17] rfl (by decide) 0 rfl rfl (As := []) (rest := []) rfl rfl hl.1 (Nat.le_of_ble_eq_true rfl) ⟨Nat.le_of_ble_eq_true rfl, Nat.le_of_ble_eq_true rfl⟩ ⟨Nat.le_refl _, Nat.le_refl _⟩ dX9_republic_111 (fun rx wx H locs hqx hW => ?_)
                    obtain ⟨hrx, rfl⟩ := hqx
                    have hW : AtC D (tyG cI cZ cN) Ax (pMod cI cZ b M_106 tr) sx H locs := hW.re [] 18 (by decide) rfl rfl trivial (by decide +kernel) rfl rfl
                    refine r_eq (y := (if (M_106 0 6) < 0 then (1 : Int32) else 0)) hrx ?_
                    refine lv_if_eq (tgt := 122) hx hb dX9_republic_114 rfl (fun c_114 => ?_) (fun c_114 => ?_)
                    · have hw1 := wl_0 c_114
                      have hY : M_106 = rpI z M_106 v_106 := by rw [rpI, if_neg hw1]
                      refine lv_aload_n hx hb dX9_republic_122 rfl (lv_at hl 1 rfl) ?_
                      refine lv_aload_n hx hb dX9_republic_123 rfl (lv_at hl 1 rfl) ?_
                      refine r_get Sx hW 0 rfl rfl bw_wsX90 5 (by decide) (v := .int (M_106 0 3)) rfl mw249 dX9_republic_124 ?_
                      refine lv_iconst (v := (3 : Int32)) hx hb dX9_republic_127 rfl ?_
                      refine lv_icmp_ne (tgt := 135) hx hb dX9_republic_128 rfl (fun c_128 => ?_) (fun c_128 => ?_)
                      · refine lv_iconst (v := (0 : Int32)) hx hb dX9_republic_135 rfl ?_
                        refine r_eq (y := (if M_106 0 3 = 3 then (1 : Int32) else 0)) (by rw [if_neg c_128]) ?_
                        refine callVI Sx hW (c_X9_takes l D cI cZ cN b M_106 tr z hz2 hw_106 (if M_106 0 3 = 3 then (1 : Int32) else 0)) vmX9_takes mw268 [0, 1, 2, 3, 4, 5, 6, 7, 8, 9, 10, 11, 12, 13, 14, 15, 16, 17] rfl (by decide) 0 rfl rfl (As := [.int (if M_106 0 3 = 3 then (1 : Int32) else 0)]) (rest := []) rfl rfl hl.1 (Nat.le_of_ble_eq_true rfl) ⟨Nat.le_of_ble_eq_true rfl, Nat.le_of_ble_eq_true rfl⟩ ⟨Nat.le_refl _, Nat.le_refl _⟩ dX9_republic_136 (fun rx wx H locs hqx hW => ?_)
                        obtain ⟨hrx, rfl⟩ := hqx
                        obtain ⟨M_136, hM_136⟩ : ∃ gX, gX = tkS z M_106 (if M_106 0 3 = 3 then (1 : Int32) else 0) := ⟨_, rfl⟩
                        obtain ⟨v_136, hv_136⟩ : ∃ gX, gX = tkI M_106 (if M_106 0 3 = 3 then (1 : Int32) else 0) := ⟨_, rfl⟩
                        rw [← hM_136] at hW
                        rw [← hv_136] at hrx
                        have hw_136 : wfm z M_136 := by rw [hM_136]; exact wfm_tk hz2 hw_106
                        have hW : AtC D (tyG cI cZ cN) Ax (pMod cI cZ b M_136 tr) sx H locs := hW.re [] 18 (by decide) rfl rfl trivial (by decide +kernel) rfl rfl
                        refine r_eq (y := v_136) hrx ?_
                        have hB : M_136 = rpB z X t := by rw [hM_136, rpB, rpS, ← hM_106, ← hv_106, ← hY]
                        refine lv_pop hx hb dX9_republic_139 rfl ?_
                        refine lv_iinc (v := (nI (t + 1))) (lv' := [(1, .int (nI (t + 1))), (2, .int v_106), (0, .ref (b 0))]) hx hb dX9_republic_140 hl (k := 2) rfl (inc_n t 1) (by decide) rfl (fun ls hl => ?_)
                        refine lv_goto (tgt := 70) hx hb dX9_republic_143 rfl ?_
                        exact ih70 M_136 (t + 1) (by rw [hB]; exact (rpB_go hz2 hr).1) (by rw [hB, ← he]; exact (rpL_on hwl c_81).symm) (⟨fun w => by have u1 := hn.1 hwl; have u2 := (rpB_go (t := t) hz2 hr).2 (by rw [← hB]; exact w); rw [hB]; omega, by have u1 := hn.1 hwl; have u2 := hr.1.2.2.2; omega⟩) _ _ _ hW (lv_sub hl [2, 0] rfl)
                      · refine lv_iconst (v := (1 : Int32)) hx hb dX9_republic_131 rfl ?_
                        refine lv_goto (tgt := 136) hx hb dX9_republic_132 rfl ?_
                        refine r_eq (y := (if M_106 0 3 = 3 then (1 : Int32) else 0)) (by rw [if_pos c_128]) ?_
                        refine callVI Sx hW (c_X9_takes l D cI cZ cN b M_106 tr z hz2 hw_106 (if M_106 0 3 = 3 then (1 : Int32) else 0)) vmX9_takes mw268 [0, 1, 2, 3, 4, 5, 6, 7, 8, 9, 10, 11, 12, 13, 14, 15, 16, 17] rfl (by decide) 0 rfl rfl (As := [.int (if M_106 0 3 = 3 then (1 : Int32) else 0)]) (rest := []) rfl rfl hl.1 (Nat.le_of_ble_eq_true rfl) ⟨Nat.le_of_ble_eq_true rfl, Nat.le_of_ble_eq_true rfl⟩ ⟨Nat.le_refl _, Nat.le_refl _⟩ dX9_republic_136 (fun rx wx H locs hqx hW => ?_)
                        obtain ⟨hrx, rfl⟩ := hqx
                        obtain ⟨M_136, hM_136⟩ : ∃ gX, gX = tkS z M_106 (if M_106 0 3 = 3 then (1 : Int32) else 0) := ⟨_, rfl⟩
                        obtain ⟨v_136, hv_136⟩ : ∃ gX, gX = tkI M_106 (if M_106 0 3 = 3 then (1 : Int32) else 0) := ⟨_, rfl⟩
                        rw [← hM_136] at hW
                        rw [← hv_136] at hrx
                        have hw_136 : wfm z M_136 := by rw [hM_136]; exact wfm_tk hz2 hw_106
                        have hW : AtC D (tyG cI cZ cN) Ax (pMod cI cZ b M_136 tr) sx H locs := hW.re [] 18 (by decide) rfl rfl trivial (by decide +kernel) rfl rfl
                        refine r_eq (y := v_136) hrx ?_
                        have hB : M_136 = rpB z X t := by rw [hM_136, rpB, rpS, ← hM_106, ← hv_106, ← hY]
                        refine lv_pop hx hb dX9_republic_139 rfl ?_
                        refine lv_iinc (v := (nI (t + 1))) (lv' := [(1, .int (nI (t + 1))), (2, .int v_106), (0, .ref (b 0))]) hx hb dX9_republic_140 hl (k := 2) rfl (inc_n t 1) (by decide) rfl (fun ls hl => ?_)
                        refine lv_goto (tgt := 70) hx hb dX9_republic_143 rfl ?_
                        exact ih70 M_136 (t + 1) (by rw [hB]; exact (rpB_go hz2 hr).1) (by rw [hB, ← he]; exact (rpL_on hwl c_81).symm) (⟨fun w => by have u1 := hn.1 hwl; have u2 := (rpB_go (t := t) hz2 hr).2 (by rw [← hB]; exact w); rw [hB]; omega, by have u1 := hn.1 hwl; have u2 := hr.1.2.2.2; omega⟩) _ _ _ hW (lv_sub hl [2, 0] rfl)
                    · have hw1 := wl_1 c_114
                      obtain ⟨d1, hd7, hd4⟩ := hr.2.2
                      have hr1 : M_106 2 4 = nI d1 := by rw [hM_106, tkS_row _ _ _ (by decide)]; exact hd4
                      have hp1 : 0 ≤ M_106 0 4 := by rw [hM_106]; exact tk_pl hz2 hr.1 hr.2.1
                      have hk1 : v_106 = 112 → d1 < 7 := fun q => rp_p hd4 hd7 hr.2.1 (by rw [← hM_106]; exact hw1) (by rw [← hv_106]; exact q)
                      refine lv_aload_n hx hb dX9_republic_117 rfl (lv_at hl 1 rfl) ?_
                      refine lv_iload_n hx hb dX9_republic_118 rfl (lv_at hl 0 rfl) ?_
                      refine callVV Sx hW (c_X9_readsItem l D cI cZ cN b M_106 tr z hz2 hw_106 d1 hr1 hd7 hp1 v_106 hk1) vmX9_readsItem mw272 [0, 1, 2, 3, 4, 5, 6, 7, 8, 9, 10, 11, 12, 13, 14, 15, 16, 17] rfl (by decide) 0 rfl rfl (As := [.int v_106]) (rest := []) rfl rfl hl.1 (Nat.le_of_ble_eq_true rfl) ⟨Nat.le_of_ble_eq_true rfl, Nat.le_of_ble_eq_true rfl⟩ ⟨Nat.le_refl _, Nat.le_refl _⟩ dX9_republic_119 (fun wx H locs hqx hW => ?_)
                      obtain rfl := hqx
                      obtain ⟨M_119, hM_119⟩ : ∃ gX, gX = (riM z M_106 v_106 d1) := ⟨_, rfl⟩
                      rw [← hM_119] at hW
                      have hY : M_119 = rpI z M_106 v_106 := by rw [hM_119, rpI, if_pos hw1, hr1, show tn (nI d1) = d1 from nI_clamp (by omega)]
                      have hw_119 : wfm z M_119 := by rw [hY, hM_106, hv_106]; exact (rpI_go hz2 hr).1.1
                      have hW : AtC D (tyG cI cZ cN) Ax (pMod cI cZ b M_119 tr) sx H locs := hW.re [] 18 (by decide) rfl rfl trivial (by decide +kernel) rfl rfl
                      refine lv_aload_n hx hb dX9_republic_122 rfl (lv_at hl 1 rfl) ?_
                      refine lv_aload_n hx hb dX9_republic_123 rfl (lv_at hl 1 rfl) ?_
                      refine r_get Sx hW 0 rfl rfl bw_wsX90 5 (by decide) (v := .int (M_119 0 3)) rfl mw249 dX9_republic_124 ?_
                      refine lv_iconst (v := (3 : Int32)) hx hb dX9_republic_127 rfl ?_
                      refine lv_icmp_ne (tgt := 135) hx hb dX9_republic_128 rfl (fun c_128 => ?_) (fun c_128 => ?_)
                      · refine lv_iconst (v := (0 : Int32)) hx hb dX9_republic_135 rfl ?_
                        refine r_eq (y := (if M_119 0 3 = 3 then (1 : Int32) else 0)) (by rw [if_neg c_128]) ?_
                        refine callVI Sx hW (c_X9_takes l D cI cZ cN b M_119 tr z hz2 hw_119 (if M_119 0 3 = 3 then (1 : Int32) else 0)) vmX9_takes mw268 [0, 1, 2, 3, 4, 5, 6, 7, 8, 9, 10, 11, 12, 13, 14, 15, 16, 17] rfl (by decide) 0 rfl rfl (As := [.int (if M_119 0 3 = 3 then (1 : Int32) else 0)]) (rest := []) rfl rfl hl.1 (Nat.le_of_ble_eq_true rfl) ⟨Nat.le_of_ble_eq_true rfl, Nat.le_of_ble_eq_true rfl⟩ ⟨Nat.le_refl _, Nat.le_refl _⟩ dX9_republic_136 (fun rx wx H locs hqx hW => ?_)
                        obtain ⟨hrx, rfl⟩ := hqx
                        obtain ⟨M_136, hM_136⟩ : ∃ gX, gX = tkS z M_119 (if M_119 0 3 = 3 then (1 : Int32) else 0) := ⟨_, rfl⟩
                        obtain ⟨v_136, hv_136⟩ : ∃ gX, gX = tkI M_119 (if M_119 0 3 = 3 then (1 : Int32) else 0) := ⟨_, rfl⟩
                        rw [← hM_136] at hW
                        rw [← hv_136] at hrx
                        have hw_136 : wfm z M_136 := by rw [hM_136]; exact wfm_tk hz2 hw_119
                        have hW : AtC D (tyG cI cZ cN) Ax (pMod cI cZ b M_136 tr) sx H locs := hW.re [] 18 (by decide) rfl rfl trivial (by decide +kernel) rfl rfl
                        refine r_eq (y := v_136) hrx ?_
                        have hB : M_136 = rpB z X t := by rw [hM_136, rpB, rpS, ← hM_106, ← hv_106, ← hY]
                        refine lv_pop hx hb dX9_republic_139 rfl ?_
                        refine lv_iinc (v := (nI (t + 1))) (lv' := [(1, .int (nI (t + 1))), (2, .int v_106), (0, .ref (b 0))]) hx hb dX9_republic_140 hl (k := 2) rfl (inc_n t 1) (by decide) rfl (fun ls hl => ?_)
                        refine lv_goto (tgt := 70) hx hb dX9_republic_143 rfl ?_
                        exact ih70 M_136 (t + 1) (by rw [hB]; exact (rpB_go hz2 hr).1) (by rw [hB, ← he]; exact (rpL_on hwl c_81).symm) (⟨fun w => by have u1 := hn.1 hwl; have u2 := (rpB_go (t := t) hz2 hr).2 (by rw [← hB]; exact w); rw [hB]; omega, by have u1 := hn.1 hwl; have u2 := hr.1.2.2.2; omega⟩) _ _ _ hW (lv_sub hl [2, 0] rfl)
                      · refine lv_iconst (v := (1 : Int32)) hx hb dX9_republic_131 rfl ?_
                        refine lv_goto (tgt := 136) hx hb dX9_republic_132 rfl ?_
                        refine r_eq (y := (if M_119 0 3 = 3 then (1 : Int32) else 0)) (by rw [if_pos c_128]) ?_
                        refine callVI Sx hW (c_X9_takes l D cI cZ cN b M_119 tr z hz2 hw_119 (if M_119 0 3 = 3 then (1 : Int32) else 0)) vmX9_takes mw268 [0, 1, 2, 3, 4, 5, 6, 7, 8, 9, 10, 11, 12, 13, 14, 15, 16, 17] rfl (by decide) 0 rfl rfl (As := [.int (if M_119 0 3 = 3 then (1 : Int32) else 0)]) (rest := []) rfl rfl hl.1 (Nat.le_of_ble_eq_true rfl) ⟨Nat.le_of_ble_eq_true rfl, Nat.le_of_ble_eq_true rfl⟩ ⟨Nat.le_refl _, Nat.le_refl _⟩ dX9_republic_136 (fun rx wx H locs hqx hW => ?_)
                        obtain ⟨hrx, rfl⟩ := hqx
                        obtain ⟨M_136, hM_136⟩ : ∃ gX, gX = tkS z M_119 (if M_119 0 3 = 3 then (1 : Int32) else 0) := ⟨_, rfl⟩
                        obtain ⟨v_136, hv_136⟩ : ∃ gX, gX = tkI M_119 (if M_119 0 3 = 3 then (1 : Int32) else 0) := ⟨_, rfl⟩
                        rw [← hM_136] at hW
                        rw [← hv_136] at hrx
                        have hw_136 : wfm z M_136 := by rw [hM_136]; exact wfm_tk hz2 hw_119
                        have hW : AtC D (tyG cI cZ cN) Ax (pMod cI cZ b M_136 tr) sx H locs := hW.re [] 18 (by decide) rfl rfl trivial (by decide +kernel) rfl rfl
                        refine r_eq (y := v_136) hrx ?_
                        have hB : M_136 = rpB z X t := by rw [hM_136, rpB, rpS, ← hM_106, ← hv_106, ← hY]
                        refine lv_pop hx hb dX9_republic_139 rfl ?_
                        refine lv_iinc (v := (nI (t + 1))) (lv' := [(1, .int (nI (t + 1))), (2, .int v_106), (0, .ref (b 0))]) hx hb dX9_republic_140 hl (k := 2) rfl (inc_n t 1) (by decide) rfl (fun ls hl => ?_)
                        refine lv_goto (tgt := 70) hx hb dX9_republic_143 rfl ?_
                        exact ih70 M_136 (t + 1) (by rw [hB]; exact (rpB_go hz2 hr).1) (by rw [hB, ← he]; exact (rpL_on hwl c_81).symm) (⟨fun w => by have u1 := hn.1 hwl; have u2 := (rpB_go (t := t) hz2 hr).2 (by rw [← hB]; exact w); rw [hB]; omega, by have u1 := hn.1 hwl; have u2 := hr.1.2.2.2; omega⟩) _ _ _ hW (lv_sub hl [2, 0] rfl)
        exact lp_70 (z + 2) (adM z M0) 0 hr0 rfl (⟨fun _ => by omega, by omega⟩) _ _ _ hW (lv_sub hl [0, 1] rfl)
      · have lt_50 : 7 + j < 14 := Nat.not_le.mp (fun h => c_50 ((nI_leI (a := 14) (b := 7 + j) (by omega) (by omega)).mpr h))
        refine lv_aload_n hx hb dX9_republic_53 rfl (lv_at hl 0 rfl) ?_
        refine r_get Sx hW 0 rfl rfl bw_wsX90 13 (by decide) (v := .ref (b 6)) rfl mw119 dX9_republic_54 ?_
        refine lv_iload_n hx hb dX9_republic_57 rfl (lv_at hl 2 rfl) ?_
        refine lv_iconst (v := (0 : Int32)) hx hb dX9_republic_58 rfl ?_
        refine r_iast Sx hW 6 0 rfl rfl (j := 7 + j) rfl (by omega) (by decide) dX9_republic_59 (ws' := (pMod cI cZ b (upA (upA (upA M 2 (upd (upd (upd (M 2) 3 (4 : Int32)) 4 (0 : Int32)) 5 (15 : Int32))) 6 (upd (flQ (M 6) j) (7 + j) (0 : Int32))) 0 (upd (upd (upd (upd (M 0) 0 (0 : Int32)) 2 (0 : Int32)) 6 (-1 : Int32)) 7 (0 : Int32))) tr)) rfl (fun H locs hW => ?_)
        refine lv_iinc (v := (nI ((7 + j) + 1))) (lv' := [(2, .int (nI ((7 + j) + 1))), (0, .ref (b 0)), (1, .int (0 : Int32))]) hx hb dX9_republic_60 hl (k := 2) rfl (inc_n (7 + j) 1) (by decide) rfl (fun ls hl => ?_)
        refine lv_goto (tgt := 47) hx hb dX9_republic_63 rfl ?_
        exact ih47 (j + 1) (by omega) (by omega) _ _ _ hW (lv_sub hl [1, 2, 0] rfl)
  exact lp_47 (14 + 1) 0 (by omega) (by omega) _ _ _ hW (lv_sub hl [2, 1, 0] rfl)
