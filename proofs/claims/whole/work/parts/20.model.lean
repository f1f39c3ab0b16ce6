/-! OneJohnModel: the reader -/
def ltA (X : Nat → Int32) (z K : Nat) : Int32 := if z ≤ K then -1 else X K
theorem lt_32 {X : Nat → Int32} {z K : Nat} (h : ltA X z K = 32) : K < z ∧ X K = 32 := by
  unfold ltA at h
  split at h
  · exact absurd h (by decide)
  · exact ⟨by omega, h⟩
theorem lt_n32 {X : Nat → Int32} {z K : Nat} (h : ¬ ltA X z K = 32) : ¬ (K < z ∧ X K = 32) := fun q => h (by unfold ltA; rw [if_neg (by omega)]; exact q.2)
theorem lt_dg {X : Nat → Int32} {z K : Nat} (h : ¬ inI (ltA X z K) 48 57 = 0) : K < z ∧ inI (X K) 48 57 ≠ 0 := by
  unfold ltA at h
  split at h
  · exact absurd (by decide) h
  · exact ⟨by omega, h⟩
theorem lt_ndg {X : Nat → Int32} {z K : Nat} (h : inI (ltA X z K) 48 57 = 0) : ¬ (K < z ∧ inI (X K) 48 57 ≠ 0) := fun q => q.2 (by unfold ltA at h; rw [if_neg (by omega)] at h; exact h)
def dvM (X : Nat → Int32) (z : Nat) : Nat → Nat → Int32 → Int32
  | 0, _, v => v
  | f + 1, p, v => if p < z ∧ inI (X p) 48 57 ≠ 0 then dvM X z f (p + 1) (if v ≤ 99 then 10 * v + X p - 48 else v) else v
theorem dvM_stop (X : Nat → Int32) (z f p : Nat) (v : Int32) (h : ¬ (p < z ∧ inI (X p) 48 57 ≠ 0)) : dvM X z f p v = v := by cases f <;> simp only [dvM, h, if_false]
def tkM (X : Nat → Int32) (s e : Nat) (v : Int32) : Int32 := if 99 < v then 4 else if X s = 48 then (if nI (e - s) ≤ 1 then 2 else 4) else 2
def tcM (c : Int32) : Int32 := if c = 59 then 3 else if c = 110 then 1 else if c = 112 then 1 else if c = 113 then 1 else if c = 108 then 1 else 4
def adT (X : Nat → Int32) (z s : Nat) : Int32 := if s < z then (if inI (X s) 48 57 = 0 then tcM (X s) else tkM X s (dgE X z (z - s) s) (dvM X z (z - s) s 0)) else 0
def adV (X : Nat → Int32) (z s : Nat) (old : Int32) : Int32 := if s < z then (if inI (X s) 48 57 = 0 then X s else dvM X z (z - s) s 0) else old
/-- the letters are none below 0 -/
def lOk (X : Nat → Int32) (z : Nat) : Prop := ∀ j, j < z → 0 ≤ X j

set_option maxHeartbeats 4000000 in
set_option maxRecDepth 100000 in
theorem c_X9_letterAt (l : Launch) (D : va_G) (cI cZ cN : ClassId) (b : Nat → Nat) (M : NV) (tr : Int64) (z : Nat) (hz : M 0 1 = nI z) (hz2 : z ≤ 200) (Kk : Nat) (hKk : Kk < 1000) : CtI l yX9_letterAt cX9_letterAt 2 (some .int) 0 D (tyG cI cZ cN) [.ref (b 0), .int (nI Kk)] (pMod cI cZ b M tr) (fun r w => r = ltA (M 1) z Kk ∧ w = (pMod cI cZ b M tr)) := by
  refine CtI.of rfl (Nat.le_of_ble_eq_true rfl) ?_
  intro pg ev sx mx ax bx mt cx ls Qx Ax Sx hret hW hl
  have hx := Sx.1
  have hb := Sx.2.1
  have hl : lv_has ls 2 [(0, .ref (b 0)), (1, .int (nI Kk))] := hl
  refine lv_iload_n hx hb dX9_letterAt_0 rfl (lv_at hl 1 rfl) ?_
  refine lv_aload_n hx hb dX9_letterAt_1 rfl (lv_at hl 0 rfl) ?_
  refine r_get Sx hW 0 rfl rfl bw_wsX90 3 (by decide) (v := .int (M 0 1)) rfl mw145 dX9_letterAt_2 ?_
  refine r_eq (y := (nI z)) hz ?_
  refine lv_icmp_ge (tgt := 17) hx hb dX9_letterAt_5 rfl (fun c_5 => ?_) (fun c_5 => ?_)
  · have h5 : z ≤ Kk := (nI_leI (a := z) (b := Kk) (by omega) (by omega)).mp c_5
    refine lv_iconst (v := (-1 : Int32)) hx hb dX9_letterAt_17 rfl ?_
    exact hret _ _ _ _ _ _ hW rfl rfl dX9_letterAt_18 (⟨by rw [ltA, if_pos h5], rfl⟩)
  · have h5 : ¬ z ≤ Kk := fun h => c_5 ((nI_leI (a := z) (b := Kk) (by omega) (by omega)).mpr h)
    refine lv_aload_n hx hb dX9_letterAt_8 rfl (lv_at hl 0 rfl) ?_
    refine r_get Sx hW 0 rfl rfl bw_wsX90 2 (by decide) (v := .ref (b 1)) rfl mw114 dX9_letterAt_9 ?_
    refine lv_iload_n hx hb dX9_letterAt_12 rfl (lv_at hl 1 rfl) ?_
    refine r_iald Sx hW 1 0 rfl rfl (j := Kk) rfl (by omega) (by decide) dX9_letterAt_13 ?_
    refine lv_goto (tgt := 18) hx hb dX9_letterAt_14 rfl ?_
    exact hret _ _ _ _ _ _ hW rfl rfl dX9_letterAt_18 (⟨by rw [ltA, if_neg h5], rfl⟩)

theorem ad_same (cI cZ : ClassId) (b : Nat → Nat) (M : NV) {tr : Int64} (s : Nat) : pMod cI cZ b (upA M 0 (upd (upd (upd (M 0) 2 (nI s)) 3 0) 4 (nI s))) tr = pMod cI cZ b (upA M 0 (upd (upd (upd (upd (M 0) 2 (nI s)) 3 0) 4 (nI s)) 5 (M 0 5))) tr := by
  rw [show upd (upd (upd (upd (M 0) 2 (nI s)) 3 (0 : Int32)) 4 (nI s)) 5 (M 0 5) = upd (upd (upd (M 0) 2 (nI s)) 3 0) 4 (nI s) from upd_same rfl]

set_option maxHeartbeats 4000000 in
set_option maxRecDepth 100000 in
theorem c_X9_advances (l : Launch) (D : va_G) (cI cZ cN : ClassId) (b : Nat → Nat) (M : NV) (tr : Int64) (z : Nat) (hz : M 0 1 = nI z) (hz2 : z ≤ 200) (hl0 : lOk (M 1) z) (p : Nat) (hp : M 0 2 = nI p) (hpz : p ≤ z) : CtV l yX9_advances cX9_advances 2 1 D (tyG cI cZ cN) [.ref (b 0)] (pMod cI cZ b M tr) (fun w => w = (pMod cI cZ b (upA M 0 (upd (upd (upd (upd (M 0) 2 (nI (ntP1 (M 1) z (skB (M 1) z (z - p) p)))) 3 (adT (M 1) z (skB (M 1) z (z - p) p))) 4 (nI (skB (M 1) z (z - p) p))) 5 (adV (M 1) z (skB (M 1) z (z - p) p) (M 0 5)))) tr)) := by
  refine CtV.of rfl (Nat.le_of_ble_eq_true rfl) ?_
  intro pg ev sx mx ax bx mt cx ls Qx Ax Sx hret hW hl
  have hx := Sx.1
  have hb := Sx.2.1
  have hl : lv_has ls 2 [(0, .ref (b 0))] := hl
  have lp_0 : ∀ (n : Nat) (q : Nat), ((skB (M 1) z (z - q) q = skB (M 1) z (z - p) p)) → ((q ≤ z)) → ((z + 1 ≤ q + n)) → ∀ (H : Heap) (locs : List Loc) (ls : Array Slot), AtC D (tyG cI cZ cN) Ax (pMod cI cZ b (upA M 0 (upd (M 0) 2 (nI q))) tr) sx H locs → lv_has ls 2 [(0, .ref (b 0))] → W pg l ev (rmN 1) sx mx ax bx mt cx H locs 0 0 Qx (F0 mx 0 ls []) := by
    intro n
    induction n with
    | zero =>
      intro q hs hq hn H locs ls hW hl
      exact absurd hn (by omega)
    | succ n ih0 =>
      intro q hs hq hn H locs ls hW hl
      refine lv_aload_n hx hb dX9_advances_0 rfl (lv_at hl 0 rfl) ?_
      refine lv_aload_n hx hb dX9_advances_1 rfl (lv_at hl 0 rfl) ?_
      refine r_get Sx hW 0 rfl rfl bw_wsX90 4 (by decide) (v := .int (nI q)) rfl mw247 dX9_advances_2 ?_
      refine callVI Sx hW (c_X9_letterAt l D cI cZ cN b (upA M 0 (upd (M 0) 2 (nI q))) tr z hz hz2 q (by omega) ) vmX9_letterAt mw256 [0, 1, 2, 3, 4, 5, 6, 7, 8, 9, 10, 11, 12, 13, 14, 15, 16, 17] rfl (by decide) 0 rfl rfl (As := [.int (nI q)]) (rest := []) rfl rfl hl.1 (Nat.le_of_ble_eq_true rfl) ⟨Nat.le_of_ble_eq_true rfl, Nat.le_of_ble_eq_true rfl⟩ ⟨Nat.le_refl _, Nat.le_refl _⟩ dX9_advances_5 (fun rx wx H locs hqx hW => ?_)
      obtain ⟨hrx, rfl⟩ := hqx
      have hW : AtC D (tyG cI cZ cN) Ax (pMod cI cZ b (upA M 0 (upd (M 0) 2 (nI q))) tr) sx H locs := hW.re [] 18 (by decide) rfl rfl trivial (by decide +kernel) rfl rfl
      refine r_eq (y := (ltA (M 1) z q)) hrx ?_
      refine lv_bipush (v := (32 : Int32)) hx hb dX9_advances_8 rfl ?_
      refine lv_icmp_ne (tgt := 26) hx hb dX9_advances_10 rfl (fun c_10 => ?_) (fun c_10 => ?_)
      · have hst : skB (M 1) z (z - p) p = q := by rw [← hs]; exact skB_stop _ _ _ _ (lt_n32 c_10)
        refine lv_aload_n hx hb dX9_advances_26 rfl (lv_at hl 0 rfl) ?_
        refine lv_aload_n hx hb dX9_advances_27 rfl (lv_at hl 0 rfl) ?_
        refine r_get Sx hW 0 rfl rfl bw_wsX90 4 (by decide) (v := .int (nI q)) rfl mw247 dX9_advances_28 ?_
        refine r_put Sx hW 0 rfl rfl bw_wsX90 tyX9_ok nmX9 6 (by decide) mw254 rfl rfl rfl (Nat.le_of_ble_eq_true rfl) dX9_advances_31 (ws' := (pMod cI cZ b (upA M 0 (upd (upd (M 0) 2 (nI q)) 4 (nI q))) tr)) rfl (fun H locs hW => ?_)
        refine lv_aload_n hx hb dX9_advances_34 rfl (lv_at hl 0 rfl) ?_
        refine lv_aload_n hx hb dX9_advances_35 rfl (lv_at hl 0 rfl) ?_
        refine r_get Sx hW 0 rfl rfl bw_wsX90 4 (by decide) (v := .int (nI q)) rfl mw247 dX9_advances_36 ?_
        refine callVI Sx hW (c_X9_letterAt l D cI cZ cN b (upA M 0 (upd (upd (M 0) 2 (nI q)) 4 (nI q))) tr z hz hz2 q (by omega) ) vmX9_letterAt mw256 [0, 1, 2, 3, 4, 5, 6, 7, 8, 9, 10, 11, 12, 13, 14, 15, 16, 17] rfl (by decide) 0 rfl rfl (As := [.int (nI q)]) (rest := []) rfl rfl hl.1 (Nat.le_of_ble_eq_true rfl) ⟨Nat.le_of_ble_eq_true rfl, Nat.le_of_ble_eq_true rfl⟩ ⟨Nat.le_refl _, Nat.le_refl _⟩ dX9_advances_39 (fun rx wx H locs hqx hW => ?_)
        obtain ⟨hrx, rfl⟩ := hqx
        have hW : AtC D (tyG cI cZ cN) Ax (pMod cI cZ b (upA M 0 (upd (upd (M 0) 2 (nI q)) 4 (nI q))) tr) sx H locs := hW.re [] 18 (by decide) rfl rfl trivial (by decide +kernel) rfl rfl
        refine r_eq (y := (ltA (M 1) z q)) hrx ?_
        refine lv_istore_n (lv' := [(1, .int (ltA (M 1) z q)), (0, .ref (b 0))]) hx hb dX9_advances_42 rfl hl (by decide) rfl (fun ls hl => ?_)
        refine lv_iload_n hx hb dX9_advances_43 rfl (lv_at hl 0 rfl) ?_
        refine lv_if_ge (tgt := 55) hx hb dX9_advances_44 rfl (fun c_44 => ?_) (fun c_44 => ?_)
        · have lt_44 : q < z := Nat.not_le.mp (fun h => absurd c_44 (by rw [ltA, if_pos h]; decide))
          have el : ltA (M 1) z q = M 1 q := if_neg (by omega)
          refine lv_iload_n hx hb dX9_advances_55 rfl (lv_at hl 0 rfl) ?_
          refine lv_bipush (v := (48 : Int32)) hx hb dX9_advances_56 rfl ?_
          refine lv_bipush (v := (57 : Int32)) hx hb dX9_advances_58 rfl ?_
          refine callSI Sx hW (c_X9_in l D cI cZ cN (ltA (M 1) z q) (48 : Int32) (57 : Int32)) smX9_in mw146 (As := [.int (ltA (M 1) z q), .int (48 : Int32), .int (57 : Int32)]) (rest := []) rfl rfl hl.1 (Nat.le_of_ble_eq_true rfl) ⟨Nat.le_of_ble_eq_true rfl, Nat.le_of_ble_eq_true rfl⟩ ⟨Nat.le_refl _, Nat.le_refl _⟩ dX9_advances_60 (fun rx H locs hqx hW => ?_)
          obtain ⟨hrx, -⟩ := hqx
          refine r_eq (y := (inI (ltA (M 1) z q) (48 : Int32) (57 : Int32))) hrx ?_
          refine lv_if_eq (tgt := 181) hx hb dX9_advances_63 rfl (fun c_63 => ?_) (fun c_63 => ?_)
          · have h63 : inI (M 1 q) 48 57 = 0 := by rw [el] at c_63; exact c_63
            refine lv_aload_n hx hb dX9_advances_181 rfl (lv_at hl 1 rfl) ?_
            refine lv_dup hx hb dX9_advances_182 rfl ?_
            refine r_get Sx hW 0 rfl rfl bw_wsX90 4 (by decide) (v := .int (nI q)) rfl mw247 dX9_advances_183 ?_
            refine lv_iconst (v := (1 : Int32)) hx hb dX9_advances_186 rfl ?_
            refine lv_iadd hx hb dX9_advances_187 ?_
            refine r_eq (y := (nI (q + 1))) (nI_add q 1) ?_
            refine r_put Sx hW 0 rfl rfl bw_wsX90 tyX9_ok nmX9 4 (by decide) mw247 rfl rfl rfl (Nat.le_of_ble_eq_true rfl) dX9_advances_188 (ws' := (pMod cI cZ b (upA M 0 (upd (upd (M 0) 2 (nI (q + 1))) 4 (nI q))) tr)) rfl (fun H locs hW => ?_)
            refine lv_aload_n hx hb dX9_advances_191 rfl (lv_at hl 1 rfl) ?_
            refine lv_iload_n hx hb dX9_advances_192 rfl (lv_at hl 0 rfl) ?_
            refine r_put Sx hW 0 rfl rfl bw_wsX90 tyX9_ok nmX9 7 (by decide) mw255 rfl rfl rfl (Nat.le_of_ble_eq_true rfl) dX9_advances_193 (ws' := (pMod cI cZ b (upA M 0 (upd (upd (upd (M 0) 2 (nI (q + 1))) 4 (nI q)) 5 (ltA (M 1) z q))) tr)) rfl (fun H locs hW => ?_)
            refine lv_aload_n hx hb dX9_advances_196 rfl (lv_at hl 1 rfl) ?_
            refine lv_iload_n hx hb dX9_advances_197 rfl (lv_at hl 0 rfl) ?_
            refine lv_bipush (v := (59 : Int32)) hx hb dX9_advances_198 rfl ?_
            refine lv_icmp_ne (tgt := 207) hx hb dX9_advances_200 rfl (fun c_200 => ?_) (fun c_200 => ?_)
            · have e200 := c_200
              rw [el] at e200
              refine lv_iload_n hx hb dX9_advances_207 rfl (lv_at hl 0 rfl) ?_
              refine lv_bipush (v := (110 : Int32)) hx hb dX9_advances_208 rfl ?_
              refine lv_icmp_eq (tgt := 231) hx hb dX9_advances_210 rfl (fun c_210 => ?_) (fun c_210 => ?_)
              · have e210 := c_210
                rw [el] at e210
                refine lv_iconst (v := (1 : Int32)) hx hb dX9_advances_231 rfl ?_
                refine lv_goto (tgt := 236) hx hb dX9_advances_232 rfl ?_
                refine r_put Sx hW 0 rfl rfl bw_wsX90 tyX9_ok nmX9 5 (by decide) mw249 rfl rfl rfl (Nat.le_of_ble_eq_true rfl) dX9_advances_236 (ws' := (pMod cI cZ b (upA M 0 (upd (upd (upd (upd (M 0) 2 (nI (q + 1))) 3 (1 : Int32)) 4 (nI q)) 5 (ltA (M 1) z q))) tr)) rfl (fun H locs hW => ?_)
                exact hret _ _ _ _ _ hW rfl dX9_advances_239 (by rw [el, hst, ntP1, adT, adV, if_pos lt_44, if_pos lt_44, if_pos lt_44, if_pos h63, if_pos h63, if_pos h63, tcM, if_neg e200, if_pos e210] <;> rfl)
              · have e210 := c_210
                rw [el] at e210
                refine lv_iload_n hx hb dX9_advances_213 rfl (lv_at hl 0 rfl) ?_
                refine lv_bipush (v := (112 : Int32)) hx hb dX9_advances_214 rfl ?_
                refine lv_icmp_eq (tgt := 231) hx hb dX9_advances_216 rfl (fun c_216 => ?_) (fun c_216 => ?_)
                · have e216 := c_216
                  rw [el] at e216
                  refine lv_iconst (v := (1 : Int32)) hx hb dX9_advances_231 rfl ?_
                  refine lv_goto (tgt := 236) hx hb dX9_advances_232 rfl ?_
                  refine r_put Sx hW 0 rfl rfl bw_wsX90 tyX9_ok nmX9 5 (by decide) mw249 rfl rfl rfl (Nat.le_of_ble_eq_true rfl) dX9_advances_236 (ws' := (pMod cI cZ b (upA M 0 (upd (upd (upd (upd (M 0) 2 (nI (q + 1))) 3 (1 : Int32)) 4 (nI q)) 5 (ltA (M 1) z q))) tr)) rfl (fun H locs hW => ?_)
                  exact hret _ _ _ _ _ hW rfl dX9_advances_239 (by rw [el, hst, ntP1, adT, adV, if_pos lt_44, if_pos lt_44, if_pos lt_44, if_pos h63, if_pos h63, if_pos h63, tcM, if_neg e200, if_neg e210, if_pos e216] <;> rfl)
                · have e216 := c_216
                  rw [el] at e216
                  refine lv_iload_n hx hb dX9_advances_219 rfl (lv_at hl 0 rfl) ?_
                  refine lv_bipush (v := (113 : Int32)) hx hb dX9_advances_220 rfl ?_
                  refine lv_icmp_eq (tgt := 231) hx hb dX9_advances_222 rfl (fun c_222 => ?_) (fun c_222 => ?_)
                  · have e222 := c_222
                    rw [el] at e222
                    refine lv_iconst (v := (1 : Int32)) hx hb dX9_advances_231 rfl ?_
                    refine lv_goto (tgt := 236) hx hb dX9_advances_232 rfl ?_
                    refine r_put Sx hW 0 rfl rfl bw_wsX90 tyX9_ok nmX9 5 (by decide) mw249 rfl rfl rfl (Nat.le_of_ble_eq_true rfl) dX9_advances_236 (ws' := (pMod cI cZ b (upA M 0 (upd (upd (upd (upd (M 0) 2 (nI (q + 1))) 3 (1 : Int32)) 4 (nI q)) 5 (ltA (M 1) z q))) tr)) rfl (fun H locs hW => ?_)
                    exact hret _ _ _ _ _ hW rfl dX9_advances_239 (by rw [el, hst, ntP1, adT, adV, if_pos lt_44, if_pos lt_44, if_pos lt_44, if_pos h63, if_pos h63, if_pos h63, tcM, if_neg e200, if_neg e210, if_neg e216, if_pos e222] <;> rfl)
                  · have e222 := c_222
                    rw [el] at e222
                    refine lv_iload_n hx hb dX9_advances_225 rfl (lv_at hl 0 rfl) ?_
                    refine lv_bipush (v := (108 : Int32)) hx hb dX9_advances_226 rfl ?_
                    refine lv_icmp_ne (tgt := 235) hx hb dX9_advances_228 rfl (fun c_228 => ?_) (fun c_228 => ?_)
                    · have e228 := c_228
                      rw [el] at e228
                      refine lv_iconst (v := (4 : Int32)) hx hb dX9_advances_235 rfl ?_
                      refine r_put Sx hW 0 rfl rfl bw_wsX90 tyX9_ok nmX9 5 (by decide) mw249 rfl rfl rfl (Nat.le_of_ble_eq_true rfl) dX9_advances_236 (ws' := (pMod cI cZ b (upA M 0 (upd (upd (upd (upd (M 0) 2 (nI (q + 1))) 3 (4 : Int32)) 4 (nI q)) 5 (ltA (M 1) z q))) tr)) rfl (fun H locs hW => ?_)
                      exact hret _ _ _ _ _ hW rfl dX9_advances_239 (by rw [el, hst, ntP1, adT, adV, if_pos lt_44, if_pos lt_44, if_pos lt_44, if_pos h63, if_pos h63, if_pos h63, tcM, if_neg e200, if_neg e210, if_neg e216, if_neg e222, if_neg e228] <;> rfl)
                    · have e228 := c_228
                      rw [el] at e228
                      refine lv_iconst (v := (1 : Int32)) hx hb dX9_advances_231 rfl ?_
                      refine lv_goto (tgt := 236) hx hb dX9_advances_232 rfl ?_
                      refine r_put Sx hW 0 rfl rfl bw_wsX90 tyX9_ok nmX9 5 (by decide) mw249 rfl rfl rfl (Nat.le_of_ble_eq_true rfl) dX9_advances_236 (ws' := (pMod cI cZ b (upA M 0 (upd (upd (upd (upd (M 0) 2 (nI (q + 1))) 3 (1 : Int32)) 4 (nI q)) 5 (ltA (M 1) z q))) tr)) rfl (fun H locs hW => ?_)
                      exact hret _ _ _ _ _ hW rfl dX9_advances_239 (by rw [el, hst, ntP1, adT, adV, if_pos lt_44, if_pos lt_44, if_pos lt_44, if_pos h63, if_pos h63, if_pos h63, tcM, if_neg e200, if_neg e210, if_neg e216, if_neg e222, if_pos e228] <;> rfl)
            · have e200 := c_200
              rw [el] at e200
              refine lv_iconst (v := (3 : Int32)) hx hb dX9_advances_203 rfl ?_
              refine lv_goto (tgt := 236) hx hb dX9_advances_204 rfl ?_
              refine r_put Sx hW 0 rfl rfl bw_wsX90 tyX9_ok nmX9 5 (by decide) mw249 rfl rfl rfl (Nat.le_of_ble_eq_true rfl) dX9_advances_236 (ws' := (pMod cI cZ b (upA M 0 (upd (upd (upd (upd (M 0) 2 (nI (q + 1))) 3 (3 : Int32)) 4 (nI q)) 5 (ltA (M 1) z q))) tr)) rfl (fun H locs hW => ?_)
              exact hret _ _ _ _ _ hW rfl dX9_advances_239 (by rw [el, hst, ntP1, adT, adV, if_pos lt_44, if_pos lt_44, if_pos lt_44, if_pos h63, if_pos h63, if_pos h63, tcM, if_pos e200] <;> rfl)
          · have h63 : ¬ inI (M 1 q) 48 57 = 0 := by rw [el] at c_63; exact c_63
            refine lv_aload_n hx hb dX9_advances_66 rfl (lv_at hl 1 rfl) ?_
            refine lv_iconst (v := (0 : Int32)) hx hb dX9_advances_67 rfl ?_
            refine r_put Sx hW 0 rfl rfl bw_wsX90 tyX9_ok nmX9 7 (by decide) mw255 rfl rfl rfl (Nat.le_of_ble_eq_true rfl) dX9_advances_68 (ws' := (pMod cI cZ b (upA M 0 (upd (upd (upd (M 0) 2 (nI q)) 4 (nI q)) 5 (0 : Int32))) tr)) rfl (fun H locs hW => ?_)
            have lp_71 : ∀ (n : Nat) (e : Nat) (v : Int32), ((dgE (M 1) z (z - e) e = dgE (M 1) z (z - q) q)) → ((dvM (M 1) z (z - e) e v = dvM (M 1) z (z - q) q 0)) → ((q ≤ e)) → ((e ≤ z)) → ((z + 1 ≤ e + n)) → ∀ (H : Heap) (locs : List Loc) (ls : Array Slot), AtC D (tyG cI cZ cN) Ax (pMod cI cZ b (upA M 0 (upd (upd (upd (M 0) 2 (nI e)) 4 (nI q)) 5 v)) tr) sx H locs → lv_has ls 2 [(0, .ref (b 0)), (1, .int (ltA (M 1) z q))] → W pg l ev (rmN 1) sx mx ax bx mt cx H locs 0 0 Qx (F0 mx 71 ls []) := by
              intro n
              induction n with
              | zero =>
                intro e v he hv hqe hez hn2 H locs ls hW hl
                exact absurd hn2 (by omega)
              | succ n ih71 =>
                intro e v he hv hqe hez hn2 H locs ls hW hl
                refine lv_aload_n hx hb dX9_advances_71 rfl (lv_at hl 0 rfl) ?_
                refine lv_aload_n hx hb dX9_advances_72 rfl (lv_at hl 0 rfl) ?_
                refine r_get Sx hW 0 rfl rfl bw_wsX90 4 (by decide) (v := .int (nI e)) rfl mw247 dX9_advances_73 ?_
                refine callVI Sx hW (c_X9_letterAt l D cI cZ cN b (upA M 0 (upd (upd (upd (M 0) 2 (nI e)) 4 (nI q)) 5 v)) tr z hz hz2 e (by omega) ) vmX9_letterAt mw256 [0, 1, 2, 3, 4, 5, 6, 7, 8, 9, 10, 11, 12, 13, 14, 15, 16, 17] rfl (by decide) 0 rfl rfl (As := [.int (nI e)]) (rest := []) rfl rfl hl.1 (Nat.le_of_ble_eq_true rfl) ⟨Nat.le_of_ble_eq_true rfl, Nat.le_of_ble_eq_true rfl⟩ ⟨Nat.le_refl _, Nat.le_refl _⟩ dX9_advances_76 (fun rx wx H locs hqx hW => ?_)
                obtain ⟨hrx, rfl⟩ := hqx
                have hW : AtC D (tyG cI cZ cN) Ax (pMod cI cZ b (upA M 0 (upd (upd (upd (M 0) 2 (nI e)) 4 (nI q)) 5 v)) tr) sx H locs := hW.re [] 18 (by decide) rfl rfl trivial (by decide +kernel) rfl rfl
                refine r_eq (y := (ltA (M 1) z e)) hrx ?_
                refine lv_bipush (v := (48 : Int32)) hx hb dX9_advances_79 rfl ?_
                refine lv_bipush (v := (57 : Int32)) hx hb dX9_advances_81 rfl ?_
                refine callSI Sx hW (c_X9_in l D cI cZ cN (ltA (M 1) z e) (48 : Int32) (57 : Int32)) smX9_in mw146 (As := [.int (ltA (M 1) z e), .int (48 : Int32), .int (57 : Int32)]) (rest := []) rfl rfl hl.1 (Nat.le_of_ble_eq_true rfl) ⟨Nat.le_of_ble_eq_true rfl, Nat.le_of_ble_eq_true rfl⟩ ⟨Nat.le_refl _, Nat.le_refl _⟩ dX9_advances_83 (fun rx H locs hqx hW => ?_)
                obtain ⟨hrx, -⟩ := hqx
                refine r_eq (y := (inI (ltA (M 1) z e) (48 : Int32) (57 : Int32))) hrx ?_
                refine lv_if_eq (tgt := 141) hx hb dX9_advances_86 rfl (fun c_86 => ?_) (fun c_86 => ?_)
                · have he : dgE (M 1) z (z - q) q = e := by rw [← he]; exact dgE_stop _ _ _ _ (lt_ndg c_86)
                  have hv : dvM (M 1) z (z - q) q 0 = v := by rw [← hv]; exact dvM_stop _ _ _ _ _ (lt_ndg c_86)
                  refine lv_aload_n hx hb dX9_advances_141 rfl (lv_at hl 0 rfl) ?_
                  refine lv_aload_n hx hb dX9_advances_142 rfl (lv_at hl 0 rfl) ?_
                  refine r_get Sx hW 0 rfl rfl bw_wsX90 7 (by decide) (v := .int v) rfl mw255 dX9_advances_143 ?_
                  refine lv_bipush (v := (99 : Int32)) hx hb dX9_advances_146 rfl ?_
                  refine lv_icmp_gt (tgt := 170) hx hb dX9_advances_148 rfl (fun c_148 => ?_) (fun c_148 => ?_)
                  · refine lv_iconst (v := (4 : Int32)) hx hb dX9_advances_170 rfl ?_
                    refine lv_goto (tgt := 175) hx hb dX9_advances_171 rfl ?_
                    refine r_put Sx hW 0 rfl rfl bw_wsX90 tyX9_ok nmX9 5 (by decide) mw249 rfl rfl rfl (Nat.le_of_ble_eq_true rfl) dX9_advances_175 (ws' := (pMod cI cZ b (upA M 0 (upd (upd (upd (upd (M 0) 2 (nI e)) 3 (4 : Int32)) 4 (nI q)) 5 v)) tr)) rfl (fun H locs hW => ?_)
                    refine lv_goto (tgt := 239) hx hb dX9_advances_178 rfl ?_
                    exact hret _ _ _ _ _ hW rfl dX9_advances_239 (by rw [hst, ntP1, adT, adV, if_pos lt_44, if_pos lt_44, if_pos lt_44, if_neg h63, if_neg h63, if_neg h63, he, hv, tkM, if_pos c_148] <;> rfl)
                  · refine lv_iload_n hx hb dX9_advances_151 rfl (lv_at hl 1 rfl) ?_
                    refine lv_bipush (v := (48 : Int32)) hx hb dX9_advances_152 rfl ?_
                    refine lv_icmp_ne (tgt := 174) hx hb dX9_advances_154 rfl (fun c_154 => ?_) (fun c_154 => ?_)
                    · have e154 := c_154
                      rw [el] at e154
                      refine lv_iconst (v := (2 : Int32)) hx hb dX9_advances_174 rfl ?_
                      refine r_put Sx hW 0 rfl rfl bw_wsX90 tyX9_ok nmX9 5 (by decide) mw249 rfl rfl rfl (Nat.le_of_ble_eq_true rfl) dX9_advances_175 (ws' := (pMod cI cZ b (upA M 0 (upd (upd (upd (upd (M 0) 2 (nI e)) 3 (2 : Int32)) 4 (nI q)) 5 v)) tr)) rfl (fun H locs hW => ?_)
                      refine lv_goto (tgt := 239) hx hb dX9_advances_178 rfl ?_
                      exact hret _ _ _ _ _ hW rfl dX9_advances_239 (by rw [hst, ntP1, adT, adV, if_pos lt_44, if_pos lt_44, if_pos lt_44, if_neg h63, if_neg h63, if_neg h63, he, hv, tkM, if_neg c_148, if_neg e154] <;> rfl)
                    · have e154 := c_154
                      rw [el] at e154
                      refine lv_aload_n hx hb dX9_advances_157 rfl (lv_at hl 0 rfl) ?_
                      refine r_get Sx hW 0 rfl rfl bw_wsX90 4 (by decide) (v := .int (nI e)) rfl mw247 dX9_advances_158 ?_
                      refine lv_aload_n hx hb dX9_advances_161 rfl (lv_at hl 0 rfl) ?_
                      refine r_get Sx hW 0 rfl rfl bw_wsX90 6 (by decide) (v := .int (nI q)) rfl mw254 dX9_advances_162 ?_
                      refine lv_isub hx hb dX9_advances_165 ?_
                      refine r_eq (y := (nI (e - q))) (pk_sub (a := e) (b := q) hqe) ?_
                      refine lv_iconst (v := (1 : Int32)) hx hb dX9_advances_166 rfl ?_
                      refine lv_icmp_le (tgt := 174) hx hb dX9_advances_167 rfl (fun c_167 => ?_) (fun c_167 => ?_)
                      · refine lv_iconst (v := (2 : Int32)) hx hb dX9_advances_174 rfl ?_
                        refine r_put Sx hW 0 rfl rfl bw_wsX90 tyX9_ok nmX9 5 (by decide) mw249 rfl rfl rfl (Nat.le_of_ble_eq_true rfl) dX9_advances_175 (ws' := (pMod cI cZ b (upA M 0 (upd (upd (upd (upd (M 0) 2 (nI e)) 3 (2 : Int32)) 4 (nI q)) 5 v)) tr)) rfl (fun H locs hW => ?_)
                        refine lv_goto (tgt := 239) hx hb dX9_advances_178 rfl ?_
                        exact hret _ _ _ _ _ hW rfl dX9_advances_239 (by rw [hst, ntP1, adT, adV, if_pos lt_44, if_pos lt_44, if_pos lt_44, if_neg h63, if_neg h63, if_neg h63, he, hv, tkM, if_neg c_148, if_pos e154, if_pos c_167] <;> rfl)
                      · refine lv_iconst (v := (4 : Int32)) hx hb dX9_advances_170 rfl ?_
                        refine lv_goto (tgt := 175) hx hb dX9_advances_171 rfl ?_
                        refine r_put Sx hW 0 rfl rfl bw_wsX90 tyX9_ok nmX9 5 (by decide) mw249 rfl rfl rfl (Nat.le_of_ble_eq_true rfl) dX9_advances_175 (ws' := (pMod cI cZ b (upA M 0 (upd (upd (upd (upd (M 0) 2 (nI e)) 3 (4 : Int32)) 4 (nI q)) 5 v)) tr)) rfl (fun H locs hW => ?_)
                        refine lv_goto (tgt := 239) hx hb dX9_advances_178 rfl ?_
                        exact hret _ _ _ _ _ hW rfl dX9_advances_239 (by rw [hst, ntP1, adT, adV, if_pos lt_44, if_pos lt_44, if_pos lt_44, if_neg h63, if_neg h63, if_neg h63, he, hv, tkM, if_neg c_148, if_pos e154, if_neg c_167] <;> rfl)
                · have lt_86 := (lt_dg c_86).1
                  have ee86 : ltA (M 1) z e = M 1 e := if_neg (by omega)
                  refine lv_aload_n hx hb dX9_advances_89 rfl (lv_at hl 0 rfl) ?_
                  refine lv_aload_n hx hb dX9_advances_90 rfl (lv_at hl 0 rfl) ?_
                  refine r_get Sx hW 0 rfl rfl bw_wsX90 7 (by decide) (v := .int v) rfl mw255 dX9_advances_91 ?_
                  refine lv_bipush (v := (99 : Int32)) hx hb dX9_advances_94 rfl ?_
                  refine lv_icmp_le (tgt := 106) hx hb dX9_advances_96 rfl (fun c_96 => ?_) (fun c_96 => ?_)
                  · refine lv_bipush (v := (10 : Int32)) hx hb dX9_advances_106 rfl ?_
                    refine lv_aload_n hx hb dX9_advances_108 rfl (lv_at hl 0 rfl) ?_
                    refine r_get Sx hW 0 rfl rfl bw_wsX90 7 (by decide) (v := .int v) rfl mw255 dX9_advances_109 ?_
                    refine lv_imul hx hb dX9_advances_112 ?_
                    refine lv_aload_n hx hb dX9_advances_113 rfl (lv_at hl 0 rfl) ?_
                    refine lv_aload_n hx hb dX9_advances_114 rfl (lv_at hl 0 rfl) ?_
                    refine r_get Sx hW 0 rfl rfl bw_wsX90 4 (by decide) (v := .int (nI e)) rfl mw247 dX9_advances_115 ?_
                    refine callVI Sx hW (c_X9_letterAt l D cI cZ cN b (upA M 0 (upd (upd (upd (M 0) 2 (nI e)) 4 (nI q)) 5 v)) tr z hz hz2 e (by omega) ) vmX9_letterAt mw256 [0, 1, 2, 3, 4, 5, 6, 7, 8, 9, 10, 11, 12, 13, 14, 15, 16, 17] rfl (by decide) 0 rfl rfl (As := [.int (nI e)]) (rest := [.int ((10 : Int32) * v), .ref (b 0)]) rfl rfl hl.1 (Nat.le_of_ble_eq_true rfl) ⟨Nat.le_of_ble_eq_true rfl, Nat.le_of_ble_eq_true rfl⟩ ⟨Nat.le_refl _, Nat.le_refl _⟩ dX9_advances_118 (fun rx wx H locs hqx hW => ?_)
                    obtain ⟨hrx, rfl⟩ := hqx
                    have hW : AtC D (tyG cI cZ cN) Ax (pMod cI cZ b (upA M 0 (upd (upd (upd (M 0) 2 (nI e)) 4 (nI q)) 5 v)) tr) sx H locs := hW.re [] 18 (by decide) rfl rfl trivial (by decide +kernel) rfl rfl
                    refine r_eq (y := (ltA (M 1) z e)) hrx ?_
                    refine r_eq (y := (M 1 e)) ee86 ?_
                    refine lv_iadd hx hb dX9_advances_121 ?_
                    refine lv_bipush (v := (48 : Int32)) hx hb dX9_advances_122 rfl ?_
                    refine lv_isub hx hb dX9_advances_124 ?_
                    refine r_put Sx hW 0 rfl rfl bw_wsX90 tyX9_ok nmX9 7 (by decide) mw255 rfl rfl rfl (Nat.le_of_ble_eq_true rfl) dX9_advances_125 (ws' := (pMod cI cZ b (upA M 0 (upd (upd (upd (M 0) 2 (nI e)) 4 (nI q)) 5 ((((10 : Int32) * v) + (M 1 e)) - (48 : Int32)))) tr)) rfl (fun H locs hW => ?_)
                    refine lv_aload_n hx hb dX9_advances_128 rfl (lv_at hl 0 rfl) ?_
                    refine lv_dup hx hb dX9_advances_129 rfl ?_
                    refine r_get Sx hW 0 rfl rfl bw_wsX90 4 (by decide) (v := .int (nI e)) rfl mw247 dX9_advances_130 ?_
                    refine lv_iconst (v := (1 : Int32)) hx hb dX9_advances_133 rfl ?_
                    refine lv_iadd hx hb dX9_advances_134 ?_
                    refine r_eq (y := (nI (e + 1))) (nI_add e 1) ?_
                    refine r_put Sx hW 0 rfl rfl bw_wsX90 tyX9_ok nmX9 4 (by decide) mw247 rfl rfl rfl (Nat.le_of_ble_eq_true rfl) dX9_advances_135 (ws' := (pMod cI cZ b (upA M 0 (upd (upd (upd (M 0) 2 (nI (e + 1))) 4 (nI q)) 5 ((((10 : Int32) * v) + (M 1 e)) - (48 : Int32)))) tr)) rfl (fun H locs hW => ?_)
                    refine lv_goto (tgt := 71) hx hb dX9_advances_138 rfl ?_
                    exact ih71 (e + 1) ((10 : Int32) * v + M 1 e - (48 : Int32)) (by rw [← he, show z - e = (z - (e + 1)) + 1 from by have := (lt_dg c_86).1; omega, dgE, if_pos (lt_dg c_86)]) (by rw [← hv, show z - e = (z - (e + 1)) + 1 from by have := (lt_dg c_86).1; omega, dvM, if_pos (lt_dg c_86), if_pos c_96]) (by omega) (by have := (lt_dg c_86).1; omega) (by omega) _ _ _ hW (lv_sub hl [0, 1] rfl)
                  · refine lv_aload_n hx hb dX9_advances_99 rfl (lv_at hl 0 rfl) ?_
                    refine r_get Sx hW 0 rfl rfl bw_wsX90 7 (by decide) (v := .int v) rfl mw255 dX9_advances_100 ?_
                    refine lv_goto (tgt := 125) hx hb dX9_advances_103 rfl ?_
                    refine r_put Sx hW 0 rfl rfl bw_wsX90 tyX9_ok nmX9 7 (by decide) mw255 rfl rfl rfl (Nat.le_of_ble_eq_true rfl) dX9_advances_125 (ws' := (pMod cI cZ b (upA M 0 (upd (upd (upd (M 0) 2 (nI e)) 4 (nI q)) 5 v)) tr)) rfl (fun H locs hW => ?_)
                    refine lv_aload_n hx hb dX9_advances_128 rfl (lv_at hl 0 rfl) ?_
                    refine lv_dup hx hb dX9_advances_129 rfl ?_
                    refine r_get Sx hW 0 rfl rfl bw_wsX90 4 (by decide) (v := .int (nI e)) rfl mw247 dX9_advances_130 ?_
                    refine lv_iconst (v := (1 : Int32)) hx hb dX9_advances_133 rfl ?_
                    refine lv_iadd hx hb dX9_advances_134 ?_
                    refine r_eq (y := (nI (e + 1))) (nI_add e 1) ?_
                    refine r_put Sx hW 0 rfl rfl bw_wsX90 tyX9_ok nmX9 4 (by decide) mw247 rfl rfl rfl (Nat.le_of_ble_eq_true rfl) dX9_advances_135 (ws' := (pMod cI cZ b (upA M 0 (upd (upd (upd (M 0) 2 (nI (e + 1))) 4 (nI q)) 5 v)) tr)) rfl (fun H locs hW => ?_)
                    refine lv_goto (tgt := 71) hx hb dX9_advances_138 rfl ?_
                    exact ih71 (e + 1) v (by rw [← he, show z - e = (z - (e + 1)) + 1 from by have := (lt_dg c_86).1; omega, dgE, if_pos (lt_dg c_86)]) (by rw [← hv, show z - e = (z - (e + 1)) + 1 from by have := (lt_dg c_86).1; omega, dvM, if_pos (lt_dg c_86), if_neg c_96]) (by omega) (by have := (lt_dg c_86).1; omega) (by omega) _ _ _ hW (lv_sub hl [0, 1] rfl)
            exact lp_71 (z + 1) q 0 rfl rfl (by omega) (by omega) (by omega) _ _ _ hW (lv_sub hl [1, 0] rfl)
        · have nlt_44 : ¬ q < z := fun h => c_44 (by rw [ltA, if_neg (by omega)]; exact hl0 q h)
          refine lv_aload_n hx hb dX9_advances_47 rfl (lv_at hl 1 rfl) ?_
          refine lv_iconst (v := (0 : Int32)) hx hb dX9_advances_48 rfl ?_
          refine r_put Sx hW 0 rfl rfl bw_wsX90 tyX9_ok nmX9 5 (by decide) mw249 rfl rfl rfl (Nat.le_of_ble_eq_true rfl) dX9_advances_49 (ws' := (pMod cI cZ b (upA M 0 (upd (upd (upd (M 0) 2 (nI q)) 3 (0 : Int32)) 4 (nI q))) tr)) rfl (fun H locs hW => ?_)
          refine lv_goto (tgt := 239) hx hb dX9_advances_52 rfl ?_
          exact hret _ _ _ _ _ hW rfl dX9_advances_239 (by rw [hst, ntP1, adT, adV, if_neg nlt_44, if_neg nlt_44, if_neg nlt_44]; exact ad_same _ _ _ _ _)
      · refine lv_aload_n hx hb dX9_advances_13 rfl (lv_at hl 0 rfl) ?_
        refine lv_dup hx hb dX9_advances_14 rfl ?_
        refine r_get Sx hW 0 rfl rfl bw_wsX90 4 (by decide) (v := .int (nI q)) rfl mw247 dX9_advances_15 ?_
        refine lv_iconst (v := (1 : Int32)) hx hb dX9_advances_18 rfl ?_
        refine lv_iadd hx hb dX9_advances_19 ?_
        refine r_eq (y := (nI (q + 1))) (nI_add q 1) ?_
        refine r_put Sx hW 0 rfl rfl bw_wsX90 tyX9_ok nmX9 4 (by decide) mw247 rfl rfl rfl (Nat.le_of_ble_eq_true rfl) dX9_advances_20 (ws' := (pMod cI cZ b (upA M 0 (upd (M 0) 2 (nI (q + 1)))) tr)) rfl (fun H locs hW => ?_)
        refine lv_goto (tgt := 0) hx hb dX9_advances_23 rfl ?_
        exact ih0 (q + 1) (by rw [← hs, show z - q = (z - (q + 1)) + 1 from by have := (lt_32 c_10).1; omega, skB, if_pos (lt_32 c_10)]) (by have := (lt_32 c_10).1; omega) (by omega) _ _ _ hW (lv_sub hl [0] rfl)
  have hW_1 := hW.cong (ws' := (pMod cI cZ b (upA M 0 (upd (M 0) 2 (nI p))) tr)) (by first | (rw [show (upA M 0 (upd (M 0) 2 (nI p))) = M from (upA_same hp)]; done) | (rw [show (upA M 0 (upd (M 0) 2 (nI p))) = M from (upA_same hp)]; rfl))
  exact lp_0 (z + 1) p rfl (by omega) (by omega) _ _ _ hW_1 (lv_sub hl [0] rfl)

def pM (M : NV) : Nat := (M 0 2).toNatClampNeg
def adM (z : Nat) (M : NV) : NV := upA M 0 (upd (upd (upd (upd (M 0) 2 (nI (ntP1 (M 1) z (skB (M 1) z (z - pM M) (pM M))))) 3 (adT (M 1) z (skB (M 1) z (z - pM M) (pM M)))) 4 (nI (skB (M 1) z (z - pM M) (pM M)))) 5 (adV (M 1) z (skB (M 1) z (z - pM M) (pM M)) (M 0 5)))
def wfm (z : Nat) (M : NV) : Prop := M 0 1 = nI z ∧ lOk (M 1) z ∧ M 0 2 = nI (pM M) ∧ pM M ≤ z
def tkI (M : NV) (is : Int32) : Int32 := if M 0 6 < 0 then (if is = 0 then 0 else M 0 5) else 0
def tkS (z : Nat) (M : NV) (is : Int32) : NV := if M 0 6 < 0 then (if is = 0 then upA M 0 (upd (M 0) 6 (M 0 4)) else adM z M) else M
def nuB (M : NV) (lo hi : Int32) : Int32 := if M 0 3 = 2 then inI (M 0 5) lo hi else 0
theorem wfm_ad {z : Nat} {M : NV} (hz : z ≤ 200) (h : wfm z M) : wfm z (adM z M) := by
  obtain ⟨h1, h2, h3, h4⟩ := h
  have hl := ntP1_le (M 1) z _ (skB_le (M 1) z (z - pM M) (pM M) h4).2
  have e : pM (adM z M) = ntP1 (M 1) z (skB (M 1) z (z - pM M) (pM M)) := nI_clamp (by omega)
  exact ⟨h1, h2, by rw [e]; rfl, by rw [e]; exact hl⟩
theorem wfm_tk {z : Nat} {M : NV} {is : Int32} (hz : z ≤ 200) (h : wfm z M) : wfm z (tkS z M is) := by
  unfold tkS
  split
  · split
    · exact h
    · exact wfm_ad hz h
  · exact h
theorem tkS_row (z : Nat) (M : NV) (is : Int32) {c : Nat} (hc : c ≠ 0) : tkS z M is c = M c := by
  have hb : Nat.beq c 0 = false := by cases c; exact absurd rfl hc; rfl
  unfold tkS adM
  split
  · split <;> (unfold upA; rw [hb]; rfl)
  · rfl
theorem tkS_lt (z : Nat) (M : NV) (is : Int32) : tkS z M is 0 7 = M 0 7 ∧ tkS z M is 0 1 = M 0 1 ∧ tkS z M is 0 0 = M 0 0 := by
  unfold tkS adM
  split
  · split <;> exact ⟨rfl, rfl, rfl⟩
  · exact ⟨rfl, rfl, rfl⟩

set_option maxHeartbeats 4000000 in
set_option maxRecDepth 100000 in
theorem c_X9_isWell (l : Launch) (D : va_G) (cI cZ cN : ClassId) (b : Nat → Nat) (M : NV) (tr : Int64) : CtI l yX9_isWell cX9_isWell 1 (some .boolean) 0 D (tyG cI cZ cN) [.ref (b 0)] (pMod cI cZ b M tr) (fun r w => r = (if M 0 6 < 0 then 1 else 0) ∧ w = (pMod cI cZ b M tr)) := by
  refine CtI.of rfl (Nat.le_of_ble_eq_true rfl) ?_
  intro pg ev sx mx ax bx mt cx ls Qx Ax Sx hret hW hl
  have hx := Sx.1
  have hb := Sx.2.1
  have hl : lv_has ls 1 [(0, .ref (b 0))] := hl
  refine lv_aload_n hx hb dX9_isWell_0 rfl (lv_at hl 0 rfl) ?_
  refine r_get Sx hW 0 rfl rfl bw_wsX90 8 (by decide) (v := .int (M 0 6)) rfl mw246 dX9_isWell_1 ?_
  refine lv_if_ge (tgt := 11) hx hb dX9_isWell_4 rfl (fun c_4 => ?_) (fun c_4 => ?_)
  · refine lv_iconst (v := (0 : Int32)) hx hb dX9_isWell_11 rfl ?_
    exact hret _ _ _ _ _ _ hW rfl rfl dX9_isWell_12 (⟨by rw [if_neg (fun h => absurd c_4 (Int32.not_le.mpr h))], rfl⟩)
  · refine lv_iconst (v := (1 : Int32)) hx hb dX9_isWell_7 rfl ?_
    refine lv_goto (tgt := 12) hx hb dX9_isWell_8 rfl ?_
    exact hret _ _ _ _ _ _ hW rfl rfl dX9_isWell_12 (⟨by rw [if_pos (Int32.not_le.mp c_4)], rfl⟩)

theorem wl_1 {c : Prop} [Decidable c] (h : ¬ (if c then (1 : Int32) else 0) = 0) : c := by
  by_cases hc : c
  · exact hc
  · simp [hc] at h
theorem wl_0 {c : Prop} [Decidable c] (h : (if c then (1 : Int32) else 0) = 0) : ¬ c := by intro hc; simp [hc] at h

set_option maxHeartbeats 4000000 in
set_option maxRecDepth 100000 in
theorem c_X9_takes (l : Launch) (D : va_G) (cI cZ cN : ClassId) (b : Nat → Nat) (M : NV) (tr : Int64) (z : Nat) (hz2 : z ≤ 200) (hw : wfm z M) (is : Int32) : CtI l yX9_takes cX9_takes 3 (some .int) 2 D (tyG cI cZ cN) [.ref (b 0), .int is] (pMod cI cZ b M tr) (fun r w => r = tkI M is ∧ w = (pMod cI cZ b (tkS z M is) tr)) := by
  refine CtI.of rfl (Nat.le_of_ble_eq_true rfl) ?_
  intro pg ev sx mx ax bx mt cx ls Qx Ax Sx hret hW hl
  have hx := Sx.1
  have hb := Sx.2.1
  have hl : lv_has ls 3 [(0, .ref (b 0)), (1, .int is)] := hl
  refine lv_aload_n hx hb dX9_takes_0 rfl (lv_at hl 0 rfl) ?_
  refine callVI Sx hW (c_X9_isWell l D cI cZ cN b M tr) vmX9_isWell mw260 [0, 1, 2, 3, 4, 5, 6, 7, 8, 9, 10, 11, 12, 13, 14, 15, 16, 17] rfl (by decide) 0 rfl rfl (As := []) (rest := []) rfl rfl hl.1 (Nat.le_of_ble_eq_true rfl) ⟨Nat.le_of_ble_eq_true rfl, Nat.le_of_ble_eq_true rfl⟩ ⟨Nat.le_refl _, Nat.le_refl _⟩ dX9_takes_1 (fun rx wx H locs hqx hW => ?_)
  obtain ⟨hrx, rfl⟩ := hqx
  have hW : AtC D (tyG cI cZ cN) Ax (pMod cI cZ b M tr) sx H locs := hW.re [] 18 (by decide) rfl rfl trivial (by decide +kernel) rfl rfl
  refine r_eq (y := (if (M 0 6) < 0 then (1 : Int32) else 0)) hrx ?_
  refine lv_if_ne (tgt := 9) hx hb dX9_takes_4 rfl (fun c_4 => ?_) (fun c_4 => ?_)
  · have c_4 := wl_1 c_4
    refine lv_iload_n hx hb dX9_takes_9 rfl (lv_at hl 1 rfl) ?_
    refine lv_if_ne (tgt := 23) hx hb dX9_takes_10 rfl (fun c_10 => ?_) (fun c_10 => ?_)
    · refine lv_aload_n hx hb dX9_takes_23 rfl (lv_at hl 0 rfl) ?_
      refine r_get Sx hW 0 rfl rfl bw_wsX90 7 (by decide) (v := .int (M 0 5)) rfl mw255 dX9_takes_24 ?_
      refine lv_istore_n (lv' := [(2, .int (M 0 5)), (0, .ref (b 0)), (1, .int is)]) hx hb dX9_takes_27 rfl hl (by decide) rfl (fun ls hl => ?_)
      refine lv_aload_n hx hb dX9_takes_28 rfl (lv_at hl 1 rfl) ?_
      refine callVV Sx hW (c_X9_advances l D cI cZ cN b M tr z hw.1 hz2 hw.2.1 (pM M) hw.2.2.1 hw.2.2.2) vmX9_advances mw250 [0, 1, 2, 3, 4, 5, 6, 7, 8, 9, 10, 11, 12, 13, 14, 15, 16, 17] rfl (by decide) 0 rfl rfl (As := []) (rest := []) rfl rfl hl.1 (Nat.le_of_ble_eq_true rfl) ⟨Nat.le_of_ble_eq_true rfl, Nat.le_of_ble_eq_true rfl⟩ ⟨Nat.le_refl _, Nat.le_refl _⟩ dX9_takes_29 (fun wx H locs hqx hW => ?_)
      obtain rfl := hqx
      have hW : AtC D (tyG cI cZ cN) Ax (pMod cI cZ b (adM z M) tr) sx H locs := hW.re [] 18 (by decide) rfl rfl trivial (by decide +kernel) rfl rfl
      refine lv_iload_n hx hb dX9_takes_32 rfl (lv_at hl 0 rfl) ?_
      exact hret _ _ _ _ _ _ hW rfl rfl dX9_takes_33 (⟨by rw [tkI, if_pos c_4, if_neg c_10], by rw [tkS, if_pos c_4, if_neg c_10] <;> rfl⟩)
    · refine lv_aload_n hx hb dX9_takes_13 rfl (lv_at hl 0 rfl) ?_
      refine lv_aload_n hx hb dX9_takes_14 rfl (lv_at hl 0 rfl) ?_
      refine r_get Sx hW 0 rfl rfl bw_wsX90 6 (by decide) (v := .int (M 0 4)) rfl mw254 dX9_takes_15 ?_
      refine r_put Sx hW 0 rfl rfl bw_wsX90 tyX9_ok nmX9 8 (by decide) mw246 rfl rfl rfl (Nat.le_of_ble_eq_true rfl) dX9_takes_18 (ws' := (pMod cI cZ b (upA M 0 (upd (M 0) 6 (M 0 4))) tr)) rfl (fun H locs hW => ?_)
      refine lv_iconst (v := (0 : Int32)) hx hb dX9_takes_21 rfl ?_
      exact hret _ _ _ _ _ _ hW rfl rfl dX9_takes_22 (⟨by rw [tkI, if_pos c_4, if_pos c_10], by rw [tkS, if_pos c_4, if_pos c_10] <;> rfl⟩)
  · have c_4 := wl_0 c_4
    refine lv_iconst (v := (0 : Int32)) hx hb dX9_takes_7 rfl ?_
    exact hret _ _ _ _ _ _ hW rfl rfl dX9_takes_8 (⟨by rw [tkI, if_neg c_4], by rw [tkS, if_neg c_4] <;> rfl⟩)
