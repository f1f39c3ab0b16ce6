/-! OneJohnModel: its calls -/
def peM (r bi : Nat → Int32) (N : Nat) (wh : Int32) (P : Nat) : Int32 := if inI wh 0 7 = 0 then -1 else if 4 ≤ wh then (if wh = 4 then liM r N P else if wh = 5 then r (14 + P) else if wh = 6 then fmM r N P else txM r N P) else (if wh = 0 then r P else if wh = 1 then r (7 + P) else if wh = 2 then bi P else ((r 21 >>> (nI P &&& 31)) &&& 1))
def cpA (f g : Nat → Int32) : Nat → (Nat → Int32)
  | 0 => f
  | k + 1 => upd (cpA f g k) k (g k)
def cpO (f g : Nat → Int32) (o : Nat) : Nat → (Nat → Int32)
  | 0 => f
  | k + 1 => upd (cpO f g o k) (o + k) (g k)
def cpR (f g : Nat → Int32) (o : Nat) : Nat → (Nat → Int32)
  | 0 => f
  | k + 1 => upd (cpR f g o k) k (g (o + k))
def shF (f : Nat → Int32) : Nat → (Nat → Int32)
  | 0 => f
  | k + 1 => upd (shF f k) k (shF f k (k + 25))
def tbW (w s : Nat → Int32) (P : Nat) (k : Int32) : Nat → Int32 := upd (cpA w s 25) P k
def coM (s w : Nat → Int32) (N P : Nat) : Nat → Int32 × (Nat → Int32)
  | 0 => (0, w)
  | j + 1 => (if txM (tbW (coM s w N P j).2 s P (nI (j + 1))) N P < txM (tbW (tbW (coM s w N P j).2 s P (nI (j + 1))) s P (coM s w N P j).1) N P then nI (j + 1) else (coM s w N P j).1, tbW (tbW (coM s w N P j).2 s P (nI (j + 1))) s P (coM s w N P j).1)
def rsM (s w : Nat → Int32) (N C : Nat) : Nat → Int32 × (Nat → Int32)
  | 0 => (0, w)
  | i + 1 => ((rsM s w N C i).1 ||| (if txM s N i ≤ txM (tbW (coM s (rsM s w N C i).2 N i (C - 1)).2 s i (coM s (rsM s w N C i).2 N i (C - 1)).1) N i then 0 else ((1 : Int32) <<< (nI i &&& 31))), tbW (coM s (rsM s w N C i).2 N i (C - 1)).2 s i (coM s (rsM s w N C i).2 N i (C - 1)).1)
def noU (U s : Nat → Int32) (u : Nat) : Nat → Int32 := if u = 10 then cpO (shF U 225) s (25 * 9) 25 else cpO U s (25 * u) 25
def noN (u : Nat) : Nat := if u = 10 then 9 + 1 else u + 1
def nwM (r qu w : Nat → Int32) (N C u : Nat) (wh : Int32) : Int32 := if inI wh 0 7 = 0 then -1 else if 3 ≤ wh then (if wh = 3 then lgM r N N else if wh = 4 then boM r qu N N / 2 else if wh = 5 then aloM r N N else if wh = 6 then (rsM r w N C N).1 else nI u) else (if wh = 0 then r 24 else if wh = 1 then r 23 else r 22)
def nwW (r w : Nat → Int32) (N C : Nat) (wh : Int32) : Nat → Int32 := if inI wh 0 7 = 0 then w else if 3 ≤ wh then (if wh = 3 then w else if wh = 4 then w else if wh = 5 then w else if wh = 6 then (rsM r w N C N).2 else w) else w
def biM (r bi : Nat → Int32) (N C : Nat) (b wh : Int32) : Int32 := if inI b 0 4 = 0 then -1 else if inI wh 0 3 = 0 then -1 else if wh = 0 then voM r bi N C b (evM N) 1 else if wh = 1 then voM r bi N C b (evM N) (-1) else if wh = 2 then psM r bi N C b (evM N) else swM r bi N C b C
def paR (x y : Nat) (wh : Int32) : Int32 := if wh = 0 then nI x / nI (Nat.gcd x y) else nI y / nI (Nat.gcd x y)
def naM (r : Nat → Int32) (N C : Nat) (k wh : Int32) : Int32 := if inI k 0 (nI C - 1) = 0 then -1 else if inI wh 0 2 = 0 then -1 else if wh = 0 then ppO r k N else if ppO r k N = 0 then wh - 1 else paR (smO r 7 (ppO r k N) N).toNatClampNeg (onI (ppO r k N) 7).toNatClampNeg (wh - 1)
def wOk (r : Nat → Int32) : Prop := ∀ i, i < 7 → ∃ w : Nat, w ≤ 999 ∧ r (7 + i) = nI w
theorem sm_nat {r : Nat → Int32} (h : wOk r) (g : Int32) : ∀ n, n ≤ 7 → ∃ s : Nat, s ≤ 999 * n ∧ smO r 7 g n = nI s
  | 0, _ => ⟨0, Nat.le_refl _, rfl⟩
  | n + 1, hn => by
    obtain ⟨s, hs, e⟩ := sm_nat h g n (by omega)
    obtain ⟨w, hw, ew⟩ := h n (by omega)
    rw [smO, e]
    split
    · exact ⟨s + w, by omega, by rw [ew, nI_add]⟩
    · exact ⟨s, by omega, by rw [Int32.add_zero]⟩
theorem pc_pos2 : ∀ m, m < 128 → m ≠ 0 → 0 < pcN m := by decide +kernel
theorem on_nat2 {f : Nat → Int32} {k : Int32} {N : Nat} (hN : N ≤ 7) (h : ¬ ppO f k N = 0) : ∃ o : Nat, 0 < o ∧ o ≤ 7 ∧ onI (ppO f k N) 7 = nI o := by
  rw [ppO_nat f k N hN] at h ⊢
  have hl := lt128 (mkN_lt f k N) hN
  exact ⟨_, pc_pos2 _ hl (fun e => h (by rw [e]; rfl)), pc_le _, on_nat _ hl⟩

set_option maxHeartbeats 4000000 in
set_option maxRecDepth 100000 in
theorem c_X9_quarrels (l : Launch) (D : va_G) (cI cZ cN : ClassId) (b : Nat → Nat) (M : NV) (tr : Int64) (N C : Nat) (hN : M 2 1 = nI N) (hN7 : N ≤ 7) (hC : M 2 0 = nI C) (hC4 : C ≤ 4) (hC1 : 1 ≤ C) (p0 : Int32) : CtI l yX9_quarrels cX9_quarrels 2 (some .int) 2 D (tyG cI cZ cN) [.ref (b 0), .int p0] (pMod cI cZ b M tr) (fun r w => r = opP N p0 (M 6) ∧ w = (pMod cI cZ b (upA M 0 (upd (M 0) 0 (0 : Int32))) tr)) := by
  refine CtI.of rfl (Nat.le_of_ble_eq_true rfl) ?_
  intro pg ev sx mx ax bx mt cx ls Qx Ax Sx hret hW hl
  have hx := Sx.1
  have hb := Sx.2.1
  have hl : lv_has ls 2 [(0, .ref (b 0)), (1, .int p0)] := hl
  refine lv_aload_n hx hb dX9_quarrels_0 rfl (lv_at hl 0 rfl) ?_
  refine lv_iconst (v := (0 : Int32)) hx hb dX9_quarrels_1 rfl ?_
  refine r_put Sx hW 0 rfl rfl bw_wsX90 tyX9_ok nmX9 0 (by decide) mw144 rfl rfl rfl (Nat.le_of_ble_eq_true rfl) dX9_quarrels_2 (ws' := (pMod cI cZ b (upA M 0 (upd (M 0) 0 (0 : Int32))) tr)) rfl (fun H locs hW => ?_)
  refine lv_aload_n hx hb dX9_quarrels_5 rfl (lv_at hl 0 rfl) ?_
  refine lv_iload_n hx hb dX9_quarrels_6 rfl (lv_at hl 1 rfl) ?_
  refine callVI Sx hW (c_X9_isPerson l D cI cZ cN b (upA M 0 (upd (M 0) 0 (0 : Int32))) tr N C hN hN7 hC hC4 hC1 p0 ) vmX9_isPerson mw347 [0, 1, 2, 3, 4, 5, 6, 7, 8, 9, 10, 11, 12, 13, 14, 15, 16, 17] rfl (by decide) 0 rfl rfl (As := [.int p0]) (rest := []) rfl rfl hl.1 (Nat.le_of_ble_eq_true rfl) ⟨Nat.le_of_ble_eq_true rfl, Nat.le_of_ble_eq_true rfl⟩ ⟨Nat.le_refl _, Nat.le_refl _⟩ dX9_quarrels_7 (fun rx wx H locs hqx hW => ?_)
  obtain ⟨hrx, rfl⟩ := hqx
  have hW : AtC D (tyG cI cZ cN) Ax (pMod cI cZ b (upA M 0 (upd (M 0) 0 (0 : Int32))) tr) sx H locs := hW.re [] 18 (by decide) rfl rfl trivial (by decide +kernel) rfl rfl
  refine r_eq (y := (inI p0 0 (nI N - 1))) hrx ?_
  refine lv_if_eq (tgt := 22) hx hb dX9_quarrels_10 rfl (fun c_10 => ?_) (fun c_10 => ?_)
  · refine lv_iconst (v := (-1 : Int32)) hx hb dX9_quarrels_22 rfl ?_
    exact hret _ _ _ _ _ _ hW rfl rfl dX9_quarrels_23 (⟨opP_0 c_10 |>.symm, rfl⟩)
  · obtain ⟨P, hP, rfl⟩ := inI_nat (nI_m1 (show N < 1000 by omega)) c_10
    refine lv_aload_n hx hb dX9_quarrels_13 rfl (lv_at hl 0 rfl) ?_
    refine r_get Sx hW 0 rfl rfl bw_wsX90 13 (by decide) (v := .ref (b 6)) rfl mw119 dX9_quarrels_14 ?_
    refine lv_iload_n hx hb dX9_quarrels_17 rfl (lv_at hl 1 rfl) ?_
    refine r_iald Sx hW 6 0 (f := (M 6)) rfl rfl (j := P) rfl (by omega) (by decide) dX9_quarrels_18 ?_
    refine lv_goto (tgt := 23) hx hb dX9_quarrels_19 rfl ?_
    exact hret _ _ _ _ _ _ hW rfl rfl dX9_quarrels_23 (⟨by rw [opP_1 hN7 hP c_10] <;> rfl, rfl⟩)

set_option maxHeartbeats 4000000 in
set_option maxRecDepth 100000 in
theorem c_X9_person (l : Launch) (D : va_G) (cI cZ cN : ClassId) (b : Nat → Nat) (M : NV) (tr : Int64) (N C : Nat) (hN : M 2 1 = nI N) (hN7 : N ≤ 7) (hC : M 2 0 = nI C) (hC4 : C ≤ 4) (hC1 : 1 ≤ C) (p0 : Int32) (wh : Int32) : CtI l yX9_person cX9_person 3 (some .int) 3 D (tyG cI cZ cN) [.ref (b 0), .int p0, .int wh] (pMod cI cZ b M tr) (fun r w => r = opP N p0 (peM (M 7) (M 5) N wh) ∧ w = (pMod cI cZ b (upA M 0 (upd (M 0) 0 (0 : Int32))) tr)) := by
  refine CtI.of rfl (Nat.le_of_ble_eq_true rfl) ?_
  intro pg ev sx mx ax bx mt cx ls Qx Ax Sx hret hW hl
  have hx := Sx.1
  have hb := Sx.2.1
  have hl : lv_has ls 3 [(0, .ref (b 0)), (1, .int p0), (2, .int wh)] := hl
  refine lv_aload_n hx hb dX9_person_0 rfl (lv_at hl 0 rfl) ?_
  refine lv_iconst (v := (0 : Int32)) hx hb dX9_person_1 rfl ?_
  refine r_put Sx hW 0 rfl rfl bw_wsX90 tyX9_ok nmX9 0 (by decide) mw144 rfl rfl rfl (Nat.le_of_ble_eq_true rfl) dX9_person_2 (ws' := (pMod cI cZ b (upA M 0 (upd (M 0) 0 (0 : Int32))) tr)) rfl (fun H locs hW => ?_)
  refine lv_aload_n hx hb dX9_person_5 rfl (lv_at hl 0 rfl) ?_
  refine lv_iload_n hx hb dX9_person_6 rfl (lv_at hl 1 rfl) ?_
  refine callVI Sx hW (c_X9_isPerson l D cI cZ cN b (upA M 0 (upd (M 0) 0 (0 : Int32))) tr N C hN hN7 hC hC4 hC1 p0 ) vmX9_isPerson mw347 [0, 1, 2, 3, 4, 5, 6, 7, 8, 9, 10, 11, 12, 13, 14, 15, 16, 17] rfl (by decide) 0 rfl rfl (As := [.int p0]) (rest := []) rfl rfl hl.1 (Nat.le_of_ble_eq_true rfl) ⟨Nat.le_of_ble_eq_true rfl, Nat.le_of_ble_eq_true rfl⟩ ⟨Nat.le_refl _, Nat.le_refl _⟩ dX9_person_7 (fun rx wx H locs hqx hW => ?_)
  obtain ⟨hrx, rfl⟩ := hqx
  have hW : AtC D (tyG cI cZ cN) Ax (pMod cI cZ b (upA M 0 (upd (M 0) 0 (0 : Int32))) tr) sx H locs := hW.re [] 18 (by decide) rfl rfl trivial (by decide +kernel) rfl rfl
  refine r_eq (y := (inI p0 0 (nI N - 1))) hrx ?_
  refine lv_if_eq (tgt := 23) hx hb dX9_person_10 rfl (fun c_10 => ?_) (fun c_10 => ?_)
  · refine lv_iconst (v := (-1 : Int32)) hx hb dX9_person_23 rfl ?_
    exact hret _ _ _ _ _ _ hW rfl rfl dX9_person_24 (⟨opP_0 c_10 |>.symm, rfl⟩)
  · obtain ⟨P, hP, rfl⟩ := inI_nat (nI_m1 (show N < 1000 by omega)) c_10
    refine lv_iload_n hx hb dX9_person_13 rfl (lv_at hl 2 rfl) ?_
    refine lv_iconst (v := (0 : Int32)) hx hb dX9_person_14 rfl ?_
    refine lv_bipush (v := (7 : Int32)) hx hb dX9_person_15 rfl ?_
    refine callSI Sx hW (c_X9_in l D cI cZ cN wh (0 : Int32) (7 : Int32)) smX9_in mw146 (As := [.int wh, .int (0 : Int32), .int (7 : Int32)]) (rest := []) rfl rfl hl.1 (Nat.le_of_ble_eq_true rfl) ⟨Nat.le_of_ble_eq_true rfl, Nat.le_of_ble_eq_true rfl⟩ ⟨Nat.le_refl _, Nat.le_refl _⟩ dX9_person_17 (fun rx H locs hqx hW => ?_)
    obtain ⟨hrx, -⟩ := hqx
    refine r_eq (y := (inI wh (0 : Int32) (7 : Int32))) hrx ?_
    refine lv_if_ne (tgt := 25) hx hb dX9_person_20 rfl (fun c_20 => ?_) (fun c_20 => ?_)
    · refine lv_iload_n hx hb dX9_person_25 rfl (lv_at hl 2 rfl) ?_
      refine lv_iconst (v := (4 : Int32)) hx hb dX9_person_26 rfl ?_
      refine lv_icmp_ge (tgt := 88) hx hb dX9_person_27 rfl (fun c_27 => ?_) (fun c_27 => ?_)
      · refine lv_iload_n hx hb dX9_person_88 rfl (lv_at hl 2 rfl) ?_
        refine lv_iconst (v := (4 : Int32)) hx hb dX9_person_89 rfl ?_
        refine lv_icmp_ne (tgt := 113) hx hb dX9_person_90 rfl (fun c_90 => ?_) (fun c_90 => ?_)
        · refine lv_iload_n hx hb dX9_person_113 rfl (lv_at hl 2 rfl) ?_
          refine lv_iconst (v := (5 : Int32)) hx hb dX9_person_114 rfl ?_
          refine lv_icmp_ne (tgt := 130) hx hb dX9_person_115 rfl (fun c_115 => ?_) (fun c_115 => ?_)
          · refine lv_iload_n hx hb dX9_person_130 rfl (lv_at hl 2 rfl) ?_
            refine lv_bipush (v := (6 : Int32)) hx hb dX9_person_131 rfl ?_
            refine lv_icmp_ne (tgt := 148) hx hb dX9_person_133 rfl (fun c_133 => ?_) (fun c_133 => ?_)
            · refine lv_aload_n hx hb dX9_person_148 rfl (lv_at hl 0 rfl) ?_
              refine lv_aload_n hx hb dX9_person_149 rfl (lv_at hl 0 rfl) ?_
              refine r_get Sx hW 0 rfl rfl bw_wsX90 15 (by decide) (v := .ref (b 7)) rfl mw120 dX9_person_150 ?_
              refine lv_iload_n hx hb dX9_person_153 rfl (lv_at hl 1 rfl) ?_
              refine callVI Sx hW (c_X9_tax_s l D cI cZ cN b (upA M 0 (upd (M 0) 0 (0 : Int32))) tr N C hN hN7 hC hC4 hC1 P (by omega) ) vmX9_tax mw370 [0, 1, 2, 3, 4, 5, 6, 7, 8, 9, 10, 11, 12, 13, 14, 15, 16, 17] rfl (by decide) 0 rfl rfl (As := [.ref (b 7), .int (nI P)]) (rest := []) rfl rfl hl.1 (Nat.le_of_ble_eq_true rfl) ⟨Nat.le_of_ble_eq_true rfl, Nat.le_of_ble_eq_true rfl⟩ ⟨Nat.le_refl _, Nat.le_refl _⟩ dX9_person_154 (fun rx wx H locs hqx hW => ?_)
              obtain ⟨hrx, rfl⟩ := hqx
              have hW : AtC D (tyG cI cZ cN) Ax (pMod cI cZ b (upA M 0 (upd (M 0) 0 (0 : Int32))) tr) sx H locs := hW.re [] 18 (by decide) rfl rfl trivial (by decide +kernel) rfl rfl
              refine r_eq (y := (txM (M 7) N P)) hrx ?_
              exact hret _ _ _ _ _ _ hW rfl rfl dX9_person_157 (⟨by rw [opP_1 hN7 hP c_10, peM, if_neg c_20, if_pos c_27, if_neg c_90, if_neg c_115, if_neg c_133] <;> rfl, rfl⟩)
            · refine lv_aload_n hx hb dX9_person_136 rfl (lv_at hl 0 rfl) ?_
              refine lv_aload_n hx hb dX9_person_137 rfl (lv_at hl 0 rfl) ?_
              refine r_get Sx hW 0 rfl rfl bw_wsX90 15 (by decide) (v := .ref (b 7)) rfl mw120 dX9_person_138 ?_
              refine lv_iload_n hx hb dX9_person_141 rfl (lv_at hl 1 rfl) ?_
              refine callVI Sx hW (c_X9_fame_s l D cI cZ cN b (upA M 0 (upd (M 0) 0 (0 : Int32))) tr N C hN hN7 hC hC4 hC1 P (by omega) ) vmX9_fame mw362 [0, 1, 2, 3, 4, 5, 6, 7, 8, 9, 10, 11, 12, 13, 14, 15, 16, 17] rfl (by decide) 0 rfl rfl (As := [.ref (b 7), .int (nI P)]) (rest := []) rfl rfl hl.1 (Nat.le_of_ble_eq_true rfl) ⟨Nat.le_of_ble_eq_true rfl, Nat.le_of_ble_eq_true rfl⟩ ⟨Nat.le_refl _, Nat.le_refl _⟩ dX9_person_142 (fun rx wx H locs hqx hW => ?_)
              obtain ⟨hrx, rfl⟩ := hqx
              have hW : AtC D (tyG cI cZ cN) Ax (pMod cI cZ b (upA M 0 (upd (M 0) 0 (0 : Int32))) tr) sx H locs := hW.re [] 18 (by decide) rfl rfl trivial (by decide +kernel) rfl rfl
              refine r_eq (y := (fmM (M 7) N P)) hrx ?_
              refine lv_goto (tgt := 157) hx hb dX9_person_145 rfl ?_
              exact hret _ _ _ _ _ _ hW rfl rfl dX9_person_157 (⟨by rw [opP_1 hN7 hP c_10, peM, if_neg c_20, if_pos c_27, if_neg c_90, if_neg c_115, if_pos c_133] <;> rfl, rfl⟩)
          · refine lv_aload_n hx hb dX9_person_118 rfl (lv_at hl 0 rfl) ?_
            refine r_get Sx hW 0 rfl rfl bw_wsX90 15 (by decide) (v := .ref (b 7)) rfl mw120 dX9_person_119 ?_
            refine lv_bipush (v := (14 : Int32)) hx hb dX9_person_122 rfl ?_
            refine lv_iload_n hx hb dX9_person_124 rfl (lv_at hl 1 rfl) ?_
            refine lv_iadd hx hb dX9_person_125 ?_
            refine r_eq (y := (nI (14 + P))) (nI_add 14 P) ?_
            refine r_iald Sx hW 7 0 (f := (M 7)) rfl rfl (j := 14 + P) rfl (by omega) (by decide) dX9_person_126 ?_
            refine lv_goto (tgt := 157) hx hb dX9_person_127 rfl ?_
            exact hret _ _ _ _ _ _ hW rfl rfl dX9_person_157 (⟨by rw [opP_1 hN7 hP c_10, peM, if_neg c_20, if_pos c_27, if_neg c_90, if_pos c_115] <;> rfl, rfl⟩)
        · refine lv_aload_n hx hb dX9_person_93 rfl (lv_at hl 0 rfl) ?_
          refine lv_aload_n hx hb dX9_person_94 rfl (lv_at hl 0 rfl) ?_
          refine r_get Sx hW 0 rfl rfl bw_wsX90 15 (by decide) (v := .ref (b 7)) rfl mw120 dX9_person_95 ?_
          refine lv_iload_n hx hb dX9_person_98 rfl (lv_at hl 1 rfl) ?_
          refine callVI Sx hW (c_X9_limps_s l D cI cZ cN b (upA M 0 (upd (M 0) 0 (0 : Int32))) tr N C hN hN7 hC hC4 hC1 P (by omega) ) vmX9_limps mw351 [0, 1, 2, 3, 4, 5, 6, 7, 8, 9, 10, 11, 12, 13, 14, 15, 16, 17] rfl (by decide) 0 rfl rfl (As := [.ref (b 7), .int (nI P)]) (rest := []) rfl rfl hl.1 (Nat.le_of_ble_eq_true rfl) ⟨Nat.le_of_ble_eq_true rfl, Nat.le_of_ble_eq_true rfl⟩ ⟨Nat.le_refl _, Nat.le_refl _⟩ dX9_person_99 (fun rx wx H locs hqx hW => ?_)
          obtain ⟨hrx, rfl⟩ := hqx
          have hW : AtC D (tyG cI cZ cN) Ax (pMod cI cZ b (upA M 0 (upd (M 0) 0 (0 : Int32))) tr) sx H locs := hW.re [] 18 (by decide) rfl rfl trivial (by decide +kernel) rfl rfl
          refine r_eq (y := (liM (M 7) N P)) hrx ?_
          refine lv_if_eq (tgt := 109) hx hb dX9_person_102 rfl (fun c_102 => ?_) (fun c_102 => ?_)
          · refine lv_iconst (v := (0 : Int32)) hx hb dX9_person_109 rfl ?_
            refine lv_goto (tgt := 157) hx hb dX9_person_110 rfl ?_
            exact hret _ _ _ _ _ _ hW rfl rfl dX9_person_157 (⟨by rw [opP_1 hN7 hP c_10, peM, if_neg c_20, if_pos c_27, if_pos c_90]; exact c_102.symm, rfl⟩)
          · refine lv_iconst (v := (1 : Int32)) hx hb dX9_person_105 rfl ?_
            refine lv_goto (tgt := 157) hx hb dX9_person_106 rfl ?_
            exact hret _ _ _ _ _ _ hW rfl rfl dX9_person_157 (⟨by rw [opP_1 hN7 hP c_10, peM, if_neg c_20, if_pos c_27, if_pos c_90]; exact (liM_1 c_102).symm, rfl⟩)
      · refine lv_iload_n hx hb dX9_person_30 rfl (lv_at hl 2 rfl) ?_
        refine lv_if_ne (tgt := 45) hx hb dX9_person_31 rfl (fun c_31 => ?_) (fun c_31 => ?_)
        · refine lv_iload_n hx hb dX9_person_45 rfl (lv_at hl 2 rfl) ?_
          refine lv_iconst (v := (1 : Int32)) hx hb dX9_person_46 rfl ?_
          refine lv_icmp_ne (tgt := 62) hx hb dX9_person_47 rfl (fun c_47 => ?_) (fun c_47 => ?_)
          · refine lv_iload_n hx hb dX9_person_62 rfl (lv_at hl 2 rfl) ?_
            refine lv_iconst (v := (2 : Int32)) hx hb dX9_person_63 rfl ?_
            refine lv_icmp_ne (tgt := 76) hx hb dX9_person_64 rfl (fun c_64 => ?_) (fun c_64 => ?_)
            · refine lv_aload_n hx hb dX9_person_76 rfl (lv_at hl 0 rfl) ?_
              refine r_get Sx hW 0 rfl rfl bw_wsX90 15 (by decide) (v := .ref (b 7)) rfl mw120 dX9_person_77 ?_
              refine lv_bipush (v := (21 : Int32)) hx hb dX9_person_80 rfl ?_
              refine r_iald Sx hW 7 0 (f := (M 7)) rfl rfl (j := 21) rfl (by decide) (by decide) dX9_person_82 ?_
              refine lv_iload_n hx hb dX9_person_83 rfl (lv_at hl 1 rfl) ?_
              refine lv_ishr hx hb dX9_person_84 ?_
              refine lv_iconst (v := (1 : Int32)) hx hb dX9_person_85 rfl ?_
              refine lv_iand hx hb dX9_person_86 ?_
              exact hret _ _ _ _ _ _ hW rfl rfl dX9_person_87 (⟨by rw [opP_1 hN7 hP c_10, peM, if_neg c_20, if_neg c_27, if_neg c_31, if_neg c_47, if_neg c_64] <;> rfl, rfl⟩)
            · refine lv_aload_n hx hb dX9_person_67 rfl (lv_at hl 0 rfl) ?_
              refine r_get Sx hW 0 rfl rfl bw_wsX90 12 (by decide) (v := .ref (b 5)) rfl mw118 dX9_person_68 ?_
              refine lv_iload_n hx hb dX9_person_71 rfl (lv_at hl 1 rfl) ?_
              refine r_iald Sx hW 5 0 (f := (M 5)) rfl rfl (j := P) rfl (by omega) (by decide) dX9_person_72 ?_
              refine lv_goto (tgt := 87) hx hb dX9_person_73 rfl ?_
              exact hret _ _ _ _ _ _ hW rfl rfl dX9_person_87 (⟨by rw [opP_1 hN7 hP c_10, peM, if_neg c_20, if_neg c_27, if_neg c_31, if_neg c_47, if_pos c_64] <;> rfl, rfl⟩)
          · refine lv_aload_n hx hb dX9_person_50 rfl (lv_at hl 0 rfl) ?_
            refine r_get Sx hW 0 rfl rfl bw_wsX90 15 (by decide) (v := .ref (b 7)) rfl mw120 dX9_person_51 ?_
            refine lv_bipush (v := (7 : Int32)) hx hb dX9_person_54 rfl ?_
            refine lv_iload_n hx hb dX9_person_56 rfl (lv_at hl 1 rfl) ?_
            refine lv_iadd hx hb dX9_person_57 ?_
            refine r_eq (y := (nI (7 + P))) (nI_add 7 P) ?_
            refine r_iald Sx hW 7 0 (f := (M 7)) rfl rfl (j := 7 + P) rfl (by omega) (by decide) dX9_person_58 ?_
            refine lv_goto (tgt := 87) hx hb dX9_person_59 rfl ?_
            exact hret _ _ _ _ _ _ hW rfl rfl dX9_person_87 (⟨by rw [opP_1 hN7 hP c_10, peM, if_neg c_20, if_neg c_27, if_neg c_31, if_pos c_47] <;> rfl, rfl⟩)
        · refine lv_aload_n hx hb dX9_person_34 rfl (lv_at hl 0 rfl) ?_
          refine r_get Sx hW 0 rfl rfl bw_wsX90 15 (by decide) (v := .ref (b 7)) rfl mw120 dX9_person_35 ?_
          refine lv_iconst (v := (0 : Int32)) hx hb dX9_person_38 rfl ?_
          refine lv_iload_n hx hb dX9_person_39 rfl (lv_at hl 1 rfl) ?_
          refine lv_iadd hx hb dX9_person_40 ?_
          refine r_eq (y := (nI P)) ((nI_add 0 P).trans (congrArg nI (Nat.zero_add P))) ?_
          refine r_iald Sx hW 7 0 (f := (M 7)) rfl rfl (j := P) rfl (by omega) (by decide) dX9_person_41 ?_
          refine lv_goto (tgt := 87) hx hb dX9_person_42 rfl ?_
          exact hret _ _ _ _ _ _ hW rfl rfl dX9_person_87 (⟨by rw [opP_1 hN7 hP c_10, peM, if_neg c_20, if_neg c_27, if_pos c_31] <;> rfl, rfl⟩)
    · refine lv_iconst (v := (-1 : Int32)) hx hb dX9_person_23 rfl ?_
      exact hret _ _ _ _ _ _ hW rfl rfl dX9_person_24 (⟨by rw [opP_1 hN7 hP c_10, peM, if_pos c_20], rfl⟩)

set_option maxHeartbeats 4000000 in
set_option maxRecDepth 100000 in
theorem c_X9_gcd (l : Launch) (D : va_G) (cI cZ cN : ClassId) (x y : Nat) (hx1 : x < 2 ^ 31) (hy1 : y < 2 ^ 31) : CtI l yX9_gcd cX9_gcd 5 (some .int) 0 D (tyG cI cZ cN) [.int (nI x), .int (nI y)] [] (fun r w => r = nI (Nat.gcd x y) ∧ w = []) := by
  refine CtI.of rfl (Nat.le_of_ble_eq_true rfl) ?_
  intro pg ev sx mx ax bx mt cx ls Qx Ax Sx hret hW hl
  have hx := Sx.1
  have hb := Sx.2.1
  have hl : lv_has ls 5 [(0, .int (nI x)), (1, .int (nI y))] := hl
  refine lv_iload_n hx hb dX9_gcd_0 rfl (lv_at hl 0 rfl) ?_
  refine lv_istore_n (lv' := [(2, .int (nI x)), (0, .int (nI x)), (1, .int (nI y))]) hx hb dX9_gcd_1 rfl hl (by decide) rfl (fun ls hl => ?_)
  refine lv_iload_n hx hb dX9_gcd_2 rfl (lv_at hl 2 rfl) ?_
  refine lv_istore_n (lv' := [(3, .int (nI y)), (2, .int (nI x)), (0, .int (nI x)), (1, .int (nI y))]) hx hb dX9_gcd_3 rfl hl (by decide) rfl (fun ls hl => ?_)
  have lp_4 : ∀ (n : Nat) (ga : Nat) (gb : Nat), ((Nat.gcd ga gb = Nat.gcd x y)) → ((ga < 2 ^ 31)) → ((gb < 2 ^ 31)) → ((gb < n)) → ∀ (H : Heap) (locs : List Loc) (ls : Array Slot), AtC D (tyG cI cZ cN) Ax [] sx H locs → lv_has ls 5 [(0, .int (nI x)), (1, .int (nI y)), (2, .int (nI ga)), (3, .int (nI gb))] → W pg l ev (rmN 0) sx mx ax bx mt cx H locs 0 0 Qx (F0 mx 4 ls []) := by
    intro n
    induction n with
    | zero =>
      intro ga gb hg ha hb1 hn H locs ls hW hl
      exact absurd hn (by omega)
    | succ n ih4 =>
      intro ga gb hg ha hb1 hn H locs ls hW hl
      refine lv_iload_n hx hb dX9_gcd_4 rfl (lv_at hl 3 rfl) ?_
      refine lv_if_eq (tgt := 21) hx hb dX9_gcd_5 rfl (fun c_5 => ?_) (fun c_5 => ?_)
      · refine lv_iload_n hx hb dX9_gcd_21 rfl (lv_at hl 2 rfl) ?_
        exact hret _ _ _ _ _ _ hW rfl rfl dX9_gcd_22 (⟨by rw [← hg, show gb = 0 from by rcases Nat.eq_zero_or_pos gb with q | q; exact q; exact absurd c_5 (nI_ne0 q hb1), Nat.gcd_zero_right], rfl⟩)
      · have p5 : 0 < gb := Nat.pos_of_ne_zero (fun q => c_5 (by rw [q]; rfl))
        refine lv_iload_n hx hb dX9_gcd_8 rfl (lv_at hl 2 rfl) ?_
        refine lv_iload_n hx hb dX9_gcd_9 rfl (lv_at hl 3 rfl) ?_
        refine lv_irem hx hb dX9_gcd_10 c_5 ?_
        refine r_eq (y := (nI (ga % gb))) (pk_rem ha p5 hb1) ?_
        refine lv_istore (lv' := [(4, .int (nI (ga % gb))), (0, .int (nI x)), (1, .int (nI y)), (2, .int (nI ga)), (3, .int (nI gb))]) hx hb dX9_gcd_11 hl (by decide) rfl (fun ls hl => ?_)
        refine lv_iload_n hx hb dX9_gcd_13 rfl (lv_at hl 4 rfl) ?_
        refine lv_istore_n (lv' := [(2, .int (nI gb)), (4, .int (nI (ga % gb))), (0, .int (nI x)), (1, .int (nI y)), (3, .int (nI gb))]) hx hb dX9_gcd_14 rfl hl (by decide) rfl (fun ls hl => ?_)
        refine lv_iload hx hb dX9_gcd_15 (lv_at hl 1 rfl) ?_
        refine lv_istore_n (lv' := [(3, .int (nI (ga % gb))), (2, .int (nI gb)), (4, .int (nI (ga % gb))), (0, .int (nI x)), (1, .int (nI y))]) hx hb dX9_gcd_17 rfl hl (by decide) rfl (fun ls hl => ?_)
        refine lv_goto (tgt := 4) hx hb dX9_gcd_18 rfl ?_
        exact ih4 gb (ga % gb) (by rw [← hg, Nat.gcd_comm ga gb, Nat.gcd_rec gb ga, Nat.gcd_comm]) hb1 (Nat.lt_trans (Nat.mod_lt ga p5) hb1) (by have := Nat.mod_lt ga p5; omega) _ _ _ hW (lv_sub hl [3, 4, 1, 0] rfl)
  exact lp_4 (y + 1) x y rfl hx1 hy1 (Nat.lt_succ_self y) _ _ _ hW (lv_sub hl [2, 3, 1, 0] rfl)

set_option maxHeartbeats 4000000 in
set_option maxRecDepth 100000 in
theorem c_X9_part (l : Launch) (D : va_G) (cI cZ cN : ClassId) (x y : Nat) (wh : Int32) (hx1 : x < 2 ^ 31) (hy1 : y < 2 ^ 31) (hy0 : 0 < y) : CtI l yX9_part cX9_part 4 (some .int) 1 D (tyG cI cZ cN) [.int (nI x), .int (nI y), .int wh] [] (fun r w => r = paR x y wh ∧ w = []) := by
  refine CtI.of rfl (Nat.le_of_ble_eq_true rfl) ?_
  intro pg ev sx mx ax bx mt cx ls Qx Ax Sx hret hW hl
  have hx := Sx.1
  have hb := Sx.2.1
  have hl : lv_has ls 4 [(0, .int (nI x)), (1, .int (nI y)), (2, .int wh)] := hl
  have gne : ¬ nI (Nat.gcd x y) = 0 := nI_ne0 (Nat.gcd_pos_of_pos_right x hy0) (Nat.lt_of_le_of_lt (Nat.gcd_le_right x hy0) hy1)
  refine lv_iload_n hx hb dX9_part_0 rfl (lv_at hl 0 rfl) ?_
  refine lv_iload_n hx hb dX9_part_1 rfl (lv_at hl 1 rfl) ?_
  refine callSI Sx hW (c_X9_gcd l D cI cZ cN x y hx1 hy1) smX9_gcd mw415 (As := [.int (nI x), .int (nI y)]) (rest := []) rfl rfl hl.1 (Nat.le_of_ble_eq_true rfl) ⟨Nat.le_of_ble_eq_true rfl, Nat.le_of_ble_eq_true rfl⟩ ⟨Nat.le_refl _, Nat.le_refl _⟩ dX9_part_2 (fun rx H locs hqx hW => ?_)
  obtain ⟨hrx, -⟩ := hqx
  refine r_eq (y := (nI (Nat.gcd x y))) hrx ?_
  refine lv_istore_n (lv' := [(3, .int (nI (Nat.gcd x y))), (0, .int (nI x)), (1, .int (nI y)), (2, .int wh)]) hx hb dX9_part_5 rfl hl (by decide) rfl (fun ls hl => ?_)
  refine lv_iload_n hx hb dX9_part_6 rfl (lv_at hl 3 rfl) ?_
  refine lv_if_ne (tgt := 16) hx hb dX9_part_7 rfl (fun c_7 => ?_) (fun c_7 => ?_)
  · refine lv_iload_n hx hb dX9_part_16 rfl (lv_at hl 2 rfl) ?_
    refine lv_iload_n hx hb dX9_part_17 rfl (lv_at hl 0 rfl) ?_
    refine lv_idiv hx hb dX9_part_18 gne ?_
    exact hret _ _ _ _ _ _ hW rfl rfl dX9_part_19 (⟨by rw [paR, if_neg c_7], rfl⟩)
  · refine lv_iload_n hx hb dX9_part_10 rfl (lv_at hl 1 rfl) ?_
    refine lv_iload_n hx hb dX9_part_11 rfl (lv_at hl 0 rfl) ?_
    refine lv_idiv hx hb dX9_part_12 gne ?_
    refine lv_goto (tgt := 19) hx hb dX9_part_13 rfl ?_
    exact hret _ _ _ _ _ _ hW rfl rfl dX9_part_19 (⟨by rw [paR, if_pos c_7], rfl⟩)

set_option maxHeartbeats 4000000 in
set_option maxRecDepth 100000 in
theorem c_X9_name (l : Launch) (D : va_G) (cI cZ cN : ClassId) (b : Nat → Nat) (M : NV) (tr : Int64) (N C : Nat) (hN : M 2 1 = nI N) (hN7 : N ≤ 7) (hC : M 2 0 = nI C) (hC4 : C ≤ 4) (hC1 : 1 ≤ C) (p0 : Int32) (wh : Int32) (hw : wOk (M 7)) : CtI l yX9_name cX9_name 4 (some .int) 2 D (tyG cI cZ cN) [.ref (b 0), .int p0, .int wh] (pMod cI cZ b M tr) (fun r w => r = naM (M 7) N C p0 wh ∧ w = (pMod cI cZ b (upA M 0 (upd (M 0) 0 (0 : Int32))) tr)) := by
  refine CtI.of rfl (Nat.le_of_ble_eq_true rfl) ?_
  intro pg ev sx mx ax bx mt cx ls Qx Ax Sx hret hW hl
  have hx := Sx.1
  have hb := Sx.2.1
  have hl : lv_has ls 4 [(0, .ref (b 0)), (1, .int p0), (2, .int wh)] := hl
  refine lv_aload_n hx hb dX9_name_0 rfl (lv_at hl 0 rfl) ?_
  refine lv_iconst (v := (0 : Int32)) hx hb dX9_name_1 rfl ?_
  refine r_put Sx hW 0 rfl rfl bw_wsX90 tyX9_ok nmX9 0 (by decide) mw144 rfl rfl rfl (Nat.le_of_ble_eq_true rfl) dX9_name_2 (ws' := (pMod cI cZ b (upA M 0 (upd (M 0) 0 (0 : Int32))) tr)) rfl (fun H locs hW => ?_)
  refine lv_aload_n hx hb dX9_name_5 rfl (lv_at hl 0 rfl) ?_
  refine lv_iload_n hx hb dX9_name_6 rfl (lv_at hl 1 rfl) ?_
  refine callVI Sx hW (c_X9_isName l D cI cZ cN b (upA M 0 (upd (M 0) 0 (0 : Int32))) tr N C hN hN7 hC hC4 hC1 p0 ) vmX9_isName mw408 [0, 1, 2, 3, 4, 5, 6, 7, 8, 9, 10, 11, 12, 13, 14, 15, 16, 17] rfl (by decide) 0 rfl rfl (As := [.int p0]) (rest := []) rfl rfl hl.1 (Nat.le_of_ble_eq_true rfl) ⟨Nat.le_of_ble_eq_true rfl, Nat.le_of_ble_eq_true rfl⟩ ⟨Nat.le_refl _, Nat.le_refl _⟩ dX9_name_7 (fun rx wx H locs hqx hW => ?_)
  obtain ⟨hrx, rfl⟩ := hqx
  have hW : AtC D (tyG cI cZ cN) Ax (pMod cI cZ b (upA M 0 (upd (M 0) 0 (0 : Int32))) tr) sx H locs := hW.re [] 18 (by decide) rfl rfl trivial (by decide +kernel) rfl rfl
  refine r_eq (y := (inI p0 0 (nI C - 1))) hrx ?_
  refine lv_if_eq (tgt := 22) hx hb dX9_name_10 rfl (fun c_10 => ?_) (fun c_10 => ?_)
  · refine lv_iconst (v := (-1 : Int32)) hx hb dX9_name_22 rfl ?_
    exact hret _ _ _ _ _ _ hW rfl rfl dX9_name_23 (⟨by rw [naM, if_pos c_10], rfl⟩)
  · refine lv_iload_n hx hb dX9_name_13 rfl (lv_at hl 2 rfl) ?_
    refine lv_iconst (v := (0 : Int32)) hx hb dX9_name_14 rfl ?_
    refine lv_iconst (v := (2 : Int32)) hx hb dX9_name_15 rfl ?_
    refine callSI Sx hW (c_X9_in l D cI cZ cN wh (0 : Int32) (2 : Int32)) smX9_in mw146 (As := [.int wh, .int (0 : Int32), .int (2 : Int32)]) (rest := []) rfl rfl hl.1 (Nat.le_of_ble_eq_true rfl) ⟨Nat.le_of_ble_eq_true rfl, Nat.le_of_ble_eq_true rfl⟩ ⟨Nat.le_refl _, Nat.le_refl _⟩ dX9_name_16 (fun rx H locs hqx hW => ?_)
    obtain ⟨hrx, -⟩ := hqx
    refine r_eq (y := (inI wh (0 : Int32) (2 : Int32))) hrx ?_
    refine lv_if_ne (tgt := 24) hx hb dX9_name_19 rfl (fun c_19 => ?_) (fun c_19 => ?_)
    · refine lv_aload_n hx hb dX9_name_24 rfl (lv_at hl 0 rfl) ?_
      refine lv_aload_n hx hb dX9_name_25 rfl (lv_at hl 0 rfl) ?_
      refine r_get Sx hW 0 rfl rfl bw_wsX90 15 (by decide) (v := .ref (b 7)) rfl mw120 dX9_name_26 ?_
      refine lv_iload_n hx hb dX9_name_29 rfl (lv_at hl 1 rfl) ?_
      refine callVI Sx hW (c_X9_peopleOf_s l D cI cZ cN b (upA M 0 (upd (M 0) 0 (0 : Int32))) tr N C hN hN7 hC hC4 hC1 p0 ) vmX9_peopleOf mw358 [0, 1, 2, 3, 4, 5, 6, 7, 8, 9, 10, 11, 12, 13, 14, 15, 16, 17] rfl (by decide) 0 rfl rfl (As := [.ref (b 7), .int p0]) (rest := []) rfl rfl hl.1 (Nat.le_of_ble_eq_true rfl) ⟨Nat.le_of_ble_eq_true rfl, Nat.le_of_ble_eq_true rfl⟩ ⟨Nat.le_refl _, Nat.le_refl _⟩ dX9_name_30 (fun rx wx H locs hqx hW => ?_)
      obtain ⟨hrx, rfl⟩ := hqx
      have hW : AtC D (tyG cI cZ cN) Ax (pMod cI cZ b (upA M 0 (upd (M 0) 0 (0 : Int32))) tr) sx H locs := hW.re [] 18 (by decide) rfl rfl trivial (by decide +kernel) rfl rfl
      refine r_eq (y := (ppO (M 7) p0 N)) hrx ?_
      refine lv_istore_n (lv' := [(3, .int (ppO (M 7) p0 N)), (0, .ref (b 0)), (1, .int p0), (2, .int wh)]) hx hb dX9_name_33 rfl hl (by decide) rfl (fun ls hl => ?_)
      refine lv_iload_n hx hb dX9_name_34 rfl (lv_at hl 3 rfl) ?_
      refine lv_if_eq (tgt := 42) hx hb dX9_name_35 rfl (fun c_35 => ?_) (fun c_35 => ?_)
      · refine lv_iload_n hx hb dX9_name_42 rfl (lv_at hl 3 rfl) ?_
        refine lv_if_ne (tgt := 50) hx hb dX9_name_43 rfl (fun c_43 => ?_) (fun c_43 => ?_)
        · exact absurd c_35 c_43
        · refine lv_iload_n hx hb dX9_name_46 rfl (lv_at hl 0 rfl) ?_
          refine lv_goto (tgt := 53) hx hb dX9_name_47 rfl ?_
          exact hret _ _ _ _ _ _ hW rfl rfl dX9_name_53 (⟨by rw [naM, if_neg c_10, if_neg c_19, if_pos c_35], rfl⟩)
      · refine lv_iload_n hx hb dX9_name_38 rfl (lv_at hl 0 rfl) ?_
        refine lv_if_ne (tgt := 54) hx hb dX9_name_39 rfl (fun c_39 => ?_) (fun c_39 => ?_)
        · obtain ⟨sm, hsm, esm⟩ := sm_nat hw (ppO (M 7) p0 N) N hN7
          obtain ⟨on, hon, hon7, eon⟩ := on_nat2 hN7 c_39
          refine lv_aload_n hx hb dX9_name_54 rfl (lv_at hl 1 rfl) ?_
          refine lv_aload_n hx hb dX9_name_55 rfl (lv_at hl 1 rfl) ?_
          refine r_get Sx hW 0 rfl rfl bw_wsX90 15 (by decide) (v := .ref (b 7)) rfl mw120 dX9_name_56 ?_
          refine lv_bipush (v := (7 : Int32)) hx hb dX9_name_59 rfl ?_
          refine lv_iload_n hx hb dX9_name_61 rfl (lv_at hl 0 rfl) ?_
          refine callVI Sx hW (c_X9_sumOf_s l D cI cZ cN b (upA M 0 (upd (M 0) 0 (0 : Int32))) tr N C hN hN7 hC hC4 hC1 7 (ppO (M 7) p0 N) (by omega) ) vmX9_sumOf mw366 [0, 1, 2, 3, 4, 5, 6, 7, 8, 9, 10, 11, 12, 13, 14, 15, 16, 17] rfl (by decide) 0 rfl rfl (As := [.ref (b 7), .int (7 : Int32), .int (ppO (M 7) p0 N)]) (rest := []) rfl rfl hl.1 (Nat.le_of_ble_eq_true rfl) ⟨Nat.le_of_ble_eq_true rfl, Nat.le_of_ble_eq_true rfl⟩ ⟨Nat.le_refl _, Nat.le_refl _⟩ dX9_name_62 (fun rx wx H locs hqx hW => ?_)
          obtain ⟨hrx, rfl⟩ := hqx
          have hW : AtC D (tyG cI cZ cN) Ax (pMod cI cZ b (upA M 0 (upd (M 0) 0 (0 : Int32))) tr) sx H locs := hW.re [] 18 (by decide) rfl rfl trivial (by decide +kernel) rfl rfl
          refine r_eq (y := (smO (M 7) 7 (ppO (M 7) p0 N) N)) hrx ?_
          refine r_eq (y := (nI sm)) esm ?_
          refine lv_iload_n hx hb dX9_name_65 rfl (lv_at hl 0 rfl) ?_
          refine callSI Sx hW (c_X9_ones l D cI cZ cN (ppO (M 7) p0 N)) smX9_ones mw374 (As := [.int (ppO (M 7) p0 N)]) (rest := [.int (nI sm)]) rfl rfl hl.1 (Nat.le_of_ble_eq_true rfl) ⟨Nat.le_of_ble_eq_true rfl, Nat.le_of_ble_eq_true rfl⟩ ⟨Nat.le_refl _, Nat.le_refl _⟩ dX9_name_66 (fun rx H locs hqx hW => ?_)
          obtain ⟨hrx, -⟩ := hqx
          refine r_eq (y := (onI (ppO (M 7) p0 N) 7)) hrx ?_
          refine r_eq (y := (nI on)) eon ?_
          refine lv_iload_n hx hb dX9_name_69 rfl (lv_at hl 3 rfl) ?_
          refine lv_iconst (v := (1 : Int32)) hx hb dX9_name_70 rfl ?_
          refine lv_isub hx hb dX9_name_71 ?_
          refine callSI Sx hW (c_X9_part l D cI cZ cN sm on (wh - (1 : Int32)) (by omega) (by omega) (by omega)) smX9_part mw412 (As := [.int (nI sm), .int (nI on), .int (wh - (1 : Int32))]) (rest := []) rfl rfl hl.1 (Nat.le_of_ble_eq_true rfl) ⟨Nat.le_of_ble_eq_true rfl, Nat.le_of_ble_eq_true rfl⟩ ⟨Nat.le_refl _, Nat.le_refl _⟩ dX9_name_72 (fun rx H locs hqx hW => ?_)
          obtain ⟨hrx, -⟩ := hqx
          refine r_eq (y := (paR sm on (wh - (1 : Int32)))) hrx ?_
          exact hret _ _ _ _ _ _ hW rfl rfl dX9_name_75 (⟨by rw [naM, if_neg c_10, if_neg c_19, if_neg c_35, if_neg c_39, esm, eon, nI_clamp (n := sm) (by omega), nI_clamp (n := on) (by omega)], rfl⟩)
        · refine lv_iload_n hx hb dX9_name_42 rfl (lv_at hl 3 rfl) ?_
          refine lv_if_ne (tgt := 50) hx hb dX9_name_43 rfl (fun c_43 => ?_) (fun c_43 => ?_)
          · refine lv_iload_n hx hb dX9_name_50 rfl (lv_at hl 3 rfl) ?_
            refine lv_iconst (v := (1 : Int32)) hx hb dX9_name_51 rfl ?_
            refine lv_isub hx hb dX9_name_52 ?_
            exact hret _ _ _ _ _ _ hW rfl rfl dX9_name_53 (⟨by rw [naM, if_neg c_10, if_neg c_19, if_neg c_35, if_pos c_39], rfl⟩)
          · exact absurd c_43 c_35
    · refine lv_iconst (v := (-1 : Int32)) hx hb dX9_name_22 rfl ?_
      exact hret _ _ _ _ _ _ hW rfl rfl dX9_name_23 (⟨by rw [naM, if_neg c_10, if_pos c_19], rfl⟩)

set_option maxHeartbeats 4000000 in
set_option maxRecDepth 100000 in
theorem c_X9_bill (l : Launch) (D : va_G) (cI cZ cN : ClassId) (b : Nat → Nat) (M : NV) (tr : Int64) (N C : Nat) (hN : M 2 1 = nI N) (hN7 : N ≤ 7) (hC : M 2 0 = nI C) (hC4 : C ≤ 4) (hC1 : 1 ≤ C) (p0 : Int32) (wh : Int32) : CtI l yX9_bill cX9_bill 3 (some .int) 4 D (tyG cI cZ cN) [.ref (b 0), .int p0, .int wh] (pMod cI cZ b M tr) (fun r w => r = biM (M 7) (M 5) N C p0 wh ∧ w = (pMod cI cZ b (upA M 0 (upd (M 0) 0 (0 : Int32))) tr)) := by
  refine CtI.of rfl (Nat.le_of_ble_eq_true rfl) ?_
  intro pg ev sx mx ax bx mt cx ls Qx Ax Sx hret hW hl
  have hx := Sx.1
  have hb := Sx.2.1
  have hl : lv_has ls 3 [(0, .ref (b 0)), (1, .int p0), (2, .int wh)] := hl
  refine lv_aload_n hx hb dX9_bill_0 rfl (lv_at hl 0 rfl) ?_
  refine lv_iconst (v := (0 : Int32)) hx hb dX9_bill_1 rfl ?_
  refine r_put Sx hW 0 rfl rfl bw_wsX90 tyX9_ok nmX9 0 (by decide) mw144 rfl rfl rfl (Nat.le_of_ble_eq_true rfl) dX9_bill_2 (ws' := (pMod cI cZ b (upA M 0 (upd (M 0) 0 (0 : Int32))) tr)) rfl (fun H locs hW => ?_)
  refine lv_iload_n hx hb dX9_bill_5 rfl (lv_at hl 1 rfl) ?_
  refine lv_iconst (v := (0 : Int32)) hx hb dX9_bill_6 rfl ?_
  refine lv_iconst (v := (4 : Int32)) hx hb dX9_bill_7 rfl ?_
  refine callSI Sx hW (c_X9_in l D cI cZ cN p0 (0 : Int32) (4 : Int32)) smX9_in mw146 (As := [.int p0, .int (0 : Int32), .int (4 : Int32)]) (rest := []) rfl rfl hl.1 (Nat.le_of_ble_eq_true rfl) ⟨Nat.le_of_ble_eq_true rfl, Nat.le_of_ble_eq_true rfl⟩ ⟨Nat.le_refl _, Nat.le_refl _⟩ dX9_bill_8 (fun rx H locs hqx hW => ?_)
  obtain ⟨hrx, -⟩ := hqx
  refine r_eq (y := (inI p0 (0 : Int32) (4 : Int32))) hrx ?_
  refine lv_if_eq (tgt := 23) hx hb dX9_bill_11 rfl (fun c_11 => ?_) (fun c_11 => ?_)
  · refine lv_iconst (v := (-1 : Int32)) hx hb dX9_bill_23 rfl ?_
    exact hret _ _ _ _ _ _ hW rfl rfl dX9_bill_24 (⟨by rw [biM, if_pos c_11], rfl⟩)
  · refine lv_iload_n hx hb dX9_bill_14 rfl (lv_at hl 2 rfl) ?_
    refine lv_iconst (v := (0 : Int32)) hx hb dX9_bill_15 rfl ?_
    refine lv_iconst (v := (3 : Int32)) hx hb dX9_bill_16 rfl ?_
    refine callSI Sx hW (c_X9_in l D cI cZ cN wh (0 : Int32) (3 : Int32)) smX9_in mw146 (As := [.int wh, .int (0 : Int32), .int (3 : Int32)]) (rest := []) rfl rfl hl.1 (Nat.le_of_ble_eq_true rfl) ⟨Nat.le_of_ble_eq_true rfl, Nat.le_of_ble_eq_true rfl⟩ ⟨Nat.le_refl _, Nat.le_refl _⟩ dX9_bill_17 (fun rx H locs hqx hW => ?_)
    obtain ⟨hrx, -⟩ := hqx
    refine r_eq (y := (inI wh (0 : Int32) (3 : Int32))) hrx ?_
    refine lv_if_ne (tgt := 25) hx hb dX9_bill_20 rfl (fun c_20 => ?_) (fun c_20 => ?_)
    · refine lv_iload_n hx hb dX9_bill_25 rfl (lv_at hl 2 rfl) ?_
      refine lv_if_ne (tgt := 46) hx hb dX9_bill_26 rfl (fun c_26 => ?_) (fun c_26 => ?_)
      · refine lv_iload_n hx hb dX9_bill_46 rfl (lv_at hl 2 rfl) ?_
        refine lv_iconst (v := (1 : Int32)) hx hb dX9_bill_47 rfl ?_
        refine lv_icmp_ne (tgt := 68) hx hb dX9_bill_48 rfl (fun c_48 => ?_) (fun c_48 => ?_)
        · refine lv_iload_n hx hb dX9_bill_68 rfl (lv_at hl 2 rfl) ?_
          refine lv_iconst (v := (2 : Int32)) hx hb dX9_bill_69 rfl ?_
          refine lv_icmp_ne (tgt := 97) hx hb dX9_bill_70 rfl (fun c_70 => ?_) (fun c_70 => ?_)
          · refine lv_aload_n hx hb dX9_bill_97 rfl (lv_at hl 0 rfl) ?_
            refine lv_iload_n hx hb dX9_bill_98 rfl (lv_at hl 1 rfl) ?_
            refine callVI Sx hW (c_X9_swayOf l D cI cZ cN b (upA M 0 (upd (M 0) 0 (0 : Int32))) tr N C hN hN7 hC hC4 hC1 p0 ) vmX9_swayOf mw470 [0, 1, 2, 3, 4, 5, 6, 7, 8, 9, 10, 11, 12, 13, 14, 15, 16, 17] rfl (by decide) 0 rfl rfl (As := [.int p0]) (rest := []) rfl rfl hl.1 (Nat.le_of_ble_eq_true rfl) ⟨Nat.le_of_ble_eq_true rfl, Nat.le_of_ble_eq_true rfl⟩ ⟨Nat.le_refl _, Nat.le_refl _⟩ dX9_bill_99 (fun rx wx H locs hqx hW => ?_)
            obtain ⟨hrx, rfl⟩ := hqx
            have hW : AtC D (tyG cI cZ cN) Ax (pMod cI cZ b (upA M 0 (upd (M 0) 0 (0 : Int32))) tr) sx H locs := hW.re [] 18 (by decide) rfl rfl trivial (by decide +kernel) rfl rfl
            refine r_eq (y := (swM (M 7) (M 5) N C p0 C)) hrx ?_
            exact hret _ _ _ _ _ _ hW rfl rfl dX9_bill_102 (⟨by rw [biM, if_neg c_11, if_neg c_20, if_neg c_26, if_neg c_48, if_neg c_70] <;> rfl, rfl⟩)
          · refine lv_aload_n hx hb dX9_bill_73 rfl (lv_at hl 0 rfl) ?_
            refine lv_aload_n hx hb dX9_bill_74 rfl (lv_at hl 0 rfl) ?_
            refine r_get Sx hW 0 rfl rfl bw_wsX90 15 (by decide) (v := .ref (b 7)) rfl mw120 dX9_bill_75 ?_
            refine lv_iload_n hx hb dX9_bill_78 rfl (lv_at hl 1 rfl) ?_
            refine lv_aload_n hx hb dX9_bill_79 rfl (lv_at hl 0 rfl) ?_
            refine callVI Sx hW (c_X9_everybody l D cI cZ cN b (upA M 0 (upd (M 0) 0 (0 : Int32))) tr N C hN hN7 hC hC4 hC1 ) vmX9_everybody mw454 [0, 1, 2, 3, 4, 5, 6, 7, 8, 9, 10, 11, 12, 13, 14, 15, 16, 17] rfl (by decide) 0 rfl rfl (As := []) (rest := [.int p0, .ref (b 7), .ref (b 0)]) rfl rfl hl.1 (Nat.le_of_ble_eq_true rfl) ⟨Nat.le_of_ble_eq_true rfl, Nat.le_of_ble_eq_true rfl⟩ ⟨Nat.le_refl _, Nat.le_refl _⟩ dX9_bill_80 (fun rx wx H locs hqx hW => ?_)
            obtain ⟨hrx, rfl⟩ := hqx
            have hW : AtC D (tyG cI cZ cN) Ax (pMod cI cZ b (upA M 0 (upd (M 0) 0 (0 : Int32))) tr) sx H locs := hW.re [] 18 (by decide) rfl rfl trivial (by decide +kernel) rfl rfl
            refine r_eq (y := (evM N)) hrx ?_
            refine callVI Sx hW (c_X9_passes_s l D cI cZ cN b (upA M 0 (upd (M 0) 0 (0 : Int32))) tr N C hN hN7 hC hC4 hC1 p0 (evM N) ) vmX9_passes mw466 [0, 1, 2, 3, 4, 5, 6, 7, 8, 9, 10, 11, 12, 13, 14, 15, 16, 17] rfl (by decide) 0 rfl rfl (As := [.ref (b 7), .int p0, .int (evM N)]) (rest := []) rfl rfl hl.1 (Nat.le_of_ble_eq_true rfl) ⟨Nat.le_of_ble_eq_true rfl, Nat.le_of_ble_eq_true rfl⟩ ⟨Nat.le_refl _, Nat.le_refl _⟩ dX9_bill_83 (fun rx wx H locs hqx hW => ?_)
            obtain ⟨hrx, rfl⟩ := hqx
            have hW : AtC D (tyG cI cZ cN) Ax (pMod cI cZ b (upA M 0 (upd (M 0) 0 (0 : Int32))) tr) sx H locs := hW.re [] 18 (by decide) rfl rfl trivial (by decide +kernel) rfl rfl
            refine r_eq (y := (psM (M 7) (M 5) N C p0 (evM N))) hrx ?_
            refine lv_if_eq (tgt := 93) hx hb dX9_bill_86 rfl (fun c_86 => ?_) (fun c_86 => ?_)
            · refine lv_iconst (v := (0 : Int32)) hx hb dX9_bill_93 rfl ?_
              refine lv_goto (tgt := 102) hx hb dX9_bill_94 rfl ?_
              exact hret _ _ _ _ _ _ hW rfl rfl dX9_bill_102 (⟨by rw [biM, if_neg c_11, if_neg c_20, if_neg c_26, if_neg c_48, if_pos c_70]; exact c_86.symm, rfl⟩)
            · refine lv_iconst (v := (1 : Int32)) hx hb dX9_bill_89 rfl ?_
              refine lv_goto (tgt := 102) hx hb dX9_bill_90 rfl ?_
              exact hret _ _ _ _ _ _ hW rfl rfl dX9_bill_102 (⟨by rw [biM, if_neg c_11, if_neg c_20, if_neg c_26, if_neg c_48, if_pos c_70]; exact (psM_1 c_86).symm, rfl⟩)
        · refine lv_aload_n hx hb dX9_bill_51 rfl (lv_at hl 0 rfl) ?_
          refine lv_aload_n hx hb dX9_bill_52 rfl (lv_at hl 0 rfl) ?_
          refine r_get Sx hW 0 rfl rfl bw_wsX90 15 (by decide) (v := .ref (b 7)) rfl mw120 dX9_bill_53 ?_
          refine lv_iload_n hx hb dX9_bill_56 rfl (lv_at hl 1 rfl) ?_
          refine lv_aload_n hx hb dX9_bill_57 rfl (lv_at hl 0 rfl) ?_
          refine callVI Sx hW (c_X9_everybody l D cI cZ cN b (upA M 0 (upd (M 0) 0 (0 : Int32))) tr N C hN hN7 hC hC4 hC1 ) vmX9_everybody mw454 [0, 1, 2, 3, 4, 5, 6, 7, 8, 9, 10, 11, 12, 13, 14, 15, 16, 17] rfl (by decide) 0 rfl rfl (As := []) (rest := [.int p0, .ref (b 7), .ref (b 0)]) rfl rfl hl.1 (Nat.le_of_ble_eq_true rfl) ⟨Nat.le_of_ble_eq_true rfl, Nat.le_of_ble_eq_true rfl⟩ ⟨Nat.le_refl _, Nat.le_refl _⟩ dX9_bill_58 (fun rx wx H locs hqx hW => ?_)
          obtain ⟨hrx, rfl⟩ := hqx
          have hW : AtC D (tyG cI cZ cN) Ax (pMod cI cZ b (upA M 0 (upd (M 0) 0 (0 : Int32))) tr) sx H locs := hW.re [] 18 (by decide) rfl rfl trivial (by decide +kernel) rfl rfl
          refine r_eq (y := (evM N)) hrx ?_
          refine lv_iconst (v := (-1 : Int32)) hx hb dX9_bill_61 rfl ?_
          refine callVI Sx hW (c_X9_voices_s l D cI cZ cN b (upA M 0 (upd (M 0) 0 (0 : Int32))) tr N C hN hN7 hC hC4 hC1 p0 (evM N) (-1 : Int32) ) vmX9_voices mw458 [0, 1, 2, 3, 4, 5, 6, 7, 8, 9, 10, 11, 12, 13, 14, 15, 16, 17] rfl (by decide) 0 rfl rfl (As := [.ref (b 7), .int p0, .int (evM N), .int (-1 : Int32)]) (rest := []) rfl rfl hl.1 (Nat.le_of_ble_eq_true rfl) ⟨Nat.le_of_ble_eq_true rfl, Nat.le_of_ble_eq_true rfl⟩ ⟨Nat.le_refl _, Nat.le_refl _⟩ dX9_bill_62 (fun rx wx H locs hqx hW => ?_)
          obtain ⟨hrx, rfl⟩ := hqx
          have hW : AtC D (tyG cI cZ cN) Ax (pMod cI cZ b (upA M 0 (upd (M 0) 0 (0 : Int32))) tr) sx H locs := hW.re [] 18 (by decide) rfl rfl trivial (by decide +kernel) rfl rfl
          refine r_eq (y := (voM (M 7) (M 5) N C p0 (evM N) (-1 : Int32))) hrx ?_
          refine lv_goto (tgt := 102) hx hb dX9_bill_65 rfl ?_
          exact hret _ _ _ _ _ _ hW rfl rfl dX9_bill_102 (⟨by rw [biM, if_neg c_11, if_neg c_20, if_neg c_26, if_pos c_48] <;> rfl, rfl⟩)
      · refine lv_aload_n hx hb dX9_bill_29 rfl (lv_at hl 0 rfl) ?_
        refine lv_aload_n hx hb dX9_bill_30 rfl (lv_at hl 0 rfl) ?_
        refine r_get Sx hW 0 rfl rfl bw_wsX90 15 (by decide) (v := .ref (b 7)) rfl mw120 dX9_bill_31 ?_
        refine lv_iload_n hx hb dX9_bill_34 rfl (lv_at hl 1 rfl) ?_
        refine lv_aload_n hx hb dX9_bill_35 rfl (lv_at hl 0 rfl) ?_
        refine callVI Sx hW (c_X9_everybody l D cI cZ cN b (upA M 0 (upd (M 0) 0 (0 : Int32))) tr N C hN hN7 hC hC4 hC1 ) vmX9_everybody mw454 [0, 1, 2, 3, 4, 5, 6, 7, 8, 9, 10, 11, 12, 13, 14, 15, 16, 17] rfl (by decide) 0 rfl rfl (As := []) (rest := [.int p0, .ref (b 7), .ref (b 0)]) rfl rfl hl.1 (Nat.le_of_ble_eq_true rfl) ⟨Nat.le_of_ble_eq_true rfl, Nat.le_of_ble_eq_true rfl⟩ ⟨Nat.le_refl _, Nat.le_refl _⟩ dX9_bill_36 (fun rx wx H locs hqx hW => ?_)
        obtain ⟨hrx, rfl⟩ := hqx
        have hW : AtC D (tyG cI cZ cN) Ax (pMod cI cZ b (upA M 0 (upd (M 0) 0 (0 : Int32))) tr) sx H locs := hW.re [] 18 (by decide) rfl rfl trivial (by decide +kernel) rfl rfl
        refine r_eq (y := (evM N)) hrx ?_
        refine lv_iconst (v := (1 : Int32)) hx hb dX9_bill_39 rfl ?_
        refine callVI Sx hW (c_X9_voices_s l D cI cZ cN b (upA M 0 (upd (M 0) 0 (0 : Int32))) tr N C hN hN7 hC hC4 hC1 p0 (evM N) (1 : Int32) ) vmX9_voices mw458 [0, 1, 2, 3, 4, 5, 6, 7, 8, 9, 10, 11, 12, 13, 14, 15, 16, 17] rfl (by decide) 0 rfl rfl (As := [.ref (b 7), .int p0, .int (evM N), .int (1 : Int32)]) (rest := []) rfl rfl hl.1 (Nat.le_of_ble_eq_true rfl) ⟨Nat.le_of_ble_eq_true rfl, Nat.le_of_ble_eq_true rfl⟩ ⟨Nat.le_refl _, Nat.le_refl _⟩ dX9_bill_40 (fun rx wx H locs hqx hW => ?_)
        obtain ⟨hrx, rfl⟩ := hqx
        have hW : AtC D (tyG cI cZ cN) Ax (pMod cI cZ b (upA M 0 (upd (M 0) 0 (0 : Int32))) tr) sx H locs := hW.re [] 18 (by decide) rfl rfl trivial (by decide +kernel) rfl rfl
        refine r_eq (y := (voM (M 7) (M 5) N C p0 (evM N) (1 : Int32))) hrx ?_
        refine lv_goto (tgt := 102) hx hb dX9_bill_43 rfl ?_
        exact hret _ _ _ _ _ _ hW rfl rfl dX9_bill_102 (⟨by rw [biM, if_neg c_11, if_neg c_20, if_pos c_26] <;> rfl, rfl⟩)
    · refine lv_iconst (v := (-1 : Int32)) hx hb dX9_bill_23 rfl ?_
      exact hret _ _ _ _ _ _ hW rfl rfl dX9_bill_24 (⟨by rw [biM, if_neg c_11, if_pos c_20], rfl⟩)

set_option maxHeartbeats 4000000 in
set_option maxRecDepth 100000 in
theorem c_X9_asNow (l : Launch) (D : va_G) (cI cZ cN : ClassId) (b : Nat → Nat) (M : NV) (tr : Int64) (N C : Nat) (hN : M 2 1 = nI N) (hN7 : N ≤ 7) (hC : M 2 0 = nI C) (hC4 : C ≤ 4) (hC1 : 1 ≤ C) : CtV l yX9_asNow cX9_asNow 2 0 D (tyG cI cZ cN) [.ref (b 0)] (pMod cI cZ b M tr) (fun w => w = (pMod cI cZ b (upA M 8 (cpA (M 8) (M 7) 25)) tr)) := by
  refine CtV.of rfl (Nat.le_of_ble_eq_true rfl) ?_
  intro pg ev sx mx ax bx mt cx ls Qx Ax Sx hret hW hl
  have hx := Sx.1
  have hb := Sx.2.1
  have hl : lv_has ls 2 [(0, .ref (b 0))] := hl
  refine lv_iconst (v := (0 : Int32)) hx hb dX9_asNow_0 rfl ?_
  refine lv_istore_n (lv' := [(1, .int (0 : Int32)), (0, .ref (b 0))]) hx hb dX9_asNow_1 rfl hl (by decide) rfl (fun ls hl => ?_)
  have lp_2 : ∀ (n : Nat) (i : Nat), ((i ≤ 25)) → ((25 + 1 ≤ i + n)) → ∀ (H : Heap) (locs : List Loc) (ls : Array Slot), AtC D (tyG cI cZ cN) Ax (pMod cI cZ b (upA M 8 (cpA (M 8) (M 7) i)) tr) sx H locs → lv_has ls 2 [(0, .ref (b 0)), (1, .int (nI i))] → W pg l ev (rmN 0) sx mx ax bx mt cx H locs 0 0 Qx (F0 mx 2 ls []) := by
    intro n
    induction n with
    | zero =>
      intro i hi_2 hn_2 H locs ls hW hl
      exact absurd hn_2 (by omega)
    | succ n ih2 =>
      intro i hi_2 hn_2 H locs ls hW hl
      refine lv_iload_n hx hb dX9_asNow_2 rfl (lv_at hl 1 rfl) ?_
      refine lv_bipush (v := (25 : Int32)) hx hb dX9_asNow_3 rfl ?_
      refine lv_icmp_ge (tgt := 26) hx hb dX9_asNow_5 rfl (fun c_5 => ?_) (fun c_5 => ?_)
      · have ge_5 : 25 ≤ i := (nI_leI (a := 25) (b := i) (by omega) (by omega)).mp c_5
        have ee_5 : 25 = i := by omega
        subst ee_5
        exact hret _ _ _ _ _ hW rfl dX9_asNow_26 rfl
      · have lt_5 : i < 25 := Nat.not_le.mp (fun h => c_5 ((nI_leI (a := 25) (b := i) (by omega) (by omega)).mpr h))
        refine lv_aload_n hx hb dX9_asNow_8 rfl (lv_at hl 0 rfl) ?_
        refine r_get Sx hW 0 rfl rfl bw_wsX90 16 (by decide) (v := .ref (b 8)) rfl mw121 dX9_asNow_9 ?_
        refine lv_iload_n hx hb dX9_asNow_12 rfl (lv_at hl 1 rfl) ?_
        refine lv_aload_n hx hb dX9_asNow_13 rfl (lv_at hl 0 rfl) ?_
        refine r_get Sx hW 0 rfl rfl bw_wsX90 15 (by decide) (v := .ref (b 7)) rfl mw120 dX9_asNow_14 ?_
        refine lv_iload_n hx hb dX9_asNow_17 rfl (lv_at hl 1 rfl) ?_
        refine r_iald Sx hW 7 0 (f := (M 7)) rfl rfl (j := i) rfl (by omega) (by decide) dX9_asNow_18 ?_
        refine r_iast Sx hW 8 0 rfl rfl (j := i) rfl (by omega) (by decide) dX9_asNow_19 (ws' := (pMod cI cZ b (upA M 8 (upd (cpA (M 8) (M 7) i) i ((M 7) i))) tr)) rfl (fun H locs hW => ?_)
        refine lv_iinc (v := (nI (i + 1))) (lv' := [(1, .int (nI (i + 1))), (0, .ref (b 0))]) hx hb dX9_asNow_20 hl (k := 1) rfl (inc_n i 1) (by decide) rfl (fun ls hl => ?_)
        refine lv_goto (tgt := 2) hx hb dX9_asNow_23 rfl ?_
        exact ih2 (i + 1) (by omega) (by omega) _ _ _ hW (lv_sub hl [1, 0] rfl)
  exact lp_2 (25 + 1) 0 (by omega) (by omega) _ _ _ hW (lv_sub hl [1, 0] rfl)

set_option maxHeartbeats 4000000 in
set_option maxRecDepth 100000 in
theorem c_X9_taxBy (l : Launch) (D : va_G) (cI cZ cN : ClassId) (b : Nat → Nat) (M : NV) (tr : Int64) (N C : Nat) (hN : M 2 1 = nI N) (hN7 : N ≤ 7) (hC : M 2 0 = nI C) (hC4 : C ≤ 4) (hC1 : 1 ≤ C) (P : Nat) (k : Int32) (hP : P < N) : CtI l yX9_taxBy cX9_taxBy 3 (some .int) 3 D (tyG cI cZ cN) [.ref (b 0), .int (nI P), .int k] (pMod cI cZ b M tr) (fun r w => r = txM (tbW (M 8) (M 7) P k) N P ∧ w = (pMod cI cZ b (upA M 8 (tbW (M 8) (M 7) P k)) tr)) := by
  refine CtI.of rfl (Nat.le_of_ble_eq_true rfl) ?_
  intro pg ev sx mx ax bx mt cx ls Qx Ax Sx hret hW hl
  have hx := Sx.1
  have hb := Sx.2.1
  have hl : lv_has ls 3 [(0, .ref (b 0)), (1, .int (nI P)), (2, .int k)] := hl
  refine lv_aload_n hx hb dX9_taxBy_0 rfl (lv_at hl 0 rfl) ?_
  refine callVV Sx hW (c_X9_asNow l D cI cZ cN b M tr N C hN hN7 hC hC4 hC1 ) vmX9_asNow mw529 [0, 1, 2, 3, 4, 5, 6, 7, 8, 9, 10, 11, 12, 13, 14, 15, 16, 17] rfl (by decide) 0 rfl rfl (As := []) (rest := []) rfl rfl hl.1 (Nat.le_of_ble_eq_true rfl) ⟨Nat.le_of_ble_eq_true rfl, Nat.le_of_ble_eq_true rfl⟩ ⟨Nat.le_refl _, Nat.le_refl _⟩ dX9_taxBy_1 (fun wx H locs hqx hW => ?_)
  obtain rfl := hqx
  have hW : AtC D (tyG cI cZ cN) Ax (pMod cI cZ b (upA M 8 ((cpA (M 8) (M 7) 25))) tr) sx H locs := hW.re [] 18 (by decide) rfl rfl trivial (by decide +kernel) rfl rfl
  refine lv_aload_n hx hb dX9_taxBy_4 rfl (lv_at hl 0 rfl) ?_
  refine r_get Sx hW 0 rfl rfl bw_wsX90 16 (by decide) (v := .ref (b 8)) rfl mw121 dX9_taxBy_5 ?_
  refine lv_iconst (v := (0 : Int32)) hx hb dX9_taxBy_8 rfl ?_
  refine lv_iload_n hx hb dX9_taxBy_9 rfl (lv_at hl 1 rfl) ?_
  refine lv_iadd hx hb dX9_taxBy_10 ?_
  refine r_eq (y := (nI P)) ((nI_add 0 P).trans (congrArg nI (Nat.zero_add P))) ?_
  refine lv_iload_n hx hb dX9_taxBy_11 rfl (lv_at hl 2 rfl) ?_
  refine r_iast Sx hW 8 0 rfl rfl (j := P) rfl (by omega) (by decide) dX9_taxBy_12 (ws' := (pMod cI cZ b (upA M 8 (upd ((cpA (M 8) (M 7) 25)) P k)) tr)) rfl (fun H locs hW => ?_)
  refine lv_aload_n hx hb dX9_taxBy_13 rfl (lv_at hl 0 rfl) ?_
  refine lv_aload_n hx hb dX9_taxBy_14 rfl (lv_at hl 0 rfl) ?_
  refine r_get Sx hW 0 rfl rfl bw_wsX90 16 (by decide) (v := .ref (b 8)) rfl mw121 dX9_taxBy_15 ?_
  refine lv_iload_n hx hb dX9_taxBy_18 rfl (lv_at hl 1 rfl) ?_
  refine callVI Sx hW (c_X9_tax_w l D cI cZ cN b (upA M 8 (upd ((cpA (M 8) (M 7) 25)) P k)) tr N C hN hN7 hC hC4 hC1 P (by omega) ) vmX9_tax mw370 [0, 1, 2, 3, 4, 5, 6, 7, 8, 9, 10, 11, 12, 13, 14, 15, 16, 17] rfl (by decide) 0 rfl rfl (As := [.ref (b 8), .int (nI P)]) (rest := []) rfl rfl hl.1 (Nat.le_of_ble_eq_true rfl) ⟨Nat.le_of_ble_eq_true rfl, Nat.le_of_ble_eq_true rfl⟩ ⟨Nat.le_refl _, Nat.le_refl _⟩ dX9_taxBy_19 (fun rx wx H locs hqx hW => ?_)
  obtain ⟨hrx, rfl⟩ := hqx
  have hW : AtC D (tyG cI cZ cN) Ax (pMod cI cZ b (upA M 8 (upd ((cpA (M 8) (M 7) 25)) P k)) tr) sx H locs := hW.re [] 18 (by decide) rfl rfl trivial (by decide +kernel) rfl rfl
  refine r_eq (y := (txM (upd ((cpA (M 8) (M 7) 25)) P k) N P)) hrx ?_
  exact hret _ _ _ _ _ _ hW rfl rfl dX9_taxBy_22 (⟨rfl, rfl⟩)

set_option maxHeartbeats 4000000 in
set_option maxRecDepth 100000 in
theorem c_X9_cheapestOf (l : Launch) (D : va_G) (cI cZ cN : ClassId) (b : Nat → Nat) (M : NV) (tr : Int64) (N C : Nat) (hN : M 2 1 = nI N) (hN7 : N ≤ 7) (hC : M 2 0 = nI C) (hC4 : C ≤ 4) (hC1 : 1 ≤ C) (P : Nat) (hP : P < N) : CtI l yX9_cheapestOf cX9_cheapestOf 4 (some .int) 4 D (tyG cI cZ cN) [.ref (b 0), .int (nI P)] (pMod cI cZ b M tr) (fun r w => r = (coM (M 7) (M 8) N P (C - 1)).1 ∧ w = (pMod cI cZ b (upA M 8 ((coM (M 7) (M 8) N P (C - 1)).2)) tr)) := by
  refine CtI.of rfl (Nat.le_of_ble_eq_true rfl) ?_
  intro pg ev sx mx ax bx mt cx ls Qx Ax Sx hret hW hl
  have hx := Sx.1
  have hb := Sx.2.1
  have hl : lv_has ls 4 [(0, .ref (b 0)), (1, .int (nI P))] := hl
  refine lv_iconst (v := (0 : Int32)) hx hb dX9_cheapestOf_0 rfl ?_
  refine lv_istore_n (lv' := [(2, .int (0 : Int32)), (0, .ref (b 0)), (1, .int (nI P))]) hx hb dX9_cheapestOf_1 rfl hl (by decide) rfl (fun ls hl => ?_)
  refine lv_iconst (v := (1 : Int32)) hx hb dX9_cheapestOf_2 rfl ?_
  refine lv_istore_n (lv' := [(3, .int (1 : Int32)), (2, .int (0 : Int32)), (0, .ref (b 0)), (1, .int (nI P))]) hx hb dX9_cheapestOf_3 rfl hl (by decide) rfl (fun ls hl => ?_)
  have lp_4 : ∀ (n : Nat) (j : Nat), ((j + 1 ≤ C)) → ((C + 1 ≤ j + 1 + n)) → ∀ (H : Heap) (locs : List Loc) (ls : Array Slot), AtC D (tyG cI cZ cN) Ax (pMod cI cZ b (upA M 8 ((coM (M 7) (M 8) N P j).2)) tr) sx H locs → lv_has ls 4 [(0, .ref (b 0)), (1, .int (nI P)), (2, .int (coM (M 7) (M 8) N P j).1), (3, .int (nI (j + 1)))] → W pg l ev (rmN 4) sx mx ax bx mt cx H locs 0 0 Qx (F0 mx 4 ls []) := by
    intro n
    induction n with
    | zero =>
      intro j hj_4 hn_4 H locs ls hW hl
      exact absurd hn_4 (by omega)
    | succ n ih4 =>
      intro j hj_4 hn_4 H locs ls hW hl
      refine lv_iload_n hx hb dX9_cheapestOf_4 rfl (lv_at hl 3 rfl) ?_
      refine lv_aload_n hx hb dX9_cheapestOf_5 rfl (lv_at hl 0 rfl) ?_
      refine r_get Sx hW 0 rfl rfl bw_wsX90 9 (by decide) (v := .ref (b 2)) rfl mw115 dX9_cheapestOf_6 ?_
      refine lv_iconst (v := (0 : Int32)) hx hb dX9_cheapestOf_9 rfl ?_
      refine r_iald Sx hW 2 0 (f := (M 2)) rfl rfl (j := 0) rfl (by decide) (by decide) dX9_cheapestOf_10 ?_
      refine r_eq (y := (nI C)) hC ?_
      refine lv_icmp_ge (tgt := 41) hx hb dX9_cheapestOf_11 rfl (fun c_11 => ?_) (fun c_11 => ?_)
      · have ge_11 : C ≤ j + 1 := (nI_leI (a := C) (b := j + 1) (by omega) (by omega)).mp c_11
        have ee_11 : C - 1 = j := by omega
        subst ee_11
        refine lv_iload_n hx hb dX9_cheapestOf_41 rfl (lv_at hl 2 rfl) ?_
        exact hret _ _ _ _ _ _ hW rfl rfl dX9_cheapestOf_42 (⟨rfl, rfl⟩)
      · have lt_11 : j + 1 < C := Nat.not_le.mp (fun h => c_11 ((nI_leI (a := C) (b := j + 1) (by omega) (by omega)).mpr h))
        refine lv_aload_n hx hb dX9_cheapestOf_14 rfl (lv_at hl 0 rfl) ?_
        refine lv_iload_n hx hb dX9_cheapestOf_15 rfl (lv_at hl 1 rfl) ?_
        refine lv_iload_n hx hb dX9_cheapestOf_16 rfl (lv_at hl 3 rfl) ?_
        refine callVI Sx hW (c_X9_taxBy l D cI cZ cN b (upA M 8 ((coM (M 7) (M 8) N P j).2)) tr N C hN hN7 hC hC4 hC1 P (nI (j + 1)) (by omega) ) vmX9_taxBy mw525 [0, 1, 2, 3, 4, 5, 6, 7, 8, 9, 10, 11, 12, 13, 14, 15, 16, 17] rfl (by decide) 0 rfl rfl (As := [.int (nI P), .int (nI (j + 1))]) (rest := []) rfl rfl hl.1 (Nat.le_of_ble_eq_true rfl) ⟨Nat.le_of_ble_eq_true rfl, Nat.le_of_ble_eq_true rfl⟩ ⟨Nat.le_refl _, Nat.le_refl _⟩ dX9_cheapestOf_17 (fun rx wx H locs hqx hW => ?_)
        obtain ⟨hrx, rfl⟩ := hqx
        have hW : AtC D (tyG cI cZ cN) Ax (pMod cI cZ b (upA M 8 ((tbW ((coM (M 7) (M 8) N P j).2) (M 7) P (nI (j + 1))))) tr) sx H locs := hW.re [] 18 (by decide) rfl rfl trivial (by decide +kernel) rfl rfl
        refine r_eq (y := (txM (tbW ((coM (M 7) (M 8) N P j).2) (M 7) P (nI (j + 1))) N P)) hrx ?_
        refine lv_aload_n hx hb dX9_cheapestOf_20 rfl (lv_at hl 0 rfl) ?_
        refine lv_iload_n hx hb dX9_cheapestOf_21 rfl (lv_at hl 1 rfl) ?_
        refine lv_iload_n hx hb dX9_cheapestOf_22 rfl (lv_at hl 2 rfl) ?_
        refine callVI Sx hW (c_X9_taxBy l D cI cZ cN b (upA M 8 ((tbW ((coM (M 7) (M 8) N P j).2) (M 7) P (nI (j + 1))))) tr N C hN hN7 hC hC4 hC1 P ((coM (M 7) (M 8) N P j).1) (by omega) ) vmX9_taxBy mw525 [0, 1, 2, 3, 4, 5, 6, 7, 8, 9, 10, 11, 12, 13, 14, 15, 16, 17] rfl (by decide) 0 rfl rfl (As := [.int (nI P), .int (coM (M 7) (M 8) N P j).1]) (rest := [.int (txM (tbW ((coM (M 7) (M 8) N P j).2) (M 7) P (nI (j + 1))) N P)]) rfl rfl hl.1 (Nat.le_of_ble_eq_true rfl) ⟨Nat.le_of_ble_eq_true rfl, Nat.le_of_ble_eq_true rfl⟩ ⟨Nat.le_refl _, Nat.le_refl _⟩ dX9_cheapestOf_23 (fun rx wx H locs hqx hW => ?_)
        obtain ⟨hrx, rfl⟩ := hqx
        have hW : AtC D (tyG cI cZ cN) Ax (pMod cI cZ b (upA M 8 ((tbW ((tbW ((coM (M 7) (M 8) N P j).2) (M 7) P (nI (j + 1)))) (M 7) P ((coM (M 7) (M 8) N P j).1)))) tr) sx H locs := hW.re [] 18 (by decide) rfl rfl trivial (by decide +kernel) rfl rfl
        refine r_eq (y := (txM (tbW ((tbW ((coM (M 7) (M 8) N P j).2) (M 7) P (nI (j + 1)))) (M 7) P ((coM (M 7) (M 8) N P j).1)) N P)) hrx ?_
        refine lv_icmp_ge (tgt := 33) hx hb dX9_cheapestOf_26 rfl (fun c_26 => ?_) (fun c_26 => ?_)
        · refine lv_iload_n hx hb dX9_cheapestOf_33 rfl (lv_at hl 2 rfl) ?_
          refine lv_istore_n (lv' := [(2, .int (coM (M 7) (M 8) N P j).1), (0, .ref (b 0)), (1, .int (nI P)), (3, .int (nI (j + 1)))]) hx hb dX9_cheapestOf_34 rfl hl (by decide) rfl (fun ls hl => ?_)
          refine lv_iinc (v := (nI ((j + 1) + 1))) (lv' := [(3, .int (nI ((j + 1) + 1))), (2, .int (coM (M 7) (M 8) N P j).1), (0, .ref (b 0)), (1, .int (nI P))]) hx hb dX9_cheapestOf_35 hl (k := 3) rfl (inc_n (j + 1) 1) (by decide) rfl (fun ls hl => ?_)
          refine lv_goto (tgt := 4) hx hb dX9_cheapestOf_38 rfl ?_
          have hl_1 : lv_has ls 4 [(0, .ref (b 0)), (1, .int (nI P)), (2, .int (coM (M 7) (M 8) N P (j + 1)).1), (3, .int (nI ((j + 1) + 1)))] := by
            rw [show (coM (M 7) (M 8) N P (j + 1)).1 = (coM (M 7) (M 8) N P j).1 from by rw [coM]; exact (if_neg (fun h => absurd h (Int32.not_lt.mpr c_26)))]
            exact lv_sub hl [2, 3, 1, 0] rfl
          exact ih4 (j + 1) (by omega) (by omega) _ _ _ hW hl_1
        · refine lv_iload_n hx hb dX9_cheapestOf_29 rfl (lv_at hl 3 rfl) ?_
          refine lv_goto (tgt := 34) hx hb dX9_cheapestOf_30 rfl ?_
          refine lv_istore_n (lv' := [(2, .int (nI (j + 1))), (0, .ref (b 0)), (1, .int (nI P)), (3, .int (nI (j + 1)))]) hx hb dX9_cheapestOf_34 rfl hl (by decide) rfl (fun ls hl => ?_)
          refine lv_iinc (v := (nI ((j + 1) + 1))) (lv' := [(3, .int (nI ((j + 1) + 1))), (2, .int (nI (j + 1))), (0, .ref (b 0)), (1, .int (nI P))]) hx hb dX9_cheapestOf_35 hl (k := 3) rfl (inc_n (j + 1) 1) (by decide) rfl (fun ls hl => ?_)
          refine lv_goto (tgt := 4) hx hb dX9_cheapestOf_38 rfl ?_
          have hl_2 : lv_has ls 4 [(0, .ref (b 0)), (1, .int (nI P)), (2, .int (coM (M 7) (M 8) N P (j + 1)).1), (3, .int (nI ((j + 1) + 1)))] := by
            rw [show (coM (M 7) (M 8) N P (j + 1)).1 = (nI (j + 1)) from by rw [coM]; exact (if_pos (Int32.not_le.mp c_26))]
            exact lv_sub hl [2, 3, 1, 0] rfl
          exact ih4 (j + 1) (by omega) (by omega) _ _ _ hW hl_2
  exact lp_4 (C + 1) 0 (by omega) (by omega) _ _ _ hW (lv_sub hl [2, 3, 1, 0] rfl)

set_option maxHeartbeats 4000000 in
set_option maxRecDepth 100000 in
theorem c_X9_restless (l : Launch) (D : va_G) (cI cZ cN : ClassId) (b : Nat → Nat) (M : NV) (tr : Int64) (N C : Nat) (hN : M 2 1 = nI N) (hN7 : N ≤ 7) (hC : M 2 0 = nI C) (hC4 : C ≤ 4) (hC1 : 1 ≤ C) : CtI l yX9_restless cX9_restless 3 (some .int) 5 D (tyG cI cZ cN) [.ref (b 0)] (pMod cI cZ b M tr) (fun r w => r = (rsM (M 7) (M 8) N C N).1 ∧ w = (pMod cI cZ b (upA M 8 ((rsM (M 7) (M 8) N C N).2)) tr)) := by
  refine CtI.of rfl (Nat.le_of_ble_eq_true rfl) ?_
  intro pg ev sx mx ax bx mt cx ls Qx Ax Sx hret hW hl
  have hx := Sx.1
  have hb := Sx.2.1
  have hl : lv_has ls 3 [(0, .ref (b 0))] := hl
  refine lv_iconst (v := (0 : Int32)) hx hb dX9_restless_0 rfl ?_
  refine lv_istore_n (lv' := [(1, .int (0 : Int32)), (0, .ref (b 0))]) hx hb dX9_restless_1 rfl hl (by decide) rfl (fun ls hl => ?_)
  refine lv_iconst (v := (0 : Int32)) hx hb dX9_restless_2 rfl ?_
  refine lv_istore_n (lv' := [(2, .int (0 : Int32)), (1, .int (0 : Int32)), (0, .ref (b 0))]) hx hb dX9_restless_3 rfl hl (by decide) rfl (fun ls hl => ?_)
  have lp_4 : ∀ (n : Nat) (i : Nat), ((i ≤ N)) → ((N + 1 ≤ i + n)) → ∀ (H : Heap) (locs : List Loc) (ls : Array Slot), AtC D (tyG cI cZ cN) Ax (pMod cI cZ b (upA M 8 ((rsM (M 7) (M 8) N C i).2)) tr) sx H locs → lv_has ls 3 [(0, .ref (b 0)), (1, .int (rsM (M 7) (M 8) N C i).1), (2, .int (nI i))] → W pg l ev (rmN 5) sx mx ax bx mt cx H locs 0 0 Qx (F0 mx 4 ls []) := by
    intro n
    induction n with
    | zero =>
      intro i hi_4 hn_4 H locs ls hW hl
      exact absurd hn_4 (by omega)
    | succ n ih4 =>
      intro i hi_4 hn_4 H locs ls hW hl
      refine lv_iload_n hx hb dX9_restless_4 rfl (lv_at hl 2 rfl) ?_
      refine lv_aload_n hx hb dX9_restless_5 rfl (lv_at hl 0 rfl) ?_
      refine r_get Sx hW 0 rfl rfl bw_wsX90 9 (by decide) (v := .ref (b 2)) rfl mw115 dX9_restless_6 ?_
      refine lv_iconst (v := (1 : Int32)) hx hb dX9_restless_9 rfl ?_
      refine r_iald Sx hW 2 0 (f := (M 2)) rfl rfl (j := 1) rfl (by decide) (by decide) dX9_restless_10 ?_
      refine r_eq (y := (nI N)) hN ?_
      refine lv_icmp_ge (tgt := 52) hx hb dX9_restless_11 rfl (fun c_11 => ?_) (fun c_11 => ?_)
      · have ge_11 : N ≤ i := (nI_leI (a := N) (b := i) (by omega) (by omega)).mp c_11
        have ee_11 : N = i := by omega
        subst ee_11
        refine lv_iload_n hx hb dX9_restless_52 rfl (lv_at hl 1 rfl) ?_
        exact hret _ _ _ _ _ _ hW rfl rfl dX9_restless_53 (⟨rfl, rfl⟩)
      · have lt_11 : i < N := Nat.not_le.mp (fun h => c_11 ((nI_leI (a := N) (b := i) (by omega) (by omega)).mpr h))
        refine lv_iload_n hx hb dX9_restless_14 rfl (lv_at hl 1 rfl) ?_
        refine lv_aload_n hx hb dX9_restless_15 rfl (lv_at hl 0 rfl) ?_
        refine lv_iload_n hx hb dX9_restless_16 rfl (lv_at hl 2 rfl) ?_
        refine lv_aload_n hx hb dX9_restless_17 rfl (lv_at hl 0 rfl) ?_
        refine lv_iload_n hx hb dX9_restless_18 rfl (lv_at hl 2 rfl) ?_
        refine callVI Sx hW (c_X9_cheapestOf l D cI cZ cN b (upA M 8 ((rsM (M 7) (M 8) N C i).2)) tr N C hN hN7 hC hC4 hC1 i (by omega) ) vmX9_cheapestOf mw521 [0, 1, 2, 3, 4, 5, 6, 7, 8, 9, 10, 11, 12, 13, 14, 15, 16, 17] rfl (by decide) 0 rfl rfl (As := [.int (nI i)]) (rest := [.int (nI i), .ref (b 0), .int (rsM (M 7) (M 8) N C i).1]) rfl rfl hl.1 (Nat.le_of_ble_eq_true rfl) ⟨Nat.le_of_ble_eq_true rfl, Nat.le_of_ble_eq_true rfl⟩ ⟨Nat.le_refl _, Nat.le_refl _⟩ dX9_restless_19 (fun rx wx H locs hqx hW => ?_)
        obtain ⟨hrx, rfl⟩ := hqx
        have hW : AtC D (tyG cI cZ cN) Ax (pMod cI cZ b (upA M 8 ((coM (M 7) ((rsM (M 7) (M 8) N C i).2) N i (C - 1)).2)) tr) sx H locs := hW.re [] 18 (by decide) rfl rfl trivial (by decide +kernel) rfl rfl
        refine r_eq (y := ((coM (M 7) ((rsM (M 7) (M 8) N C i).2) N i (C - 1)).1)) hrx ?_
        refine callVI Sx hW (c_X9_taxBy l D cI cZ cN b (upA M 8 ((coM (M 7) ((rsM (M 7) (M 8) N C i).2) N i (C - 1)).2)) tr N C hN hN7 hC hC4 hC1 i ((coM (M 7) ((rsM (M 7) (M 8) N C i).2) N i (C - 1)).1) (by omega) ) vmX9_taxBy mw525 [0, 1, 2, 3, 4, 5, 6, 7, 8, 9, 10, 11, 12, 13, 14, 15, 16, 17] rfl (by decide) 0 rfl rfl (As := [.int (nI i), .int ((coM (M 7) ((rsM (M 7) (M 8) N C i).2) N i (C - 1)).1)]) (rest := [.int (rsM (M 7) (M 8) N C i).1]) rfl rfl hl.1 (Nat.le_of_ble_eq_true rfl) ⟨Nat.le_of_ble_eq_true rfl, Nat.le_of_ble_eq_true rfl⟩ ⟨Nat.le_refl _, Nat.le_refl _⟩ dX9_restless_22 (fun rx wx H locs hqx hW => ?_)
        obtain ⟨hrx, rfl⟩ := hqx
        have hW : AtC D (tyG cI cZ cN) Ax (pMod cI cZ b (upA M 8 ((tbW ((coM (M 7) ((rsM (M 7) (M 8) N C i).2) N i (C - 1)).2) (M 7) i ((coM (M 7) ((rsM (M 7) (M 8) N C i).2) N i (C - 1)).1)))) tr) sx H locs := hW.re [] 18 (by decide) rfl rfl trivial (by decide +kernel) rfl rfl
        refine r_eq (y := (txM (tbW ((coM (M 7) ((rsM (M 7) (M 8) N C i).2) N i (C - 1)).2) (M 7) i ((coM (M 7) ((rsM (M 7) (M 8) N C i).2) N i (C - 1)).1)) N i)) hrx ?_
        refine lv_aload_n hx hb dX9_restless_25 rfl (lv_at hl 0 rfl) ?_
        refine lv_aload_n hx hb dX9_restless_26 rfl (lv_at hl 0 rfl) ?_
        refine r_get Sx hW 0 rfl rfl bw_wsX90 15 (by decide) (v := .ref (b 7)) rfl mw120 dX9_restless_27 ?_
        refine lv_iload_n hx hb dX9_restless_30 rfl (lv_at hl 2 rfl) ?_
        refine callVI Sx hW (c_X9_tax_s l D cI cZ cN b (upA M 8 ((tbW ((coM (M 7) ((rsM (M 7) (M 8) N C i).2) N i (C - 1)).2) (M 7) i ((coM (M 7) ((rsM (M 7) (M 8) N C i).2) N i (C - 1)).1)))) tr N C hN hN7 hC hC4 hC1 i (by omega) ) vmX9_tax mw370 [0, 1, 2, 3, 4, 5, 6, 7, 8, 9, 10, 11, 12, 13, 14, 15, 16, 17] rfl (by decide) 0 rfl rfl (As := [.ref (b 7), .int (nI i)]) (rest := [.int (txM (tbW ((coM (M 7) ((rsM (M 7) (M 8) N C i).2) N i (C - 1)).2) (M 7) i ((coM (M 7) ((rsM (M 7) (M 8) N C i).2) N i (C - 1)).1)) N i), .int (rsM (M 7) (M 8) N C i).1]) rfl rfl hl.1 (Nat.le_of_ble_eq_true rfl) ⟨Nat.le_of_ble_eq_true rfl, Nat.le_of_ble_eq_true rfl⟩ ⟨Nat.le_refl _, Nat.le_refl _⟩ dX9_restless_31 (fun rx wx H locs hqx hW => ?_)
        obtain ⟨hrx, rfl⟩ := hqx
        have hW : AtC D (tyG cI cZ cN) Ax (pMod cI cZ b (upA M 8 ((tbW ((coM (M 7) ((rsM (M 7) (M 8) N C i).2) N i (C - 1)).2) (M 7) i ((coM (M 7) ((rsM (M 7) (M 8) N C i).2) N i (C - 1)).1)))) tr) sx H locs := hW.re [] 18 (by decide) rfl rfl trivial (by decide +kernel) rfl rfl
        refine r_eq (y := (txM (M 7) N i)) hrx ?_
        refine lv_icmp_ge (tgt := 43) hx hb dX9_restless_34 rfl (fun c_34 => ?_) (fun c_34 => ?_)
        · refine lv_iconst (v := (0 : Int32)) hx hb dX9_restless_43 rfl ?_
          refine lv_ior hx hb dX9_restless_44 ?_
          refine lv_istore_n (lv' := [(1, .int ((rsM (M 7) (M 8) N C i).1 ||| (0 : Int32))), (0, .ref (b 0)), (2, .int (nI i))]) hx hb dX9_restless_45 rfl hl (by decide) rfl (fun ls hl => ?_)
          refine lv_iinc (v := (nI (i + 1))) (lv' := [(2, .int (nI (i + 1))), (1, .int ((rsM (M 7) (M 8) N C i).1 ||| (0 : Int32))), (0, .ref (b 0))]) hx hb dX9_restless_46 hl (k := 2) rfl (inc_n i 1) (by decide) rfl (fun ls hl => ?_)
          refine lv_goto (tgt := 4) hx hb dX9_restless_49 rfl ?_
          have hl_1 : lv_has ls 3 [(0, .ref (b 0)), (1, .int (rsM (M 7) (M 8) N C (i + 1)).1), (2, .int (nI (i + 1)))] := by
            rw [show (rsM (M 7) (M 8) N C (i + 1)).1 = ((rsM (M 7) (M 8) N C i).1 ||| (0 : Int32)) from by rw [rsM]; exact congrArg (_ ||| ·) (if_pos c_34)]
            exact lv_sub hl [2, 1, 0] rfl
          exact ih4 (i + 1) (by omega) (by omega) _ _ _ hW hl_1
        · refine lv_iconst (v := (1 : Int32)) hx hb dX9_restless_37 rfl ?_
          refine lv_iload_n hx hb dX9_restless_38 rfl (lv_at hl 2 rfl) ?_
          refine lv_ishl hx hb dX9_restless_39 ?_
          refine lv_goto (tgt := 44) hx hb dX9_restless_40 rfl ?_
          refine lv_ior hx hb dX9_restless_44 ?_
          refine lv_istore_n (lv' := [(1, .int ((rsM (M 7) (M 8) N C i).1 ||| ((1 : Int32) <<< ((nI i) &&& 31)))), (0, .ref (b 0)), (2, .int (nI i))]) hx hb dX9_restless_45 rfl hl (by decide) rfl (fun ls hl => ?_)
          refine lv_iinc (v := (nI (i + 1))) (lv' := [(2, .int (nI (i + 1))), (1, .int ((rsM (M 7) (M 8) N C i).1 ||| ((1 : Int32) <<< ((nI i) &&& 31)))), (0, .ref (b 0))]) hx hb dX9_restless_46 hl (k := 2) rfl (inc_n i 1) (by decide) rfl (fun ls hl => ?_)
          refine lv_goto (tgt := 4) hx hb dX9_restless_49 rfl ?_
          have hl_2 : lv_has ls 3 [(0, .ref (b 0)), (1, .int (rsM (M 7) (M 8) N C (i + 1)).1), (2, .int (nI (i + 1)))] := by
            rw [show (rsM (M 7) (M 8) N C (i + 1)).1 = ((rsM (M 7) (M 8) N C i).1 ||| ((1 : Int32) <<< ((nI i) &&& 31))) from by rw [rsM]; exact congrArg (_ ||| ·) (if_neg c_34)]
            exact lv_sub hl [2, 1, 0] rfl
          exact ih4 (i + 1) (by omega) (by omega) _ _ _ hW hl_2
  exact lp_4 (N + 1) 0 (by omega) (by omega) _ _ _ hW (lv_sub hl [2, 1, 0] rfl)

set_option maxHeartbeats 4000000 in
set_option maxRecDepth 100000 in
theorem c_X9_cheapest (l : Launch) (D : va_G) (cI cZ cN : ClassId) (b : Nat → Nat) (M : NV) (tr : Int64) (N C : Nat) (hN : M 2 1 = nI N) (hN7 : N ≤ 7) (hC : M 2 0 = nI C) (hC4 : C ≤ 4) (hC1 : 1 ≤ C) (p0 : Int32) : CtI l yX9_cheapest cX9_cheapest 2 (some .int) 5 D (tyG cI cZ cN) [.ref (b 0), .int p0] (pMod cI cZ b M tr) (fun r w => r = opP N p0 (fun P => (coM (M 7) (M 8) N P (C - 1)).1) ∧ w = if ¬ inI p0 0 (nI N - 1) = 0 then (pMod cI cZ b (upA (upA M 8 ((coM (M 7) (M 8) N p0.toNatClampNeg (C - 1)).2)) 0 (upd (M 0) 0 (0 : Int32))) tr) else (pMod cI cZ b (upA M 0 (upd (M 0) 0 (0 : Int32))) tr)) := by
  refine CtI.of rfl (Nat.le_of_ble_eq_true rfl) ?_
  intro pg ev sx mx ax bx mt cx ls Qx Ax Sx hret hW hl
  have hx := Sx.1
  have hb := Sx.2.1
  have hl : lv_has ls 2 [(0, .ref (b 0)), (1, .int p0)] := hl
  refine lv_aload_n hx hb dX9_cheapest_0 rfl (lv_at hl 0 rfl) ?_
  refine lv_iconst (v := (0 : Int32)) hx hb dX9_cheapest_1 rfl ?_
  refine r_put Sx hW 0 rfl rfl bw_wsX90 tyX9_ok nmX9 0 (by decide) mw144 rfl rfl rfl (Nat.le_of_ble_eq_true rfl) dX9_cheapest_2 (ws' := (pMod cI cZ b (upA M 0 (upd (M 0) 0 (0 : Int32))) tr)) rfl (fun H locs hW => ?_)
  refine lv_aload_n hx hb dX9_cheapest_5 rfl (lv_at hl 0 rfl) ?_
  refine lv_iload_n hx hb dX9_cheapest_6 rfl (lv_at hl 1 rfl) ?_
  refine callVI Sx hW (c_X9_isPerson l D cI cZ cN b (upA M 0 (upd (M 0) 0 (0 : Int32))) tr N C hN hN7 hC hC4 hC1 p0 ) vmX9_isPerson mw347 [0, 1, 2, 3, 4, 5, 6, 7, 8, 9, 10, 11, 12, 13, 14, 15, 16, 17] rfl (by decide) 0 rfl rfl (As := [.int p0]) (rest := []) rfl rfl hl.1 (Nat.le_of_ble_eq_true rfl) ⟨Nat.le_of_ble_eq_true rfl, Nat.le_of_ble_eq_true rfl⟩ ⟨Nat.le_refl _, Nat.le_refl _⟩ dX9_cheapest_7 (fun rx wx H locs hqx hW => ?_)
  obtain ⟨hrx, rfl⟩ := hqx
  have hW : AtC D (tyG cI cZ cN) Ax (pMod cI cZ b (upA M 0 (upd (M 0) 0 (0 : Int32))) tr) sx H locs := hW.re [] 18 (by decide) rfl rfl trivial (by decide +kernel) rfl rfl
  refine r_eq (y := (inI p0 0 (nI N - 1))) hrx ?_
  refine lv_if_eq (tgt := 21) hx hb dX9_cheapest_10 rfl (fun c_10 => ?_) (fun c_10 => ?_)
  · refine lv_iconst (v := (-1 : Int32)) hx hb dX9_cheapest_21 rfl ?_
    exact hret _ _ _ _ _ _ hW rfl rfl dX9_cheapest_22 (⟨opP_0 c_10 |>.symm, by rw [if_neg (fun h => h c_10)]⟩)
  · obtain ⟨P, hP, rfl⟩ := inI_nat (nI_m1 (show N < 1000 by omega)) c_10
    have clP : (nI P).toNatClampNeg = P := nI_clamp (by omega)
    refine lv_aload_n hx hb dX9_cheapest_13 rfl (lv_at hl 0 rfl) ?_
    refine lv_iload_n hx hb dX9_cheapest_14 rfl (lv_at hl 1 rfl) ?_
    refine callVI Sx hW (c_X9_cheapestOf l D cI cZ cN b (upA M 0 (upd (M 0) 0 (0 : Int32))) tr N C hN hN7 hC hC4 hC1 P (by omega) ) vmX9_cheapestOf mw521 [0, 1, 2, 3, 4, 5, 6, 7, 8, 9, 10, 11, 12, 13, 14, 15, 16, 17] rfl (by decide) 0 rfl rfl (As := [.int (nI P)]) (rest := []) rfl rfl hl.1 (Nat.le_of_ble_eq_true rfl) ⟨Nat.le_of_ble_eq_true rfl, Nat.le_of_ble_eq_true rfl⟩ ⟨Nat.le_refl _, Nat.le_refl _⟩ dX9_cheapest_15 (fun rx wx H locs hqx hW => ?_)
    obtain ⟨hrx, rfl⟩ := hqx
    have hW : AtC D (tyG cI cZ cN) Ax (pMod cI cZ b (upA (upA M 8 ((coM (M 7) (M 8) N P (C - 1)).2)) 0 (upd (M 0) 0 (0 : Int32))) tr) sx H locs := hW.re [] 18 (by decide) rfl rfl trivial (by decide +kernel) rfl rfl
    refine r_eq (y := ((coM (M 7) (M 8) N P (C - 1)).1)) hrx ?_
    refine lv_goto (tgt := 22) hx hb dX9_cheapest_18 rfl ?_
    exact hret _ _ _ _ _ _ hW rfl rfl dX9_cheapest_22 (⟨by rw [opP_1 hN7 hP c_10], by rw [if_pos c_10, clP] <;> rfl⟩)

theorem upA_id (M : NV) (c : Nat) : upA M c (M c) = M := by
  funext c'
  unfold upA
  cases h : Nat.beq c' c with
  | true => rw [Nat.eq_of_beq_eq_true h]; rfl
  | false => rfl
theorem pM_w (cI cZ : ClassId) (b : Nat → Nat) (M : NV) {tr : Int64} : pMod cI cZ b (upA (upA M 8 (M 8)) 0 (upd (M 0) 0 (0 : Int32))) tr = pMod cI cZ b (upA M 0 (upd (M 0) 0 (0 : Int32))) tr := by rw [upA_id]

set_option maxHeartbeats 4000000 in
set_option maxRecDepth 100000 in
theorem c_X9_now (l : Launch) (D : va_G) (cI cZ cN : ClassId) (b : Nat → Nat) (M : NV) (tr : Int64) (N C : Nat) (hN : M 2 1 = nI N) (hN7 : N ≤ 7) (hC : M 2 0 = nI C) (hC4 : C ≤ 4) (hC1 : 1 ≤ C) (u : Nat) (hu : M 0 8 = nI u) (hu10 : u ≤ 10) (wh : Int32) : CtI l yX9_now cX9_now 2 (some .int) 6 D (tyG cI cZ cN) [.ref (b 0), .int wh] (pMod cI cZ b M tr) (fun r w => r = nwM (M 7) (M 6) (M 8) N C u wh ∧ w = (pMod cI cZ b (upA (upA M 8 (nwW (M 7) (M 8) N C wh)) 0 (upd (M 0) 0 (0 : Int32))) tr)) := by
  refine CtI.of rfl (Nat.le_of_ble_eq_true rfl) ?_
  intro pg ev sx mx ax bx mt cx ls Qx Ax Sx hret hW hl
  have hx := Sx.1
  have hb := Sx.2.1
  have hl : lv_has ls 2 [(0, .ref (b 0)), (1, .int wh)] := hl
  refine lv_aload_n hx hb dX9_now_0 rfl (lv_at hl 0 rfl) ?_
  refine lv_iconst (v := (0 : Int32)) hx hb dX9_now_1 rfl ?_
  refine r_put Sx hW 0 rfl rfl bw_wsX90 tyX9_ok nmX9 0 (by decide) mw144 rfl rfl rfl (Nat.le_of_ble_eq_true rfl) dX9_now_2 (ws' := (pMod cI cZ b (upA M 0 (upd (M 0) 0 (0 : Int32))) tr)) rfl (fun H locs hW => ?_)
  refine lv_iload_n hx hb dX9_now_5 rfl (lv_at hl 1 rfl) ?_
  refine lv_iconst (v := (0 : Int32)) hx hb dX9_now_6 rfl ?_
  refine lv_bipush (v := (7 : Int32)) hx hb dX9_now_7 rfl ?_
  refine callSI Sx hW (c_X9_in l D cI cZ cN wh (0 : Int32) (7 : Int32)) smX9_in mw146 (As := [.int wh, .int (0 : Int32), .int (7 : Int32)]) (rest := []) rfl rfl hl.1 (Nat.le_of_ble_eq_true rfl) ⟨Nat.le_of_ble_eq_true rfl, Nat.le_of_ble_eq_true rfl⟩ ⟨Nat.le_refl _, Nat.le_refl _⟩ dX9_now_9 (fun rx H locs hqx hW => ?_)
  obtain ⟨hrx, -⟩ := hqx
  refine r_eq (y := (inI wh (0 : Int32) (7 : Int32))) hrx ?_
  refine lv_if_ne (tgt := 17) hx hb dX9_now_12 rfl (fun c_12 => ?_) (fun c_12 => ?_)
  · refine lv_iload_n hx hb dX9_now_17 rfl (lv_at hl 1 rfl) ?_
    refine lv_iconst (v := (3 : Int32)) hx hb dX9_now_18 rfl ?_
    refine lv_icmp_ge (tgt := 59) hx hb dX9_now_19 rfl (fun c_19 => ?_) (fun c_19 => ?_)
    · refine lv_iload_n hx hb dX9_now_59 rfl (lv_at hl 1 rfl) ?_
      refine lv_iconst (v := (3 : Int32)) hx hb dX9_now_60 rfl ?_
      refine lv_icmp_ne (tgt := 71) hx hb dX9_now_61 rfl (fun c_61 => ?_) (fun c_61 => ?_)
      · refine lv_iload_n hx hb dX9_now_71 rfl (lv_at hl 1 rfl) ?_
        refine lv_iconst (v := (4 : Int32)) hx hb dX9_now_72 rfl ?_
        refine lv_icmp_ne (tgt := 83) hx hb dX9_now_73 rfl (fun c_73 => ?_) (fun c_73 => ?_)
        · refine lv_iload_n hx hb dX9_now_83 rfl (lv_at hl 1 rfl) ?_
          refine lv_iconst (v := (5 : Int32)) hx hb dX9_now_84 rfl ?_
          refine lv_icmp_ne (tgt := 95) hx hb dX9_now_85 rfl (fun c_85 => ?_) (fun c_85 => ?_)
          · refine lv_iload_n hx hb dX9_now_95 rfl (lv_at hl 1 rfl) ?_
            refine lv_bipush (v := (6 : Int32)) hx hb dX9_now_96 rfl ?_
            refine lv_icmp_ne (tgt := 108) hx hb dX9_now_98 rfl (fun c_98 => ?_) (fun c_98 => ?_)
            · refine lv_aload_n hx hb dX9_now_108 rfl (lv_at hl 0 rfl) ?_
              refine r_get Sx hW 0 rfl rfl bw_wsX90 20 (by decide) (v := .int (M 0 8)) rfl mw286 dX9_now_109 ?_
              refine r_eq (y := (nI u)) hu ?_
              exact hret _ _ _ _ _ _ hW rfl rfl dX9_now_112 (⟨by rw [nwM, if_neg c_12, if_pos c_19, if_neg c_61, if_neg c_73, if_neg c_85, if_neg c_98] <;> rfl, by rw [nwW, if_neg c_12, if_pos c_19, if_neg c_61, if_neg c_73, if_neg c_85, if_neg c_98]; exact (pM_w _ _ _ _).symm⟩)
            · refine lv_aload_n hx hb dX9_now_101 rfl (lv_at hl 0 rfl) ?_
              refine callVI Sx hW (c_X9_restless l D cI cZ cN b (upA M 0 (upd (M 0) 0 (0 : Int32))) tr N C hN hN7 hC hC4 hC1 ) vmX9_restless mw517 [0, 1, 2, 3, 4, 5, 6, 7, 8, 9, 10, 11, 12, 13, 14, 15, 16, 17] rfl (by decide) 0 rfl rfl (As := []) (rest := []) rfl rfl hl.1 (Nat.le_of_ble_eq_true rfl) ⟨Nat.le_of_ble_eq_true rfl, Nat.le_of_ble_eq_true rfl⟩ ⟨Nat.le_refl _, Nat.le_refl _⟩ dX9_now_102 (fun rx wx H locs hqx hW => ?_)
              obtain ⟨hrx, rfl⟩ := hqx
              have hW : AtC D (tyG cI cZ cN) Ax (pMod cI cZ b (upA (upA M 8 ((rsM (M 7) (M 8) N C N).2)) 0 (upd (M 0) 0 (0 : Int32))) tr) sx H locs := hW.re [] 18 (by decide) rfl rfl trivial (by decide +kernel) rfl rfl
              refine r_eq (y := ((rsM (M 7) (M 8) N C N).1)) hrx ?_
              refine lv_goto (tgt := 112) hx hb dX9_now_105 rfl ?_
              exact hret _ _ _ _ _ _ hW rfl rfl dX9_now_112 (⟨by rw [nwM, if_neg c_12, if_pos c_19, if_neg c_61, if_neg c_73, if_neg c_85, if_pos c_98] <;> rfl, by rw [nwW, if_neg c_12, if_pos c_19, if_neg c_61, if_neg c_73, if_neg c_85, if_pos c_98] <;> rfl⟩)
          · refine lv_aload_n hx hb dX9_now_88 rfl (lv_at hl 0 rfl) ?_
            refine callVI Sx hW (c_X9_alone l D cI cZ cN b (upA M 0 (upd (M 0) 0 (0 : Int32))) tr N C hN hN7 hC hC4 hC1 ) vmX9_alone mw513 [0, 1, 2, 3, 4, 5, 6, 7, 8, 9, 10, 11, 12, 13, 14, 15, 16, 17] rfl (by decide) 0 rfl rfl (As := []) (rest := []) rfl rfl hl.1 (Nat.le_of_ble_eq_true rfl) ⟨Nat.le_of_ble_eq_true rfl, Nat.le_of_ble_eq_true rfl⟩ ⟨Nat.le_refl _, Nat.le_refl _⟩ dX9_now_89 (fun rx wx H locs hqx hW => ?_)
            obtain ⟨hrx, rfl⟩ := hqx
            have hW : AtC D (tyG cI cZ cN) Ax (pMod cI cZ b (upA M 0 (upd (M 0) 0 (0 : Int32))) tr) sx H locs := hW.re [] 18 (by decide) rfl rfl trivial (by decide +kernel) rfl rfl
            refine r_eq (y := (aloM (M 7) N N)) hrx ?_
            refine lv_goto (tgt := 112) hx hb dX9_now_92 rfl ?_
            exact hret _ _ _ _ _ _ hW rfl rfl dX9_now_112 (⟨by rw [nwM, if_neg c_12, if_pos c_19, if_neg c_61, if_neg c_73, if_pos c_85] <;> rfl, by rw [nwW, if_neg c_12, if_pos c_19, if_neg c_61, if_neg c_73, if_pos c_85]; exact (pM_w _ _ _ _).symm⟩)
        · refine lv_aload_n hx hb dX9_now_76 rfl (lv_at hl 0 rfl) ?_
          refine callVI Sx hW (c_X9_badOnes l D cI cZ cN b (upA M 0 (upd (M 0) 0 (0 : Int32))) tr N C hN hN7 hC hC4 hC1 ) vmX9_badOnes mw509 [0, 1, 2, 3, 4, 5, 6, 7, 8, 9, 10, 11, 12, 13, 14, 15, 16, 17] rfl (by decide) 0 rfl rfl (As := []) (rest := []) rfl rfl hl.1 (Nat.le_of_ble_eq_true rfl) ⟨Nat.le_of_ble_eq_true rfl, Nat.le_of_ble_eq_true rfl⟩ ⟨Nat.le_refl _, Nat.le_refl _⟩ dX9_now_77 (fun rx wx H locs hqx hW => ?_)
          obtain ⟨hrx, rfl⟩ := hqx
          have hW : AtC D (tyG cI cZ cN) Ax (pMod cI cZ b (upA M 0 (upd (M 0) 0 (0 : Int32))) tr) sx H locs := hW.re [] 18 (by decide) rfl rfl trivial (by decide +kernel) rfl rfl
          refine r_eq (y := (boM (M 7) (M 6) N N / 2)) hrx ?_
          refine lv_goto (tgt := 112) hx hb dX9_now_80 rfl ?_
          exact hret _ _ _ _ _ _ hW rfl rfl dX9_now_112 (⟨by rw [nwM, if_neg c_12, if_pos c_19, if_neg c_61, if_pos c_73] <;> rfl, by rw [nwW, if_neg c_12, if_pos c_19, if_neg c_61, if_pos c_73]; exact (pM_w _ _ _ _).symm⟩)
      · refine lv_aload_n hx hb dX9_now_64 rfl (lv_at hl 0 rfl) ?_
        refine callVI Sx hW (c_X9_limping l D cI cZ cN b (upA M 0 (upd (M 0) 0 (0 : Int32))) tr N C hN hN7 hC hC4 hC1 ) vmX9_limping mw505 [0, 1, 2, 3, 4, 5, 6, 7, 8, 9, 10, 11, 12, 13, 14, 15, 16, 17] rfl (by decide) 0 rfl rfl (As := []) (rest := []) rfl rfl hl.1 (Nat.le_of_ble_eq_true rfl) ⟨Nat.le_of_ble_eq_true rfl, Nat.le_of_ble_eq_true rfl⟩ ⟨Nat.le_refl _, Nat.le_refl _⟩ dX9_now_65 (fun rx wx H locs hqx hW => ?_)
        obtain ⟨hrx, rfl⟩ := hqx
        have hW : AtC D (tyG cI cZ cN) Ax (pMod cI cZ b (upA M 0 (upd (M 0) 0 (0 : Int32))) tr) sx H locs := hW.re [] 18 (by decide) rfl rfl trivial (by decide +kernel) rfl rfl
        refine r_eq (y := (lgM (M 7) N N)) hrx ?_
        refine lv_goto (tgt := 112) hx hb dX9_now_68 rfl ?_
        exact hret _ _ _ _ _ _ hW rfl rfl dX9_now_112 (⟨by rw [nwM, if_neg c_12, if_pos c_19, if_pos c_61] <;> rfl, by rw [nwW, if_neg c_12, if_pos c_19, if_pos c_61]; exact (pM_w _ _ _ _).symm⟩)
    · refine lv_iload_n hx hb dX9_now_22 rfl (lv_at hl 1 rfl) ?_
      refine lv_if_ne (tgt := 36) hx hb dX9_now_23 rfl (fun c_23 => ?_) (fun c_23 => ?_)
      · refine lv_iload_n hx hb dX9_now_36 rfl (lv_at hl 1 rfl) ?_
        refine lv_iconst (v := (1 : Int32)) hx hb dX9_now_37 rfl ?_
        refine lv_icmp_ne (tgt := 51) hx hb dX9_now_38 rfl (fun c_38 => ?_) (fun c_38 => ?_)
        · refine lv_aload_n hx hb dX9_now_51 rfl (lv_at hl 0 rfl) ?_
          refine r_get Sx hW 0 rfl rfl bw_wsX90 15 (by decide) (v := .ref (b 7)) rfl mw120 dX9_now_52 ?_
          refine lv_bipush (v := (22 : Int32)) hx hb dX9_now_55 rfl ?_
          refine r_iald Sx hW 7 0 (f := (M 7)) rfl rfl (j := 22) rfl (by decide) (by decide) dX9_now_57 ?_
          exact hret _ _ _ _ _ _ hW rfl rfl dX9_now_58 (⟨by rw [nwM, if_neg c_12, if_neg c_19, if_neg c_23, if_neg c_38] <;> rfl, by rw [nwW, if_neg c_12, if_neg c_19]; exact (pM_w _ _ _ _).symm⟩)
        · refine lv_aload_n hx hb dX9_now_41 rfl (lv_at hl 0 rfl) ?_
          refine r_get Sx hW 0 rfl rfl bw_wsX90 15 (by decide) (v := .ref (b 7)) rfl mw120 dX9_now_42 ?_
          refine lv_bipush (v := (23 : Int32)) hx hb dX9_now_45 rfl ?_
          refine r_iald Sx hW 7 0 (f := (M 7)) rfl rfl (j := 23) rfl (by decide) (by decide) dX9_now_47 ?_
          refine lv_goto (tgt := 58) hx hb dX9_now_48 rfl ?_
          exact hret _ _ _ _ _ _ hW rfl rfl dX9_now_58 (⟨by rw [nwM, if_neg c_12, if_neg c_19, if_neg c_23, if_pos c_38] <;> rfl, by rw [nwW, if_neg c_12, if_neg c_19]; exact (pM_w _ _ _ _).symm⟩)
      · refine lv_aload_n hx hb dX9_now_26 rfl (lv_at hl 0 rfl) ?_
        refine r_get Sx hW 0 rfl rfl bw_wsX90 15 (by decide) (v := .ref (b 7)) rfl mw120 dX9_now_27 ?_
        refine lv_bipush (v := (24 : Int32)) hx hb dX9_now_30 rfl ?_
        refine r_iald Sx hW 7 0 (f := (M 7)) rfl rfl (j := 24) rfl (by decide) (by decide) dX9_now_32 ?_
        refine lv_goto (tgt := 58) hx hb dX9_now_33 rfl ?_
        exact hret _ _ _ _ _ _ hW rfl rfl dX9_now_58 (⟨by rw [nwM, if_neg c_12, if_neg c_19, if_pos c_23] <;> rfl, by rw [nwW, if_neg c_12, if_neg c_19]; exact (pM_w _ _ _ _).symm⟩)
  · refine lv_iconst (v := (-1 : Int32)) hx hb dX9_now_15 rfl ?_
    exact hret _ _ _ _ _ _ hW rfl rfl dX9_now_16 (⟨by rw [nwM, if_pos c_12] <;> rfl, by rw [nwW, if_pos c_12]; exact (pM_w _ _ _ _).symm⟩)

set_option maxHeartbeats 4000000 in
set_option maxRecDepth 100000 in
theorem c_X9_notes (l : Launch) (D : va_G) (cI cZ cN : ClassId) (b : Nat → Nat) (M : NV) (tr : Int64) (N C : Nat) (hN : M 2 1 = nI N) (hN7 : N ≤ 7) (hC : M 2 0 = nI C) (hC4 : C ≤ 4) (hC1 : 1 ≤ C) (u : Nat) (hu : M 0 8 = nI u) (hu10 : u ≤ 10) : CtV l yX9_notes cX9_notes 2 0 D (tyG cI cZ cN) [.ref (b 0)] (pMod cI cZ b M tr) (fun w => w = (pMod cI cZ b (upA (upA M 11 (noU (M 11) (M 7) u)) 0 (upd (M 0) 8 (nI (noN u)))) tr)) := by
  refine CtV.of rfl (Nat.le_of_ble_eq_true rfl) ?_
  intro pg ev sx mx ax bx mt cx ls Qx Ax Sx hret hW hl
  have hx := Sx.1
  have hb := Sx.2.1
  have hl : lv_has ls 2 [(0, .ref (b 0))] := hl
  refine lv_aload_n hx hb dX9_notes_0 rfl (lv_at hl 0 rfl) ?_
  refine r_get Sx hW 0 rfl rfl bw_wsX90 20 (by decide) (v := .int (M 0 8)) rfl mw286 dX9_notes_1 ?_
  refine r_eq (y := (nI u)) hu ?_
  refine lv_bipush (v := (10 : Int32)) hx hb dX9_notes_4 rfl ?_
  refine lv_icmp_ne (tgt := 45) hx hb dX9_notes_6 rfl (fun c_6 => ?_) (fun c_6 => ?_)
  · have hu2 : ¬ u = 10 := fun h => c_6 (by rw [h]; rfl)
    refine lv_iconst (v := (0 : Int32)) hx hb dX9_notes_45 rfl ?_
    refine lv_istore_n (lv' := [(1, .int (0 : Int32)), (0, .ref (b 0))]) hx hb dX9_notes_46 rfl hl (by decide) rfl (fun ls hl => ?_)
    have lp_47 : ∀ (n : Nat) (i : Nat), ((i ≤ 25)) → ((25 + 1 ≤ i + n)) → ∀ (H : Heap) (locs : List Loc) (ls : Array Slot), AtC D (tyG cI cZ cN) Ax (pMod cI cZ b (upA M 11 (cpO (M 11) (M 7) (25 * u) i)) tr) sx H locs → lv_has ls 2 [(0, .ref (b 0)), (1, .int (nI i))] → W pg l ev (rmN 0) sx mx ax bx mt cx H locs 0 0 Qx (F0 mx 47 ls []) := by
      intro n
      induction n with
      | zero =>
        intro i hi_47 hn_47 H locs ls hW hl
        exact absurd hn_47 (by omega)
      | succ n ih47 =>
        intro i hi_47 hn_47 H locs ls hW hl
        refine lv_iload_n hx hb dX9_notes_47 rfl (lv_at hl 1 rfl) ?_
        refine lv_bipush (v := (25 : Int32)) hx hb dX9_notes_48 rfl ?_
        refine lv_icmp_ge (tgt := 79) hx hb dX9_notes_50 rfl (fun c_50 => ?_) (fun c_50 => ?_)
        · have ge_50 : 25 ≤ i := (nI_leI (a := 25) (b := i) (by omega) (by omega)).mp c_50
          have ee_50 : 25 = i := by omega
          subst ee_50
          refine lv_aload_n hx hb dX9_notes_79 rfl (lv_at hl 0 rfl) ?_
          refine lv_dup hx hb dX9_notes_80 rfl ?_
          refine r_get Sx hW 0 rfl rfl bw_wsX90 20 (by decide) (v := .int (M 0 8)) rfl mw286 dX9_notes_81 ?_
          refine r_eq (y := (nI u)) hu ?_
          refine lv_iconst (v := (1 : Int32)) hx hb dX9_notes_84 rfl ?_
          refine lv_iadd hx hb dX9_notes_85 ?_
          refine r_eq (y := (nI (u + 1))) (nI_add u 1) ?_
          refine r_put Sx hW 0 rfl rfl bw_wsX90 tyX9_ok nmX9 20 (by decide) mw286 rfl rfl rfl (Nat.le_of_ble_eq_true rfl) dX9_notes_86 (ws' := (pMod cI cZ b (upA (upA M 11 (cpO (M 11) (M 7) (25 * u) 25)) 0 (upd (M 0) 8 (nI (u + 1)))) tr)) rfl (fun H locs hW => ?_)
          exact hret _ _ _ _ _ hW rfl dX9_notes_89 (by rw [noU, noN, if_neg hu2, if_neg hu2] <;> rfl)
        · have lt_50 : i < 25 := Nat.not_le.mp (fun h => c_50 ((nI_leI (a := 25) (b := i) (by omega) (by omega)).mpr h))
          refine lv_aload_n hx hb dX9_notes_53 rfl (lv_at hl 0 rfl) ?_
          refine r_get Sx hW 0 rfl rfl bw_wsX90 19 (by decide) (v := .ref (b 11)) rfl mw124 dX9_notes_54 ?_
          refine lv_bipush (v := (25 : Int32)) hx hb dX9_notes_57 rfl ?_
          refine lv_aload_n hx hb dX9_notes_59 rfl (lv_at hl 0 rfl) ?_
          refine r_get Sx hW 0 rfl rfl bw_wsX90 20 (by decide) (v := .int (M 0 8)) rfl mw286 dX9_notes_60 ?_
          refine r_eq (y := (nI u)) hu ?_
          refine lv_imul hx hb dX9_notes_63 ?_
          refine r_eq (y := (nI (25 * u))) (pk_mul 25 u) ?_
          refine lv_iload_n hx hb dX9_notes_64 rfl (lv_at hl 1 rfl) ?_
          refine lv_iadd hx hb dX9_notes_65 ?_
          refine r_eq (y := (nI ((25 * u) + i))) (nI_add (25 * u) i) ?_
          refine lv_aload_n hx hb dX9_notes_66 rfl (lv_at hl 0 rfl) ?_
          refine r_get Sx hW 0 rfl rfl bw_wsX90 15 (by decide) (v := .ref (b 7)) rfl mw120 dX9_notes_67 ?_
          refine lv_iload_n hx hb dX9_notes_70 rfl (lv_at hl 1 rfl) ?_
          refine r_iald Sx hW 7 0 (f := (M 7)) rfl rfl (j := i) rfl (by omega) (by decide) dX9_notes_71 ?_
          refine r_iast Sx hW 11 0 rfl rfl (j := (25 * u) + i) rfl (by omega) (by decide) dX9_notes_72 (ws' := (pMod cI cZ b (upA M 11 (upd (cpO (M 11) (M 7) (25 * u) i) ((25 * u) + i) ((M 7) i))) tr)) rfl (fun H locs hW => ?_)
          refine lv_iinc (v := (nI (i + 1))) (lv' := [(1, .int (nI (i + 1))), (0, .ref (b 0))]) hx hb dX9_notes_73 hl (k := 1) rfl (inc_n i 1) (by decide) rfl (fun ls hl => ?_)
          refine lv_goto (tgt := 47) hx hb dX9_notes_76 rfl ?_
          exact ih47 (i + 1) (by omega) (by omega) _ _ _ hW (lv_sub hl [1, 0] rfl)
    exact lp_47 (25 + 1) 0 (by omega) (by omega) _ _ _ hW (lv_sub hl [1, 0] rfl)
  · have hu2 : u = 10 := (nI_eq (a := u) (b := 10) (by omega) (by decide)).mp c_6
    refine lv_iconst (v := (0 : Int32)) hx hb dX9_notes_9 rfl ?_
    refine lv_istore_n (lv' := [(1, .int (0 : Int32)), (0, .ref (b 0))]) hx hb dX9_notes_10 rfl hl (by decide) rfl (fun ls hl => ?_)
    have lp_11 : ∀ (n : Nat) (i : Nat), ((i ≤ 225)) → ((225 + 1 ≤ i + n)) → ∀ (H : Heap) (locs : List Loc) (ls : Array Slot), AtC D (tyG cI cZ cN) Ax (pMod cI cZ b (upA M 11 (shF (M 11) i)) tr) sx H locs → lv_has ls 2 [(0, .ref (b 0)), (1, .int (nI i))] → W pg l ev (rmN 0) sx mx ax bx mt cx H locs 0 0 Qx (F0 mx 11 ls []) := by
      intro n
      induction n with
      | zero =>
        intro i hi_11 hn_11 H locs ls hW hl
        exact absurd hn_11 (by omega)
      | succ n ih11 =>
        intro i hi_11 hn_11 H locs ls hW hl
        refine lv_iload_n hx hb dX9_notes_11 rfl (lv_at hl 1 rfl) ?_
        refine lv_sipush (v := (225 : Int32)) hx hb dX9_notes_12 rfl ?_
        refine lv_icmp_ge (tgt := 39) hx hb dX9_notes_15 rfl (fun c_15 => ?_) (fun c_15 => ?_)
        · have ge_15 : 225 ≤ i := (nI_leI (a := 225) (b := i) (by omega) (by omega)).mp c_15
          have ee_15 : 225 = i := by omega
          subst ee_15
          refine lv_aload_n hx hb dX9_notes_39 rfl (lv_at hl 0 rfl) ?_
          refine lv_bipush (v := (9 : Int32)) hx hb dX9_notes_40 rfl ?_
          refine r_put Sx hW 0 rfl rfl bw_wsX90 tyX9_ok nmX9 20 (by decide) mw286 rfl rfl rfl (Nat.le_of_ble_eq_true rfl) dX9_notes_42 (ws' := (pMod cI cZ b (upA (upA M 11 (shF (M 11) 225)) 0 (upd (M 0) 8 (9 : Int32))) tr)) rfl (fun H locs hW => ?_)
          refine lv_iconst (v := (0 : Int32)) hx hb dX9_notes_45 rfl ?_
          refine lv_istore_n (lv' := [(1, .int (0 : Int32)), (0, .ref (b 0))]) hx hb dX9_notes_46 rfl hl (by decide) rfl (fun ls hl => ?_)
          have lp_47 : ∀ (n : Nat) (i : Nat), ((i ≤ 25)) → ((25 + 1 ≤ i + n)) → ∀ (H : Heap) (locs : List Loc) (ls : Array Slot), AtC D (tyG cI cZ cN) Ax (pMod cI cZ b (upA (upA M 11 (cpO (shF (M 11) 225) (M 7) (25 * 9) i)) 0 (upd (M 0) 8 (9 : Int32))) tr) sx H locs → lv_has ls 2 [(0, .ref (b 0)), (1, .int (nI i))] → W pg l ev (rmN 0) sx mx ax bx mt cx H locs 0 0 Qx (F0 mx 47 ls []) := by
            intro n
            induction n with
            | zero =>
              intro i hi_47 hn_47 H locs ls hW hl
              exact absurd hn_47 (by omega)
            | succ n ih47 =>
              intro i hi_47 hn_47 H locs ls hW hl
              refine lv_iload_n hx hb dX9_notes_47 rfl (lv_at hl 1 rfl) ?_
              refine lv_bipush (v := (25 : Int32)) hx hb dX9_notes_48 rfl ?_
              refine lv_icmp_ge (tgt := 79) hx hb dX9_notes_50 rfl (fun c_50 => ?_) (fun c_50 => ?_)
              · have ge_50 : 25 ≤ i := (nI_leI (a := 25) (b := i) (by omega) (by omega)).mp c_50
                have ee_50 : 25 = i := by omega
                subst ee_50
                refine lv_aload_n hx hb dX9_notes_79 rfl (lv_at hl 0 rfl) ?_
                refine lv_dup hx hb dX9_notes_80 rfl ?_
                refine r_get Sx hW 0 rfl rfl bw_wsX90 20 (by decide) (v := .int (9 : Int32)) rfl mw286 dX9_notes_81 ?_
                refine lv_iconst (v := (1 : Int32)) hx hb dX9_notes_84 rfl ?_
                refine lv_iadd hx hb dX9_notes_85 ?_
                refine r_eq (y := (nI (9 + 1))) (nI_add 9 1) ?_
                refine r_put Sx hW 0 rfl rfl bw_wsX90 tyX9_ok nmX9 20 (by decide) mw286 rfl rfl rfl (Nat.le_of_ble_eq_true rfl) dX9_notes_86 (ws' := (pMod cI cZ b (upA (upA M 11 (cpO (shF (M 11) 225) (M 7) (25 * 9) 25)) 0 (upd (M 0) 8 (nI (9 + 1)))) tr)) rfl (fun H locs hW => ?_)
                exact hret _ _ _ _ _ hW rfl dX9_notes_89 (by rw [noU, noN, if_pos hu2, if_pos hu2] <;> rfl)
              · have lt_50 : i < 25 := Nat.not_le.mp (fun h => c_50 ((nI_leI (a := 25) (b := i) (by omega) (by omega)).mpr h))
                refine lv_aload_n hx hb dX9_notes_53 rfl (lv_at hl 0 rfl) ?_
                refine r_get Sx hW 0 rfl rfl bw_wsX90 19 (by decide) (v := .ref (b 11)) rfl mw124 dX9_notes_54 ?_
                refine lv_bipush (v := (25 : Int32)) hx hb dX9_notes_57 rfl ?_
                refine lv_aload_n hx hb dX9_notes_59 rfl (lv_at hl 0 rfl) ?_
                refine r_get Sx hW 0 rfl rfl bw_wsX90 20 (by decide) (v := .int (9 : Int32)) rfl mw286 dX9_notes_60 ?_
                refine lv_imul hx hb dX9_notes_63 ?_
                refine r_eq (y := (nI (25 * 9))) (pk_mul 25 9) ?_
                refine lv_iload_n hx hb dX9_notes_64 rfl (lv_at hl 1 rfl) ?_
                refine lv_iadd hx hb dX9_notes_65 ?_
                refine r_eq (y := (nI ((25 * 9) + i))) (nI_add (25 * 9) i) ?_
                refine lv_aload_n hx hb dX9_notes_66 rfl (lv_at hl 0 rfl) ?_
                refine r_get Sx hW 0 rfl rfl bw_wsX90 15 (by decide) (v := .ref (b 7)) rfl mw120 dX9_notes_67 ?_
                refine lv_iload_n hx hb dX9_notes_70 rfl (lv_at hl 1 rfl) ?_
                refine r_iald Sx hW 7 0 (f := (M 7)) rfl rfl (j := i) rfl (by omega) (by decide) dX9_notes_71 ?_
                refine r_iast Sx hW 11 0 rfl rfl (j := (25 * 9) + i) rfl (by omega) (by decide) dX9_notes_72 (ws' := (pMod cI cZ b (upA (upA M 11 (upd (cpO (shF (M 11) 225) (M 7) (25 * 9) i) ((25 * 9) + i) ((M 7) i))) 0 (upd (M 0) 8 (9 : Int32))) tr)) rfl (fun H locs hW => ?_)
                refine lv_iinc (v := (nI (i + 1))) (lv' := [(1, .int (nI (i + 1))), (0, .ref (b 0))]) hx hb dX9_notes_73 hl (k := 1) rfl (inc_n i 1) (by decide) rfl (fun ls hl => ?_)
                refine lv_goto (tgt := 47) hx hb dX9_notes_76 rfl ?_
                exact ih47 (i + 1) (by omega) (by omega) _ _ _ hW (lv_sub hl [1, 0] rfl)
          exact lp_47 (25 + 1) 0 (by omega) (by omega) _ _ _ hW (lv_sub hl [1, 0] rfl)
        · have lt_15 : i < 225 := Nat.not_le.mp (fun h => c_15 ((nI_leI (a := 225) (b := i) (by omega) (by omega)).mpr h))
          refine lv_aload_n hx hb dX9_notes_18 rfl (lv_at hl 0 rfl) ?_
          refine r_get Sx hW 0 rfl rfl bw_wsX90 19 (by decide) (v := .ref (b 11)) rfl mw124 dX9_notes_19 ?_
          refine lv_iload_n hx hb dX9_notes_22 rfl (lv_at hl 1 rfl) ?_
          refine lv_aload_n hx hb dX9_notes_23 rfl (lv_at hl 0 rfl) ?_
          refine r_get Sx hW 0 rfl rfl bw_wsX90 19 (by decide) (v := .ref (b 11)) rfl mw124 dX9_notes_24 ?_
          refine lv_iload_n hx hb dX9_notes_27 rfl (lv_at hl 1 rfl) ?_
          refine lv_bipush (v := (25 : Int32)) hx hb dX9_notes_28 rfl ?_
          refine lv_iadd hx hb dX9_notes_30 ?_
          refine r_eq (y := (nI (i + 25))) (nI_add i 25) ?_
          refine r_iald Sx hW 11 0 (f := (shF (M 11) i)) rfl rfl (j := i + 25) rfl (by omega) (by decide) dX9_notes_31 ?_
          refine r_iast Sx hW 11 0 rfl rfl (j := i) rfl (by omega) (by decide) dX9_notes_32 (ws' := (pMod cI cZ b (upA M 11 (upd (shF (M 11) i) i ((shF (M 11) i) (i + 25)))) tr)) rfl (fun H locs hW => ?_)
          refine lv_iinc (v := (nI (i + 1))) (lv' := [(1, .int (nI (i + 1))), (0, .ref (b 0))]) hx hb dX9_notes_33 hl (k := 1) rfl (inc_n i 1) (by decide) rfl (fun ls hl => ?_)
          refine lv_goto (tgt := 11) hx hb dX9_notes_36 rfl ?_
          exact ih11 (i + 1) (by omega) (by omega) _ _ _ hW (lv_sub hl [1, 0] rfl)
    exact lp_11 (225 + 1) 0 (by omega) (by omega) _ _ _ hW (lv_sub hl [1, 0] rfl)

set_option maxHeartbeats 4000000 in
set_option maxRecDepth 100000 in
theorem c_X9_hurts (l : Launch) (D : va_G) (cI cZ cN : ClassId) (b : Nat → Nat) (M : NV) (tr : Int64) (N C : Nat) (hN : M 2 1 = nI N) (hN7 : N ≤ 7) (hC : M 2 0 = nI C) (hC4 : C ≤ 4) (hC1 : 1 ≤ C) (u : Nat) (hu : M 0 8 = nI u) (hu10 : u ≤ 10) (p0 : Int32) (p1 : Int32) : CtI l yX9_hurts cX9_hurts 4 (some .int) 3 D (tyG cI cZ cN) [.ref (b 0), .int p0, .int p1] (pMod cI cZ b M tr) (fun r w => r = (if ¬ inI p0 0 (nI N - 1) = 0 ∧ ¬ inI p1 0 1 = 0 then ((M 7 21 >>> (p0 &&& 31)) &&& 1) else -1) ∧ w = if ¬ inI p0 0 (nI N - 1) = 0 ∧ ¬ inI p1 0 1 = 0 then (pMod cI cZ b (upA (upA (upA M 7 (upd (M 7) 21 ((M 7 21 &&& (((1 : Int32) <<< (p0 &&& 31)) ^^^ (-1))) ||| (p1 <<< (p0 &&& 31))))) 11 (noU (M 11) (M 7) u)) 0 (upd (upd (M 0) 0 (0 : Int32)) 8 (nI (noN u)))) tr) else (pMod cI cZ b (upA M 0 (upd (M 0) 0 (0 : Int32))) tr)) := by
  refine CtI.of rfl (Nat.le_of_ble_eq_true rfl) ?_
  intro pg ev sx mx ax bx mt cx ls Qx Ax Sx hret hW hl
  have hx := Sx.1
  have hb := Sx.2.1
  have hl : lv_has ls 4 [(0, .ref (b 0)), (1, .int p0), (2, .int p1)] := hl
  refine lv_aload_n hx hb dX9_hurts_0 rfl (lv_at hl 0 rfl) ?_
  refine lv_iconst (v := (0 : Int32)) hx hb dX9_hurts_1 rfl ?_
  refine r_put Sx hW 0 rfl rfl bw_wsX90 tyX9_ok nmX9 0 (by decide) mw144 rfl rfl rfl (Nat.le_of_ble_eq_true rfl) dX9_hurts_2 (ws' := (pMod cI cZ b (upA M 0 (upd (M 0) 0 (0 : Int32))) tr)) rfl (fun H locs hW => ?_)
  refine lv_aload_n hx hb dX9_hurts_5 rfl (lv_at hl 0 rfl) ?_
  refine lv_iload_n hx hb dX9_hurts_6 rfl (lv_at hl 1 rfl) ?_
  refine callVI Sx hW (c_X9_isPerson l D cI cZ cN b (upA M 0 (upd (M 0) 0 (0 : Int32))) tr N C hN hN7 hC hC4 hC1 p0 ) vmX9_isPerson mw347 [0, 1, 2, 3, 4, 5, 6, 7, 8, 9, 10, 11, 12, 13, 14, 15, 16, 17] rfl (by decide) 0 rfl rfl (As := [.int p0]) (rest := []) rfl rfl hl.1 (Nat.le_of_ble_eq_true rfl) ⟨Nat.le_of_ble_eq_true rfl, Nat.le_of_ble_eq_true rfl⟩ ⟨Nat.le_refl _, Nat.le_refl _⟩ dX9_hurts_7 (fun rx wx H locs hqx hW => ?_)
  obtain ⟨hrx, rfl⟩ := hqx
  have hW : AtC D (tyG cI cZ cN) Ax (pMod cI cZ b (upA M 0 (upd (M 0) 0 (0 : Int32))) tr) sx H locs := hW.re [] 18 (by decide) rfl rfl trivial (by decide +kernel) rfl rfl
  refine r_eq (y := (inI p0 0 (nI N - 1))) hrx ?_
  refine lv_if_eq (tgt := 22) hx hb dX9_hurts_10 rfl (fun c_10 => ?_) (fun c_10 => ?_)
  · refine lv_iconst (v := (-1 : Int32)) hx hb dX9_hurts_22 rfl ?_
    exact hret _ _ _ _ _ _ hW rfl rfl dX9_hurts_23 (by have hok : ¬ (¬ inI p0 0 (nI N - 1) = 0 ∧ ¬ inI p1 0 1 = 0) := fun h => h.1 c_10; exact ⟨by rw [if_neg hok], by rw [if_neg hok]⟩)
  · refine lv_iload_n hx hb dX9_hurts_13 rfl (lv_at hl 2 rfl) ?_
    refine lv_iconst (v := (0 : Int32)) hx hb dX9_hurts_14 rfl ?_
    refine lv_iconst (v := (1 : Int32)) hx hb dX9_hurts_15 rfl ?_
    refine callSI Sx hW (c_X9_in l D cI cZ cN p1 (0 : Int32) (1 : Int32)) smX9_in mw146 (As := [.int p1, .int (0 : Int32), .int (1 : Int32)]) (rest := []) rfl rfl hl.1 (Nat.le_of_ble_eq_true rfl) ⟨Nat.le_of_ble_eq_true rfl, Nat.le_of_ble_eq_true rfl⟩ ⟨Nat.le_refl _, Nat.le_refl _⟩ dX9_hurts_16 (fun rx H locs hqx hW => ?_)
    obtain ⟨hrx, -⟩ := hqx
    refine r_eq (y := (inI p1 (0 : Int32) (1 : Int32))) hrx ?_
    refine lv_if_ne (tgt := 24) hx hb dX9_hurts_19 rfl (fun c_19 => ?_) (fun c_19 => ?_)
    · refine lv_aload_n hx hb dX9_hurts_24 rfl (lv_at hl 0 rfl) ?_
      refine callVV Sx hW (c_X9_notes l D cI cZ cN b (upA M 0 (upd (M 0) 0 (0 : Int32))) tr N C hN hN7 hC hC4 hC1 u hu hu10) vmX9_notes mw549 [0, 1, 2, 3, 4, 5, 6, 7, 8, 9, 10, 11, 12, 13, 14, 15, 16, 17] rfl (by decide) 0 rfl rfl (As := []) (rest := []) rfl rfl hl.1 (Nat.le_of_ble_eq_true rfl) ⟨Nat.le_of_ble_eq_true rfl, Nat.le_of_ble_eq_true rfl⟩ ⟨Nat.le_refl _, Nat.le_refl _⟩ dX9_hurts_25 (fun wx H locs hqx hW => ?_)
      obtain rfl := hqx
      have hW : AtC D (tyG cI cZ cN) Ax (pMod cI cZ b (upA (upA M 11 (noU (M 11) (M 7) u)) 0 (upd (upd (M 0) 0 (0 : Int32)) 8 (nI (noN u)))) tr) sx H locs := hW.re [] 18 (by decide) rfl rfl trivial (by decide +kernel) rfl rfl
      refine lv_aload_n hx hb dX9_hurts_28 rfl (lv_at hl 0 rfl) ?_
      refine r_get Sx hW 0 rfl rfl bw_wsX90 15 (by decide) (v := .ref (b 7)) rfl mw120 dX9_hurts_29 ?_
      refine lv_bipush (v := (21 : Int32)) hx hb dX9_hurts_32 rfl ?_
      refine r_iald Sx hW 7 0 (f := (M 7)) rfl rfl (j := 21) rfl (by decide) (by decide) dX9_hurts_34 ?_
      refine lv_iload_n hx hb dX9_hurts_35 rfl (lv_at hl 1 rfl) ?_
      refine lv_ishr hx hb dX9_hurts_36 ?_
      refine lv_iconst (v := (1 : Int32)) hx hb dX9_hurts_37 rfl ?_
      refine lv_iand hx hb dX9_hurts_38 ?_
      refine lv_istore_n (lv' := [(3, .int ((((M 7) 21) >>> (p0 &&& 31)) &&& (1 : Int32))), (0, .ref (b 0)), (1, .int p0), (2, .int p1)]) hx hb dX9_hurts_39 rfl hl (by decide) rfl (fun ls hl => ?_)
      refine lv_aload_n hx hb dX9_hurts_40 rfl (lv_at hl 1 rfl) ?_
      refine r_get Sx hW 0 rfl rfl bw_wsX90 15 (by decide) (v := .ref (b 7)) rfl mw120 dX9_hurts_41 ?_
      refine lv_bipush (v := (21 : Int32)) hx hb dX9_hurts_44 rfl ?_
      refine lv_aload_n hx hb dX9_hurts_46 rfl (lv_at hl 1 rfl) ?_
      refine r_get Sx hW 0 rfl rfl bw_wsX90 15 (by decide) (v := .ref (b 7)) rfl mw120 dX9_hurts_47 ?_
      refine lv_bipush (v := (21 : Int32)) hx hb dX9_hurts_50 rfl ?_
      refine r_iald Sx hW 7 0 (f := (M 7)) rfl rfl (j := 21) rfl (by decide) (by decide) dX9_hurts_52 ?_
      refine lv_iconst (v := (1 : Int32)) hx hb dX9_hurts_53 rfl ?_
      refine lv_iload_n hx hb dX9_hurts_54 rfl (lv_at hl 2 rfl) ?_
      refine lv_ishl hx hb dX9_hurts_55 ?_
      refine lv_iconst (v := (-1 : Int32)) hx hb dX9_hurts_56 rfl ?_
      refine lv_ixor hx hb dX9_hurts_57 ?_
      refine lv_iand hx hb dX9_hurts_58 ?_
      refine lv_iload_n hx hb dX9_hurts_59 rfl (lv_at hl 3 rfl) ?_
      refine lv_iload_n hx hb dX9_hurts_60 rfl (lv_at hl 2 rfl) ?_
      refine lv_ishl hx hb dX9_hurts_61 ?_
      refine lv_ior hx hb dX9_hurts_62 ?_
      refine r_iast Sx hW 7 0 rfl rfl (j := 21) rfl (by decide) (by decide) dX9_hurts_63 (ws' := (pMod cI cZ b (upA (upA (upA M 7 (upd (M 7) 21 ((((M 7) 21) &&& (((1 : Int32) <<< (p0 &&& 31)) ^^^ (-1 : Int32))) ||| (p1 <<< (p0 &&& 31))))) 11 (noU (M 11) (M 7) u)) 0 (upd (upd (M 0) 0 (0 : Int32)) 8 (nI (noN u)))) tr)) rfl (fun H locs hW => ?_)
      refine lv_iload_n hx hb dX9_hurts_64 rfl (lv_at hl 0 rfl) ?_
      exact hret _ _ _ _ _ _ hW rfl rfl dX9_hurts_65 (by have hok : ¬ inI p0 0 (nI N - 1) = 0 ∧ ¬ inI p1 0 1 = 0 := ⟨c_10, c_19⟩; exact ⟨by rw [if_pos hok] <;> rfl, by rw [if_pos hok] <;> rfl⟩)
    · refine lv_iconst (v := (-1 : Int32)) hx hb dX9_hurts_22 rfl ?_
      exact hret _ _ _ _ _ _ hW rfl rfl dX9_hurts_23 (by have hok : ¬ (¬ inI p0 0 (nI N - 1) = 0 ∧ ¬ inI p1 0 1 = 0) := fun h => h.2 c_19; exact ⟨by rw [if_neg hok], by rw [if_neg hok]⟩)

set_option maxHeartbeats 4000000 in
set_option maxRecDepth 100000 in
theorem c_X9_names (l : Launch) (D : va_G) (cI cZ cN : ClassId) (b : Nat → Nat) (M : NV) (tr : Int64) (N C : Nat) (hN : M 2 1 = nI N) (hN7 : N ≤ 7) (hC : M 2 0 = nI C) (hC4 : C ≤ 4) (hC1 : 1 ≤ C) (u : Nat) (hu : M 0 8 = nI u) (hu10 : u ≤ 10) (p0 : Int32) (p1 : Int32) : CtI l yX9_names cX9_names 4 (some .int) 3 D (tyG cI cZ cN) [.ref (b 0), .int p0, .int p1] (pMod cI cZ b M tr) (fun r w => r = (if ¬ inI p0 0 (nI N - 1) = 0 ∧ ¬ inI p1 0 (nI C - 1) = 0 then M 7 p0.toNatClampNeg else -1) ∧ w = if ¬ inI p0 0 (nI N - 1) = 0 ∧ ¬ inI p1 0 (nI C - 1) = 0 then (pMod cI cZ b (upA (upA (upA M 7 (upd (M 7) p0.toNatClampNeg p1)) 11 (noU (M 11) (M 7) u)) 0 (upd (upd (M 0) 0 (0 : Int32)) 8 (nI (noN u)))) tr) else (pMod cI cZ b (upA M 0 (upd (M 0) 0 (0 : Int32))) tr)) := by
  refine CtI.of rfl (Nat.le_of_ble_eq_true rfl) ?_
  intro pg ev sx mx ax bx mt cx ls Qx Ax Sx hret hW hl
  have hx := Sx.1
  have hb := Sx.2.1
  have hl : lv_has ls 4 [(0, .ref (b 0)), (1, .int p0), (2, .int p1)] := hl
  refine lv_aload_n hx hb dX9_names_0 rfl (lv_at hl 0 rfl) ?_
  refine lv_iconst (v := (0 : Int32)) hx hb dX9_names_1 rfl ?_
  refine r_put Sx hW 0 rfl rfl bw_wsX90 tyX9_ok nmX9 0 (by decide) mw144 rfl rfl rfl (Nat.le_of_ble_eq_true rfl) dX9_names_2 (ws' := (pMod cI cZ b (upA M 0 (upd (M 0) 0 (0 : Int32))) tr)) rfl (fun H locs hW => ?_)
  refine lv_aload_n hx hb dX9_names_5 rfl (lv_at hl 0 rfl) ?_
  refine lv_iload_n hx hb dX9_names_6 rfl (lv_at hl 1 rfl) ?_
  refine callVI Sx hW (c_X9_isPerson l D cI cZ cN b (upA M 0 (upd (M 0) 0 (0 : Int32))) tr N C hN hN7 hC hC4 hC1 p0 ) vmX9_isPerson mw347 [0, 1, 2, 3, 4, 5, 6, 7, 8, 9, 10, 11, 12, 13, 14, 15, 16, 17] rfl (by decide) 0 rfl rfl (As := [.int p0]) (rest := []) rfl rfl hl.1 (Nat.le_of_ble_eq_true rfl) ⟨Nat.le_of_ble_eq_true rfl, Nat.le_of_ble_eq_true rfl⟩ ⟨Nat.le_refl _, Nat.le_refl _⟩ dX9_names_7 (fun rx wx H locs hqx hW => ?_)
  obtain ⟨hrx, rfl⟩ := hqx
  have hW : AtC D (tyG cI cZ cN) Ax (pMod cI cZ b (upA M 0 (upd (M 0) 0 (0 : Int32))) tr) sx H locs := hW.re [] 18 (by decide) rfl rfl trivial (by decide +kernel) rfl rfl
  refine r_eq (y := (inI p0 0 (nI N - 1))) hrx ?_
  refine lv_if_eq (tgt := 21) hx hb dX9_names_10 rfl (fun c_10 => ?_) (fun c_10 => ?_)
  · refine lv_iconst (v := (-1 : Int32)) hx hb dX9_names_21 rfl ?_
    exact hret _ _ _ _ _ _ hW rfl rfl dX9_names_22 (by have hok : ¬ (¬ inI p0 0 (nI N - 1) = 0 ∧ ¬ inI p1 0 (nI C - 1) = 0) := fun h => h.1 c_10; exact ⟨by rw [if_neg hok], by rw [if_neg hok]⟩)
  · obtain ⟨P, hP, rfl⟩ := inI_nat (nI_m1 (show N < 1000 by omega)) c_10
    have clP : (nI P).toNatClampNeg = P := nI_clamp (by omega)
    refine lv_aload_n hx hb dX9_names_13 rfl (lv_at hl 0 rfl) ?_
    refine lv_iload_n hx hb dX9_names_14 rfl (lv_at hl 2 rfl) ?_
    refine callVI Sx hW (c_X9_isName l D cI cZ cN b (upA M 0 (upd (M 0) 0 (0 : Int32))) tr N C hN hN7 hC hC4 hC1 p1 ) vmX9_isName mw408 [0, 1, 2, 3, 4, 5, 6, 7, 8, 9, 10, 11, 12, 13, 14, 15, 16, 17] rfl (by decide) 0 rfl rfl (As := [.int p1]) (rest := []) rfl rfl hl.1 (Nat.le_of_ble_eq_true rfl) ⟨Nat.le_of_ble_eq_true rfl, Nat.le_of_ble_eq_true rfl⟩ ⟨Nat.le_refl _, Nat.le_refl _⟩ dX9_names_15 (fun rx wx H locs hqx hW => ?_)
    obtain ⟨hrx, rfl⟩ := hqx
    have hW : AtC D (tyG cI cZ cN) Ax (pMod cI cZ b (upA M 0 (upd (M 0) 0 (0 : Int32))) tr) sx H locs := hW.re [] 18 (by decide) rfl rfl trivial (by decide +kernel) rfl rfl
    refine r_eq (y := (inI p1 0 (nI C - 1))) hrx ?_
    refine lv_if_ne (tgt := 23) hx hb dX9_names_18 rfl (fun c_18 => ?_) (fun c_18 => ?_)
    · refine lv_aload_n hx hb dX9_names_23 rfl (lv_at hl 0 rfl) ?_
      refine callVV Sx hW (c_X9_notes l D cI cZ cN b (upA M 0 (upd (M 0) 0 (0 : Int32))) tr N C hN hN7 hC hC4 hC1 u hu hu10) vmX9_notes mw549 [0, 1, 2, 3, 4, 5, 6, 7, 8, 9, 10, 11, 12, 13, 14, 15, 16, 17] rfl (by decide) 0 rfl rfl (As := []) (rest := []) rfl rfl hl.1 (Nat.le_of_ble_eq_true rfl) ⟨Nat.le_of_ble_eq_true rfl, Nat.le_of_ble_eq_true rfl⟩ ⟨Nat.le_refl _, Nat.le_refl _⟩ dX9_names_24 (fun wx H locs hqx hW => ?_)
      obtain rfl := hqx
      have hW : AtC D (tyG cI cZ cN) Ax (pMod cI cZ b (upA (upA M 11 (noU (M 11) (M 7) u)) 0 (upd (upd (M 0) 0 (0 : Int32)) 8 (nI (noN u)))) tr) sx H locs := hW.re [] 18 (by decide) rfl rfl trivial (by decide +kernel) rfl rfl
      refine lv_aload_n hx hb dX9_names_27 rfl (lv_at hl 0 rfl) ?_
      refine r_get Sx hW 0 rfl rfl bw_wsX90 15 (by decide) (v := .ref (b 7)) rfl mw120 dX9_names_28 ?_
      refine lv_iconst (v := (0 : Int32)) hx hb dX9_names_31 rfl ?_
      refine lv_iload_n hx hb dX9_names_32 rfl (lv_at hl 1 rfl) ?_
      refine lv_iadd hx hb dX9_names_33 ?_
      refine r_eq (y := (nI P)) ((nI_add 0 P).trans (congrArg nI (Nat.zero_add P))) ?_
      refine r_iald Sx hW 7 0 (f := (M 7)) rfl rfl (j := P) rfl (by omega) (by decide) dX9_names_34 ?_
      refine lv_istore_n (lv' := [(3, .int ((M 7) P)), (0, .ref (b 0)), (1, .int (nI P)), (2, .int p1)]) hx hb dX9_names_35 rfl hl (by decide) rfl (fun ls hl => ?_)
      refine lv_aload_n hx hb dX9_names_36 rfl (lv_at hl 1 rfl) ?_
      refine r_get Sx hW 0 rfl rfl bw_wsX90 15 (by decide) (v := .ref (b 7)) rfl mw120 dX9_names_37 ?_
      refine lv_iconst (v := (0 : Int32)) hx hb dX9_names_40 rfl ?_
      refine lv_iload_n hx hb dX9_names_41 rfl (lv_at hl 2 rfl) ?_
      refine lv_iadd hx hb dX9_names_42 ?_
      refine r_eq (y := (nI P)) ((nI_add 0 P).trans (congrArg nI (Nat.zero_add P))) ?_
      refine lv_iload_n hx hb dX9_names_43 rfl (lv_at hl 3 rfl) ?_
      refine r_iast Sx hW 7 0 rfl rfl (j := P) rfl (by omega) (by decide) dX9_names_44 (ws' := (pMod cI cZ b (upA (upA (upA M 7 (upd (M 7) P p1)) 11 (noU (M 11) (M 7) u)) 0 (upd (upd (M 0) 0 (0 : Int32)) 8 (nI (noN u)))) tr)) rfl (fun H locs hW => ?_)
      refine lv_iload_n hx hb dX9_names_45 rfl (lv_at hl 0 rfl) ?_
      exact hret _ _ _ _ _ _ hW rfl rfl dX9_names_46 (by have hok : ¬ inI (nI P) 0 (nI N - 1) = 0 ∧ ¬ inI p1 0 (nI C - 1) = 0 := ⟨c_10, c_18⟩; exact ⟨by rw [if_pos hok, clP] <;> rfl, by rw [if_pos hok, clP] <;> rfl⟩)
    · refine lv_iconst (v := (-1 : Int32)) hx hb dX9_names_21 rfl ?_
      exact hret _ _ _ _ _ _ hW rfl rfl dX9_names_22 (by have hok : ¬ (¬ inI (nI P) 0 (nI N - 1) = 0 ∧ ¬ inI p1 0 (nI C - 1) = 0) := fun h => h.2 c_18; exact ⟨by rw [if_neg hok], by rw [if_neg hok]⟩)

set_option maxHeartbeats 4000000 in
set_option maxRecDepth 100000 in
theorem c_X9_laws (l : Launch) (D : va_G) (cI cZ cN : ClassId) (b : Nat → Nat) (M : NV) (tr : Int64) (N C : Nat) (hN : M 2 1 = nI N) (hN7 : N ≤ 7) (hC : M 2 0 = nI C) (hC4 : C ≤ 4) (hC1 : 1 ≤ C) (u : Nat) (hu : M 0 8 = nI u) (hu10 : u ≤ 10) (p0 : Int32) : CtI l yX9_laws cX9_laws 3 (some .int) 3 D (tyG cI cZ cN) [.ref (b 0), .int p0] (pMod cI cZ b M tr) (fun r w => r = (if ¬ inI p0 0 15 = 0 then M 7 22 else -1) ∧ w = if ¬ inI p0 0 15 = 0 then (pMod cI cZ b (upA (upA (upA M 7 (upd (M 7) 22 p0)) 11 (noU (M 11) (M 7) u)) 0 (upd (upd (M 0) 0 (0 : Int32)) 8 (nI (noN u)))) tr) else (pMod cI cZ b (upA M 0 (upd (M 0) 0 (0 : Int32))) tr)) := by
  refine CtI.of rfl (Nat.le_of_ble_eq_true rfl) ?_
  intro pg ev sx mx ax bx mt cx ls Qx Ax Sx hret hW hl
  have hx := Sx.1
  have hb := Sx.2.1
  have hl : lv_has ls 3 [(0, .ref (b 0)), (1, .int p0)] := hl
  refine lv_aload_n hx hb dX9_laws_0 rfl (lv_at hl 0 rfl) ?_
  refine lv_iconst (v := (0 : Int32)) hx hb dX9_laws_1 rfl ?_
  refine r_put Sx hW 0 rfl rfl bw_wsX90 tyX9_ok nmX9 0 (by decide) mw144 rfl rfl rfl (Nat.le_of_ble_eq_true rfl) dX9_laws_2 (ws' := (pMod cI cZ b (upA M 0 (upd (M 0) 0 (0 : Int32))) tr)) rfl (fun H locs hW => ?_)
  refine lv_iload_n hx hb dX9_laws_5 rfl (lv_at hl 1 rfl) ?_
  refine lv_iconst (v := (0 : Int32)) hx hb dX9_laws_6 rfl ?_
  refine lv_bipush (v := (15 : Int32)) hx hb dX9_laws_7 rfl ?_
  refine callSI Sx hW (c_X9_in l D cI cZ cN p0 (0 : Int32) (15 : Int32)) smX9_in mw146 (As := [.int p0, .int (0 : Int32), .int (15 : Int32)]) (rest := []) rfl rfl hl.1 (Nat.le_of_ble_eq_true rfl) ⟨Nat.le_of_ble_eq_true rfl, Nat.le_of_ble_eq_true rfl⟩ ⟨Nat.le_refl _, Nat.le_refl _⟩ dX9_laws_9 (fun rx H locs hqx hW => ?_)
  obtain ⟨hrx, -⟩ := hqx
  refine r_eq (y := (inI p0 (0 : Int32) (15 : Int32))) hrx ?_
  refine lv_if_ne (tgt := 17) hx hb dX9_laws_12 rfl (fun c_12 => ?_) (fun c_12 => ?_)
  · refine lv_aload_n hx hb dX9_laws_17 rfl (lv_at hl 0 rfl) ?_
    refine callVV Sx hW (c_X9_notes l D cI cZ cN b (upA M 0 (upd (M 0) 0 (0 : Int32))) tr N C hN hN7 hC hC4 hC1 u hu hu10) vmX9_notes mw549 [0, 1, 2, 3, 4, 5, 6, 7, 8, 9, 10, 11, 12, 13, 14, 15, 16, 17] rfl (by decide) 0 rfl rfl (As := []) (rest := []) rfl rfl hl.1 (Nat.le_of_ble_eq_true rfl) ⟨Nat.le_of_ble_eq_true rfl, Nat.le_of_ble_eq_true rfl⟩ ⟨Nat.le_refl _, Nat.le_refl _⟩ dX9_laws_18 (fun wx H locs hqx hW => ?_)
    obtain rfl := hqx
    have hW : AtC D (tyG cI cZ cN) Ax (pMod cI cZ b (upA (upA M 11 (noU (M 11) (M 7) u)) 0 (upd (upd (M 0) 0 (0 : Int32)) 8 (nI (noN u)))) tr) sx H locs := hW.re [] 18 (by decide) rfl rfl trivial (by decide +kernel) rfl rfl
    refine lv_aload_n hx hb dX9_laws_21 rfl (lv_at hl 0 rfl) ?_
    refine r_get Sx hW 0 rfl rfl bw_wsX90 15 (by decide) (v := .ref (b 7)) rfl mw120 dX9_laws_22 ?_
    refine lv_bipush (v := (22 : Int32)) hx hb dX9_laws_25 rfl ?_
    refine r_iald Sx hW 7 0 (f := (M 7)) rfl rfl (j := 22) rfl (by decide) (by decide) dX9_laws_27 ?_
    refine lv_istore_n (lv' := [(2, .int ((M 7) 22)), (0, .ref (b 0)), (1, .int p0)]) hx hb dX9_laws_28 rfl hl (by decide) rfl (fun ls hl => ?_)
    refine lv_aload_n hx hb dX9_laws_29 rfl (lv_at hl 1 rfl) ?_
    refine r_get Sx hW 0 rfl rfl bw_wsX90 15 (by decide) (v := .ref (b 7)) rfl mw120 dX9_laws_30 ?_
    refine lv_bipush (v := (22 : Int32)) hx hb dX9_laws_33 rfl ?_
    refine lv_iload_n hx hb dX9_laws_35 rfl (lv_at hl 2 rfl) ?_
    refine r_iast Sx hW 7 0 rfl rfl (j := 22) rfl (by decide) (by decide) dX9_laws_36 (ws' := (pMod cI cZ b (upA (upA (upA M 7 (upd (M 7) 22 p0)) 11 (noU (M 11) (M 7) u)) 0 (upd (upd (M 0) 0 (0 : Int32)) 8 (nI (noN u)))) tr)) rfl (fun H locs hW => ?_)
    refine lv_iload_n hx hb dX9_laws_37 rfl (lv_at hl 0 rfl) ?_
    exact hret _ _ _ _ _ _ hW rfl rfl dX9_laws_38 (by have hok : ¬ inI p0 0 15 = 0 := c_12; exact ⟨by rw [if_pos hok] <;> rfl, by rw [if_pos hok] <;> rfl⟩)
  · refine lv_iconst (v := (-1 : Int32)) hx hb dX9_laws_15 rfl ?_
    exact hret _ _ _ _ _ _ hW rfl rfl dX9_laws_16 (by have hok : ¬ (¬ inI p0 0 15 = 0) := fun h => h c_12; exact ⟨by rw [if_neg hok], by rw [if_neg hok]⟩)
