/-! OneJohnModel: more of its calls -/
def deM (r : Nat → Int32) (N : Nat) (p : Int32) : Int32 := if inI p 0 (nI N - 1) = 0 then -1 else if r (14 + p.toNatClampNeg) = 99 then -2 else fmM (upd r (14 + p.toNatClampNeg) (r (14 + p.toNatClampNeg) + 1)) N p.toNatClampNeg
def eaM (w n : Int32) : Int32 := if 0 ≤ w + n then (if w + n ≤ 999 then w + n else 999) else 0
def bsF (r b : Nat → Int32) (N : Nat) : Nat → (Nat → Int32)
  | 0 => b
  | i + 1 => upd (bsF r b N i) i (if r (7 + i) ≤ txM r N i then r (7 + i) else txM r N i)
def ysM (r b : Nat → Int32) (N : Nat) : Nat → Int32
  | 0 => 0
  | i + 1 => ysM r b N i + bsF r b N (i + 1) i
def wsF (r d : Nat → Int32) : Nat → (Nat → Int32)
  | 0 => r
  | i + 1 => upd (wsF r d i) (7 + i) (wsF r d i (7 + i) - d i)
def chX (c s : Int32) : Int32 := if c + s ≤ 999999 then c + s else 999999
def yrF (r b : Nat → Int32) (N : Nat) : Nat → Int32 := upd (upd (wsF r (bsF r b N N) N) 23 (chX (wsF r (bsF r b N N) N 23) (ysM r b N N))) 24 (upd (wsF r (bsF r b N N) N) 23 (chX (wsF r (bsF r b N N) N 23) (ysM r b N N)) 24 + 1)
def itM (w to ti : Nat → Int32) (N : Nat) : Nat → Int32
  | 0 => 1
  | e + 1 => if itM w to ti N e = 0 then 0 else if ti e = 1 then (if liM w N (to e).toNatClampNeg = 1 then 1 else 0) else (if liM w N (to e).toNatClampNeg = 0 then 1 else 0)
def irM (w bi ro ri : Nat → Int32) (N C : Nat) : Nat → Int32
  | 0 => 1
  | e + 1 => if irM w bi ro ri N C e = 0 then 0 else if ri e = 1 then (if psM w bi N C (ro e) (evM N) = 1 then 1 else 0) else (if psM w bi N C (ro e) (evM N) = 0 then 1 else 0)
theorem itM_01 (w to ti : Nat → Int32) (N : Nat) : ∀ n, itM w to ti N n = 0 ∨ itM w to ti N n = 1
  | 0 => Or.inr rfl
  | n + 1 => by rw [itM]; split; exact Or.inl rfl; split <;> split <;> first | exact Or.inr rfl | exact Or.inl rfl
theorem irM_01 (w bi ro ri : Nat → Int32) (N C : Nat) : ∀ n, irM w bi ro ri N C n = 0 ∨ irM w bi ro ri N C n = 1
  | 0 => Or.inr rfl
  | n + 1 => by rw [irM]; split; exact Or.inl rfl; split <;> split <;> first | exact Or.inr rfl | exact Or.inl rfl
theorem nar01 {x : Int32} (h : x = 0 ∨ x = 1) : narrow .boolean (.int x) = .int x := by rcases h with h | h <;> rw [h] <;> rfl
def whM (w to ti : Nat → Int32) (N z1 : Nat) : Nat → Int32
  | 0 => if itM (upd w 21 0) to ti N z1 = 0 then 0 else 128
  | i + 1 => whM w to ti N z1 i ||| (if itM (upd w 21 ((1 : Int32) <<< (nI i &&& 31))) to ti N z1 = 0 then 0 else ((1 : Int32) <<< (nI i &&& 31)))
def whW (w : Nat → Int32) : Nat → (Nat → Int32)
  | 0 => upd w 21 0
  | i + 1 => upd (whW w i) 21 ((1 : Int32) <<< (nI i &&& 31))
theorem upd_upd (f : Nat → Int32) (k : Nat) (x y : Int32) : upd (upd f k x) k y = upd f k y := by
  funext j; unfold upd; split <;> rfl
theorem whW_upd (w : Nat → Int32) (x : Int32) : ∀ i, upd (whW w i) 21 x = upd w 21 x
  | 0 => upd_upd _ _ _ _
  | i + 1 => by rw [whW, upd_upd, whW_upd w x i]
def wqW (w : Nat → Int32) : Nat → (Nat → Int32)
  | 0 => w
  | i + 1 => upd (wqW w i) 22 (nI i)
theorem wqW_upd (w : Nat → Int32) (x : Int32) : ∀ i, upd (wqW w i) 22 x = upd w 22 x
  | 0 => rfl
  | i + 1 => by rw [wqW, upd_upd, wqW_upd w x i]
def wqK (f g : Nat → Int32) : Nat → Int32 × Int32 × Int32
  | 0 => (0, -9, 15)
  | j + 1 => if f j = 0 then wqK f g j else if g j = 0 then wqK f g j else ((wqK f g j).1 + 1, (if (wqK f g j).1 = 0 then nI j else (wqK f g j).2.1), (wqK f g j).2.2 &&& nI j)
def wqR (f g : Nat → Int32) (what : Int32) : Int32 := if inI what 0 2 = 0 then -1 else if what = 0 then (wqK f g 16).1 else if what = 1 then (wqK f g 16).2.1 else if (wqK f g 16).1 = 0 then (wqK f g 16).2.1 else (wqK f g 16).2.2

set_option maxHeartbeats 4000000 in
set_option maxRecDepth 100000 in
theorem c_X9_deeds (l : Launch) (D : va_G) (cI cZ cN : ClassId) (b : Nat → Nat) (M : NV) (tr : Int64) (N C : Nat) (hN : M 2 1 = nI N) (hN7 : N ≤ 7) (hC : M 2 0 = nI C) (hC4 : C ≤ 4) (hC1 : 1 ≤ C) (u : Nat) (hu : M 0 8 = nI u) (hu10 : u ≤ 10) (p0 : Int32) : CtI l yX9_deeds cX9_deeds 2 (some .int) 3 D (tyG cI cZ cN) [.ref (b 0), .int p0] (pMod cI cZ b M tr) (fun r w => r = deM (M 7) N p0 ∧ w = if ¬ inI p0 0 (nI N - 1) = 0 ∧ ¬ M 7 (14 + p0.toNatClampNeg) = 99 then (pMod cI cZ b (upA (upA (upA M 7 (upd (M 7) (14 + p0.toNatClampNeg) (M 7 (14 + p0.toNatClampNeg) + 1))) 11 (noU (M 11) (M 7) u)) 0 (upd (upd (M 0) 0 (0 : Int32)) 8 (nI (noN u)))) tr) else (pMod cI cZ b (upA M 0 (upd (M 0) 0 (0 : Int32))) tr)) := by
  refine CtI.of rfl (Nat.le_of_ble_eq_true rfl) ?_
  intro pg ev sx mx ax bx mt cx ls Qx Ax Sx hret hW hl
  have hx := Sx.1
  have hb := Sx.2.1
  have hl : lv_has ls 2 [(0, .ref (b 0)), (1, .int p0)] := hl
  refine lv_aload_n hx hb dX9_deeds_0 rfl (lv_at hl 0 rfl) ?_
  refine lv_iconst (v := (0 : Int32)) hx hb dX9_deeds_1 rfl ?_
  refine r_put Sx hW 0 rfl rfl bw_wsX90 tyX9_ok nmX9 0 (by decide) mw144 rfl rfl rfl (Nat.le_of_ble_eq_true rfl) dX9_deeds_2 (ws' := (pMod cI cZ b (upA M 0 (upd (M 0) 0 (0 : Int32))) tr)) rfl (fun H locs hW => ?_)
  refine lv_aload_n hx hb dX9_deeds_5 rfl (lv_at hl 0 rfl) ?_
  refine lv_iload_n hx hb dX9_deeds_6 rfl (lv_at hl 1 rfl) ?_
  refine callVI Sx hW (c_X9_isPerson l D cI cZ cN b (upA M 0 (upd (M 0) 0 (0 : Int32))) tr N C hN hN7 hC hC4 hC1 p0 ) vmX9_isPerson mw347 [0, 1, 2, 3, 4, 5, 6, 7, 8, 9, 10, 11, 12, 13, 14, 15, 16, 17] rfl (by decide) 0 rfl rfl (As := [.int p0]) (rest := []) rfl rfl hl.1 (Nat.le_of_ble_eq_true rfl) ⟨Nat.le_of_ble_eq_true rfl, Nat.le_of_ble_eq_true rfl⟩ ⟨Nat.le_refl _, Nat.le_refl _⟩ dX9_deeds_7 (fun rx wx H locs hqx hW => ?_)
  obtain ⟨hrx, rfl⟩ := hqx
  have hW : AtC D (tyG cI cZ cN) Ax (pMod cI cZ b (upA M 0 (upd (M 0) 0 (0 : Int32))) tr) sx H locs := hW.re [] 18 (by decide) rfl rfl trivial (by decide +kernel) rfl rfl
  refine r_eq (y := (inI p0 0 (nI N - 1))) hrx ?_
  refine lv_if_ne (tgt := 15) hx hb dX9_deeds_10 rfl (fun c_10 => ?_) (fun c_10 => ?_)
  · obtain ⟨P, hP, rfl⟩ := inI_nat (nI_m1 (show N < 1000 by omega)) c_10
    have clP : (nI P).toNatClampNeg = P := nI_clamp (by omega)
    refine lv_aload_n hx hb dX9_deeds_15 rfl (lv_at hl 0 rfl) ?_
    refine r_get Sx hW 0 rfl rfl bw_wsX90 15 (by decide) (v := .ref (b 7)) rfl mw120 dX9_deeds_16 ?_
    refine lv_bipush (v := (14 : Int32)) hx hb dX9_deeds_19 rfl ?_
    refine lv_iload_n hx hb dX9_deeds_21 rfl (lv_at hl 1 rfl) ?_
    refine lv_iadd hx hb dX9_deeds_22 ?_
    refine r_eq (y := (nI (14 + P))) (nI_add 14 P) ?_
    refine r_iald Sx hW 7 0 (f := (M 7)) rfl rfl (j := 14 + P) rfl (by omega) (by decide) dX9_deeds_23 ?_
    refine lv_bipush (v := (99 : Int32)) hx hb dX9_deeds_24 rfl ?_
    refine lv_icmp_ne (tgt := 32) hx hb dX9_deeds_26 rfl (fun c_26 => ?_) (fun c_26 => ?_)
    · refine lv_aload_n hx hb dX9_deeds_32 rfl (lv_at hl 0 rfl) ?_
      refine callVV Sx hW (c_X9_notes l D cI cZ cN b (upA M 0 (upd (M 0) 0 (0 : Int32))) tr N C hN hN7 hC hC4 hC1 u hu hu10) vmX9_notes mw549 [0, 1, 2, 3, 4, 5, 6, 7, 8, 9, 10, 11, 12, 13, 14, 15, 16, 17] rfl (by decide) 0 rfl rfl (As := []) (rest := []) rfl rfl hl.1 (Nat.le_of_ble_eq_true rfl) ⟨Nat.le_of_ble_eq_true rfl, Nat.le_of_ble_eq_true rfl⟩ ⟨Nat.le_refl _, Nat.le_refl _⟩ dX9_deeds_33 (fun wx H locs hqx hW => ?_)
      obtain rfl := hqx
      have hW : AtC D (tyG cI cZ cN) Ax (pMod cI cZ b (upA (upA M 11 (noU (M 11) (M 7) u)) 0 (upd (upd (M 0) 0 (0 : Int32)) 8 (nI (noN u)))) tr) sx H locs := hW.re [] 18 (by decide) rfl rfl trivial (by decide +kernel) rfl rfl
      refine lv_aload_n hx hb dX9_deeds_36 rfl (lv_at hl 0 rfl) ?_
      refine r_get Sx hW 0 rfl rfl bw_wsX90 15 (by decide) (v := .ref (b 7)) rfl mw120 dX9_deeds_37 ?_
      refine lv_bipush (v := (14 : Int32)) hx hb dX9_deeds_40 rfl ?_
      refine lv_iload_n hx hb dX9_deeds_42 rfl (lv_at hl 1 rfl) ?_
      refine lv_iadd hx hb dX9_deeds_43 ?_
      refine r_eq (y := (nI (14 + P))) (nI_add 14 P) ?_
      refine lv_dup2_11 hx hb dX9_deeds_44 rfl rfl ?_
      refine r_iald Sx hW 7 0 (f := (M 7)) rfl rfl (j := 14 + P) rfl (by omega) (by decide) dX9_deeds_45 ?_
      refine lv_iconst (v := (1 : Int32)) hx hb dX9_deeds_46 rfl ?_
      refine lv_iadd hx hb dX9_deeds_47 ?_
      refine r_iast Sx hW 7 0 rfl rfl (j := 14 + P) rfl (by omega) (by decide) dX9_deeds_48 (ws' := (pMod cI cZ b (upA (upA (upA M 7 (upd (M 7) (14 + P) (((M 7) (14 + P)) + (1 : Int32)))) 11 (noU (M 11) (M 7) u)) 0 (upd (upd (M 0) 0 (0 : Int32)) 8 (nI (noN u)))) tr)) rfl (fun H locs hW => ?_)
      refine lv_aload_n hx hb dX9_deeds_49 rfl (lv_at hl 0 rfl) ?_
      refine lv_aload_n hx hb dX9_deeds_50 rfl (lv_at hl 0 rfl) ?_
      refine r_get Sx hW 0 rfl rfl bw_wsX90 15 (by decide) (v := .ref (b 7)) rfl mw120 dX9_deeds_51 ?_
      refine lv_iload_n hx hb dX9_deeds_54 rfl (lv_at hl 1 rfl) ?_
      refine callVI Sx hW (c_X9_fame_s l D cI cZ cN b (upA (upA (upA M 7 (upd (M 7) (14 + P) (((M 7) (14 + P)) + (1 : Int32)))) 11 (noU (M 11) (M 7) u)) 0 (upd (upd (M 0) 0 (0 : Int32)) 8 (nI (noN u)))) tr N C hN hN7 hC hC4 hC1 P (by omega) ) vmX9_fame mw362 [0, 1, 2, 3, 4, 5, 6, 7, 8, 9, 10, 11, 12, 13, 14, 15, 16, 17] rfl (by decide) 0 rfl rfl (As := [.ref (b 7), .int (nI P)]) (rest := []) rfl rfl hl.1 (Nat.le_of_ble_eq_true rfl) ⟨Nat.le_of_ble_eq_true rfl, Nat.le_of_ble_eq_true rfl⟩ ⟨Nat.le_refl _, Nat.le_refl _⟩ dX9_deeds_55 (fun rx wx H locs hqx hW => ?_)
      obtain ⟨hrx, rfl⟩ := hqx
      have hW : AtC D (tyG cI cZ cN) Ax (pMod cI cZ b (upA (upA (upA M 7 (upd (M 7) (14 + P) (((M 7) (14 + P)) + (1 : Int32)))) 11 (noU (M 11) (M 7) u)) 0 (upd (upd (M 0) 0 (0 : Int32)) 8 (nI (noN u)))) tr) sx H locs := hW.re [] 18 (by decide) rfl rfl trivial (by decide +kernel) rfl rfl
      refine r_eq (y := (fmM (upd (M 7) (14 + P) (((M 7) (14 + P)) + (1 : Int32))) N P)) hrx ?_
      exact hret _ _ _ _ _ _ hW rfl rfl dX9_deeds_58 (by have hok : ¬ inI (nI P) 0 (nI N - 1) = 0 ∧ ¬ M 7 (14 + (nI P).toNatClampNeg) = 99 := ⟨c_10, fun h => c_26 (by rw [clP] at h; exact h)⟩; exact ⟨by rw [deM, if_neg c_10, clP, if_neg c_26] <;> rfl, by rw [if_pos hok, clP] <;> rfl⟩)
    · refine lv_bipush (v := (-2 : Int32)) hx hb dX9_deeds_29 rfl ?_
      exact hret _ _ _ _ _ _ hW rfl rfl dX9_deeds_31 (⟨by rw [deM, if_neg c_10, clP, if_pos c_26], by rw [if_neg (fun h => h.2 (by rw [clP]; exact c_26))]⟩)
  · refine lv_iconst (v := (-1 : Int32)) hx hb dX9_deeds_13 rfl ?_
    exact hret _ _ _ _ _ _ hW rfl rfl dX9_deeds_14 (⟨by rw [deM, if_pos c_10], by rw [if_neg (fun h => h.1 c_10)]⟩)

set_option maxHeartbeats 4000000 in
set_option maxRecDepth 100000 in
theorem c_X9_earns (l : Launch) (D : va_G) (cI cZ cN : ClassId) (b : Nat → Nat) (M : NV) (tr : Int64) (N C : Nat) (hN : M 2 1 = nI N) (hN7 : N ≤ 7) (hC : M 2 0 = nI C) (hC4 : C ≤ 4) (hC1 : 1 ≤ C) (u : Nat) (hu : M 0 8 = nI u) (hu10 : u ≤ 10) (p0 : Int32) (p1 : Int32) : CtI l yX9_earns cX9_earns 4 (some .int) 3 D (tyG cI cZ cN) [.ref (b 0), .int p0, .int p1] (pMod cI cZ b M tr) (fun r w => r = (if ¬ inI p0 0 (nI N - 1) = 0 ∧ ¬ inI p1 (-99) 99 = 0 then eaM (M 7 (7 + p0.toNatClampNeg)) p1 else -1) ∧ w = if ¬ inI p0 0 (nI N - 1) = 0 ∧ ¬ inI p1 (-99) 99 = 0 then (pMod cI cZ b (upA (upA (upA M 7 (upd (M 7) (7 + p0.toNatClampNeg) (eaM (M 7 (7 + p0.toNatClampNeg)) p1))) 11 (noU (M 11) (M 7) u)) 0 (upd (upd (M 0) 0 (0 : Int32)) 8 (nI (noN u)))) tr) else (pMod cI cZ b (upA M 0 (upd (M 0) 0 (0 : Int32))) tr)) := by
  refine CtI.of rfl (Nat.le_of_ble_eq_true rfl) ?_
  intro pg ev sx mx ax bx mt cx ls Qx Ax Sx hret hW hl
  have hx := Sx.1
  have hb := Sx.2.1
  have hl : lv_has ls 4 [(0, .ref (b 0)), (1, .int p0), (2, .int p1)] := hl
  refine lv_aload_n hx hb dX9_earns_0 rfl (lv_at hl 0 rfl) ?_
  refine lv_iconst (v := (0 : Int32)) hx hb dX9_earns_1 rfl ?_
  refine r_put Sx hW 0 rfl rfl bw_wsX90 tyX9_ok nmX9 0 (by decide) mw144 rfl rfl rfl (Nat.le_of_ble_eq_true rfl) dX9_earns_2 (ws' := (pMod cI cZ b (upA M 0 (upd (M 0) 0 (0 : Int32))) tr)) rfl (fun H locs hW => ?_)
  refine lv_aload_n hx hb dX9_earns_5 rfl (lv_at hl 0 rfl) ?_
  refine lv_iload_n hx hb dX9_earns_6 rfl (lv_at hl 1 rfl) ?_
  refine callVI Sx hW (c_X9_isPerson l D cI cZ cN b (upA M 0 (upd (M 0) 0 (0 : Int32))) tr N C hN hN7 hC hC4 hC1 p0 ) vmX9_isPerson mw347 [0, 1, 2, 3, 4, 5, 6, 7, 8, 9, 10, 11, 12, 13, 14, 15, 16, 17] rfl (by decide) 0 rfl rfl (As := [.int p0]) (rest := []) rfl rfl hl.1 (Nat.le_of_ble_eq_true rfl) ⟨Nat.le_of_ble_eq_true rfl, Nat.le_of_ble_eq_true rfl⟩ ⟨Nat.le_refl _, Nat.le_refl _⟩ dX9_earns_7 (fun rx wx H locs hqx hW => ?_)
  obtain ⟨hrx, rfl⟩ := hqx
  have hW : AtC D (tyG cI cZ cN) Ax (pMod cI cZ b (upA M 0 (upd (M 0) 0 (0 : Int32))) tr) sx H locs := hW.re [] 18 (by decide) rfl rfl trivial (by decide +kernel) rfl rfl
  refine r_eq (y := (inI p0 0 (nI N - 1))) hrx ?_
  refine lv_if_eq (tgt := 24) hx hb dX9_earns_10 rfl (fun c_10 => ?_) (fun c_10 => ?_)
  · refine lv_iconst (v := (-1 : Int32)) hx hb dX9_earns_24 rfl ?_
    exact hret _ _ _ _ _ _ hW rfl rfl dX9_earns_25 (by have hok : ¬ (¬ inI p0 0 (nI N - 1) = 0 ∧ ¬ inI p1 (-99) 99 = 0) := fun h => h.1 c_10; exact ⟨by rw [if_neg hok], by rw [if_neg hok]⟩)
  · obtain ⟨P, hP, rfl⟩ := inI_nat (nI_m1 (show N < 1000 by omega)) c_10
    have clP : (nI P).toNatClampNeg = P := nI_clamp (by omega)
    refine lv_iload_n hx hb dX9_earns_13 rfl (lv_at hl 2 rfl) ?_
    refine lv_bipush (v := (-99 : Int32)) hx hb dX9_earns_14 rfl ?_
    refine lv_bipush (v := (99 : Int32)) hx hb dX9_earns_16 rfl ?_
    refine callSI Sx hW (c_X9_in l D cI cZ cN p1 (-99 : Int32) (99 : Int32)) smX9_in mw146 (As := [.int p1, .int (-99 : Int32), .int (99 : Int32)]) (rest := []) rfl rfl hl.1 (Nat.le_of_ble_eq_true rfl) ⟨Nat.le_of_ble_eq_true rfl, Nat.le_of_ble_eq_true rfl⟩ ⟨Nat.le_refl _, Nat.le_refl _⟩ dX9_earns_18 (fun rx H locs hqx hW => ?_)
    obtain ⟨hrx, -⟩ := hqx
    refine r_eq (y := (inI p1 (-99 : Int32) (99 : Int32))) hrx ?_
    refine lv_if_ne (tgt := 26) hx hb dX9_earns_21 rfl (fun c_21 => ?_) (fun c_21 => ?_)
    · refine lv_aload_n hx hb dX9_earns_26 rfl (lv_at hl 0 rfl) ?_
      refine callVV Sx hW (c_X9_notes l D cI cZ cN b (upA M 0 (upd (M 0) 0 (0 : Int32))) tr N C hN hN7 hC hC4 hC1 u hu hu10) vmX9_notes mw549 [0, 1, 2, 3, 4, 5, 6, 7, 8, 9, 10, 11, 12, 13, 14, 15, 16, 17] rfl (by decide) 0 rfl rfl (As := []) (rest := []) rfl rfl hl.1 (Nat.le_of_ble_eq_true rfl) ⟨Nat.le_of_ble_eq_true rfl, Nat.le_of_ble_eq_true rfl⟩ ⟨Nat.le_refl _, Nat.le_refl _⟩ dX9_earns_27 (fun wx H locs hqx hW => ?_)
      obtain rfl := hqx
      have hW : AtC D (tyG cI cZ cN) Ax (pMod cI cZ b (upA (upA M 11 (noU (M 11) (M 7) u)) 0 (upd (upd (M 0) 0 (0 : Int32)) 8 (nI (noN u)))) tr) sx H locs := hW.re [] 18 (by decide) rfl rfl trivial (by decide +kernel) rfl rfl
      refine lv_aload_n hx hb dX9_earns_30 rfl (lv_at hl 0 rfl) ?_
      refine r_get Sx hW 0 rfl rfl bw_wsX90 15 (by decide) (v := .ref (b 7)) rfl mw120 dX9_earns_31 ?_
      refine lv_bipush (v := (7 : Int32)) hx hb dX9_earns_34 rfl ?_
      refine lv_iload_n hx hb dX9_earns_36 rfl (lv_at hl 1 rfl) ?_
      refine lv_iadd hx hb dX9_earns_37 ?_
      refine r_eq (y := (nI (7 + P))) (nI_add 7 P) ?_
      refine r_iald Sx hW 7 0 (f := (M 7)) rfl rfl (j := 7 + P) rfl (by omega) (by decide) dX9_earns_38 ?_
      refine lv_iload_n hx hb dX9_earns_39 rfl (lv_at hl 2 rfl) ?_
      refine lv_iadd hx hb dX9_earns_40 ?_
      refine lv_istore_n (lv' := [(3, .int (((M 7) (7 + P)) + p1)), (0, .ref (b 0)), (1, .int (nI P)), (2, .int p1)]) hx hb dX9_earns_41 rfl hl (by decide) rfl (fun ls hl => ?_)
      refine lv_aload_n hx hb dX9_earns_42 rfl (lv_at hl 1 rfl) ?_
      refine r_get Sx hW 0 rfl rfl bw_wsX90 15 (by decide) (v := .ref (b 7)) rfl mw120 dX9_earns_43 ?_
      refine lv_bipush (v := (7 : Int32)) hx hb dX9_earns_46 rfl ?_
      refine lv_iload_n hx hb dX9_earns_48 rfl (lv_at hl 2 rfl) ?_
      refine lv_iadd hx hb dX9_earns_49 ?_
      refine r_eq (y := (nI (7 + P))) (nI_add 7 P) ?_
      refine lv_iload_n hx hb dX9_earns_50 rfl (lv_at hl 0 rfl) ?_
      refine lv_if_ge (tgt := 58) hx hb dX9_earns_51 rfl (fun c_51 => ?_) (fun c_51 => ?_)
      · refine lv_iload_n hx hb dX9_earns_58 rfl (lv_at hl 0 rfl) ?_
        refine lv_sipush (v := (999 : Int32)) hx hb dX9_earns_59 rfl ?_
        refine lv_icmp_le (tgt := 71) hx hb dX9_earns_62 rfl (fun c_62 => ?_) (fun c_62 => ?_)
        · refine lv_iload_n hx hb dX9_earns_71 rfl (lv_at hl 0 rfl) ?_
          refine r_iast Sx hW 7 0 rfl rfl (j := 7 + P) rfl (by omega) (by decide) dX9_earns_72 (ws' := (pMod cI cZ b (upA (upA (upA M 7 (upd (M 7) (7 + P) (((M 7) (7 + P)) + p1))) 11 (noU (M 11) (M 7) u)) 0 (upd (upd (M 0) 0 (0 : Int32)) 8 (nI (noN u)))) tr)) rfl (fun H locs hW => ?_)
          refine lv_aload_n hx hb dX9_earns_73 rfl (lv_at hl 1 rfl) ?_
          refine r_get Sx hW 0 rfl rfl bw_wsX90 15 (by decide) (v := .ref (b 7)) rfl mw120 dX9_earns_74 ?_
          refine lv_bipush (v := (7 : Int32)) hx hb dX9_earns_77 rfl ?_
          refine lv_iload_n hx hb dX9_earns_79 rfl (lv_at hl 2 rfl) ?_
          refine lv_iadd hx hb dX9_earns_80 ?_
          refine r_eq (y := (nI (7 + P))) (nI_add 7 P) ?_
          refine r_iald Sx hW 7 0 (f := (upd (M 7) (7 + P) (((M 7) (7 + P)) + p1))) rfl rfl (j := 7 + P) rfl (by omega) (by decide) dX9_earns_81 ?_
          exact hret _ _ _ _ _ _ hW rfl rfl dX9_earns_82 (by have hok : ¬ inI (nI P) 0 (nI N - 1) = 0 ∧ ¬ inI p1 (-99) 99 = 0 := ⟨c_10, c_21⟩; exact ⟨by rw [if_pos hok, clP, eaM, if_pos c_51, if_pos c_62]; exact pk_us, by rw [if_pos hok, clP, eaM, if_pos c_51, if_pos c_62] <;> rfl⟩)
        · refine lv_sipush (v := (999 : Int32)) hx hb dX9_earns_65 rfl ?_
          refine lv_goto (tgt := 72) hx hb dX9_earns_68 rfl ?_
          refine r_iast Sx hW 7 0 rfl rfl (j := 7 + P) rfl (by omega) (by decide) dX9_earns_72 (ws' := (pMod cI cZ b (upA (upA (upA M 7 (upd (M 7) (7 + P) (999 : Int32))) 11 (noU (M 11) (M 7) u)) 0 (upd (upd (M 0) 0 (0 : Int32)) 8 (nI (noN u)))) tr)) rfl (fun H locs hW => ?_)
          refine lv_aload_n hx hb dX9_earns_73 rfl (lv_at hl 1 rfl) ?_
          refine r_get Sx hW 0 rfl rfl bw_wsX90 15 (by decide) (v := .ref (b 7)) rfl mw120 dX9_earns_74 ?_
          refine lv_bipush (v := (7 : Int32)) hx hb dX9_earns_77 rfl ?_
          refine lv_iload_n hx hb dX9_earns_79 rfl (lv_at hl 2 rfl) ?_
          refine lv_iadd hx hb dX9_earns_80 ?_
          refine r_eq (y := (nI (7 + P))) (nI_add 7 P) ?_
          refine r_iald Sx hW 7 0 (f := (upd (M 7) (7 + P) (999 : Int32))) rfl rfl (j := 7 + P) rfl (by omega) (by decide) dX9_earns_81 ?_
          exact hret _ _ _ _ _ _ hW rfl rfl dX9_earns_82 (by have hok : ¬ inI (nI P) 0 (nI N - 1) = 0 ∧ ¬ inI p1 (-99) 99 = 0 := ⟨c_10, c_21⟩; exact ⟨by rw [if_pos hok, clP, eaM, if_pos c_51, if_neg c_62]; exact pk_us, by rw [if_pos hok, clP, eaM, if_pos c_51, if_neg c_62] <;> rfl⟩)
      · refine lv_iconst (v := (0 : Int32)) hx hb dX9_earns_54 rfl ?_
        refine lv_goto (tgt := 72) hx hb dX9_earns_55 rfl ?_
        refine r_iast Sx hW 7 0 rfl rfl (j := 7 + P) rfl (by omega) (by decide) dX9_earns_72 (ws' := (pMod cI cZ b (upA (upA (upA M 7 (upd (M 7) (7 + P) (0 : Int32))) 11 (noU (M 11) (M 7) u)) 0 (upd (upd (M 0) 0 (0 : Int32)) 8 (nI (noN u)))) tr)) rfl (fun H locs hW => ?_)
        refine lv_aload_n hx hb dX9_earns_73 rfl (lv_at hl 1 rfl) ?_
        refine r_get Sx hW 0 rfl rfl bw_wsX90 15 (by decide) (v := .ref (b 7)) rfl mw120 dX9_earns_74 ?_
        refine lv_bipush (v := (7 : Int32)) hx hb dX9_earns_77 rfl ?_
        refine lv_iload_n hx hb dX9_earns_79 rfl (lv_at hl 2 rfl) ?_
        refine lv_iadd hx hb dX9_earns_80 ?_
        refine r_eq (y := (nI (7 + P))) (nI_add 7 P) ?_
        refine r_iald Sx hW 7 0 (f := (upd (M 7) (7 + P) (0 : Int32))) rfl rfl (j := 7 + P) rfl (by omega) (by decide) dX9_earns_81 ?_
        exact hret _ _ _ _ _ _ hW rfl rfl dX9_earns_82 (by have hok : ¬ inI (nI P) 0 (nI N - 1) = 0 ∧ ¬ inI p1 (-99) 99 = 0 := ⟨c_10, c_21⟩; exact ⟨by rw [if_pos hok, clP, eaM, if_neg c_51]; exact pk_us, by rw [if_pos hok, clP, eaM, if_neg c_51] <;> rfl⟩)
    · refine lv_iconst (v := (-1 : Int32)) hx hb dX9_earns_24 rfl ?_
      exact hret _ _ _ _ _ _ hW rfl rfl dX9_earns_25 (by have hok : ¬ (¬ inI (nI P) 0 (nI N - 1) = 0 ∧ ¬ inI p1 (-99) 99 = 0) := fun h => h.2 c_21; exact ⟨by rw [if_neg hok], by rw [if_neg hok]⟩)

set_option maxHeartbeats 4000000 in
set_option maxRecDepth 100000 in
theorem c_X9_year (l : Launch) (D : va_G) (cI cZ cN : ClassId) (b : Nat → Nat) (M : NV) (tr : Int64) (N C : Nat) (hN : M 2 1 = nI N) (hN7 : N ≤ 7) (hC : M 2 0 = nI C) (hC4 : C ≤ 4) (hC1 : 1 ≤ C) (u : Nat) (hu : M 0 8 = nI u) (hu10 : u ≤ 10) : CtI l yX9_year cX9_year 3 (some .int) 3 D (tyG cI cZ cN) [.ref (b 0)] (pMod cI cZ b M tr) (fun r w => r = (if ¬ M 7 24 = 999 then ysM (M 7) (M 16) N N else -2) ∧ w = if ¬ M 7 24 = 999 then (pMod cI cZ b (upA (upA (upA (upA M 7 (yrF (M 7) (M 16) N)) 11 (noU (M 11) (M 7) u)) 16 (bsF (M 7) (M 16) N N)) 0 (upd (upd (M 0) 0 (0 : Int32)) 8 (nI (noN u)))) tr) else (pMod cI cZ b (upA M 0 (upd (M 0) 0 (0 : Int32))) tr)) := by
  refine CtI.of rfl (Nat.le_of_ble_eq_true rfl) ?_
  intro pg ev sx mx ax bx mt cx ls Qx Ax Sx hret hW hl
  have hx := Sx.1
  have hb := Sx.2.1
  have hl : lv_has ls 3 [(0, .ref (b 0))] := hl
  refine lv_aload_n hx hb dX9_year_0 rfl (lv_at hl 0 rfl) ?_
  refine lv_iconst (v := (0 : Int32)) hx hb dX9_year_1 rfl ?_
  refine r_put Sx hW 0 rfl rfl bw_wsX90 tyX9_ok nmX9 0 (by decide) mw144 rfl rfl rfl (Nat.le_of_ble_eq_true rfl) dX9_year_2 (ws' := (pMod cI cZ b (upA M 0 (upd (M 0) 0 (0 : Int32))) tr)) rfl (fun H locs hW => ?_)
  refine lv_aload_n hx hb dX9_year_5 rfl (lv_at hl 0 rfl) ?_
  refine r_get Sx hW 0 rfl rfl bw_wsX90 15 (by decide) (v := .ref (b 7)) rfl mw120 dX9_year_6 ?_
  refine lv_bipush (v := (24 : Int32)) hx hb dX9_year_9 rfl ?_
  refine r_iald Sx hW 7 0 (f := (M 7)) rfl rfl (j := 24) rfl (by decide) (by decide) dX9_year_11 ?_
  refine lv_sipush (v := (999 : Int32)) hx hb dX9_year_12 rfl ?_
  refine lv_icmp_ne (tgt := 21) hx hb dX9_year_15 rfl (fun c_15 => ?_) (fun c_15 => ?_)
  · refine lv_aload_n hx hb dX9_year_21 rfl (lv_at hl 0 rfl) ?_
    refine callVV Sx hW (c_X9_notes l D cI cZ cN b (upA M 0 (upd (M 0) 0 (0 : Int32))) tr N C hN hN7 hC hC4 hC1 u hu hu10) vmX9_notes mw549 [0, 1, 2, 3, 4, 5, 6, 7, 8, 9, 10, 11, 12, 13, 14, 15, 16, 17] rfl (by decide) 0 rfl rfl (As := []) (rest := []) rfl rfl hl.1 (Nat.le_of_ble_eq_true rfl) ⟨Nat.le_of_ble_eq_true rfl, Nat.le_of_ble_eq_true rfl⟩ ⟨Nat.le_refl _, Nat.le_refl _⟩ dX9_year_22 (fun wx H locs hqx hW => ?_)
    obtain rfl := hqx
    have hW : AtC D (tyG cI cZ cN) Ax (pMod cI cZ b (upA (upA M 11 (noU (M 11) (M 7) u)) 0 (upd (upd (M 0) 0 (0 : Int32)) 8 (nI (noN u)))) tr) sx H locs := hW.re [] 18 (by decide) rfl rfl trivial (by decide +kernel) rfl rfl
    refine lv_iconst (v := (0 : Int32)) hx hb dX9_year_25 rfl ?_
    refine lv_istore_n (lv' := [(1, .int (0 : Int32)), (0, .ref (b 0))]) hx hb dX9_year_26 rfl hl (by decide) rfl (fun ls hl => ?_)
    refine lv_iconst (v := (0 : Int32)) hx hb dX9_year_27 rfl ?_
    refine lv_istore_n (lv' := [(2, .int (0 : Int32)), (1, .int (0 : Int32)), (0, .ref (b 0))]) hx hb dX9_year_28 rfl hl (by decide) rfl (fun ls hl => ?_)
    have lp_29 : ∀ (n : Nat) (i : Nat), ((i ≤ N)) → ((N + 1 ≤ i + n)) → ∀ (H : Heap) (locs : List Loc) (ls : Array Slot), AtC D (tyG cI cZ cN) Ax (pMod cI cZ b (upA (upA (upA M 11 (noU (M 11) (M 7) u)) 16 (bsF (M 7) (M 16) N i)) 0 (upd (upd (M 0) 0 (0 : Int32)) 8 (nI (noN u)))) tr) sx H locs → lv_has ls 3 [(0, .ref (b 0)), (1, .int (ysM (M 7) (M 16) N i)), (2, .int (nI i))] → W pg l ev (rmN 3) sx mx ax bx mt cx H locs 0 0 Qx (F0 mx 29 ls []) := by
      intro n
      induction n with
      | zero =>
        intro i hi_29 hn_29 H locs ls hW hl
        exact absurd hn_29 (by omega)
      | succ n ih29 =>
        intro i hi_29 hn_29 H locs ls hW hl
        refine lv_iload_n hx hb dX9_year_29 rfl (lv_at hl 2 rfl) ?_
        refine lv_aload_n hx hb dX9_year_30 rfl (lv_at hl 0 rfl) ?_
        refine r_get Sx hW 0 rfl rfl bw_wsX90 9 (by decide) (v := .ref (b 2)) rfl mw115 dX9_year_31 ?_
        refine lv_iconst (v := (1 : Int32)) hx hb dX9_year_34 rfl ?_
        refine r_iald Sx hW 2 0 (f := (M 2)) rfl rfl (j := 1) rfl (by decide) (by decide) dX9_year_35 ?_
        refine r_eq (y := (nI N)) hN ?_
        refine lv_icmp_ge (tgt := 102) hx hb dX9_year_36 rfl (fun c_36 => ?_) (fun c_36 => ?_)
        · have ge_36 : N ≤ i := (nI_leI (a := N) (b := i) (by omega) (by omega)).mp c_36
          have ee_36 : N = i := by omega
          subst ee_36
          refine lv_iconst (v := (0 : Int32)) hx hb dX9_year_102 rfl ?_
          refine lv_istore_n (lv' := [(2, .int (0 : Int32)), (0, .ref (b 0)), (1, .int (ysM (M 7) (M 16) N N))]) hx hb dX9_year_103 rfl hl (by decide) rfl (fun ls hl => ?_)
          have lp_104 : ∀ (n : Nat) (i : Nat), ((i ≤ N)) → ((N + 1 ≤ i + n)) → ∀ (H : Heap) (locs : List Loc) (ls : Array Slot), AtC D (tyG cI cZ cN) Ax (pMod cI cZ b (upA (upA (upA (upA M 7 (wsF (M 7) (bsF (M 7) (M 16) N N) i)) 11 (noU (M 11) (M 7) u)) 16 (bsF (M 7) (M 16) N N)) 0 (upd (upd (M 0) 0 (0 : Int32)) 8 (nI (noN u)))) tr) sx H locs → lv_has ls 3 [(0, .ref (b 0)), (1, .int (ysM (M 7) (M 16) N N)), (2, .int (nI i))] → W pg l ev (rmN 3) sx mx ax bx mt cx H locs 0 0 Qx (F0 mx 104 ls []) := by
            intro n
            induction n with
            | zero =>
              intro i hi_104 hn_104 H locs ls hW hl
              exact absurd hn_104 (by omega)
            | succ n ih104 =>
              intro i hi_104 hn_104 H locs ls hW hl
              refine lv_iload_n hx hb dX9_year_104 rfl (lv_at hl 2 rfl) ?_
              refine lv_aload_n hx hb dX9_year_105 rfl (lv_at hl 0 rfl) ?_
              refine r_get Sx hW 0 rfl rfl bw_wsX90 9 (by decide) (v := .ref (b 2)) rfl mw115 dX9_year_106 ?_
              refine lv_iconst (v := (1 : Int32)) hx hb dX9_year_109 rfl ?_
              refine r_iald Sx hW 2 0 (f := (M 2)) rfl rfl (j := 1) rfl (by decide) (by decide) dX9_year_110 ?_
              refine r_eq (y := (nI N)) hN ?_
              refine lv_icmp_ge (tgt := 138) hx hb dX9_year_111 rfl (fun c_111 => ?_) (fun c_111 => ?_)
              · have ge_111 : N ≤ i := (nI_leI (a := N) (b := i) (by omega) (by omega)).mp c_111
                have ee_111 : N = i := by omega
                subst ee_111
                refine lv_aload_n hx hb dX9_year_138 rfl (lv_at hl 0 rfl) ?_
                refine r_get Sx hW 0 rfl rfl bw_wsX90 15 (by decide) (v := .ref (b 7)) rfl mw120 dX9_year_139 ?_
                refine lv_bipush (v := (23 : Int32)) hx hb dX9_year_142 rfl ?_
                refine lv_aload_n hx hb dX9_year_144 rfl (lv_at hl 0 rfl) ?_
                refine r_get Sx hW 0 rfl rfl bw_wsX90 15 (by decide) (v := .ref (b 7)) rfl mw120 dX9_year_145 ?_
                refine lv_bipush (v := (23 : Int32)) hx hb dX9_year_148 rfl ?_
                refine r_iald Sx hW 7 0 (f := (wsF (M 7) (bsF (M 7) (M 16) N N) N)) rfl rfl (j := 23) rfl (by decide) (by decide) dX9_year_150 ?_
                refine lv_iload_n hx hb dX9_year_151 rfl (lv_at hl 1 rfl) ?_
                refine lv_iadd hx hb dX9_year_152 ?_
                refine r_ldc Sx (v := (999999 : Int32)) mw600 dX9_year_153 ?_
                refine lv_icmp_le (tgt := 163) hx hb dX9_year_155 rfl (fun c_155 => ?_) (fun c_155 => ?_)
                · refine lv_aload_n hx hb dX9_year_163 rfl (lv_at hl 0 rfl) ?_
                  refine r_get Sx hW 0 rfl rfl bw_wsX90 15 (by decide) (v := .ref (b 7)) rfl mw120 dX9_year_164 ?_
                  refine lv_bipush (v := (23 : Int32)) hx hb dX9_year_167 rfl ?_
                  refine r_iald Sx hW 7 0 (f := (wsF (M 7) (bsF (M 7) (M 16) N N) N)) rfl rfl (j := 23) rfl (by decide) (by decide) dX9_year_169 ?_
                  refine lv_iload_n hx hb dX9_year_170 rfl (lv_at hl 1 rfl) ?_
                  refine lv_iadd hx hb dX9_year_171 ?_
                  refine r_iast Sx hW 7 0 rfl rfl (j := 23) rfl (by decide) (by decide) dX9_year_172 (ws' := (pMod cI cZ b (upA (upA (upA (upA M 7 (upd (wsF (M 7) (bsF (M 7) (M 16) N N) N) 23 (((wsF (M 7) (bsF (M 7) (M 16) N N) N) 23) + (ysM (M 7) (M 16) N N)))) 11 (noU (M 11) (M 7) u)) 16 (bsF (M 7) (M 16) N N)) 0 (upd (upd (M 0) 0 (0 : Int32)) 8 (nI (noN u)))) tr)) rfl (fun H locs hW => ?_)
                  refine lv_aload_n hx hb dX9_year_173 rfl (lv_at hl 0 rfl) ?_
                  refine r_get Sx hW 0 rfl rfl bw_wsX90 15 (by decide) (v := .ref (b 7)) rfl mw120 dX9_year_174 ?_
                  refine lv_bipush (v := (24 : Int32)) hx hb dX9_year_177 rfl ?_
                  refine lv_dup2_11 hx hb dX9_year_179 rfl rfl ?_
                  refine r_iald Sx hW 7 0 (f := (upd (wsF (M 7) (bsF (M 7) (M 16) N N) N) 23 (((wsF (M 7) (bsF (M 7) (M 16) N N) N) 23) + (ysM (M 7) (M 16) N N)))) rfl rfl (j := 24) rfl (by decide) (by decide) dX9_year_180 ?_
                  refine lv_iconst (v := (1 : Int32)) hx hb dX9_year_181 rfl ?_
                  refine lv_iadd hx hb dX9_year_182 ?_
                  refine r_iast Sx hW 7 0 rfl rfl (j := 24) rfl (by decide) (by decide) dX9_year_183 (ws' := (pMod cI cZ b (upA (upA (upA (upA M 7 (upd (upd (wsF (M 7) (bsF (M 7) (M 16) N N) N) 23 (((wsF (M 7) (bsF (M 7) (M 16) N N) N) 23) + (ysM (M 7) (M 16) N N))) 24 (((upd (wsF (M 7) (bsF (M 7) (M 16) N N) N) 23 (((wsF (M 7) (bsF (M 7) (M 16) N N) N) 23) + (ysM (M 7) (M 16) N N))) 24) + (1 : Int32)))) 11 (noU (M 11) (M 7) u)) 16 (bsF (M 7) (M 16) N N)) 0 (upd (upd (M 0) 0 (0 : Int32)) 8 (nI (noN u)))) tr)) rfl (fun H locs hW => ?_)
                  refine lv_iload_n hx hb dX9_year_184 rfl (lv_at hl 1 rfl) ?_
                  exact hret _ _ _ _ _ _ hW rfl rfl dX9_year_185 (by have hok : ¬ M 7 24 = 999 := c_15; exact ⟨by rw [if_pos hok], by rw [if_pos hok, yrF, chX, if_pos c_155] <;> rfl⟩)
                · refine r_ldc Sx (v := (999999 : Int32)) mw600 dX9_year_158 ?_
                  refine lv_goto (tgt := 172) hx hb dX9_year_160 rfl ?_
                  refine r_iast Sx hW 7 0 rfl rfl (j := 23) rfl (by decide) (by decide) dX9_year_172 (ws' := (pMod cI cZ b (upA (upA (upA (upA M 7 (upd (wsF (M 7) (bsF (M 7) (M 16) N N) N) 23 (999999 : Int32))) 11 (noU (M 11) (M 7) u)) 16 (bsF (M 7) (M 16) N N)) 0 (upd (upd (M 0) 0 (0 : Int32)) 8 (nI (noN u)))) tr)) rfl (fun H locs hW => ?_)
                  refine lv_aload_n hx hb dX9_year_173 rfl (lv_at hl 0 rfl) ?_
                  refine r_get Sx hW 0 rfl rfl bw_wsX90 15 (by decide) (v := .ref (b 7)) rfl mw120 dX9_year_174 ?_
                  refine lv_bipush (v := (24 : Int32)) hx hb dX9_year_177 rfl ?_
                  refine lv_dup2_11 hx hb dX9_year_179 rfl rfl ?_
                  refine r_iald Sx hW 7 0 (f := (upd (wsF (M 7) (bsF (M 7) (M 16) N N) N) 23 (999999 : Int32))) rfl rfl (j := 24) rfl (by decide) (by decide) dX9_year_180 ?_
                  refine lv_iconst (v := (1 : Int32)) hx hb dX9_year_181 rfl ?_
                  refine lv_iadd hx hb dX9_year_182 ?_
                  refine r_iast Sx hW 7 0 rfl rfl (j := 24) rfl (by decide) (by decide) dX9_year_183 (ws' := (pMod cI cZ b (upA (upA (upA (upA M 7 (upd (upd (wsF (M 7) (bsF (M 7) (M 16) N N) N) 23 (999999 : Int32)) 24 (((upd (wsF (M 7) (bsF (M 7) (M 16) N N) N) 23 (999999 : Int32)) 24) + (1 : Int32)))) 11 (noU (M 11) (M 7) u)) 16 (bsF (M 7) (M 16) N N)) 0 (upd (upd (M 0) 0 (0 : Int32)) 8 (nI (noN u)))) tr)) rfl (fun H locs hW => ?_)
                  refine lv_iload_n hx hb dX9_year_184 rfl (lv_at hl 1 rfl) ?_
                  exact hret _ _ _ _ _ _ hW rfl rfl dX9_year_185 (by have hok : ¬ M 7 24 = 999 := c_15; exact ⟨by rw [if_pos hok], by rw [if_pos hok, yrF, chX, if_neg c_155] <;> rfl⟩)
              · have lt_111 : i < N := Nat.not_le.mp (fun h => c_111 ((nI_leI (a := N) (b := i) (by omega) (by omega)).mpr h))
                refine lv_aload_n hx hb dX9_year_114 rfl (lv_at hl 0 rfl) ?_
                refine r_get Sx hW 0 rfl rfl bw_wsX90 15 (by decide) (v := .ref (b 7)) rfl mw120 dX9_year_115 ?_
                refine lv_bipush (v := (7 : Int32)) hx hb dX9_year_118 rfl ?_
                refine lv_iload_n hx hb dX9_year_120 rfl (lv_at hl 2 rfl) ?_
                refine lv_iadd hx hb dX9_year_121 ?_
                refine r_eq (y := (nI (7 + i))) (nI_add 7 i) ?_
                refine lv_dup2_11 hx hb dX9_year_122 rfl rfl ?_
                refine r_iald Sx hW 7 0 (f := (wsF (M 7) (bsF (M 7) (M 16) N N) i)) rfl rfl (j := 7 + i) rfl (by omega) (by decide) dX9_year_123 ?_
                refine lv_aload_n hx hb dX9_year_124 rfl (lv_at hl 0 rfl) ?_
                refine r_get Sx hW 0 rfl rfl bw_wsX90 27 (by decide) (v := .ref (b 16)) rfl mw129 dX9_year_125 ?_
                refine lv_iload_n hx hb dX9_year_128 rfl (lv_at hl 2 rfl) ?_
                refine r_iald Sx hW 16 0 (f := (bsF (M 7) (M 16) N N)) rfl rfl (j := i) rfl (by omega) (by decide) dX9_year_129 ?_
                refine lv_isub hx hb dX9_year_130 ?_
                refine r_iast Sx hW 7 0 rfl rfl (j := 7 + i) rfl (by omega) (by decide) dX9_year_131 (ws' := (pMod cI cZ b (upA (upA (upA (upA M 7 (upd (wsF (M 7) (bsF (M 7) (M 16) N N) i) (7 + i) (((wsF (M 7) (bsF (M 7) (M 16) N N) i) (7 + i)) - ((bsF (M 7) (M 16) N N) i)))) 11 (noU (M 11) (M 7) u)) 16 (bsF (M 7) (M 16) N N)) 0 (upd (upd (M 0) 0 (0 : Int32)) 8 (nI (noN u)))) tr)) rfl (fun H locs hW => ?_)
                refine lv_iinc (v := (nI (i + 1))) (lv' := [(2, .int (nI (i + 1))), (0, .ref (b 0)), (1, .int (ysM (M 7) (M 16) N N))]) hx hb dX9_year_132 hl (k := 2) rfl (inc_n i 1) (by decide) rfl (fun ls hl => ?_)
                refine lv_goto (tgt := 104) hx hb dX9_year_135 rfl ?_
                exact ih104 (i + 1) (by omega) (by omega) _ _ _ hW (lv_sub hl [1, 2, 0] rfl)
          exact lp_104 (N + 1) 0 (by omega) (by omega) _ _ _ hW (lv_sub hl [1, 2, 0] rfl)
        · have lt_36 : i < N := Nat.not_le.mp (fun h => c_36 ((nI_leI (a := N) (b := i) (by omega) (by omega)).mpr h))
          refine lv_aload_n hx hb dX9_year_39 rfl (lv_at hl 0 rfl) ?_
          refine r_get Sx hW 0 rfl rfl bw_wsX90 27 (by decide) (v := .ref (b 16)) rfl mw129 dX9_year_40 ?_
          refine lv_iload_n hx hb dX9_year_43 rfl (lv_at hl 2 rfl) ?_
          refine lv_aload_n hx hb dX9_year_44 rfl (lv_at hl 0 rfl) ?_
          refine lv_aload_n hx hb dX9_year_45 rfl (lv_at hl 0 rfl) ?_
          refine r_get Sx hW 0 rfl rfl bw_wsX90 15 (by decide) (v := .ref (b 7)) rfl mw120 dX9_year_46 ?_
          refine lv_iload_n hx hb dX9_year_49 rfl (lv_at hl 2 rfl) ?_
          refine callVI Sx hW (c_X9_tax_s l D cI cZ cN b (upA (upA (upA M 11 (noU (M 11) (M 7) u)) 16 (bsF (M 7) (M 16) N i)) 0 (upd (upd (M 0) 0 (0 : Int32)) 8 (nI (noN u)))) tr N C hN hN7 hC hC4 hC1 i (by omega) ) vmX9_tax mw370 [0, 1, 2, 3, 4, 5, 6, 7, 8, 9, 10, 11, 12, 13, 14, 15, 16, 17] rfl (by decide) 0 rfl rfl (As := [.ref (b 7), .int (nI i)]) (rest := [.int (nI i), .ref (b 16)]) rfl rfl hl.1 (Nat.le_of_ble_eq_true rfl) ⟨Nat.le_of_ble_eq_true rfl, Nat.le_of_ble_eq_true rfl⟩ ⟨Nat.le_refl _, Nat.le_refl _⟩ dX9_year_50 (fun rx wx H locs hqx hW => ?_)
          obtain ⟨hrx, rfl⟩ := hqx
          have hW : AtC D (tyG cI cZ cN) Ax (pMod cI cZ b (upA (upA (upA M 11 (noU (M 11) (M 7) u)) 16 (bsF (M 7) (M 16) N i)) 0 (upd (upd (M 0) 0 (0 : Int32)) 8 (nI (noN u)))) tr) sx H locs := hW.re [] 18 (by decide) rfl rfl trivial (by decide +kernel) rfl rfl
          refine r_eq (y := (txM (M 7) N i)) hrx ?_
          refine lv_aload_n hx hb dX9_year_53 rfl (lv_at hl 0 rfl) ?_
          refine r_get Sx hW 0 rfl rfl bw_wsX90 15 (by decide) (v := .ref (b 7)) rfl mw120 dX9_year_54 ?_
          refine lv_bipush (v := (7 : Int32)) hx hb dX9_year_57 rfl ?_
          refine lv_iload_n hx hb dX9_year_59 rfl (lv_at hl 2 rfl) ?_
          refine lv_iadd hx hb dX9_year_60 ?_
          refine r_eq (y := (nI (7 + i))) (nI_add 7 i) ?_
          refine r_iald Sx hW 7 0 (f := (M 7)) rfl rfl (j := 7 + i) rfl (by omega) (by decide) dX9_year_61 ?_
          refine lv_icmp_ge (tgt := 77) hx hb dX9_year_62 rfl (fun c_62 => ?_) (fun c_62 => ?_)
          · refine lv_aload_n hx hb dX9_year_77 rfl (lv_at hl 0 rfl) ?_
            refine r_get Sx hW 0 rfl rfl bw_wsX90 15 (by decide) (v := .ref (b 7)) rfl mw120 dX9_year_78 ?_
            refine lv_bipush (v := (7 : Int32)) hx hb dX9_year_81 rfl ?_
            refine lv_iload_n hx hb dX9_year_83 rfl (lv_at hl 2 rfl) ?_
            refine lv_iadd hx hb dX9_year_84 ?_
            refine r_eq (y := (nI (7 + i))) (nI_add 7 i) ?_
            refine r_iald Sx hW 7 0 (f := (M 7)) rfl rfl (j := 7 + i) rfl (by omega) (by decide) dX9_year_85 ?_
            refine r_iast Sx hW 16 0 rfl rfl (j := i) rfl (by omega) (by decide) dX9_year_86 (ws' := (pMod cI cZ b (upA (upA (upA M 11 (noU (M 11) (M 7) u)) 16 (upd (bsF (M 7) (M 16) N i) i ((M 7) (7 + i)))) 0 (upd (upd (M 0) 0 (0 : Int32)) 8 (nI (noN u)))) tr)) rfl (fun H locs hW => ?_)
            refine lv_iload_n hx hb dX9_year_87 rfl (lv_at hl 1 rfl) ?_
            refine lv_aload_n hx hb dX9_year_88 rfl (lv_at hl 0 rfl) ?_
            refine r_get Sx hW 0 rfl rfl bw_wsX90 27 (by decide) (v := .ref (b 16)) rfl mw129 dX9_year_89 ?_
            refine lv_iload_n hx hb dX9_year_92 rfl (lv_at hl 2 rfl) ?_
            refine r_iald Sx hW 16 0 (f := (upd (bsF (M 7) (M 16) N i) i ((M 7) (7 + i)))) rfl rfl (j := i) rfl (by omega) (by decide) dX9_year_93 ?_
            refine lv_iadd hx hb dX9_year_94 ?_
            refine lv_istore_n (lv' := [(1, .int ((ysM (M 7) (M 16) N i) + ((upd (bsF (M 7) (M 16) N i) i ((M 7) (7 + i))) i))), (0, .ref (b 0)), (2, .int (nI i))]) hx hb dX9_year_95 rfl hl (by decide) rfl (fun ls hl => ?_)
            refine lv_iinc (v := (nI (i + 1))) (lv' := [(2, .int (nI (i + 1))), (1, .int ((ysM (M 7) (M 16) N i) + ((upd (bsF (M 7) (M 16) N i) i ((M 7) (7 + i))) i))), (0, .ref (b 0))]) hx hb dX9_year_96 hl (k := 2) rfl (inc_n i 1) (by decide) rfl (fun ls hl => ?_)
            refine lv_goto (tgt := 29) hx hb dX9_year_99 rfl ?_
            have hl_1 : lv_has ls 3 [(0, .ref (b 0)), (1, .int (ysM (M 7) (M 16) N (i + 1))), (2, .int (nI (i + 1)))] := by
              rw [show (ysM (M 7) (M 16) N (i + 1)) = ((ysM (M 7) (M 16) N i) + ((upd (bsF (M 7) (M 16) N i) i ((M 7) (7 + i))) i)) from by rw [ysM, bsF, if_pos c_62]]
              exact lv_sub hl [2, 1, 0] rfl
            have hW_2 := hW.cong (ws' := (pMod cI cZ b (upA (upA (upA M 11 (noU (M 11) (M 7) u)) 16 (bsF (M 7) (M 16) N (i + 1))) 0 (upd (upd (M 0) 0 (0 : Int32)) 8 (nI (noN u)))) tr)) (by first | (rw [show (upA (upA (upA M 11 (noU (M 11) (M 7) u)) 16 (bsF (M 7) (M 16) N (i + 1))) 0 (upd (upd (M 0) 0 (0 : Int32)) 8 (nI (noN u)))) = (upA (upA (upA M 11 (noU (M 11) (M 7) u)) 16 (upd (bsF (M 7) (M 16) N i) i ((M 7) (7 + i)))) 0 (upd (upd (M 0) 0 (0 : Int32)) 8 (nI (noN u)))) from by rw [bsF, if_pos c_62]]; done) | (rw [show (upA (upA (upA M 11 (noU (M 11) (M 7) u)) 16 (bsF (M 7) (M 16) N (i + 1))) 0 (upd (upd (M 0) 0 (0 : Int32)) 8 (nI (noN u)))) = (upA (upA (upA M 11 (noU (M 11) (M 7) u)) 16 (upd (bsF (M 7) (M 16) N i) i ((M 7) (7 + i)))) 0 (upd (upd (M 0) 0 (0 : Int32)) 8 (nI (noN u)))) from by rw [bsF, if_pos c_62]]; rfl))
            exact ih29 (i + 1) (by omega) (by omega) _ _ _ hW_2 hl_1
          · refine lv_aload_n hx hb dX9_year_65 rfl (lv_at hl 0 rfl) ?_
            refine lv_aload_n hx hb dX9_year_66 rfl (lv_at hl 0 rfl) ?_
            refine r_get Sx hW 0 rfl rfl bw_wsX90 15 (by decide) (v := .ref (b 7)) rfl mw120 dX9_year_67 ?_
            refine lv_iload_n hx hb dX9_year_70 rfl (lv_at hl 2 rfl) ?_
            refine callVI Sx hW (c_X9_tax_s l D cI cZ cN b (upA (upA (upA M 11 (noU (M 11) (M 7) u)) 16 (bsF (M 7) (M 16) N i)) 0 (upd (upd (M 0) 0 (0 : Int32)) 8 (nI (noN u)))) tr N C hN hN7 hC hC4 hC1 i (by omega) ) vmX9_tax mw370 [0, 1, 2, 3, 4, 5, 6, 7, 8, 9, 10, 11, 12, 13, 14, 15, 16, 17] rfl (by decide) 0 rfl rfl (As := [.ref (b 7), .int (nI i)]) (rest := [.int (nI i), .ref (b 16)]) rfl rfl hl.1 (Nat.le_of_ble_eq_true rfl) ⟨Nat.le_of_ble_eq_true rfl, Nat.le_of_ble_eq_true rfl⟩ ⟨Nat.le_refl _, Nat.le_refl _⟩ dX9_year_71 (fun rx wx H locs hqx hW => ?_)
            obtain ⟨hrx, rfl⟩ := hqx
            have hW : AtC D (tyG cI cZ cN) Ax (pMod cI cZ b (upA (upA (upA M 11 (noU (M 11) (M 7) u)) 16 (bsF (M 7) (M 16) N i)) 0 (upd (upd (M 0) 0 (0 : Int32)) 8 (nI (noN u)))) tr) sx H locs := hW.re [] 18 (by decide) rfl rfl trivial (by decide +kernel) rfl rfl
            refine r_eq (y := (txM (M 7) N i)) hrx ?_
            refine lv_goto (tgt := 86) hx hb dX9_year_74 rfl ?_
            refine r_iast Sx hW 16 0 rfl rfl (j := i) rfl (by omega) (by decide) dX9_year_86 (ws' := (pMod cI cZ b (upA (upA (upA M 11 (noU (M 11) (M 7) u)) 16 (upd (bsF (M 7) (M 16) N i) i (txM (M 7) N i))) 0 (upd (upd (M 0) 0 (0 : Int32)) 8 (nI (noN u)))) tr)) rfl (fun H locs hW => ?_)
            refine lv_iload_n hx hb dX9_year_87 rfl (lv_at hl 1 rfl) ?_
            refine lv_aload_n hx hb dX9_year_88 rfl (lv_at hl 0 rfl) ?_
            refine r_get Sx hW 0 rfl rfl bw_wsX90 27 (by decide) (v := .ref (b 16)) rfl mw129 dX9_year_89 ?_
            refine lv_iload_n hx hb dX9_year_92 rfl (lv_at hl 2 rfl) ?_
            refine r_iald Sx hW 16 0 (f := (upd (bsF (M 7) (M 16) N i) i (txM (M 7) N i))) rfl rfl (j := i) rfl (by omega) (by decide) dX9_year_93 ?_
            refine lv_iadd hx hb dX9_year_94 ?_
            refine lv_istore_n (lv' := [(1, .int ((ysM (M 7) (M 16) N i) + ((upd (bsF (M 7) (M 16) N i) i (txM (M 7) N i)) i))), (0, .ref (b 0)), (2, .int (nI i))]) hx hb dX9_year_95 rfl hl (by decide) rfl (fun ls hl => ?_)
            refine lv_iinc (v := (nI (i + 1))) (lv' := [(2, .int (nI (i + 1))), (1, .int ((ysM (M 7) (M 16) N i) + ((upd (bsF (M 7) (M 16) N i) i (txM (M 7) N i)) i))), (0, .ref (b 0))]) hx hb dX9_year_96 hl (k := 2) rfl (inc_n i 1) (by decide) rfl (fun ls hl => ?_)
            refine lv_goto (tgt := 29) hx hb dX9_year_99 rfl ?_
            have hl_3 : lv_has ls 3 [(0, .ref (b 0)), (1, .int (ysM (M 7) (M 16) N (i + 1))), (2, .int (nI (i + 1)))] := by
              rw [show (ysM (M 7) (M 16) N (i + 1)) = ((ysM (M 7) (M 16) N i) + ((upd (bsF (M 7) (M 16) N i) i (txM (M 7) N i)) i)) from by rw [ysM, bsF, if_neg c_62]]
              exact lv_sub hl [2, 1, 0] rfl
            have hW_4 := hW.cong (ws' := (pMod cI cZ b (upA (upA (upA M 11 (noU (M 11) (M 7) u)) 16 (bsF (M 7) (M 16) N (i + 1))) 0 (upd (upd (M 0) 0 (0 : Int32)) 8 (nI (noN u)))) tr)) (by first | (rw [show (upA (upA (upA M 11 (noU (M 11) (M 7) u)) 16 (bsF (M 7) (M 16) N (i + 1))) 0 (upd (upd (M 0) 0 (0 : Int32)) 8 (nI (noN u)))) = (upA (upA (upA M 11 (noU (M 11) (M 7) u)) 16 (upd (bsF (M 7) (M 16) N i) i (txM (M 7) N i))) 0 (upd (upd (M 0) 0 (0 : Int32)) 8 (nI (noN u)))) from by rw [bsF, if_neg c_62]]; done) | (rw [show (upA (upA (upA M 11 (noU (M 11) (M 7) u)) 16 (bsF (M 7) (M 16) N (i + 1))) 0 (upd (upd (M 0) 0 (0 : Int32)) 8 (nI (noN u)))) = (upA (upA (upA M 11 (noU (M 11) (M 7) u)) 16 (upd (bsF (M 7) (M 16) N i) i (txM (M 7) N i))) 0 (upd (upd (M 0) 0 (0 : Int32)) 8 (nI (noN u)))) from by rw [bsF, if_neg c_62]]; rfl))
            exact ih29 (i + 1) (by omega) (by omega) _ _ _ hW_4 hl_3
    exact lp_29 (N + 1) 0 (by omega) (by omega) _ _ _ hW (lv_sub hl [2, 1, 0] rfl)
  · refine lv_bipush (v := (-2 : Int32)) hx hb dX9_year_18 rfl ?_
    exact hret _ _ _ _ _ _ hW rfl rfl dX9_year_20 (by have hok : ¬ ¬ M 7 24 = 999 := fun h => h c_15; exact ⟨by rw [if_neg hok], by rw [if_neg hok]⟩)

set_option maxHeartbeats 4000000 in
set_option maxRecDepth 100000 in
theorem c_X9_undo (l : Launch) (D : va_G) (cI cZ cN : ClassId) (b : Nat → Nat) (M : NV) (tr : Int64) (N C : Nat) (hN : M 2 1 = nI N) (hN7 : N ≤ 7) (hC : M 2 0 = nI C) (hC4 : C ≤ 4) (hC1 : 1 ≤ C) (u : Nat) (hu : M 0 8 = nI u) (hu10 : u ≤ 10) : CtI l yX9_undo cX9_undo 2 (some .int) 0 D (tyG cI cZ cN) [.ref (b 0)] (pMod cI cZ b M tr) (fun r w => r = (if ¬ nI u = 0 then nI (u - 1) else -2) ∧ w = if ¬ nI u = 0 then (pMod cI cZ b (upA (upA M 7 (cpR (M 7) (M 11) (25 * (u - 1)) 25)) 0 (upd (upd (M 0) 0 (0 : Int32)) 8 (nI (u - 1)))) tr) else (pMod cI cZ b (upA M 0 (upd (M 0) 0 (0 : Int32))) tr)) := by
  refine CtI.of rfl (Nat.le_of_ble_eq_true rfl) ?_
  intro pg ev sx mx ax bx mt cx ls Qx Ax Sx hret hW hl
  have hx := Sx.1
  have hb := Sx.2.1
  have hl : lv_has ls 2 [(0, .ref (b 0))] := hl
  refine lv_aload_n hx hb dX9_undo_0 rfl (lv_at hl 0 rfl) ?_
  refine lv_iconst (v := (0 : Int32)) hx hb dX9_undo_1 rfl ?_
  refine r_put Sx hW 0 rfl rfl bw_wsX90 tyX9_ok nmX9 0 (by decide) mw144 rfl rfl rfl (Nat.le_of_ble_eq_true rfl) dX9_undo_2 (ws' := (pMod cI cZ b (upA M 0 (upd (M 0) 0 (0 : Int32))) tr)) rfl (fun H locs hW => ?_)
  refine lv_aload_n hx hb dX9_undo_5 rfl (lv_at hl 0 rfl) ?_
  refine r_get Sx hW 0 rfl rfl bw_wsX90 20 (by decide) (v := .int (M 0 8)) rfl mw286 dX9_undo_6 ?_
  refine r_eq (y := (nI u)) hu ?_
  refine lv_if_ne (tgt := 15) hx hb dX9_undo_9 rfl (fun c_9 => ?_) (fun c_9 => ?_)
  · have u1 : 1 ≤ u := Nat.pos_of_ne_zero (fun q => c_9 (by rw [q]; rfl))
    refine lv_aload_n hx hb dX9_undo_15 rfl (lv_at hl 0 rfl) ?_
    refine lv_dup hx hb dX9_undo_16 rfl ?_
    refine r_get Sx hW 0 rfl rfl bw_wsX90 20 (by decide) (v := .int (M 0 8)) rfl mw286 dX9_undo_17 ?_
    refine r_eq (y := (nI u)) hu ?_
    refine lv_iconst (v := (1 : Int32)) hx hb dX9_undo_20 rfl ?_
    refine lv_isub hx hb dX9_undo_21 ?_
    refine r_eq (y := (nI (u - 1))) (pk_sub (a := u) (b := 1) u1) ?_
    refine r_put Sx hW 0 rfl rfl bw_wsX90 tyX9_ok nmX9 20 (by decide) mw286 rfl rfl rfl (Nat.le_of_ble_eq_true rfl) dX9_undo_22 (ws' := (pMod cI cZ b (upA M 0 (upd (upd (M 0) 0 (0 : Int32)) 8 (nI (u - 1)))) tr)) rfl (fun H locs hW => ?_)
    refine lv_iconst (v := (0 : Int32)) hx hb dX9_undo_25 rfl ?_
    refine lv_istore_n (lv' := [(1, .int (0 : Int32)), (0, .ref (b 0))]) hx hb dX9_undo_26 rfl hl (by decide) rfl (fun ls hl => ?_)
    have lp_27 : ∀ (n : Nat) (i : Nat), ((i ≤ 25)) → ((25 + 1 ≤ i + n)) → ∀ (H : Heap) (locs : List Loc) (ls : Array Slot), AtC D (tyG cI cZ cN) Ax (pMod cI cZ b (upA (upA M 7 (cpR (M 7) (M 11) (25 * (u - 1)) i)) 0 (upd (upd (M 0) 0 (0 : Int32)) 8 (nI (u - 1)))) tr) sx H locs → lv_has ls 2 [(0, .ref (b 0)), (1, .int (nI i))] → W pg l ev (rmN 0) sx mx ax bx mt cx H locs 0 0 Qx (F0 mx 27 ls []) := by
      intro n
      induction n with
      | zero =>
        intro i hi_27 hn_27 H locs ls hW hl
        exact absurd hn_27 (by omega)
      | succ n ih27 =>
        intro i hi_27 hn_27 H locs ls hW hl
        refine lv_iload_n hx hb dX9_undo_27 rfl (lv_at hl 1 rfl) ?_
        refine lv_bipush (v := (25 : Int32)) hx hb dX9_undo_28 rfl ?_
        refine lv_icmp_ge (tgt := 59) hx hb dX9_undo_30 rfl (fun c_30 => ?_) (fun c_30 => ?_)
        · have ge_30 : 25 ≤ i := (nI_leI (a := 25) (b := i) (by omega) (by omega)).mp c_30
          have ee_30 : 25 = i := by omega
          subst ee_30
          refine lv_aload_n hx hb dX9_undo_59 rfl (lv_at hl 0 rfl) ?_
          refine r_get Sx hW 0 rfl rfl bw_wsX90 20 (by decide) (v := .int (nI (u - 1))) rfl mw286 dX9_undo_60 ?_
          exact hret _ _ _ _ _ _ hW rfl rfl dX9_undo_63 (⟨by rw [if_pos c_9], by rw [if_pos c_9]⟩)
        · have lt_30 : i < 25 := Nat.not_le.mp (fun h => c_30 ((nI_leI (a := 25) (b := i) (by omega) (by omega)).mpr h))
          refine lv_aload_n hx hb dX9_undo_33 rfl (lv_at hl 0 rfl) ?_
          refine r_get Sx hW 0 rfl rfl bw_wsX90 15 (by decide) (v := .ref (b 7)) rfl mw120 dX9_undo_34 ?_
          refine lv_iload_n hx hb dX9_undo_37 rfl (lv_at hl 1 rfl) ?_
          refine lv_aload_n hx hb dX9_undo_38 rfl (lv_at hl 0 rfl) ?_
          refine r_get Sx hW 0 rfl rfl bw_wsX90 19 (by decide) (v := .ref (b 11)) rfl mw124 dX9_undo_39 ?_
          refine lv_bipush (v := (25 : Int32)) hx hb dX9_undo_42 rfl ?_
          refine lv_aload_n hx hb dX9_undo_44 rfl (lv_at hl 0 rfl) ?_
          refine r_get Sx hW 0 rfl rfl bw_wsX90 20 (by decide) (v := .int (nI (u - 1))) rfl mw286 dX9_undo_45 ?_
          refine lv_imul hx hb dX9_undo_48 ?_
          refine r_eq (y := (nI (25 * (u - 1)))) (pk_mul 25 (u - 1)) ?_
          refine lv_iload_n hx hb dX9_undo_49 rfl (lv_at hl 1 rfl) ?_
          refine lv_iadd hx hb dX9_undo_50 ?_
          refine r_eq (y := (nI ((25 * (u - 1)) + i))) (nI_add (25 * (u - 1)) i) ?_
          refine r_iald Sx hW 11 0 (f := (M 11)) rfl rfl (j := (25 * (u - 1)) + i) rfl (by omega) (by decide) dX9_undo_51 ?_
          refine r_iast Sx hW 7 0 rfl rfl (j := i) rfl (by omega) (by decide) dX9_undo_52 (ws' := (pMod cI cZ b (upA (upA M 7 (upd (cpR (M 7) (M 11) (25 * (u - 1)) i) i ((M 11) ((25 * (u - 1)) + i)))) 0 (upd (upd (M 0) 0 (0 : Int32)) 8 (nI (u - 1)))) tr)) rfl (fun H locs hW => ?_)
          refine lv_iinc (v := (nI (i + 1))) (lv' := [(1, .int (nI (i + 1))), (0, .ref (b 0))]) hx hb dX9_undo_53 hl (k := 1) rfl (inc_n i 1) (by decide) rfl (fun ls hl => ?_)
          refine lv_goto (tgt := 27) hx hb dX9_undo_56 rfl ?_
          exact ih27 (i + 1) (by omega) (by omega) _ _ _ hW (lv_sub hl [1, 0] rfl)
    exact lp_27 (25 + 1) 0 (by omega) (by omega) _ _ _ hW (lv_sub hl [1, 0] rfl)
  · refine lv_bipush (v := (-2 : Int32)) hx hb dX9_undo_12 rfl ?_
    exact hret _ _ _ _ _ _ hW rfl rfl dX9_undo_14 (by have hok : ¬ ¬ nI u = 0 := fun h => h c_9; exact ⟨by rw [if_neg hok], by rw [if_neg hok]⟩)

def tyMr (z : Nat) (x : Int32) : Int32 := if inI x 0 255 = 0 then -1 else if nI z = 200 then -3 else nI (z + 1)
def tyMX (X : Nat → Int32) (z : Nat) (x : Int32) : Nat → Int32 := if inI x 0 255 = 0 then X else if nI z = 200 then X else upd X z x
def tyMz (z : Nat) (x : Int32) : Int32 := if inI x 0 255 = 0 then nI z else if nI z = 200 then nI z else nI (z + 1)

theorem ty_same {cI cZ : ClassId} {b : Nat → Nat} {M : NV} {tr : Int64} {z : Nat} (hz : M 0 1 = nI z) : pMod cI cZ b (upA (upA M 1 (M 1)) 0 (upd (upd (M 0) 0 (0 : Int32)) 1 (nI z))) tr = pMod cI cZ b (upA M 0 (upd (M 0) 0 (0 : Int32))) tr := by
  rw [upA_id, show upd (upd (M 0) 0 (0 : Int32)) 1 (nI z) = upd (M 0) 0 0 from upd_same hz]

set_option maxHeartbeats 4000000 in
set_option maxRecDepth 100000 in
theorem c_X9_type (l : Launch) (D : va_G) (cI cZ cN : ClassId) (b : Nat → Nat) (M : NV) (tr : Int64) (N C : Nat) (hN : M 2 1 = nI N) (hN7 : N ≤ 7) (hC : M 2 0 = nI C) (hC4 : C ≤ 4) (hC1 : 1 ≤ C) (z : Nat) (hz : M 0 1 = nI z) (hz2 : z ≤ 200) (x : Int32) : CtI l yX9_type cX9_type 2 (some .int) 1 D (tyG cI cZ cN) [.ref (b 0), .int x] (pMod cI cZ b M tr) (fun r w => r = tyMr z x ∧ w = (pMod cI cZ b (upA (upA M 1 (tyMX (M 1) z x)) 0 (upd (upd (M 0) 0 (0 : Int32)) 1 (tyMz z x))) tr)) := by
  refine CtI.of rfl (Nat.le_of_ble_eq_true rfl) ?_
  intro pg ev sx mx ax bx mt cx ls Qx Ax Sx hret hW hl
  have hx := Sx.1
  have hb := Sx.2.1
  have hl : lv_has ls 2 [(0, .ref (b 0)), (1, .int x)] := hl
  refine lv_aload_n hx hb dX9_type_0 rfl (lv_at hl 0 rfl) ?_
  refine lv_iconst (v := (0 : Int32)) hx hb dX9_type_1 rfl ?_
  refine r_put Sx hW 0 rfl rfl bw_wsX90 tyX9_ok nmX9 0 (by decide) mw144 rfl rfl rfl (Nat.le_of_ble_eq_true rfl) dX9_type_2 (ws' := (pMod cI cZ b (upA M 0 (upd (M 0) 0 (0 : Int32))) tr)) rfl (fun H locs hW => ?_)
  refine lv_iload_n hx hb dX9_type_5 rfl (lv_at hl 1 rfl) ?_
  refine lv_iconst (v := (0 : Int32)) hx hb dX9_type_6 rfl ?_
  refine lv_sipush (v := (255 : Int32)) hx hb dX9_type_7 rfl ?_
  refine callSI Sx hW (c_X9_in l D cI cZ cN x (0 : Int32) (255 : Int32)) smX9_in mw146 (As := [.int x, .int (0 : Int32), .int (255 : Int32)]) (rest := []) rfl rfl hl.1 (Nat.le_of_ble_eq_true rfl) ⟨Nat.le_of_ble_eq_true rfl, Nat.le_of_ble_eq_true rfl⟩ ⟨Nat.le_refl _, Nat.le_refl _⟩ dX9_type_10 (fun rx H locs hqx hW => ?_)
  obtain ⟨hrx, -⟩ := hqx
  refine r_eq (y := (inI x (0 : Int32) (255 : Int32))) hrx ?_
  refine lv_if_ne (tgt := 18) hx hb dX9_type_13 rfl (fun c_13 => ?_) (fun c_13 => ?_)
  · refine lv_aload_n hx hb dX9_type_18 rfl (lv_at hl 0 rfl) ?_
    refine r_get Sx hW 0 rfl rfl bw_wsX90 3 (by decide) (v := .int (M 0 1)) rfl mw145 dX9_type_19 ?_
    refine r_eq (y := (nI z)) hz ?_
    refine lv_sipush (v := (200 : Int32)) hx hb dX9_type_22 rfl ?_
    refine lv_icmp_ne (tgt := 31) hx hb dX9_type_25 rfl (fun c_25 => ?_) (fun c_25 => ?_)
    · have lt_25 : z < 200 := Nat.lt_of_le_of_ne hz2 (fun q => c_25 (by rw [q]; rfl))
      refine lv_aload_n hx hb dX9_type_31 rfl (lv_at hl 0 rfl) ?_
      refine r_get Sx hW 0 rfl rfl bw_wsX90 2 (by decide) (v := .ref (b 1)) rfl mw114 dX9_type_32 ?_
      refine lv_aload_n hx hb dX9_type_35 rfl (lv_at hl 0 rfl) ?_
      refine r_get Sx hW 0 rfl rfl bw_wsX90 3 (by decide) (v := .int (M 0 1)) rfl mw145 dX9_type_36 ?_
      refine r_eq (y := (nI z)) hz ?_
      refine lv_iload_n hx hb dX9_type_39 rfl (lv_at hl 1 rfl) ?_
      refine r_iast Sx hW 1 0 rfl rfl (j := z) rfl (by omega) (by decide) dX9_type_40 (ws' := (pMod cI cZ b (upA (upA M 1 (upd (M 1) z x)) 0 (upd (M 0) 0 (0 : Int32))) tr)) rfl (fun H locs hW => ?_)
      refine lv_aload_n hx hb dX9_type_41 rfl (lv_at hl 0 rfl) ?_
      refine lv_dup hx hb dX9_type_42 rfl ?_
      refine r_get Sx hW 0 rfl rfl bw_wsX90 3 (by decide) (v := .int (M 0 1)) rfl mw145 dX9_type_43 ?_
      refine r_eq (y := (nI z)) hz ?_
      refine lv_iconst (v := (1 : Int32)) hx hb dX9_type_46 rfl ?_
      refine lv_iadd hx hb dX9_type_47 ?_
      refine r_eq (y := (nI (z + 1))) (nI_add z 1) ?_
      refine r_put Sx hW 0 rfl rfl bw_wsX90 tyX9_ok nmX9 3 (by decide) mw145 rfl rfl rfl (Nat.le_of_ble_eq_true rfl) dX9_type_48 (ws' := (pMod cI cZ b (upA (upA M 1 (upd (M 1) z x)) 0 (upd (upd (M 0) 0 (0 : Int32)) 1 (nI (z + 1)))) tr)) rfl (fun H locs hW => ?_)
      refine lv_aload_n hx hb dX9_type_51 rfl (lv_at hl 0 rfl) ?_
      refine r_get Sx hW 0 rfl rfl bw_wsX90 3 (by decide) (v := .int (nI (z + 1))) rfl mw145 dX9_type_52 ?_
      exact hret _ _ _ _ _ _ hW rfl rfl dX9_type_55 (⟨by rw [tyMr, if_neg c_13, if_neg c_25], by rw [tyMX, tyMz, if_neg c_13, if_neg c_25, if_neg c_13, if_neg c_25] <;> rfl⟩)
    · refine lv_bipush (v := (-3 : Int32)) hx hb dX9_type_28 rfl ?_
      exact hret _ _ _ _ _ _ hW rfl rfl dX9_type_30 (⟨by rw [tyMr, if_neg c_13, if_pos c_25], by rw [tyMX, tyMz, if_neg c_13, if_pos c_25, if_neg c_13, if_pos c_25]; exact (ty_same hz).symm⟩)
  · refine lv_iconst (v := (-1 : Int32)) hx hb dX9_type_16 rfl ?_
    exact hret _ _ _ _ _ _ hW rfl rfl dX9_type_17 (⟨by rw [tyMr, if_pos c_13], by rw [tyMX, tyMz, if_pos c_13, if_pos c_13]; exact (ty_same hz).symm⟩)

set_option maxHeartbeats 4000000 in
set_option maxRecDepth 100000 in
theorem c_X9_clear (l : Launch) (D : va_G) (cI cZ cN : ClassId) (b : Nat → Nat) (M : NV) (tr : Int64) (N C : Nat) (hN : M 2 1 = nI N) (hN7 : N ≤ 7) (hC : M 2 0 = nI C) (hC4 : C ≤ 4) (hC1 : 1 ≤ C) (z : Nat) (hz : M 0 1 = nI z) (hz2 : z ≤ 200) : CtI l yX9_clear cX9_clear 2 (some .int) 0 D (tyG cI cZ cN) [.ref (b 0)] (pMod cI cZ b M tr) (fun r w => r = nI z ∧ w = (pMod cI cZ b (upA M 0 (upd (upd (M 0) 0 (0 : Int32)) 1 (0 : Int32))) tr)) := by
  refine CtI.of rfl (Nat.le_of_ble_eq_true rfl) ?_
  intro pg ev sx mx ax bx mt cx ls Qx Ax Sx hret hW hl
  have hx := Sx.1
  have hb := Sx.2.1
  have hl : lv_has ls 2 [(0, .ref (b 0))] := hl
  refine lv_aload_n hx hb dX9_clear_0 rfl (lv_at hl 0 rfl) ?_
  refine lv_iconst (v := (0 : Int32)) hx hb dX9_clear_1 rfl ?_
  refine r_put Sx hW 0 rfl rfl bw_wsX90 tyX9_ok nmX9 0 (by decide) mw144 rfl rfl rfl (Nat.le_of_ble_eq_true rfl) dX9_clear_2 (ws' := (pMod cI cZ b (upA M 0 (upd (M 0) 0 (0 : Int32))) tr)) rfl (fun H locs hW => ?_)
  refine lv_aload_n hx hb dX9_clear_5 rfl (lv_at hl 0 rfl) ?_
  refine r_get Sx hW 0 rfl rfl bw_wsX90 3 (by decide) (v := .int (M 0 1)) rfl mw145 dX9_clear_6 ?_
  refine r_eq (y := (nI z)) hz ?_
  refine lv_istore_n (lv' := [(1, .int (nI z)), (0, .ref (b 0))]) hx hb dX9_clear_9 rfl hl (by decide) rfl (fun ls hl => ?_)
  refine lv_aload_n hx hb dX9_clear_10 rfl (lv_at hl 1 rfl) ?_
  refine lv_iconst (v := (0 : Int32)) hx hb dX9_clear_11 rfl ?_
  refine r_put Sx hW 0 rfl rfl bw_wsX90 tyX9_ok nmX9 3 (by decide) mw145 rfl rfl rfl (Nat.le_of_ble_eq_true rfl) dX9_clear_12 (ws' := (pMod cI cZ b (upA M 0 (upd (upd (M 0) 0 (0 : Int32)) 1 (0 : Int32))) tr)) rfl (fun H locs hW => ?_)
  refine lv_iload_n hx hb dX9_clear_15 rfl (lv_at hl 0 rfl) ?_
  exact hret _ _ _ _ _ _ hW rfl rfl dX9_clear_16 (⟨rfl, rfl⟩)

def coMr (N C z z1 z2 : Nat) (w : Int32) : Int32 := if inI w 0 1 = 0 then (if w = 2 then nI z1 else if w = 3 then nI z2 else if w = 4 then nI z else -1) else (if w.toNatClampNeg = 0 then nI C else nI N)

set_option maxHeartbeats 4000000 in
set_option maxRecDepth 100000 in
theorem c_X9_count (l : Launch) (D : va_G) (cI cZ cN : ClassId) (b : Nat → Nat) (M : NV) (tr : Int64) (N C : Nat) (hN : M 2 1 = nI N) (hN7 : N ≤ 7) (hC : M 2 0 = nI C) (hC4 : C ≤ 4) (hC1 : 1 ≤ C) (z : Nat) (hz : M 0 1 = nI z) (hz2 : z ≤ 200) (z1 z2 : Nat) (hc1 : M 0 9 = nI z1) (hz16 : z1 ≤ 6) (hc2 : M 0 10 = nI z2) (hz26 : z2 ≤ 6) (p0 : Int32) : CtI l yX9_count cX9_count 2 (some .int) 1 D (tyG cI cZ cN) [.ref (b 0), .int p0] (pMod cI cZ b M tr) (fun r w => r = coMr N C z z1 z2 p0 ∧ w = (pMod cI cZ b (upA M 0 (upd (M 0) 0 (0 : Int32))) tr)) := by
  refine CtI.of rfl (Nat.le_of_ble_eq_true rfl) ?_
  intro pg ev sx mx ax bx mt cx ls Qx Ax Sx hret hW hl
  have hx := Sx.1
  have hb := Sx.2.1
  have hl : lv_has ls 2 [(0, .ref (b 0)), (1, .int p0)] := hl
  refine lv_aload_n hx hb dX9_count_0 rfl (lv_at hl 0 rfl) ?_
  refine lv_iconst (v := (0 : Int32)) hx hb dX9_count_1 rfl ?_
  refine r_put Sx hW 0 rfl rfl bw_wsX90 tyX9_ok nmX9 0 (by decide) mw144 rfl rfl rfl (Nat.le_of_ble_eq_true rfl) dX9_count_2 (ws' := (pMod cI cZ b (upA M 0 (upd (M 0) 0 (0 : Int32))) tr)) rfl (fun H locs hW => ?_)
  refine lv_iload_n hx hb dX9_count_5 rfl (lv_at hl 1 rfl) ?_
  refine lv_iconst (v := (0 : Int32)) hx hb dX9_count_6 rfl ?_
  refine lv_iconst (v := (1 : Int32)) hx hb dX9_count_7 rfl ?_
  refine callSI Sx hW (c_X9_in l D cI cZ cN p0 (0 : Int32) (1 : Int32)) smX9_in mw146 (As := [.int p0, .int (0 : Int32), .int (1 : Int32)]) (rest := []) rfl rfl hl.1 (Nat.le_of_ble_eq_true rfl) ⟨Nat.le_of_ble_eq_true rfl, Nat.le_of_ble_eq_true rfl⟩ ⟨Nat.le_refl _, Nat.le_refl _⟩ dX9_count_8 (fun rx H locs hqx hW => ?_)
  obtain ⟨hrx, -⟩ := hqx
  refine r_eq (y := (inI p0 (0 : Int32) (1 : Int32))) hrx ?_
  refine lv_if_eq (tgt := 23) hx hb dX9_count_11 rfl (fun c_11 => ?_) (fun c_11 => ?_)
  · refine lv_iload_n hx hb dX9_count_23 rfl (lv_at hl 1 rfl) ?_
    refine lv_iconst (v := (2 : Int32)) hx hb dX9_count_24 rfl ?_
    refine lv_icmp_ne (tgt := 35) hx hb dX9_count_25 rfl (fun c_25 => ?_) (fun c_25 => ?_)
    · refine lv_iload_n hx hb dX9_count_35 rfl (lv_at hl 1 rfl) ?_
      refine lv_iconst (v := (3 : Int32)) hx hb dX9_count_36 rfl ?_
      refine lv_icmp_ne (tgt := 47) hx hb dX9_count_37 rfl (fun c_37 => ?_) (fun c_37 => ?_)
      · refine lv_iload_n hx hb dX9_count_47 rfl (lv_at hl 1 rfl) ?_
        refine lv_iconst (v := (4 : Int32)) hx hb dX9_count_48 rfl ?_
        refine lv_icmp_ne (tgt := 59) hx hb dX9_count_49 rfl (fun c_49 => ?_) (fun c_49 => ?_)
        · refine lv_iconst (v := (-1 : Int32)) hx hb dX9_count_59 rfl ?_
          exact hret _ _ _ _ _ _ hW rfl rfl dX9_count_60 (⟨by rw [coMr, if_pos c_11, if_neg c_25, if_neg c_37, if_neg c_49], rfl⟩)
        · refine lv_aload_n hx hb dX9_count_52 rfl (lv_at hl 0 rfl) ?_
          refine r_get Sx hW 0 rfl rfl bw_wsX90 3 (by decide) (v := .int (M 0 1)) rfl mw145 dX9_count_53 ?_
          refine r_eq (y := (nI z)) hz ?_
          refine lv_goto (tgt := 60) hx hb dX9_count_56 rfl ?_
          exact hret _ _ _ _ _ _ hW rfl rfl dX9_count_60 (⟨by rw [coMr, if_pos c_11, if_neg c_25, if_neg c_37, if_pos c_49], rfl⟩)
      · refine lv_aload_n hx hb dX9_count_40 rfl (lv_at hl 0 rfl) ?_
        refine r_get Sx hW 0 rfl rfl bw_wsX90 26 (by decide) (v := .int (M 0 10)) rfl mw285 dX9_count_41 ?_
        refine r_eq (y := (nI z2)) hc2 ?_
        refine lv_goto (tgt := 60) hx hb dX9_count_44 rfl ?_
        exact hret _ _ _ _ _ _ hW rfl rfl dX9_count_60 (⟨by rw [coMr, if_pos c_11, if_neg c_25, if_pos c_37], rfl⟩)
    · refine lv_aload_n hx hb dX9_count_28 rfl (lv_at hl 0 rfl) ?_
      refine r_get Sx hW 0 rfl rfl bw_wsX90 23 (by decide) (v := .int (M 0 9)) rfl mw284 dX9_count_29 ?_
      refine r_eq (y := (nI z1)) hc1 ?_
      refine lv_goto (tgt := 60) hx hb dX9_count_32 rfl ?_
      exact hret _ _ _ _ _ _ hW rfl rfl dX9_count_60 (⟨by rw [coMr, if_pos c_11, if_pos c_25], rfl⟩)
  · obtain ⟨J, hJ, rfl⟩ := inI_nat (n := 2) (show ((1 : Int32)).toInt = ((2 : Nat) : Int) - 1 from by decide) c_11
    have clJ : (nI J).toNatClampNeg = J := nI_clamp (by omega)
    refine lv_aload_n hx hb dX9_count_14 rfl (lv_at hl 0 rfl) ?_
    refine r_get Sx hW 0 rfl rfl bw_wsX90 9 (by decide) (v := .ref (b 2)) rfl mw115 dX9_count_15 ?_
    refine lv_iload_n hx hb dX9_count_18 rfl (lv_at hl 1 rfl) ?_
    refine r_iald Sx hW 2 0 (f := (M 2)) rfl rfl (j := J) rfl (by omega) (by decide) dX9_count_19 ?_
    refine lv_goto (tgt := 60) hx hb dX9_count_20 rfl ?_
    exact hret _ _ _ _ _ _ hW rfl rfl dX9_count_60 (⟨by rw [coMr, if_neg c_11, clJ]; rcases (show J = 0 ∨ J = 1 by omega) with rfl | rfl; exact hC; exact hN, rfl⟩)

set_option maxHeartbeats 4000000 in
set_option maxRecDepth 100000 in
theorem c_X9_trace (l : Launch) (D : va_G) (cI cZ cN : ClassId) (b : Nat → Nat) (M : NV) (tr : Int64) (N C : Nat) (hN : M 2 1 = nI N) (hN7 : N ≤ 7) (hC : M 2 0 = nI C) (hC4 : C ≤ 4) (hC1 : 1 ≤ C) : CtL l yX9_trace cX9_trace 1 0 D (tyG cI cZ cN) [.ref (b 0)] (pMod cI cZ b M tr) (fun r w => r = tr ∧ w = (pMod cI cZ b (upA M 0 (upd (M 0) 0 (0 : Int32))) tr)) := by
  refine CtL.of rfl (Nat.le_of_ble_eq_true rfl) ?_
  intro pg ev sx mx ax bx mt cx ls Qx Ax Sx hret hW hl
  have hx := Sx.1
  have hb := Sx.2.1
  have hl : lv_has ls 1 [(0, .ref (b 0))] := hl
  refine lv_aload_n hx hb dX9_trace_0 rfl (lv_at hl 0 rfl) ?_
  refine lv_iconst (v := (0 : Int32)) hx hb dX9_trace_1 rfl ?_
  refine r_put Sx hW 0 rfl rfl bw_wsX90 tyX9_ok nmX9 0 (by decide) mw144 rfl rfl rfl (Nat.le_of_ble_eq_true rfl) dX9_trace_2 (ws' := (pMod cI cZ b (upA M 0 (upd (M 0) 0 (0 : Int32))) tr)) rfl (fun H locs hW => ?_)
  refine lv_aload_n hx hb dX9_trace_5 rfl (lv_at hl 0 rfl) ?_
  refine r_get Sx hW 0 rfl rfl bw_wsX90 1 (by decide) (v := .long tr) rfl mw796 dX9_trace_6 ?_
  exact hret _ _ _ _ _ _ hW rfl dX9_trace_9 (⟨rfl, rfl⟩)

set_option maxHeartbeats 4000000 in
set_option maxRecDepth 100000 in
theorem c_X9_tells (l : Launch) (D : va_G) (cI cZ cN : ClassId) (b : Nat → Nat) (M : NV) (tr : Int64) (N C : Nat) (hN : M 2 1 = nI N) (hN7 : N ≤ 7) (hC : M 2 0 = nI C) (hC4 : C ≤ 4) (hC1 : 1 ≤ C) (z1 z2 : Nat) (hc1 : M 0 9 = nI z1) (hz16 : z1 ≤ 6) (hc2 : M 0 10 = nI z2) (hz26 : z2 ≤ 6) (p0 : Int32) (p1 : Int32) : CtI l yX9_tells cX9_tells 3 (some .int) 2 D (tyG cI cZ cN) [.ref (b 0), .int p0, .int p1] (pMod cI cZ b M tr) (fun r w => r = (if ¬ inI p0 0 (nI N - 1) = 0 ∧ ¬ inI p1 0 1 = 0 then (if nI z1 = 6 then -3 else nI (z1 + 1)) else -1) ∧ w = if (¬ inI p0 0 (nI N - 1) = 0 ∧ ¬ inI p1 0 1 = 0) ∧ ¬ nI z1 = 6 then (pMod cI cZ b (upA (upA (upA M 12 (upd (M 12) z1 p0)) 13 (upd (M 13) z1 p1)) 0 (upd (upd (M 0) 0 (0 : Int32)) 9 (nI (z1 + 1)))) tr) else (pMod cI cZ b (upA M 0 (upd (M 0) 0 (0 : Int32))) tr)) := by
  refine CtI.of rfl (Nat.le_of_ble_eq_true rfl) ?_
  intro pg ev sx mx ax bx mt cx ls Qx Ax Sx hret hW hl
  have hx := Sx.1
  have hb := Sx.2.1
  have hl : lv_has ls 3 [(0, .ref (b 0)), (1, .int p0), (2, .int p1)] := hl
  refine lv_aload_n hx hb dX9_tells_0 rfl (lv_at hl 0 rfl) ?_
  refine lv_iconst (v := (0 : Int32)) hx hb dX9_tells_1 rfl ?_
  refine r_put Sx hW 0 rfl rfl bw_wsX90 tyX9_ok nmX9 0 (by decide) mw144 rfl rfl rfl (Nat.le_of_ble_eq_true rfl) dX9_tells_2 (ws' := (pMod cI cZ b (upA M 0 (upd (M 0) 0 (0 : Int32))) tr)) rfl (fun H locs hW => ?_)
  refine lv_aload_n hx hb dX9_tells_5 rfl (lv_at hl 0 rfl) ?_
  refine lv_iload_n hx hb dX9_tells_6 rfl (lv_at hl 1 rfl) ?_
  refine callVI Sx hW (c_X9_isPerson l D cI cZ cN b (upA M 0 (upd (M 0) 0 (0 : Int32))) tr N C hN hN7 hC hC4 hC1 p0 ) vmX9_isPerson mw347 [0, 1, 2, 3, 4, 5, 6, 7, 8, 9, 10, 11, 12, 13, 14, 15, 16, 17] rfl (by decide) 0 rfl rfl (As := [.int p0]) (rest := []) rfl rfl hl.1 (Nat.le_of_ble_eq_true rfl) ⟨Nat.le_of_ble_eq_true rfl, Nat.le_of_ble_eq_true rfl⟩ ⟨Nat.le_refl _, Nat.le_refl _⟩ dX9_tells_7 (fun rx wx H locs hqx hW => ?_)
  obtain ⟨hrx, rfl⟩ := hqx
  have hW : AtC D (tyG cI cZ cN) Ax (pMod cI cZ b (upA M 0 (upd (M 0) 0 (0 : Int32))) tr) sx H locs := hW.re [] 18 (by decide) rfl rfl trivial (by decide +kernel) rfl rfl
  refine r_eq (y := (inI p0 0 (nI N - 1))) hrx ?_
  refine lv_if_eq (tgt := 22) hx hb dX9_tells_10 rfl (fun c_10 => ?_) (fun c_10 => ?_)
  · refine lv_iconst (v := (-1 : Int32)) hx hb dX9_tells_22 rfl ?_
    exact hret _ _ _ _ _ _ hW rfl rfl dX9_tells_23 (by have hok : ¬ (¬ inI p0 0 (nI N - 1) = 0 ∧ ¬ inI p1 0 1 = 0) := fun h => h.1 c_10; exact ⟨by rw [if_neg hok], by rw [if_neg (fun h => hok h.1)]⟩)
  · refine lv_iload_n hx hb dX9_tells_13 rfl (lv_at hl 2 rfl) ?_
    refine lv_iconst (v := (0 : Int32)) hx hb dX9_tells_14 rfl ?_
    refine lv_iconst (v := (1 : Int32)) hx hb dX9_tells_15 rfl ?_
    refine callSI Sx hW (c_X9_in l D cI cZ cN p1 (0 : Int32) (1 : Int32)) smX9_in mw146 (As := [.int p1, .int (0 : Int32), .int (1 : Int32)]) (rest := []) rfl rfl hl.1 (Nat.le_of_ble_eq_true rfl) ⟨Nat.le_of_ble_eq_true rfl, Nat.le_of_ble_eq_true rfl⟩ ⟨Nat.le_refl _, Nat.le_refl _⟩ dX9_tells_16 (fun rx H locs hqx hW => ?_)
    obtain ⟨hrx, -⟩ := hqx
    refine r_eq (y := (inI p1 (0 : Int32) (1 : Int32))) hrx ?_
    refine lv_if_ne (tgt := 24) hx hb dX9_tells_19 rfl (fun c_19 => ?_) (fun c_19 => ?_)
    · refine lv_aload_n hx hb dX9_tells_24 rfl (lv_at hl 0 rfl) ?_
      refine r_get Sx hW 0 rfl rfl bw_wsX90 23 (by decide) (v := .int (M 0 9)) rfl mw284 dX9_tells_25 ?_
      refine r_eq (y := (nI z1)) hc1 ?_
      refine lv_bipush (v := (6 : Int32)) hx hb dX9_tells_28 rfl ?_
      refine lv_icmp_ne (tgt := 36) hx hb dX9_tells_30 rfl (fun c_30 => ?_) (fun c_30 => ?_)
      · have lt6 : z1 < 6 := Nat.lt_of_le_of_ne hz16 (fun q => c_30 (by rw [q]; rfl))
        refine lv_aload_n hx hb dX9_tells_36 rfl (lv_at hl 0 rfl) ?_
        refine r_get Sx hW 0 rfl rfl bw_wsX90 21 (by decide) (v := .ref (b 12)) rfl mw125 dX9_tells_37 ?_
        refine lv_aload_n hx hb dX9_tells_40 rfl (lv_at hl 0 rfl) ?_
        refine r_get Sx hW 0 rfl rfl bw_wsX90 23 (by decide) (v := .int (M 0 9)) rfl mw284 dX9_tells_41 ?_
        refine r_eq (y := (nI z1)) hc1 ?_
        refine lv_iload_n hx hb dX9_tells_44 rfl (lv_at hl 1 rfl) ?_
        refine r_iast Sx hW 12 0 rfl rfl (j := z1) rfl (by omega) (by decide) dX9_tells_45 (ws' := (pMod cI cZ b (upA (upA M 12 (upd (M 12) z1 p0)) 0 (upd (M 0) 0 (0 : Int32))) tr)) rfl (fun H locs hW => ?_)
        refine lv_aload_n hx hb dX9_tells_46 rfl (lv_at hl 0 rfl) ?_
        refine r_get Sx hW 0 rfl rfl bw_wsX90 22 (by decide) (v := .ref (b 13)) rfl mw126 dX9_tells_47 ?_
        refine lv_aload_n hx hb dX9_tells_50 rfl (lv_at hl 0 rfl) ?_
        refine r_get Sx hW 0 rfl rfl bw_wsX90 23 (by decide) (v := .int (M 0 9)) rfl mw284 dX9_tells_51 ?_
        refine r_eq (y := (nI z1)) hc1 ?_
        refine lv_iload_n hx hb dX9_tells_54 rfl (lv_at hl 2 rfl) ?_
        refine r_iast Sx hW 13 0 rfl rfl (j := z1) rfl (by omega) (by decide) dX9_tells_55 (ws' := (pMod cI cZ b (upA (upA (upA M 12 (upd (M 12) z1 p0)) 13 (upd (M 13) z1 p1)) 0 (upd (M 0) 0 (0 : Int32))) tr)) rfl (fun H locs hW => ?_)
        refine lv_aload_n hx hb dX9_tells_56 rfl (lv_at hl 0 rfl) ?_
        refine lv_dup hx hb dX9_tells_57 rfl ?_
        refine r_get Sx hW 0 rfl rfl bw_wsX90 23 (by decide) (v := .int (M 0 9)) rfl mw284 dX9_tells_58 ?_
        refine r_eq (y := (nI z1)) hc1 ?_
        refine lv_iconst (v := (1 : Int32)) hx hb dX9_tells_61 rfl ?_
        refine lv_iadd hx hb dX9_tells_62 ?_
        refine r_eq (y := (nI (z1 + 1))) (nI_add z1 1) ?_
        refine r_put Sx hW 0 rfl rfl bw_wsX90 tyX9_ok nmX9 23 (by decide) mw284 rfl rfl rfl (Nat.le_of_ble_eq_true rfl) dX9_tells_63 (ws' := (pMod cI cZ b (upA (upA (upA M 12 (upd (M 12) z1 p0)) 13 (upd (M 13) z1 p1)) 0 (upd (upd (M 0) 0 (0 : Int32)) 9 (nI (z1 + 1)))) tr)) rfl (fun H locs hW => ?_)
        refine lv_aload_n hx hb dX9_tells_66 rfl (lv_at hl 0 rfl) ?_
        refine r_get Sx hW 0 rfl rfl bw_wsX90 23 (by decide) (v := .int (nI (z1 + 1))) rfl mw284 dX9_tells_67 ?_
        exact hret _ _ _ _ _ _ hW rfl rfl dX9_tells_70 (by have hok : ¬ inI p0 0 (nI N - 1) = 0 ∧ ¬ inI p1 0 1 = 0 := ⟨c_10, c_19⟩; exact ⟨by rw [if_pos hok, if_neg c_30], by rw [if_pos ⟨hok, c_30⟩] <;> rfl⟩)
      · refine lv_bipush (v := (-3 : Int32)) hx hb dX9_tells_33 rfl ?_
        exact hret _ _ _ _ _ _ hW rfl rfl dX9_tells_35 (by have hok : ¬ inI p0 0 (nI N - 1) = 0 ∧ ¬ inI p1 0 1 = 0 := ⟨c_10, c_19⟩; exact ⟨by rw [if_pos hok, if_pos c_30], by rw [if_neg (fun h => h.2 c_30)]⟩)
    · refine lv_iconst (v := (-1 : Int32)) hx hb dX9_tells_22 rfl ?_
      exact hret _ _ _ _ _ _ hW rfl rfl dX9_tells_23 (by have hok : ¬ (¬ inI p0 0 (nI N - 1) = 0 ∧ ¬ inI p1 0 1 = 0) := fun h => h.2 c_19; exact ⟨by rw [if_neg hok], by rw [if_neg (fun h => hok h.1)]⟩)

set_option maxHeartbeats 4000000 in
set_option maxRecDepth 100000 in
theorem c_X9_record (l : Launch) (D : va_G) (cI cZ cN : ClassId) (b : Nat → Nat) (M : NV) (tr : Int64) (N C : Nat) (hN : M 2 1 = nI N) (hN7 : N ≤ 7) (hC : M 2 0 = nI C) (hC4 : C ≤ 4) (hC1 : 1 ≤ C) (z1 z2 : Nat) (hc1 : M 0 9 = nI z1) (hz16 : z1 ≤ 6) (hc2 : M 0 10 = nI z2) (hz26 : z2 ≤ 6) (p0 : Int32) (p1 : Int32) : CtI l yX9_record cX9_record 3 (some .int) 2 D (tyG cI cZ cN) [.ref (b 0), .int p0, .int p1] (pMod cI cZ b M tr) (fun r w => r = (if ¬ inI p0 0 4 = 0 ∧ ¬ inI p1 0 1 = 0 then (if nI z2 = 6 then -3 else nI (z2 + 1)) else -1) ∧ w = if (¬ inI p0 0 4 = 0 ∧ ¬ inI p1 0 1 = 0) ∧ ¬ nI z2 = 6 then (pMod cI cZ b (upA (upA (upA M 14 (upd (M 14) z2 p0)) 15 (upd (M 15) z2 p1)) 0 (upd (upd (M 0) 0 (0 : Int32)) 10 (nI (z2 + 1)))) tr) else (pMod cI cZ b (upA M 0 (upd (M 0) 0 (0 : Int32))) tr)) := by
  refine CtI.of rfl (Nat.le_of_ble_eq_true rfl) ?_
  intro pg ev sx mx ax bx mt cx ls Qx Ax Sx hret hW hl
  have hx := Sx.1
  have hb := Sx.2.1
  have hl : lv_has ls 3 [(0, .ref (b 0)), (1, .int p0), (2, .int p1)] := hl
  refine lv_aload_n hx hb dX9_record_0 rfl (lv_at hl 0 rfl) ?_
  refine lv_iconst (v := (0 : Int32)) hx hb dX9_record_1 rfl ?_
  refine r_put Sx hW 0 rfl rfl bw_wsX90 tyX9_ok nmX9 0 (by decide) mw144 rfl rfl rfl (Nat.le_of_ble_eq_true rfl) dX9_record_2 (ws' := (pMod cI cZ b (upA M 0 (upd (M 0) 0 (0 : Int32))) tr)) rfl (fun H locs hW => ?_)
  refine lv_iload_n hx hb dX9_record_5 rfl (lv_at hl 1 rfl) ?_
  refine lv_iconst (v := (0 : Int32)) hx hb dX9_record_6 rfl ?_
  refine lv_iconst (v := (4 : Int32)) hx hb dX9_record_7 rfl ?_
  refine callSI Sx hW (c_X9_in l D cI cZ cN p0 (0 : Int32) (4 : Int32)) smX9_in mw146 (As := [.int p0, .int (0 : Int32), .int (4 : Int32)]) (rest := []) rfl rfl hl.1 (Nat.le_of_ble_eq_true rfl) ⟨Nat.le_of_ble_eq_true rfl, Nat.le_of_ble_eq_true rfl⟩ ⟨Nat.le_refl _, Nat.le_refl _⟩ dX9_record_8 (fun rx H locs hqx hW => ?_)
  obtain ⟨hrx, -⟩ := hqx
  refine r_eq (y := (inI p0 (0 : Int32) (4 : Int32))) hrx ?_
  refine lv_if_eq (tgt := 23) hx hb dX9_record_11 rfl (fun c_11 => ?_) (fun c_11 => ?_)
  · refine lv_iconst (v := (-1 : Int32)) hx hb dX9_record_23 rfl ?_
    exact hret _ _ _ _ _ _ hW rfl rfl dX9_record_24 (by have hok : ¬ (¬ inI p0 0 4 = 0 ∧ ¬ inI p1 0 1 = 0) := fun h => h.1 c_11; exact ⟨by rw [if_neg hok], by rw [if_neg (fun h => hok h.1)]⟩)
  · refine lv_iload_n hx hb dX9_record_14 rfl (lv_at hl 2 rfl) ?_
    refine lv_iconst (v := (0 : Int32)) hx hb dX9_record_15 rfl ?_
    refine lv_iconst (v := (1 : Int32)) hx hb dX9_record_16 rfl ?_
    refine callSI Sx hW (c_X9_in l D cI cZ cN p1 (0 : Int32) (1 : Int32)) smX9_in mw146 (As := [.int p1, .int (0 : Int32), .int (1 : Int32)]) (rest := []) rfl rfl hl.1 (Nat.le_of_ble_eq_true rfl) ⟨Nat.le_of_ble_eq_true rfl, Nat.le_of_ble_eq_true rfl⟩ ⟨Nat.le_refl _, Nat.le_refl _⟩ dX9_record_17 (fun rx H locs hqx hW => ?_)
    obtain ⟨hrx, -⟩ := hqx
    refine r_eq (y := (inI p1 (0 : Int32) (1 : Int32))) hrx ?_
    refine lv_if_ne (tgt := 25) hx hb dX9_record_20 rfl (fun c_20 => ?_) (fun c_20 => ?_)
    · refine lv_aload_n hx hb dX9_record_25 rfl (lv_at hl 0 rfl) ?_
      refine r_get Sx hW 0 rfl rfl bw_wsX90 26 (by decide) (v := .int (M 0 10)) rfl mw285 dX9_record_26 ?_
      refine r_eq (y := (nI z2)) hc2 ?_
      refine lv_bipush (v := (6 : Int32)) hx hb dX9_record_29 rfl ?_
      refine lv_icmp_ne (tgt := 37) hx hb dX9_record_31 rfl (fun c_31 => ?_) (fun c_31 => ?_)
      · have lt6 : z2 < 6 := Nat.lt_of_le_of_ne hz26 (fun q => c_31 (by rw [q]; rfl))
        refine lv_aload_n hx hb dX9_record_37 rfl (lv_at hl 0 rfl) ?_
        refine r_get Sx hW 0 rfl rfl bw_wsX90 24 (by decide) (v := .ref (b 14)) rfl mw127 dX9_record_38 ?_
        refine lv_aload_n hx hb dX9_record_41 rfl (lv_at hl 0 rfl) ?_
        refine r_get Sx hW 0 rfl rfl bw_wsX90 26 (by decide) (v := .int (M 0 10)) rfl mw285 dX9_record_42 ?_
        refine r_eq (y := (nI z2)) hc2 ?_
        refine lv_iload_n hx hb dX9_record_45 rfl (lv_at hl 1 rfl) ?_
        refine r_iast Sx hW 14 0 rfl rfl (j := z2) rfl (by omega) (by decide) dX9_record_46 (ws' := (pMod cI cZ b (upA (upA M 14 (upd (M 14) z2 p0)) 0 (upd (M 0) 0 (0 : Int32))) tr)) rfl (fun H locs hW => ?_)
        refine lv_aload_n hx hb dX9_record_47 rfl (lv_at hl 0 rfl) ?_
        refine r_get Sx hW 0 rfl rfl bw_wsX90 25 (by decide) (v := .ref (b 15)) rfl mw128 dX9_record_48 ?_
        refine lv_aload_n hx hb dX9_record_51 rfl (lv_at hl 0 rfl) ?_
        refine r_get Sx hW 0 rfl rfl bw_wsX90 26 (by decide) (v := .int (M 0 10)) rfl mw285 dX9_record_52 ?_
        refine r_eq (y := (nI z2)) hc2 ?_
        refine lv_iload_n hx hb dX9_record_55 rfl (lv_at hl 2 rfl) ?_
        refine r_iast Sx hW 15 0 rfl rfl (j := z2) rfl (by omega) (by decide) dX9_record_56 (ws' := (pMod cI cZ b (upA (upA (upA M 14 (upd (M 14) z2 p0)) 15 (upd (M 15) z2 p1)) 0 (upd (M 0) 0 (0 : Int32))) tr)) rfl (fun H locs hW => ?_)
        refine lv_aload_n hx hb dX9_record_57 rfl (lv_at hl 0 rfl) ?_
        refine lv_dup hx hb dX9_record_58 rfl ?_
        refine r_get Sx hW 0 rfl rfl bw_wsX90 26 (by decide) (v := .int (M 0 10)) rfl mw285 dX9_record_59 ?_
        refine r_eq (y := (nI z2)) hc2 ?_
        refine lv_iconst (v := (1 : Int32)) hx hb dX9_record_62 rfl ?_
        refine lv_iadd hx hb dX9_record_63 ?_
        refine r_eq (y := (nI (z2 + 1))) (nI_add z2 1) ?_
        refine r_put Sx hW 0 rfl rfl bw_wsX90 tyX9_ok nmX9 26 (by decide) mw285 rfl rfl rfl (Nat.le_of_ble_eq_true rfl) dX9_record_64 (ws' := (pMod cI cZ b (upA (upA (upA M 14 (upd (M 14) z2 p0)) 15 (upd (M 15) z2 p1)) 0 (upd (upd (M 0) 0 (0 : Int32)) 10 (nI (z2 + 1)))) tr)) rfl (fun H locs hW => ?_)
        refine lv_aload_n hx hb dX9_record_67 rfl (lv_at hl 0 rfl) ?_
        refine r_get Sx hW 0 rfl rfl bw_wsX90 26 (by decide) (v := .int (nI (z2 + 1))) rfl mw285 dX9_record_68 ?_
        exact hret _ _ _ _ _ _ hW rfl rfl dX9_record_71 (by have hok : ¬ inI p0 0 4 = 0 ∧ ¬ inI p1 0 1 = 0 := ⟨c_11, c_20⟩; exact ⟨by rw [if_pos hok, if_neg c_31], by rw [if_pos ⟨hok, c_31⟩] <;> rfl⟩)
      · refine lv_bipush (v := (-3 : Int32)) hx hb dX9_record_34 rfl ?_
        exact hret _ _ _ _ _ _ hW rfl rfl dX9_record_36 (by have hok : ¬ inI p0 0 4 = 0 ∧ ¬ inI p1 0 1 = 0 := ⟨c_11, c_20⟩; exact ⟨by rw [if_pos hok, if_pos c_31], by rw [if_neg (fun h => h.2 c_31)]⟩)
    · refine lv_iconst (v := (-1 : Int32)) hx hb dX9_record_23 rfl ?_
      exact hret _ _ _ _ _ _ hW rfl rfl dX9_record_24 (by have hok : ¬ (¬ inI p0 0 4 = 0 ∧ ¬ inI p1 0 1 = 0) := fun h => h.2 c_20; exact ⟨by rw [if_neg hok], by rw [if_neg (fun h => hok h.1)]⟩)

set_option maxHeartbeats 4000000 in
set_option maxRecDepth 100000 in
theorem c_X9_forget (l : Launch) (D : va_G) (cI cZ cN : ClassId) (b : Nat → Nat) (M : NV) (tr : Int64) (N C : Nat) (hN : M 2 1 = nI N) (hN7 : N ≤ 7) (hC : M 2 0 = nI C) (hC4 : C ≤ 4) (hC1 : 1 ≤ C) (z1 z2 : Nat) (hc1 : M 0 9 = nI z1) (hz16 : z1 ≤ 6) (hc2 : M 0 10 = nI z2) (hz26 : z2 ≤ 6) : CtI l yX9_forget cX9_forget 2 (some .int) 0 D (tyG cI cZ cN) [.ref (b 0)] (pMod cI cZ b M tr) (fun r w => r = nI (z1 + z2) ∧ w = (pMod cI cZ b (upA M 0 (upd (upd (upd (M 0) 0 (0 : Int32)) 9 (0 : Int32)) 10 (0 : Int32))) tr)) := by
  refine CtI.of rfl (Nat.le_of_ble_eq_true rfl) ?_
  intro pg ev sx mx ax bx mt cx ls Qx Ax Sx hret hW hl
  have hx := Sx.1
  have hb := Sx.2.1
  have hl : lv_has ls 2 [(0, .ref (b 0))] := hl
  refine lv_aload_n hx hb dX9_forget_0 rfl (lv_at hl 0 rfl) ?_
  refine lv_iconst (v := (0 : Int32)) hx hb dX9_forget_1 rfl ?_
  refine r_put Sx hW 0 rfl rfl bw_wsX90 tyX9_ok nmX9 0 (by decide) mw144 rfl rfl rfl (Nat.le_of_ble_eq_true rfl) dX9_forget_2 (ws' := (pMod cI cZ b (upA M 0 (upd (M 0) 0 (0 : Int32))) tr)) rfl (fun H locs hW => ?_)
  refine lv_aload_n hx hb dX9_forget_5 rfl (lv_at hl 0 rfl) ?_
  refine r_get Sx hW 0 rfl rfl bw_wsX90 23 (by decide) (v := .int (M 0 9)) rfl mw284 dX9_forget_6 ?_
  refine r_eq (y := (nI z1)) hc1 ?_
  refine lv_aload_n hx hb dX9_forget_9 rfl (lv_at hl 0 rfl) ?_
  refine r_get Sx hW 0 rfl rfl bw_wsX90 26 (by decide) (v := .int (M 0 10)) rfl mw285 dX9_forget_10 ?_
  refine r_eq (y := (nI z2)) hc2 ?_
  refine lv_iadd hx hb dX9_forget_13 ?_
  refine r_eq (y := (nI (z1 + z2))) (nI_add z1 z2) ?_
  refine lv_istore_n (lv' := [(1, .int (nI (z1 + z2))), (0, .ref (b 0))]) hx hb dX9_forget_14 rfl hl (by decide) rfl (fun ls hl => ?_)
  refine lv_aload_n hx hb dX9_forget_15 rfl (lv_at hl 1 rfl) ?_
  refine lv_iconst (v := (0 : Int32)) hx hb dX9_forget_16 rfl ?_
  refine r_put Sx hW 0 rfl rfl bw_wsX90 tyX9_ok nmX9 23 (by decide) mw284 rfl rfl rfl (Nat.le_of_ble_eq_true rfl) dX9_forget_17 (ws' := (pMod cI cZ b (upA M 0 (upd (upd (M 0) 0 (0 : Int32)) 9 (0 : Int32))) tr)) rfl (fun H locs hW => ?_)
  refine lv_aload_n hx hb dX9_forget_20 rfl (lv_at hl 1 rfl) ?_
  refine lv_iconst (v := (0 : Int32)) hx hb dX9_forget_21 rfl ?_
  refine r_put Sx hW 0 rfl rfl bw_wsX90 tyX9_ok nmX9 26 (by decide) mw285 rfl rfl rfl (Nat.le_of_ble_eq_true rfl) dX9_forget_22 (ws' := (pMod cI cZ b (upA M 0 (upd (upd (upd (M 0) 0 (0 : Int32)) 9 (0 : Int32)) 10 (0 : Int32))) tr)) rfl (fun H locs hW => ?_)
  refine lv_iload_n hx hb dX9_forget_25 rfl (lv_at hl 0 rfl) ?_
  exact hret _ _ _ _ _ _ hW rfl rfl dX9_forget_26 (⟨rfl, rfl⟩)

set_option maxHeartbeats 4000000 in
set_option maxRecDepth 100000 in
theorem c_X9_keep (l : Launch) (D : va_G) (cI cZ cN : ClassId) (b : Nat → Nat) (M : NV) (tr : Int64) (N C : Nat) (hN : M 2 1 = nI N) (hN7 : N ≤ 7) (hC : M 2 0 = nI C) (hC4 : C ≤ 4) (hC1 : 1 ≤ C) (p0 : Int32) : CtI l yX9_keep cX9_keep 3 (some .int) 1 D (tyG cI cZ cN) [.ref (b 0), .int p0] (pMod cI cZ b M tr) (fun r w => r = (if ¬ inI p0 0 1 = 0 then M 7 24 else -1) ∧ w = if ¬ inI p0 0 1 = 0 then (pMod cI cZ b (upA (upA (upA M 9 (cpO (M 9) (M 7) (25 * p0.toNatClampNeg) 25)) 10 (upd (M 10) p0.toNatClampNeg 1)) 0 (upd (M 0) 0 (0 : Int32))) tr) else (pMod cI cZ b (upA M 0 (upd (M 0) 0 (0 : Int32))) tr)) := by
  refine CtI.of rfl (Nat.le_of_ble_eq_true rfl) ?_
  intro pg ev sx mx ax bx mt cx ls Qx Ax Sx hret hW hl
  have hx := Sx.1
  have hb := Sx.2.1
  have hl : lv_has ls 3 [(0, .ref (b 0)), (1, .int p0)] := hl
  refine lv_aload_n hx hb dX9_keep_0 rfl (lv_at hl 0 rfl) ?_
  refine lv_iconst (v := (0 : Int32)) hx hb dX9_keep_1 rfl ?_
  refine r_put Sx hW 0 rfl rfl bw_wsX90 tyX9_ok nmX9 0 (by decide) mw144 rfl rfl rfl (Nat.le_of_ble_eq_true rfl) dX9_keep_2 (ws' := (pMod cI cZ b (upA M 0 (upd (M 0) 0 (0 : Int32))) tr)) rfl (fun H locs hW => ?_)
  refine lv_iload_n hx hb dX9_keep_5 rfl (lv_at hl 1 rfl) ?_
  refine lv_iconst (v := (0 : Int32)) hx hb dX9_keep_6 rfl ?_
  refine lv_iconst (v := (1 : Int32)) hx hb dX9_keep_7 rfl ?_
  refine callSI Sx hW (c_X9_in l D cI cZ cN p0 (0 : Int32) (1 : Int32)) smX9_in mw146 (As := [.int p0, .int (0 : Int32), .int (1 : Int32)]) (rest := []) rfl rfl hl.1 (Nat.le_of_ble_eq_true rfl) ⟨Nat.le_of_ble_eq_true rfl, Nat.le_of_ble_eq_true rfl⟩ ⟨Nat.le_refl _, Nat.le_refl _⟩ dX9_keep_8 (fun rx H locs hqx hW => ?_)
  obtain ⟨hrx, -⟩ := hqx
  refine r_eq (y := (inI p0 (0 : Int32) (1 : Int32))) hrx ?_
  refine lv_if_ne (tgt := 16) hx hb dX9_keep_11 rfl (fun c_11 => ?_) (fun c_11 => ?_)
  · obtain ⟨J, hJ, rfl⟩ := inI_nat (n := 2) (show ((1 : Int32)).toInt = ((2 : Nat) : Int) - 1 from by decide) c_11
    have clJ : (nI J).toNatClampNeg = J := nI_clamp (by omega)
    refine lv_iconst (v := (0 : Int32)) hx hb dX9_keep_16 rfl ?_
    refine lv_istore_n (lv' := [(2, .int (0 : Int32)), (0, .ref (b 0)), (1, .int (nI J))]) hx hb dX9_keep_17 rfl hl (by decide) rfl (fun ls hl => ?_)
    have lp_18 : ∀ (n : Nat) (i : Nat), ((i ≤ 25)) → ((25 + 1 ≤ i + n)) → ∀ (H : Heap) (locs : List Loc) (ls : Array Slot), AtC D (tyG cI cZ cN) Ax (pMod cI cZ b (upA (upA M 9 (cpO (M 9) (M 7) (25 * J) i)) 0 (upd (M 0) 0 (0 : Int32))) tr) sx H locs → lv_has ls 3 [(0, .ref (b 0)), (1, .int (nI J)), (2, .int (nI i))] → W pg l ev (rmN 1) sx mx ax bx mt cx H locs 0 0 Qx (F0 mx 18 ls []) := by
      intro n
      induction n with
      | zero =>
        intro i hi_18 hn_18 H locs ls hW hl
        exact absurd hn_18 (by omega)
      | succ n ih18 =>
        intro i hi_18 hn_18 H locs ls hW hl
        refine lv_iload_n hx hb dX9_keep_18 rfl (lv_at hl 2 rfl) ?_
        refine lv_bipush (v := (25 : Int32)) hx hb dX9_keep_19 rfl ?_
        refine lv_icmp_ge (tgt := 47) hx hb dX9_keep_21 rfl (fun c_21 => ?_) (fun c_21 => ?_)
        · have ge_21 : 25 ≤ i := (nI_leI (a := 25) (b := i) (by omega) (by omega)).mp c_21
          have ee_21 : 25 = i := by omega
          subst ee_21
          refine lv_aload_n hx hb dX9_keep_47 rfl (lv_at hl 0 rfl) ?_
          refine r_get Sx hW 0 rfl rfl bw_wsX90 18 (by decide) (v := .ref (b 10)) rfl mw123 dX9_keep_48 ?_
          refine lv_iload_n hx hb dX9_keep_51 rfl (lv_at hl 1 rfl) ?_
          refine lv_iconst (v := (1 : Int32)) hx hb dX9_keep_52 rfl ?_
          refine r_zast Sx hW 10 1 rfl rfl (j := J) rfl (by omega) (by decide) rfl dX9_keep_53 (ws' := (pMod cI cZ b (upA (upA (upA M 9 (cpO (M 9) (M 7) (25 * J) 25)) 10 (upd (M 10) J (1 : Int32))) 0 (upd (M 0) 0 (0 : Int32))) tr)) rfl (fun H locs hW => ?_)
          refine lv_aload_n hx hb dX9_keep_54 rfl (lv_at hl 0 rfl) ?_
          refine r_get Sx hW 0 rfl rfl bw_wsX90 15 (by decide) (v := .ref (b 7)) rfl mw120 dX9_keep_55 ?_
          refine lv_bipush (v := (24 : Int32)) hx hb dX9_keep_58 rfl ?_
          refine r_iald Sx hW 7 0 (f := (M 7)) rfl rfl (j := 24) rfl (by decide) (by decide) dX9_keep_60 ?_
          exact hret _ _ _ _ _ _ hW rfl rfl dX9_keep_61 (⟨by rw [if_pos c_11], by rw [if_pos c_11, clJ] <;> rfl⟩)
        · have lt_21 : i < 25 := Nat.not_le.mp (fun h => c_21 ((nI_leI (a := 25) (b := i) (by omega) (by omega)).mpr h))
          refine lv_aload_n hx hb dX9_keep_24 rfl (lv_at hl 0 rfl) ?_
          refine r_get Sx hW 0 rfl rfl bw_wsX90 17 (by decide) (v := .ref (b 9)) rfl mw122 dX9_keep_25 ?_
          refine lv_bipush (v := (25 : Int32)) hx hb dX9_keep_28 rfl ?_
          refine lv_iload_n hx hb dX9_keep_30 rfl (lv_at hl 1 rfl) ?_
          refine lv_imul hx hb dX9_keep_31 ?_
          refine r_eq (y := (nI (25 * J))) (pk_mul 25 J) ?_
          refine lv_iload_n hx hb dX9_keep_32 rfl (lv_at hl 2 rfl) ?_
          refine lv_iadd hx hb dX9_keep_33 ?_
          refine r_eq (y := (nI ((25 * J) + i))) (nI_add (25 * J) i) ?_
          refine lv_aload_n hx hb dX9_keep_34 rfl (lv_at hl 0 rfl) ?_
          refine r_get Sx hW 0 rfl rfl bw_wsX90 15 (by decide) (v := .ref (b 7)) rfl mw120 dX9_keep_35 ?_
          refine lv_iload_n hx hb dX9_keep_38 rfl (lv_at hl 2 rfl) ?_
          refine r_iald Sx hW 7 0 (f := (M 7)) rfl rfl (j := i) rfl (by omega) (by decide) dX9_keep_39 ?_
          refine r_iast Sx hW 9 0 rfl rfl (j := (25 * J) + i) rfl (by omega) (by decide) dX9_keep_40 (ws' := (pMod cI cZ b (upA (upA M 9 (upd (cpO (M 9) (M 7) (25 * J) i) ((25 * J) + i) ((M 7) i))) 0 (upd (M 0) 0 (0 : Int32))) tr)) rfl (fun H locs hW => ?_)
          refine lv_iinc (v := (nI (i + 1))) (lv' := [(2, .int (nI (i + 1))), (0, .ref (b 0)), (1, .int (nI J))]) hx hb dX9_keep_41 hl (k := 2) rfl (inc_n i 1) (by decide) rfl (fun ls hl => ?_)
          refine lv_goto (tgt := 18) hx hb dX9_keep_44 rfl ?_
          exact ih18 (i + 1) (by omega) (by omega) _ _ _ hW (lv_sub hl [1, 2, 0] rfl)
    exact lp_18 (25 + 1) 0 (by omega) (by omega) _ _ _ hW (lv_sub hl [1, 2, 0] rfl)
  · refine lv_iconst (v := (-1 : Int32)) hx hb dX9_keep_14 rfl ?_
    exact hret _ _ _ _ _ _ hW rfl rfl dX9_keep_15 (by have hok : ¬ ¬ inI p0 0 1 = 0 := fun h => h c_11; exact ⟨by rw [if_neg hok], by rw [if_neg hok]⟩)

set_option maxHeartbeats 4000000 in
set_option maxRecDepth 100000 in
theorem c_X9_back (l : Launch) (D : va_G) (cI cZ cN : ClassId) (b : Nat → Nat) (M : NV) (tr : Int64) (N C : Nat) (hN : M 2 1 = nI N) (hN7 : N ≤ 7) (hC : M 2 0 = nI C) (hC4 : C ≤ 4) (hC1 : 1 ≤ C) (u : Nat) (hu : M 0 8 = nI u) (hu10 : u ≤ 10) (p0 : Int32) : CtI l yX9_back cX9_back 3 (some .int) 1 D (tyG cI cZ cN) [.ref (b 0), .int p0] (pMod cI cZ b M tr) (fun r w => r = (if ¬ inI p0 0 1 = 0 then (if M 10 p0.toNatClampNeg = 0 then -2 else cpR (M 7) (M 9) (25 * p0.toNatClampNeg) 25 24) else -1) ∧ w = if ¬ inI p0 0 1 = 0 ∧ ¬ M 10 p0.toNatClampNeg = 0 then (pMod cI cZ b (upA (upA M 7 (cpR (M 7) (M 9) (25 * p0.toNatClampNeg) 25)) 0 (upd (upd (M 0) 0 (0 : Int32)) 8 (0 : Int32))) tr) else (pMod cI cZ b (upA M 0 (upd (M 0) 0 (0 : Int32))) tr)) := by
  refine CtI.of rfl (Nat.le_of_ble_eq_true rfl) ?_
  intro pg ev sx mx ax bx mt cx ls Qx Ax Sx hret hW hl
  have hx := Sx.1
  have hb := Sx.2.1
  have hl : lv_has ls 3 [(0, .ref (b 0)), (1, .int p0)] := hl
  refine lv_aload_n hx hb dX9_back_0 rfl (lv_at hl 0 rfl) ?_
  refine lv_iconst (v := (0 : Int32)) hx hb dX9_back_1 rfl ?_
  refine r_put Sx hW 0 rfl rfl bw_wsX90 tyX9_ok nmX9 0 (by decide) mw144 rfl rfl rfl (Nat.le_of_ble_eq_true rfl) dX9_back_2 (ws' := (pMod cI cZ b (upA M 0 (upd (M 0) 0 (0 : Int32))) tr)) rfl (fun H locs hW => ?_)
  refine lv_iload_n hx hb dX9_back_5 rfl (lv_at hl 1 rfl) ?_
  refine lv_iconst (v := (0 : Int32)) hx hb dX9_back_6 rfl ?_
  refine lv_iconst (v := (1 : Int32)) hx hb dX9_back_7 rfl ?_
  refine callSI Sx hW (c_X9_in l D cI cZ cN p0 (0 : Int32) (1 : Int32)) smX9_in mw146 (As := [.int p0, .int (0 : Int32), .int (1 : Int32)]) (rest := []) rfl rfl hl.1 (Nat.le_of_ble_eq_true rfl) ⟨Nat.le_of_ble_eq_true rfl, Nat.le_of_ble_eq_true rfl⟩ ⟨Nat.le_refl _, Nat.le_refl _⟩ dX9_back_8 (fun rx H locs hqx hW => ?_)
  obtain ⟨hrx, -⟩ := hqx
  refine r_eq (y := (inI p0 (0 : Int32) (1 : Int32))) hrx ?_
  refine lv_if_ne (tgt := 16) hx hb dX9_back_11 rfl (fun c_11 => ?_) (fun c_11 => ?_)
  · obtain ⟨J, hJ, rfl⟩ := inI_nat (n := 2) (show ((1 : Int32)).toInt = ((2 : Nat) : Int) - 1 from by decide) c_11
    have clJ : (nI J).toNatClampNeg = J := nI_clamp (by omega)
    refine lv_aload_n hx hb dX9_back_16 rfl (lv_at hl 0 rfl) ?_
    refine r_get Sx hW 0 rfl rfl bw_wsX90 18 (by decide) (v := .ref (b 10)) rfl mw123 dX9_back_17 ?_
    refine lv_iload_n hx hb dX9_back_20 rfl (lv_at hl 1 rfl) ?_
    refine r_zald Sx hW 10 1 (f := (M 10)) rfl rfl (j := J) rfl (by omega) (by decide) dX9_back_21 ?_
    refine lv_if_ne (tgt := 28) hx hb dX9_back_22 rfl (fun c_22 => ?_) (fun c_22 => ?_)
    · refine lv_iconst (v := (0 : Int32)) hx hb dX9_back_28 rfl ?_
      refine lv_istore_n (lv' := [(2, .int (0 : Int32)), (0, .ref (b 0)), (1, .int (nI J))]) hx hb dX9_back_29 rfl hl (by decide) rfl (fun ls hl => ?_)
      have lp_30 : ∀ (n : Nat) (i : Nat), ((i ≤ 25)) → ((25 + 1 ≤ i + n)) → ∀ (H : Heap) (locs : List Loc) (ls : Array Slot), AtC D (tyG cI cZ cN) Ax (pMod cI cZ b (upA (upA M 7 (cpR (M 7) (M 9) (25 * J) i)) 0 (upd (M 0) 0 (0 : Int32))) tr) sx H locs → lv_has ls 3 [(0, .ref (b 0)), (1, .int (nI J)), (2, .int (nI i))] → W pg l ev (rmN 1) sx mx ax bx mt cx H locs 0 0 Qx (F0 mx 30 ls []) := by
        intro n
        induction n with
        | zero =>
          intro i hi_30 hn_30 H locs ls hW hl
          exact absurd hn_30 (by omega)
        | succ n ih30 =>
          intro i hi_30 hn_30 H locs ls hW hl
          refine lv_iload_n hx hb dX9_back_30 rfl (lv_at hl 2 rfl) ?_
          refine lv_bipush (v := (25 : Int32)) hx hb dX9_back_31 rfl ?_
          refine lv_icmp_ge (tgt := 59) hx hb dX9_back_33 rfl (fun c_33 => ?_) (fun c_33 => ?_)
          · have ge_33 : 25 ≤ i := (nI_leI (a := 25) (b := i) (by omega) (by omega)).mp c_33
            have ee_33 : 25 = i := by omega
            subst ee_33
            refine lv_aload_n hx hb dX9_back_59 rfl (lv_at hl 0 rfl) ?_
            refine lv_iconst (v := (0 : Int32)) hx hb dX9_back_60 rfl ?_
            refine r_put Sx hW 0 rfl rfl bw_wsX90 tyX9_ok nmX9 20 (by decide) mw286 rfl rfl rfl (Nat.le_of_ble_eq_true rfl) dX9_back_61 (ws' := (pMod cI cZ b (upA (upA M 7 (cpR (M 7) (M 9) (25 * J) 25)) 0 (upd (upd (M 0) 0 (0 : Int32)) 8 (0 : Int32))) tr)) rfl (fun H locs hW => ?_)
            refine lv_aload_n hx hb dX9_back_64 rfl (lv_at hl 0 rfl) ?_
            refine r_get Sx hW 0 rfl rfl bw_wsX90 15 (by decide) (v := .ref (b 7)) rfl mw120 dX9_back_65 ?_
            refine lv_bipush (v := (24 : Int32)) hx hb dX9_back_68 rfl ?_
            refine r_iald Sx hW 7 0 (f := (cpR (M 7) (M 9) (25 * J) 25)) rfl rfl (j := 24) rfl (by decide) (by decide) dX9_back_70 ?_
            exact hret _ _ _ _ _ _ hW rfl rfl dX9_back_71 (⟨by rw [if_pos c_11, clJ, if_neg c_22], by rw [if_pos ⟨c_11, fun h => c_22 (by rw [clJ] at h; exact h)⟩, clJ] <;> rfl⟩)
          · have lt_33 : i < 25 := Nat.not_le.mp (fun h => c_33 ((nI_leI (a := 25) (b := i) (by omega) (by omega)).mpr h))
            refine lv_aload_n hx hb dX9_back_36 rfl (lv_at hl 0 rfl) ?_
            refine r_get Sx hW 0 rfl rfl bw_wsX90 15 (by decide) (v := .ref (b 7)) rfl mw120 dX9_back_37 ?_
            refine lv_iload_n hx hb dX9_back_40 rfl (lv_at hl 2 rfl) ?_
            refine lv_aload_n hx hb dX9_back_41 rfl (lv_at hl 0 rfl) ?_
            refine r_get Sx hW 0 rfl rfl bw_wsX90 17 (by decide) (v := .ref (b 9)) rfl mw122 dX9_back_42 ?_
            refine lv_bipush (v := (25 : Int32)) hx hb dX9_back_45 rfl ?_
            refine lv_iload_n hx hb dX9_back_47 rfl (lv_at hl 1 rfl) ?_
            refine lv_imul hx hb dX9_back_48 ?_
            refine r_eq (y := (nI (25 * J))) (pk_mul 25 J) ?_
            refine lv_iload_n hx hb dX9_back_49 rfl (lv_at hl 2 rfl) ?_
            refine lv_iadd hx hb dX9_back_50 ?_
            refine r_eq (y := (nI ((25 * J) + i))) (nI_add (25 * J) i) ?_
            refine r_iald Sx hW 9 0 (f := (M 9)) rfl rfl (j := (25 * J) + i) rfl (by omega) (by decide) dX9_back_51 ?_
            refine r_iast Sx hW 7 0 rfl rfl (j := i) rfl (by omega) (by decide) dX9_back_52 (ws' := (pMod cI cZ b (upA (upA M 7 (upd (cpR (M 7) (M 9) (25 * J) i) i ((M 9) ((25 * J) + i)))) 0 (upd (M 0) 0 (0 : Int32))) tr)) rfl (fun H locs hW => ?_)
            refine lv_iinc (v := (nI (i + 1))) (lv' := [(2, .int (nI (i + 1))), (0, .ref (b 0)), (1, .int (nI J))]) hx hb dX9_back_53 hl (k := 2) rfl (inc_n i 1) (by decide) rfl (fun ls hl => ?_)
            refine lv_goto (tgt := 30) hx hb dX9_back_56 rfl ?_
            exact ih30 (i + 1) (by omega) (by omega) _ _ _ hW (lv_sub hl [1, 2, 0] rfl)
      exact lp_30 (25 + 1) 0 (by omega) (by omega) _ _ _ hW (lv_sub hl [1, 2, 0] rfl)
    · refine lv_bipush (v := (-2 : Int32)) hx hb dX9_back_25 rfl ?_
      exact hret _ _ _ _ _ _ hW rfl rfl dX9_back_27 (⟨by rw [if_pos c_11, clJ, if_pos c_22], by rw [if_neg (fun h => h.2 (by rw [clJ]; exact c_22))]⟩)
  · refine lv_iconst (v := (-1 : Int32)) hx hb dX9_back_14 rfl ?_
    exact hret _ _ _ _ _ _ hW rfl rfl dX9_back_15 (⟨by rw [if_neg (fun h => h c_11)], by rw [if_neg (fun h => h.1 c_11)]⟩)
