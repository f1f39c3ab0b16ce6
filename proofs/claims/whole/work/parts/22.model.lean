/-! OneJohnModel: an item, and the whole text -/
def tn (v : Int32) : Nat := v.toNatClampNeg
theorem wfm_up {z : Nat} {M : NV} {c : Nat} {f : Nat → Int32} (hc : Nat.beq c 0 = false) (hc1 : Nat.beq c 1 = false) (h : wfm z M) : wfm z (upA M c f) := by
  have e : ∀ k, Nat.beq c k = false → upA M c f k = M k := by
    intro k hk
    have : Nat.beq k c = false := by
      cases hq : Nat.beq k c
      · rfl
      · rw [Nat.eq_of_beq_eq_true hq, Nat.beq_refl] at hk; exact hk
    unfold upA; rw [this]; rfl
  unfold wfm pM; rw [e 0 hc, e 1 hc1]; exact h
theorem tk_well {z : Nat} {M : NV} {is : Int32} (h0 : 0 ≤ M 0 4) (h : tkS z M is 0 6 < 0) : M 0 6 < 0 ∧ ¬ is = 0 := by
  unfold tkS at h
  split at h
  · rename_i hw
    split at h
    · exact absurd (show M 0 4 < 0 from h) (Int32.not_lt.mpr h0)
    · rename_i hi; exact ⟨hw, hi⟩
  · rename_i hw; exact absurd h hw
theorem nI_nn {s : Nat} (h : s < 1000) : (0 : Int32) ≤ nI s := (nI_leI (a := 0) (b := s) (by omega) (by omega)).mpr (Nat.zero_le s)
theorem tk_pl {z : Nat} {M : NV} {is : Int32} (hz : z ≤ 200) (hw : wfm z M) (h0 : 0 ≤ M 0 4) : 0 ≤ tkS z M is 0 4 := by
  unfold tkS
  split
  · split
    · exact h0
    · have := (skB_le (M 1) z (z - pM M) (pM M) hw.2.2.2).2
      exact nI_nn (s := skB (M 1) z (z - pM M) (pM M)) (by omega)
  · exact h0
theorem in_tn {v : Int32} {k : Nat} (h7 : k ≤ 7) (h : ¬ inI v 0 (nI k - 1) = 0) : tn v < k ∧ v = nI (tn v) := by
  obtain ⟨j, hj, rfl⟩ := inI_nat (nI_m1 (show k < 1000 by omega)) h
  have e : tn (nI j) = j := nI_clamp (by omega)
  rw [e]; exact ⟨hj, rfl⟩
theorem nu_nat {M : NV} {k : Nat} (h7 : k ≤ 7) (h : M 0 6 < 0 ∧ ¬ nuB M 0 (nI k - 1) = 0) : tn (tkI M (nuB M 0 (nI k - 1))) < k ∧ tkI M (nuB M 0 (nI k - 1)) = nI (tn (tkI M (nuB M 0 (nI k - 1)))) := by
  obtain ⟨h1, h2⟩ := h
  rw [tkI, if_pos h1, if_neg h2]
  unfold nuB at h2
  split at h2
  · exact in_tn h7 h2
  · exact absurd rfl h2
def qB (M : NV) (a : Int32) (k : Nat) : Int32 := if M 0 3 = 2 then (if inI (M 0 5) 0 (nI k - 1) = 0 then 0 else if M 0 5 = a then 0 else 1) else 0
theorem qB_nat {M : NV} {k : Nat} {a : Int32} (h7 : k ≤ 7) (h : M 0 6 < 0 ∧ ¬ qB M a k = 0) : tn (tkI M (qB M a k)) < k ∧ tkI M (qB M a k) = nI (tn (tkI M (qB M a k))) := by
  obtain ⟨h1, h2⟩ := h
  rw [tkI, if_pos h1, if_neg h2]
  unfold qB at h2
  split at h2
  · split at h2
    · exact absurd rfl h2
    · rename_i hi; exact in_tn h7 hi
  · exact absurd rfl h2
theorem i7j {v : Int32} {j : Nat} (h : v = nI j) : (7 : Int32) + v = nI (7 + j) := by rw [h]; exact nI_add 7 j
theorem i7 {v : Int32} (h : v = nI (tn v)) : (7 : Int32) + v = nI (7 + tn v) := by
  have : (7 : Int32) + nI (tn v) = nI (7 + tn v) := nI_add 7 (tn v)
  rw [← h] at this; exact this
def nmS (z : Nat) (M : NV) (lo hi : Int32) : NV := tkS z M (nuB M lo hi)
def nmI (M : NV) (lo hi : Int32) : Int32 := tkI M (nuB M lo hi)
def riA (z : Nat) (M : NV) : NV := upA (nmS z M 1 4) 2 (upd (nmS z M 1 4 2) 3 (nmI M 1 4))
def riP1 (z : Nat) (M : NV) (k : Nat) : NV := upA (nmS z M 0 (M 2 3 - 1)) 3 (upd (nmS z M 0 (M 2 3 - 1) 3) k (nmI M 0 (M 2 3 - 1)))
def riP2 (z : Nat) (M : NV) (k : Nat) : NV := upA (nmS z M 0 99) 4 (upd (nmS z M 0 99 4) k (nmI M 0 99))
def riP3 (z : Nat) (M : NV) (k : Nat) : NV := upA (upA (nmS z M 0 31) 2 (upd (nmS z M 0 31 2) 4 (nmS z M 0 31 2 4 + 1))) 5 (upd (nmS z M 0 31 5) (7 + k) (nmI M 0 31))
def riQ2 (M : NV) (a b : Int32) : NV := if M 0 6 < 0 then upA M 6 (upd (upd (M 6) (7 + tn a) (M 6 (7 + tn a) ||| ((1 : Int32) <<< (b &&& 31)))) (7 + tn b) (upd (M 6) (7 + tn a) (M 6 (7 + tn a) ||| ((1 : Int32) <<< (b &&& 31))) (7 + tn b) ||| ((1 : Int32) <<< (a &&& 31)))) else M
def riQ1 (z : Nat) (M : NV) (a : Int32) (k : Nat) : NV := riQ2 (tkS z M (qB M a k)) a (tkI M (qB M a k))
def riQ (z : Nat) (M : NV) (k : Nat) : NV := riQ1 z (nmS z M 0 (nI k - 1)) (nmI M 0 (nI k - 1)) k
def riL (z : Nat) (M : NV) : NV := upA (upA (nmS z M 0 15) 2 (upd (nmS z M 0 15 2) 5 (nmI M 0 15))) 0 (upd (nmS z M 0 15 0) 7 1)
def riM (z : Nat) (M : NV) (w : Int32) (k : Nat) : NV := if w = 110 then riA z M else if w = 112 then riP3 z (riP2 z (riP1 z M k) k) k else if w = 113 then riQ z M k else riL z M

set_option maxHeartbeats 4000000 in
set_option maxRecDepth 100000 in
theorem c_X9_readsItem_n (l : Launch) (D : va_G) (cI cZ cN : ClassId) (b : Nat → Nat) (M : NV) (tr : Int64) (z : Nat) (hz2 : z ≤ 200) (hw : wfm z M) (Dn : Nat) (hD : M 2 4 = nI Dn) (hD7 : Dn ≤ 7) (hpl : 0 ≤ M 0 4) (k : Int32) (hk : k = 112 → Dn < 7) (hq : k = 110) : CtV l yX9_readsItem cX9_readsItem 4 4 D (tyG cI cZ cN) [.ref (b 0), .int k] (pMod cI cZ b M tr) (fun w => w = (pMod cI cZ b (riM z M k Dn) tr)) := by
  refine CtV.of rfl (Nat.le_of_ble_eq_true rfl) ?_
  intro pg ev sx mx ax bx mt cx ls Qx Ax Sx hret hW hl
  have hx := Sx.1
  have hb := Sx.2.1
  have hl : lv_has ls 4 [(0, .ref (b 0)), (1, .int k)] := hl
  refine lv_iload_n hx hb dX9_readsItem_0 rfl (lv_at hl 1 rfl) ?_
  refine lv_bipush (v := (110 : Int32)) hx hb dX9_readsItem_1 rfl ?_
  refine lv_icmp_ne (tgt := 21) hx hb dX9_readsItem_3 rfl (fun c_3 => ?_) (fun c_3 => ?_)
  · exact absurd hq c_3
  · refine lv_aload_n hx hb dX9_readsItem_6 rfl (lv_at hl 0 rfl) ?_
    refine r_get Sx hW 0 rfl rfl bw_wsX90 9 (by decide) (v := .ref (b 2)) rfl mw115 dX9_readsItem_7 ?_
    refine lv_iconst (v := (3 : Int32)) hx hb dX9_readsItem_10 rfl ?_
    refine lv_aload_n hx hb dX9_readsItem_11 rfl (lv_at hl 0 rfl) ?_
    refine lv_iconst (v := (1 : Int32)) hx hb dX9_readsItem_12 rfl ?_
    refine lv_iconst (v := (4 : Int32)) hx hb dX9_readsItem_13 rfl ?_
    refine callVI Sx hW (c_X9_number l D cI cZ cN b M tr z hz2 hw (1 : Int32) (4 : Int32)) vmX9_number mw276 [0, 1, 2, 3, 4, 5, 6, 7, 8, 9, 10, 11, 12, 13, 14, 15, 16, 17] rfl (by decide) 0 rfl rfl (As := [.int (1 : Int32), .int (4 : Int32)]) (rest := [.int (3 : Int32), .ref (b 2)]) rfl rfl hl.1 (Nat.le_of_ble_eq_true rfl) ⟨Nat.le_of_ble_eq_true rfl, Nat.le_of_ble_eq_true rfl⟩ ⟨Nat.le_refl _, Nat.le_refl _⟩ dX9_readsItem_14 (fun rx wx H locs hqx hW => ?_)
    obtain ⟨hrx, rfl⟩ := hqx
    obtain ⟨M_14, hM_14⟩ : ∃ gX, gX = tkS z M (nuB M (1 : Int32) (4 : Int32)) := ⟨_, rfl⟩
    obtain ⟨v_14, hv_14⟩ : ∃ gX, gX = tkI M (nuB M (1 : Int32) (4 : Int32)) := ⟨_, rfl⟩
    rw [← hM_14] at hW
    rw [← hv_14] at hrx
    have hw_14 : wfm z M_14 := by rw [hM_14]; exact wfm_tk hz2 hw
    have hW : AtC D (tyG cI cZ cN) Ax (pMod cI cZ b M_14 tr) sx H locs := hW.re [] 18 (by decide) rfl rfl trivial (by decide +kernel) rfl rfl
    refine r_eq (y := v_14) hrx ?_
    refine r_iast Sx hW 2 0 rfl rfl (j := 3) rfl (by decide) (by decide) dX9_readsItem_17 (ws' := (pMod cI cZ b (upA M_14 2 (upd (M_14 2) 3 v_14)) tr)) rfl (fun H locs hW => ?_)
    refine lv_goto (tgt := 218) hx hb dX9_readsItem_18 rfl ?_
    exact hret _ _ _ _ _ hW rfl dX9_readsItem_218 (by rw [riM, if_pos c_3, riA, nmS, nmI, ← hM_14, ← hv_14] <;> rfl)

set_option maxHeartbeats 4000000 in
set_option maxRecDepth 100000 in
theorem c_X9_readsItem_l (l : Launch) (D : va_G) (cI cZ cN : ClassId) (b : Nat → Nat) (M : NV) (tr : Int64) (z : Nat) (hz2 : z ≤ 200) (hw : wfm z M) (Dn : Nat) (hD : M 2 4 = nI Dn) (hD7 : Dn ≤ 7) (hpl : 0 ≤ M 0 4) (k : Int32) (hk : k = 112 → Dn < 7) (h1 : ¬ k = 110) (h2 : ¬ k = 112) (h3 : ¬ k = 113) : CtV l yX9_readsItem cX9_readsItem 4 4 D (tyG cI cZ cN) [.ref (b 0), .int k] (pMod cI cZ b M tr) (fun w => w = (pMod cI cZ b (riM z M k Dn) tr)) := by
  refine CtV.of rfl (Nat.le_of_ble_eq_true rfl) ?_
  intro pg ev sx mx ax bx mt cx ls Qx Ax Sx hret hW hl
  have hx := Sx.1
  have hb := Sx.2.1
  have hl : lv_has ls 4 [(0, .ref (b 0)), (1, .int k)] := hl
  refine lv_iload_n hx hb dX9_readsItem_0 rfl (lv_at hl 1 rfl) ?_
  refine lv_bipush (v := (110 : Int32)) hx hb dX9_readsItem_1 rfl ?_
  refine lv_icmp_ne (tgt := 21) hx hb dX9_readsItem_3 rfl (fun c_3 => ?_) (fun c_3 => ?_)
  · refine lv_iload_n hx hb dX9_readsItem_21 rfl (lv_at hl 1 rfl) ?_
    refine lv_bipush (v := (112 : Int32)) hx hb dX9_readsItem_22 rfl ?_
    refine lv_icmp_ne (tgt := 95) hx hb dX9_readsItem_24 rfl (fun c_24 => ?_) (fun c_24 => ?_)
    · refine lv_iload_n hx hb dX9_readsItem_95 rfl (lv_at hl 1 rfl) ?_
      refine lv_bipush (v := (113 : Int32)) hx hb dX9_readsItem_96 rfl ?_
      refine lv_icmp_ne (tgt := 200) hx hb dX9_readsItem_98 rfl (fun c_98 => ?_) (fun c_98 => ?_)
      · refine lv_aload_n hx hb dX9_readsItem_200 rfl (lv_at hl 0 rfl) ?_
        refine r_get Sx hW 0 rfl rfl bw_wsX90 9 (by decide) (v := .ref (b 2)) rfl mw115 dX9_readsItem_201 ?_
        refine lv_iconst (v := (5 : Int32)) hx hb dX9_readsItem_204 rfl ?_
        refine lv_aload_n hx hb dX9_readsItem_205 rfl (lv_at hl 0 rfl) ?_
        refine lv_iconst (v := (0 : Int32)) hx hb dX9_readsItem_206 rfl ?_
        refine lv_bipush (v := (15 : Int32)) hx hb dX9_readsItem_207 rfl ?_
        refine callVI Sx hW (c_X9_number l D cI cZ cN b M tr z hz2 hw (0 : Int32) (15 : Int32)) vmX9_number mw276 [0, 1, 2, 3, 4, 5, 6, 7, 8, 9, 10, 11, 12, 13, 14, 15, 16, 17] rfl (by decide) 0 rfl rfl (As := [.int (0 : Int32), .int (15 : Int32)]) (rest := [.int (5 : Int32), .ref (b 2)]) rfl rfl hl.1 (Nat.le_of_ble_eq_true rfl) ⟨Nat.le_of_ble_eq_true rfl, Nat.le_of_ble_eq_true rfl⟩ ⟨Nat.le_refl _, Nat.le_refl _⟩ dX9_readsItem_209 (fun rx wx H locs hqx hW => ?_)
        obtain ⟨hrx, rfl⟩ := hqx
        obtain ⟨M_209, hM_209⟩ : ∃ gX, gX = tkS z M (nuB M (0 : Int32) (15 : Int32)) := ⟨_, rfl⟩
        obtain ⟨v_209, hv_209⟩ : ∃ gX, gX = tkI M (nuB M (0 : Int32) (15 : Int32)) := ⟨_, rfl⟩
        rw [← hM_209] at hW
        rw [← hv_209] at hrx
        have hw_209 : wfm z M_209 := by rw [hM_209]; exact wfm_tk hz2 hw
        have hW : AtC D (tyG cI cZ cN) Ax (pMod cI cZ b M_209 tr) sx H locs := hW.re [] 18 (by decide) rfl rfl trivial (by decide +kernel) rfl rfl
        refine r_eq (y := v_209) hrx ?_
        refine r_iast Sx hW 2 0 rfl rfl (j := 5) rfl (by decide) (by decide) dX9_readsItem_212 (ws' := (pMod cI cZ b (upA M_209 2 (upd (M_209 2) 5 v_209)) tr)) rfl (fun H locs hW => ?_)
        refine lv_aload_n hx hb dX9_readsItem_213 rfl (lv_at hl 0 rfl) ?_
        refine lv_iconst (v := (1 : Int32)) hx hb dX9_readsItem_214 rfl ?_
        refine r_put Sx hW 0 rfl rfl bw_wsX90 tyX9_ok nmX9 14 (by decide) mw248 rfl rfl rfl (Nat.le_of_ble_eq_true rfl) dX9_readsItem_215 (ws' := (pMod cI cZ b (upA (upA M_209 2 (upd (M_209 2) 5 v_209)) 0 (upd (M_209 0) 7 (1 : Int32))) tr)) rfl (fun H locs hW => ?_)
        exact hret _ _ _ _ _ hW rfl dX9_readsItem_218 (by rw [riM, if_neg c_3, if_neg c_24, if_neg c_98, riL, nmS, nmI, ← hM_209, ← hv_209] <;> rfl)
      · exact absurd c_98 h3
    · exact absurd c_24 h2
  · exact absurd c_3 h1

set_option maxHeartbeats 4000000 in
set_option maxRecDepth 100000 in
theorem c_X9_readsItem_p (l : Launch) (D : va_G) (cI cZ cN : ClassId) (b : Nat → Nat) (M : NV) (tr : Int64) (z : Nat) (hz2 : z ≤ 200) (hw : wfm z M) (Dn : Nat) (hD : M 2 4 = nI Dn) (hD7 : Dn ≤ 7) (hpl : 0 ≤ M 0 4) (k : Int32) (hk : k = 112 → Dn < 7) (h1 : ¬ k = 110) (hq : k = 112) : CtV l yX9_readsItem cX9_readsItem 4 4 D (tyG cI cZ cN) [.ref (b 0), .int k] (pMod cI cZ b M tr) (fun w => w = (pMod cI cZ b (riM z M k Dn) tr)) := by
  refine CtV.of rfl (Nat.le_of_ble_eq_true rfl) ?_
  intro pg ev sx mx ax bx mt cx ls Qx Ax Sx hret hW hl
  have hx := Sx.1
  have hb := Sx.2.1
  have hl : lv_has ls 4 [(0, .ref (b 0)), (1, .int k)] := hl
  refine lv_iload_n hx hb dX9_readsItem_0 rfl (lv_at hl 1 rfl) ?_
  refine lv_bipush (v := (110 : Int32)) hx hb dX9_readsItem_1 rfl ?_
  refine lv_icmp_ne (tgt := 21) hx hb dX9_readsItem_3 rfl (fun c_3 => ?_) (fun c_3 => ?_)
  · refine lv_iload_n hx hb dX9_readsItem_21 rfl (lv_at hl 1 rfl) ?_
    refine lv_bipush (v := (112 : Int32)) hx hb dX9_readsItem_22 rfl ?_
    refine lv_icmp_ne (tgt := 95) hx hb dX9_readsItem_24 rfl (fun c_24 => ?_) (fun c_24 => ?_)
    · exact absurd hq c_24
    · have hDl := hk c_24
      refine lv_aload_n hx hb dX9_readsItem_27 rfl (lv_at hl 0 rfl) ?_
      refine r_get Sx hW 0 rfl rfl bw_wsX90 9 (by decide) (v := .ref (b 2)) rfl mw115 dX9_readsItem_28 ?_
      refine lv_iconst (v := (4 : Int32)) hx hb dX9_readsItem_31 rfl ?_
      refine r_iald Sx hW 2 0 rfl rfl (j := 4) rfl (by decide) (by decide) dX9_readsItem_32 ?_
      refine r_eq (y := (nI Dn)) hD ?_
      refine lv_istore_n (lv' := [(2, .int (nI Dn)), (0, .ref (b 0)), (1, .int k)]) hx hb dX9_readsItem_33 rfl hl (by decide) rfl (fun ls hl => ?_)
      refine lv_aload_n hx hb dX9_readsItem_34 rfl (lv_at hl 1 rfl) ?_
      refine r_get Sx hW 0 rfl rfl bw_wsX90 10 (by decide) (v := .ref (b 3)) rfl mw116 dX9_readsItem_35 ?_
      refine lv_iload_n hx hb dX9_readsItem_38 rfl (lv_at hl 0 rfl) ?_
      refine lv_aload_n hx hb dX9_readsItem_39 rfl (lv_at hl 1 rfl) ?_
      refine lv_iconst (v := (0 : Int32)) hx hb dX9_readsItem_40 rfl ?_
      refine lv_aload_n hx hb dX9_readsItem_41 rfl (lv_at hl 1 rfl) ?_
      refine r_get Sx hW 0 rfl rfl bw_wsX90 9 (by decide) (v := .ref (b 2)) rfl mw115 dX9_readsItem_42 ?_
      refine lv_iconst (v := (3 : Int32)) hx hb dX9_readsItem_45 rfl ?_
      refine r_iald Sx hW 2 0 rfl rfl (j := 3) rfl (by decide) (by decide) dX9_readsItem_46 ?_
      refine lv_iconst (v := (1 : Int32)) hx hb dX9_readsItem_47 rfl ?_
      refine lv_isub hx hb dX9_readsItem_48 ?_
      refine callVI Sx hW (c_X9_number l D cI cZ cN b M tr z hz2 hw (0 : Int32) (((M 2) 3) - (1 : Int32))) vmX9_number mw276 [0, 1, 2, 3, 4, 5, 6, 7, 8, 9, 10, 11, 12, 13, 14, 15, 16, 17] rfl (by decide) 0 rfl rfl (As := [.int (0 : Int32), .int (((M 2) 3) - (1 : Int32))]) (rest := [.int (nI Dn), .ref (b 3)]) rfl rfl hl.1 (Nat.le_of_ble_eq_true rfl) ⟨Nat.le_of_ble_eq_true rfl, Nat.le_of_ble_eq_true rfl⟩ ⟨Nat.le_refl _, Nat.le_refl _⟩ dX9_readsItem_49 (fun rx wx H locs hqx hW => ?_)
      obtain ⟨hrx, rfl⟩ := hqx
      obtain ⟨M_49, hM_49⟩ : ∃ gX, gX = tkS z M (nuB M (0 : Int32) (((M 2) 3) - (1 : Int32))) := ⟨_, rfl⟩
      obtain ⟨v_49, hv_49⟩ : ∃ gX, gX = tkI M (nuB M (0 : Int32) (((M 2) 3) - (1 : Int32))) := ⟨_, rfl⟩
      rw [← hM_49] at hW
      rw [← hv_49] at hrx
      have hw_49 : wfm z M_49 := by rw [hM_49]; exact wfm_tk hz2 hw
      have hW : AtC D (tyG cI cZ cN) Ax (pMod cI cZ b M_49 tr) sx H locs := hW.re [] 18 (by decide) rfl rfl trivial (by decide +kernel) rfl rfl
      refine r_eq (y := v_49) hrx ?_
      refine r_iast Sx hW 3 0 rfl rfl (j := Dn) rfl (by omega) (by decide) dX9_readsItem_52 (ws' := (pMod cI cZ b (upA M_49 3 (upd (M_49 3) Dn v_49)) tr)) rfl (fun H locs hW => ?_)
      refine lv_aload_n hx hb dX9_readsItem_53 rfl (lv_at hl 1 rfl) ?_
      refine r_get Sx hW 0 rfl rfl bw_wsX90 11 (by decide) (v := .ref (b 4)) rfl mw117 dX9_readsItem_54 ?_
      refine lv_iload_n hx hb dX9_readsItem_57 rfl (lv_at hl 0 rfl) ?_
      refine lv_aload_n hx hb dX9_readsItem_58 rfl (lv_at hl 1 rfl) ?_
      refine lv_iconst (v := (0 : Int32)) hx hb dX9_readsItem_59 rfl ?_
      refine lv_bipush (v := (99 : Int32)) hx hb dX9_readsItem_60 rfl ?_
      refine callVI Sx hW (c_X9_number l D cI cZ cN b (upA M_49 3 (upd (M_49 3) Dn v_49)) tr z hz2 (wfm_up (c := 3) rfl rfl hw_49) (0 : Int32) (99 : Int32)) vmX9_number mw276 [0, 1, 2, 3, 4, 5, 6, 7, 8, 9, 10, 11, 12, 13, 14, 15, 16, 17] rfl (by decide) 0 rfl rfl (As := [.int (0 : Int32), .int (99 : Int32)]) (rest := [.int (nI Dn), .ref (b 4)]) rfl rfl hl.1 (Nat.le_of_ble_eq_true rfl) ⟨Nat.le_of_ble_eq_true rfl, Nat.le_of_ble_eq_true rfl⟩ ⟨Nat.le_refl _, Nat.le_refl _⟩ dX9_readsItem_62 (fun rx wx H locs hqx hW => ?_)
      obtain ⟨hrx, rfl⟩ := hqx
      obtain ⟨M_62, hM_62⟩ : ∃ gX, gX = tkS z (upA M_49 3 (upd (M_49 3) Dn v_49)) (nuB (upA M_49 3 (upd (M_49 3) Dn v_49)) (0 : Int32) (99 : Int32)) := ⟨_, rfl⟩
      obtain ⟨v_62, hv_62⟩ : ∃ gX, gX = tkI (upA M_49 3 (upd (M_49 3) Dn v_49)) (nuB (upA M_49 3 (upd (M_49 3) Dn v_49)) (0 : Int32) (99 : Int32)) := ⟨_, rfl⟩
      rw [← hM_62] at hW
      rw [← hv_62] at hrx
      have hw_62 : wfm z M_62 := by rw [hM_62]; exact wfm_tk hz2 (wfm_up (c := 3) rfl rfl hw_49)
      have hW : AtC D (tyG cI cZ cN) Ax (pMod cI cZ b M_62 tr) sx H locs := hW.re [] 18 (by decide) rfl rfl trivial (by decide +kernel) rfl rfl
      refine r_eq (y := v_62) hrx ?_
      refine r_iast Sx hW 4 0 rfl rfl (j := Dn) rfl (by omega) (by decide) dX9_readsItem_65 (ws' := (pMod cI cZ b (upA M_62 4 (upd (M_62 4) Dn v_62)) tr)) rfl (fun H locs hW => ?_)
      refine lv_aload_n hx hb dX9_readsItem_66 rfl (lv_at hl 1 rfl) ?_
      refine r_get Sx hW 0 rfl rfl bw_wsX90 12 (by decide) (v := .ref (b 5)) rfl mw118 dX9_readsItem_67 ?_
      refine lv_bipush (v := (7 : Int32)) hx hb dX9_readsItem_70 rfl ?_
      refine lv_iload_n hx hb dX9_readsItem_72 rfl (lv_at hl 0 rfl) ?_
      refine lv_iadd hx hb dX9_readsItem_73 ?_
      refine r_eq (y := (nI (7 + Dn))) (nI_add 7 Dn) ?_
      refine lv_aload_n hx hb dX9_readsItem_74 rfl (lv_at hl 1 rfl) ?_
      refine lv_iconst (v := (0 : Int32)) hx hb dX9_readsItem_75 rfl ?_
      refine lv_bipush (v := (31 : Int32)) hx hb dX9_readsItem_76 rfl ?_
      refine callVI Sx hW (c_X9_number l D cI cZ cN b (upA M_62 4 (upd (M_62 4) Dn v_62)) tr z hz2 (wfm_up (c := 4) rfl rfl hw_62) (0 : Int32) (31 : Int32)) vmX9_number mw276 [0, 1, 2, 3, 4, 5, 6, 7, 8, 9, 10, 11, 12, 13, 14, 15, 16, 17] rfl (by decide) 0 rfl rfl (As := [.int (0 : Int32), .int (31 : Int32)]) (rest := [.int (nI (7 + Dn)), .ref (b 5)]) rfl rfl hl.1 (Nat.le_of_ble_eq_true rfl) ⟨Nat.le_of_ble_eq_true rfl, Nat.le_of_ble_eq_true rfl⟩ ⟨Nat.le_refl _, Nat.le_refl _⟩ dX9_readsItem_78 (fun rx wx H locs hqx hW => ?_)
      obtain ⟨hrx, rfl⟩ := hqx
      obtain ⟨M_78, hM_78⟩ : ∃ gX, gX = tkS z (upA M_62 4 (upd (M_62 4) Dn v_62)) (nuB (upA M_62 4 (upd (M_62 4) Dn v_62)) (0 : Int32) (31 : Int32)) := ⟨_, rfl⟩
      obtain ⟨v_78, hv_78⟩ : ∃ gX, gX = tkI (upA M_62 4 (upd (M_62 4) Dn v_62)) (nuB (upA M_62 4 (upd (M_62 4) Dn v_62)) (0 : Int32) (31 : Int32)) := ⟨_, rfl⟩
      rw [← hM_78] at hW
      rw [← hv_78] at hrx
      have hw_78 : wfm z M_78 := by rw [hM_78]; exact wfm_tk hz2 (wfm_up (c := 4) rfl rfl hw_62)
      have hW : AtC D (tyG cI cZ cN) Ax (pMod cI cZ b M_78 tr) sx H locs := hW.re [] 18 (by decide) rfl rfl trivial (by decide +kernel) rfl rfl
      refine r_eq (y := v_78) hrx ?_
      refine r_iast Sx hW 5 0 rfl rfl (j := 7 + Dn) rfl (by omega) (by decide) dX9_readsItem_81 (ws' := (pMod cI cZ b (upA M_78 5 (upd (M_78 5) (7 + Dn) v_78)) tr)) rfl (fun H locs hW => ?_)
      refine lv_aload_n hx hb dX9_readsItem_82 rfl (lv_at hl 1 rfl) ?_
      refine r_get Sx hW 0 rfl rfl bw_wsX90 9 (by decide) (v := .ref (b 2)) rfl mw115 dX9_readsItem_83 ?_
      refine lv_iconst (v := (4 : Int32)) hx hb dX9_readsItem_86 rfl ?_
      refine lv_dup2_11 hx hb dX9_readsItem_87 rfl rfl ?_
      refine r_iald Sx hW 2 0 (f := (M_78 2)) rfl rfl (j := 4) rfl (by decide) (by decide) dX9_readsItem_88 ?_
      refine lv_iconst (v := (1 : Int32)) hx hb dX9_readsItem_89 rfl ?_
      refine lv_iadd hx hb dX9_readsItem_90 ?_
      refine r_iast Sx hW 2 0 rfl rfl (j := 4) rfl (by decide) (by decide) dX9_readsItem_91 (ws' := (pMod cI cZ b (upA (upA M_78 2 (upd (M_78 2) 4 (((M_78 2) 4) + (1 : Int32)))) 5 (upd (M_78 5) (7 + Dn) v_78)) tr)) rfl (fun H locs hW => ?_)
      refine lv_goto (tgt := 218) hx hb dX9_readsItem_92 rfl ?_
      exact hret _ _ _ _ _ hW rfl dX9_readsItem_218 (by rw [riM, if_neg c_3, if_pos c_24, riP1, nmS, nmI, ← hM_49, ← hv_49, riP2, nmS, nmI, ← hM_62, ← hv_62, riP3, nmS, nmI, ← hM_78, ← hv_78] <;> rfl)
  · exact absurd c_3 h1

set_option maxHeartbeats 4000000 in
set_option maxRecDepth 100000 in
theorem c_X9_readsItem_q (l : Launch) (D : va_G) (cI cZ cN : ClassId) (b : Nat → Nat) (M : NV) (tr : Int64) (z : Nat) (hz2 : z ≤ 200) (hw : wfm z M) (Dn : Nat) (hD : M 2 4 = nI Dn) (hD7 : Dn ≤ 7) (hpl : 0 ≤ M 0 4) (k : Int32) (hk : k = 112 → Dn < 7) (h1 : ¬ k = 110) (h2 : ¬ k = 112) (hq : k = 113) : CtV l yX9_readsItem cX9_readsItem 4 4 D (tyG cI cZ cN) [.ref (b 0), .int k] (pMod cI cZ b M tr) (fun w => w = (pMod cI cZ b (riM z M k Dn) tr)) := by
  refine CtV.of rfl (Nat.le_of_ble_eq_true rfl) ?_
  intro pg ev sx mx ax bx mt cx ls Qx Ax Sx hret hW hl
  have hx := Sx.1
  have hb := Sx.2.1
  have hl : lv_has ls 4 [(0, .ref (b 0)), (1, .int k)] := hl
  refine lv_iload_n hx hb dX9_readsItem_0 rfl (lv_at hl 1 rfl) ?_
  refine lv_bipush (v := (110 : Int32)) hx hb dX9_readsItem_1 rfl ?_
  refine lv_icmp_ne (tgt := 21) hx hb dX9_readsItem_3 rfl (fun c_3 => ?_) (fun c_3 => ?_)
  · refine lv_iload_n hx hb dX9_readsItem_21 rfl (lv_at hl 1 rfl) ?_
    refine lv_bipush (v := (112 : Int32)) hx hb dX9_readsItem_22 rfl ?_
    refine lv_icmp_ne (tgt := 95) hx hb dX9_readsItem_24 rfl (fun c_24 => ?_) (fun c_24 => ?_)
    · refine lv_iload_n hx hb dX9_readsItem_95 rfl (lv_at hl 1 rfl) ?_
      refine lv_bipush (v := (113 : Int32)) hx hb dX9_readsItem_96 rfl ?_
      refine lv_icmp_ne (tgt := 200) hx hb dX9_readsItem_98 rfl (fun c_98 => ?_) (fun c_98 => ?_)
      · exact absurd hq c_98
      · refine lv_aload_n hx hb dX9_readsItem_101 rfl (lv_at hl 0 rfl) ?_
        refine lv_iconst (v := (0 : Int32)) hx hb dX9_readsItem_102 rfl ?_
        refine lv_aload_n hx hb dX9_readsItem_103 rfl (lv_at hl 0 rfl) ?_
        refine r_get Sx hW 0 rfl rfl bw_wsX90 9 (by decide) (v := .ref (b 2)) rfl mw115 dX9_readsItem_104 ?_
        refine lv_iconst (v := (4 : Int32)) hx hb dX9_readsItem_107 rfl ?_
        refine r_iald Sx hW 2 0 rfl rfl (j := 4) rfl (by decide) (by decide) dX9_readsItem_108 ?_
        refine r_eq (y := (nI Dn)) hD ?_
        refine lv_iconst (v := (1 : Int32)) hx hb dX9_readsItem_109 rfl ?_
        refine lv_isub hx hb dX9_readsItem_110 ?_
        refine callVI Sx hW (c_X9_number l D cI cZ cN b M tr z hz2 hw (0 : Int32) ((nI Dn) - (1 : Int32))) vmX9_number mw276 [0, 1, 2, 3, 4, 5, 6, 7, 8, 9, 10, 11, 12, 13, 14, 15, 16, 17] rfl (by decide) 0 rfl rfl (As := [.int (0 : Int32), .int ((nI Dn) - (1 : Int32))]) (rest := []) rfl rfl hl.1 (Nat.le_of_ble_eq_true rfl) ⟨Nat.le_of_ble_eq_true rfl, Nat.le_of_ble_eq_true rfl⟩ ⟨Nat.le_refl _, Nat.le_refl _⟩ dX9_readsItem_111 (fun rx wx H locs hqx hW => ?_)
        obtain ⟨hrx, rfl⟩ := hqx
        obtain ⟨M_111, hM_111⟩ : ∃ gX, gX = tkS z M (nuB M (0 : Int32) ((nI Dn) - (1 : Int32))) := ⟨_, rfl⟩
        obtain ⟨v_111, hv_111⟩ : ∃ gX, gX = tkI M (nuB M (0 : Int32) ((nI Dn) - (1 : Int32))) := ⟨_, rfl⟩
        rw [← hM_111] at hW
        rw [← hv_111] at hrx
        have hw_111 : wfm z M_111 := by rw [hM_111]; exact wfm_tk hz2 hw
        have hW : AtC D (tyG cI cZ cN) Ax (pMod cI cZ b M_111 tr) sx H locs := hW.re [] 18 (by decide) rfl rfl trivial (by decide +kernel) rfl rfl
        refine r_eq (y := v_111) hrx ?_
        refine lv_istore_n (lv' := [(2, .int v_111), (0, .ref (b 0)), (1, .int k)]) hx hb dX9_readsItem_114 rfl hl (by decide) rfl (fun ls hl => ?_)
        refine lv_aload_n hx hb dX9_readsItem_115 rfl (lv_at hl 1 rfl) ?_
        refine lv_aload_n hx hb dX9_readsItem_116 rfl (lv_at hl 1 rfl) ?_
        refine r_get Sx hW 0 rfl rfl bw_wsX90 5 (by decide) (v := .int (M_111 0 3)) rfl mw249 dX9_readsItem_117 ?_
        refine lv_iconst (v := (2 : Int32)) hx hb dX9_readsItem_120 rfl ?_
        refine lv_icmp_ne (tgt := 155) hx hb dX9_readsItem_121 rfl (fun c_121 => ?_) (fun c_121 => ?_)
        · refine lv_iconst (v := (0 : Int32)) hx hb dX9_readsItem_155 rfl ?_
          refine r_eq (y := (qB M_111 v_111 Dn)) (by rw [qB, if_neg c_121]) ?_
          refine callVI Sx hW (c_X9_takes l D cI cZ cN b M_111 tr z hz2 hw_111 (qB M_111 v_111 Dn)) vmX9_takes mw268 [0, 1, 2, 3, 4, 5, 6, 7, 8, 9, 10, 11, 12, 13, 14, 15, 16, 17] rfl (by decide) 0 rfl rfl (As := [.int (qB M_111 v_111 Dn)]) (rest := []) rfl rfl hl.1 (Nat.le_of_ble_eq_true rfl) ⟨Nat.le_of_ble_eq_true rfl, Nat.le_of_ble_eq_true rfl⟩ ⟨Nat.le_refl _, Nat.le_refl _⟩ dX9_readsItem_156 (fun rx wx H locs hqx hW => ?_)
          obtain ⟨hrx, rfl⟩ := hqx
          obtain ⟨M_156, hM_156⟩ : ∃ gX, gX = tkS z M_111 (qB M_111 v_111 Dn) := ⟨_, rfl⟩
          obtain ⟨v_156, hv_156⟩ : ∃ gX, gX = tkI M_111 (qB M_111 v_111 Dn) := ⟨_, rfl⟩
          rw [← hM_156] at hW
          rw [← hv_156] at hrx
          have hw_156 : wfm z M_156 := by rw [hM_156]; exact wfm_tk hz2 hw_111
          have hW : AtC D (tyG cI cZ cN) Ax (pMod cI cZ b M_156 tr) sx H locs := hW.re [] 18 (by decide) rfl rfl trivial (by decide +kernel) rfl rfl
          refine r_eq (y := v_156) hrx ?_
          refine lv_istore_n (lv' := [(3, .int v_156), (2, .int v_111), (0, .ref (b 0)), (1, .int k)]) hx hb dX9_readsItem_159 rfl hl (by decide) rfl (fun ls hl => ?_)
          refine lv_aload_n hx hb dX9_readsItem_160 rfl (lv_at hl 2 rfl) ?_
          refine callVI Sx hW (c_X9_isWell l D cI cZ cN b M_156 tr) vmX9_isWell mw260 [0, 1, 2, 3, 4, 5, 6, 7, 8, 9, 10, 11, 12, 13, 14, 15, 16, 17] rfl (by decide) 0 rfl rfl (As := []) (rest := []) rfl rfl hl.1 (Nat.le_of_ble_eq_true rfl) ⟨Nat.le_of_ble_eq_true rfl, Nat.le_of_ble_eq_true rfl⟩ ⟨Nat.le_refl _, Nat.le_refl _⟩ dX9_readsItem_161 (fun rx wx H locs hqx hW => ?_)
          obtain ⟨hrx, rfl⟩ := hqx
          have hW : AtC D (tyG cI cZ cN) Ax (pMod cI cZ b M_156 tr) sx H locs := hW.re [] 18 (by decide) rfl rfl trivial (by decide +kernel) rfl rfl
          refine r_eq (y := (if (M_156 0 6) < 0 then (1 : Int32) else 0)) hrx ?_
          refine lv_if_eq (tgt := 197) hx hb dX9_readsItem_164 rfl (fun c_164 => ?_) (fun c_164 => ?_)
          · have hwl := wl_0 c_164
            refine lv_goto (tgt := 218) hx hb dX9_readsItem_197 rfl ?_
            exact hret _ _ _ _ _ hW rfl dX9_readsItem_218 (by rw [riM, if_neg c_3, if_neg c_24, if_pos c_98, riQ, nmS, nmI, ← hM_111, ← hv_111, riQ1, ← hM_156, ← hv_156, riQ2, if_neg hwl] <;> rfl)
          · have hwl := wl_1 c_164
            have pl1 : 0 ≤ M_111 0 4 := by rw [hM_111]; exact tk_pl hz2 hw hpl
            have w2 := tk_well (z := z) (M := M_111) (is := (qB M_111 v_111 Dn)) pl1 (by rw [← hM_156]; exact hwl)
            have w1 := tk_well (z := z) (M := M) (is := (nuB M 0 (nI Dn - 1))) hpl (by rw [← hM_111]; exact w2.1)
            have hA : tn v_111 < Dn ∧ v_111 = nI (tn v_111) := by rw [hv_111]; exact nu_nat hD7 w1
            have hB : tn v_156 < Dn ∧ v_156 = nI (tn v_156) := by rw [hv_156]; exact qB_nat hD7 w2
            obtain ⟨ja, hja⟩ : ∃ j, j = tn v_111 := ⟨_, rfl⟩
            obtain ⟨jb, hjb⟩ : ∃ j, j = tn v_156 := ⟨_, rfl⟩
            rw [← hja] at hA
            rw [← hjb] at hB
            refine lv_aload_n hx hb dX9_readsItem_167 rfl (lv_at hl 2 rfl) ?_
            refine r_get Sx hW 0 rfl rfl bw_wsX90 13 (by decide) (v := .ref (b 6)) rfl mw119 dX9_readsItem_168 ?_
            refine lv_bipush (v := (7 : Int32)) hx hb dX9_readsItem_171 rfl ?_
            refine lv_iload_n hx hb dX9_readsItem_173 rfl (lv_at hl 1 rfl) ?_
            refine lv_iadd hx hb dX9_readsItem_174 ?_
            refine lv_dup2_11 hx hb dX9_readsItem_175 rfl rfl ?_
            refine r_iald Sx hW 6 0 rfl rfl (j := (7 + ja)) (i7j hA.2) (by have := hA.1; omega) (by decide) dX9_readsItem_176 ?_
            refine lv_iconst (v := (1 : Int32)) hx hb dX9_readsItem_177 rfl ?_
            refine lv_iload_n hx hb dX9_readsItem_178 rfl (lv_at hl 0 rfl) ?_
            refine lv_ishl hx hb dX9_readsItem_179 ?_
            refine lv_ior hx hb dX9_readsItem_180 ?_
            refine r_iast Sx hW 6 0 rfl rfl (j := (7 + ja)) (i7j hA.2) (by have := hA.1; omega) (by decide) dX9_readsItem_181 (ws' := (pMod cI cZ b (upA M_156 6 (upd (M_156 6) (7 + ja) (((M_156 6) (7 + ja)) ||| ((1 : Int32) <<< (v_156 &&& 31))))) tr)) rfl (fun H locs hW => ?_)
            refine lv_aload_n hx hb dX9_readsItem_182 rfl (lv_at hl 2 rfl) ?_
            refine r_get Sx hW 0 rfl rfl bw_wsX90 13 (by decide) (v := .ref (b 6)) rfl mw119 dX9_readsItem_183 ?_
            refine lv_bipush (v := (7 : Int32)) hx hb dX9_readsItem_186 rfl ?_
            refine lv_iload_n hx hb dX9_readsItem_188 rfl (lv_at hl 0 rfl) ?_
            refine lv_iadd hx hb dX9_readsItem_189 ?_
            refine lv_dup2_11 hx hb dX9_readsItem_190 rfl rfl ?_
            refine r_iald Sx hW 6 0 (f := (upd (M_156 6) (7 + ja) (((M_156 6) (7 + ja)) ||| ((1 : Int32) <<< (v_156 &&& 31))))) rfl rfl (j := (7 + jb)) (i7j hB.2) (by have := hB.1; omega) (by decide) dX9_readsItem_191 ?_
            refine lv_iconst (v := (1 : Int32)) hx hb dX9_readsItem_192 rfl ?_
            refine lv_iload_n hx hb dX9_readsItem_193 rfl (lv_at hl 1 rfl) ?_
            refine lv_ishl hx hb dX9_readsItem_194 ?_
            refine lv_ior hx hb dX9_readsItem_195 ?_
            refine r_iast Sx hW 6 0 rfl rfl (j := (7 + jb)) (i7j hB.2) (by have := hB.1; omega) (by decide) dX9_readsItem_196 (ws' := (pMod cI cZ b (upA M_156 6 (upd (upd (M_156 6) (7 + ja) (((M_156 6) (7 + ja)) ||| ((1 : Int32) <<< (v_156 &&& 31)))) (7 + jb) (((upd (M_156 6) (7 + ja) (((M_156 6) (7 + ja)) ||| ((1 : Int32) <<< (v_156 &&& 31)))) (7 + jb)) ||| ((1 : Int32) <<< (v_111 &&& 31))))) tr)) rfl (fun H locs hW => ?_)
            refine lv_goto (tgt := 218) hx hb dX9_readsItem_197 rfl ?_
            exact hret _ _ _ _ _ hW rfl dX9_readsItem_218 (by rw [riM, if_neg c_3, if_neg c_24, if_pos c_98, riQ, nmS, nmI, ← hM_111, ← hv_111, riQ1, ← hM_156, ← hv_156, riQ2, if_pos hwl, ← hja, ← hjb] <;> rfl)
        · refine lv_aload_n hx hb dX9_readsItem_124 rfl (lv_at hl 1 rfl) ?_
          refine r_get Sx hW 0 rfl rfl bw_wsX90 7 (by decide) (v := .int (M_111 0 5)) rfl mw255 dX9_readsItem_125 ?_
          refine lv_iconst (v := (0 : Int32)) hx hb dX9_readsItem_128 rfl ?_
          refine lv_aload_n hx hb dX9_readsItem_129 rfl (lv_at hl 1 rfl) ?_
          refine r_get Sx hW 0 rfl rfl bw_wsX90 9 (by decide) (v := .ref (b 2)) rfl mw115 dX9_readsItem_130 ?_
          refine lv_iconst (v := (4 : Int32)) hx hb dX9_readsItem_133 rfl ?_
          refine r_iald Sx hW 2 0 rfl rfl (j := 4) rfl (by decide) (by decide) dX9_readsItem_134 ?_
          refine r_eq (y := (nI Dn)) (by rw [hM_111, tkS_row _ _ _ (by decide)]; exact hD) ?_
          refine lv_iconst (v := (1 : Int32)) hx hb dX9_readsItem_135 rfl ?_
          refine lv_isub hx hb dX9_readsItem_136 ?_
          refine callSI Sx hW (c_X9_in l D cI cZ cN (M_111 0 5) (0 : Int32) ((nI Dn) - (1 : Int32))) smX9_in mw146 (As := [.int (M_111 0 5), .int (0 : Int32), .int ((nI Dn) - (1 : Int32))]) (rest := [.ref (b 0)]) rfl rfl hl.1 (Nat.le_of_ble_eq_true rfl) ⟨Nat.le_of_ble_eq_true rfl, Nat.le_of_ble_eq_true rfl⟩ ⟨Nat.le_refl _, Nat.le_refl _⟩ dX9_readsItem_137 (fun rx H locs hqx hW => ?_)
          obtain ⟨hrx, -⟩ := hqx
          refine r_eq (y := (inI (M_111 0 5) (0 : Int32) ((nI Dn) - (1 : Int32)))) hrx ?_
          refine lv_if_eq (tgt := 155) hx hb dX9_readsItem_140 rfl (fun c_140 => ?_) (fun c_140 => ?_)
          · refine lv_iconst (v := (0 : Int32)) hx hb dX9_readsItem_155 rfl ?_
            refine r_eq (y := (qB M_111 v_111 Dn)) (by rw [qB, if_pos c_121, if_pos c_140]) ?_
            refine callVI Sx hW (c_X9_takes l D cI cZ cN b M_111 tr z hz2 hw_111 (qB M_111 v_111 Dn)) vmX9_takes mw268 [0, 1, 2, 3, 4, 5, 6, 7, 8, 9, 10, 11, 12, 13, 14, 15, 16, 17] rfl (by decide) 0 rfl rfl (As := [.int (qB M_111 v_111 Dn)]) (rest := []) rfl rfl hl.1 (Nat.le_of_ble_eq_true rfl) ⟨Nat.le_of_ble_eq_true rfl, Nat.le_of_ble_eq_true rfl⟩ ⟨Nat.le_refl _, Nat.le_refl _⟩ dX9_readsItem_156 (fun rx wx H locs hqx hW => ?_)
            obtain ⟨hrx, rfl⟩ := hqx
            obtain ⟨M_156, hM_156⟩ : ∃ gX, gX = tkS z M_111 (qB M_111 v_111 Dn) := ⟨_, rfl⟩
            obtain ⟨v_156, hv_156⟩ : ∃ gX, gX = tkI M_111 (qB M_111 v_111 Dn) := ⟨_, rfl⟩
            rw [← hM_156] at hW
            rw [← hv_156] at hrx
            have hw_156 : wfm z M_156 := by rw [hM_156]; exact wfm_tk hz2 hw_111
            have hW : AtC D (tyG cI cZ cN) Ax (pMod cI cZ b M_156 tr) sx H locs := hW.re [] 18 (by decide) rfl rfl trivial (by decide +kernel) rfl rfl
            refine r_eq (y := v_156) hrx ?_
            refine lv_istore_n (lv' := [(3, .int v_156), (2, .int v_111), (0, .ref (b 0)), (1, .int k)]) hx hb dX9_readsItem_159 rfl hl (by decide) rfl (fun ls hl => ?_)
            refine lv_aload_n hx hb dX9_readsItem_160 rfl (lv_at hl 2 rfl) ?_
            refine callVI Sx hW (c_X9_isWell l D cI cZ cN b M_156 tr) vmX9_isWell mw260 [0, 1, 2, 3, 4, 5, 6, 7, 8, 9, 10, 11, 12, 13, 14, 15, 16, 17] rfl (by decide) 0 rfl rfl (As := []) (rest := []) rfl rfl hl.1 (Nat.le_of_ble_eq_true rfl) ⟨Nat.le_of_ble_eq_true rfl, Nat.le_of_ble_eq_true rfl⟩ ⟨Nat.le_refl _, Nat.le_refl _⟩ dX9_readsItem_161 (fun rx wx H locs hqx hW => ?_)
            obtain ⟨hrx, rfl⟩ := hqx
            have hW : AtC D (tyG cI cZ cN) Ax (pMod cI cZ b M_156 tr) sx H locs := hW.re [] 18 (by decide) rfl rfl trivial (by decide +kernel) rfl rfl
            refine r_eq (y := (if (M_156 0 6) < 0 then (1 : Int32) else 0)) hrx ?_
            refine lv_if_eq (tgt := 197) hx hb dX9_readsItem_164 rfl (fun c_164 => ?_) (fun c_164 => ?_)
            · have hwl := wl_0 c_164
              refine lv_goto (tgt := 218) hx hb dX9_readsItem_197 rfl ?_
              exact hret _ _ _ _ _ hW rfl dX9_readsItem_218 (by rw [riM, if_neg c_3, if_neg c_24, if_pos c_98, riQ, nmS, nmI, ← hM_111, ← hv_111, riQ1, ← hM_156, ← hv_156, riQ2, if_neg hwl] <;> rfl)
            · have hwl := wl_1 c_164
              have pl1 : 0 ≤ M_111 0 4 := by rw [hM_111]; exact tk_pl hz2 hw hpl
              have w2 := tk_well (z := z) (M := M_111) (is := (qB M_111 v_111 Dn)) pl1 (by rw [← hM_156]; exact hwl)
              have w1 := tk_well (z := z) (M := M) (is := (nuB M 0 (nI Dn - 1))) hpl (by rw [← hM_111]; exact w2.1)
              have hA : tn v_111 < Dn ∧ v_111 = nI (tn v_111) := by rw [hv_111]; exact nu_nat hD7 w1
              have hB : tn v_156 < Dn ∧ v_156 = nI (tn v_156) := by rw [hv_156]; exact qB_nat hD7 w2
              obtain ⟨ja, hja⟩ : ∃ j, j = tn v_111 := ⟨_, rfl⟩
              obtain ⟨jb, hjb⟩ : ∃ j, j = tn v_156 := ⟨_, rfl⟩
              rw [← hja] at hA
              rw [← hjb] at hB
              refine lv_aload_n hx hb dX9_readsItem_167 rfl (lv_at hl 2 rfl) ?_
              refine r_get Sx hW 0 rfl rfl bw_wsX90 13 (by decide) (v := .ref (b 6)) rfl mw119 dX9_readsItem_168 ?_
              refine lv_bipush (v := (7 : Int32)) hx hb dX9_readsItem_171 rfl ?_
              refine lv_iload_n hx hb dX9_readsItem_173 rfl (lv_at hl 1 rfl) ?_
              refine lv_iadd hx hb dX9_readsItem_174 ?_
              refine lv_dup2_11 hx hb dX9_readsItem_175 rfl rfl ?_
              refine r_iald Sx hW 6 0 rfl rfl (j := (7 + ja)) (i7j hA.2) (by have := hA.1; omega) (by decide) dX9_readsItem_176 ?_
              refine lv_iconst (v := (1 : Int32)) hx hb dX9_readsItem_177 rfl ?_
              refine lv_iload_n hx hb dX9_readsItem_178 rfl (lv_at hl 0 rfl) ?_
              refine lv_ishl hx hb dX9_readsItem_179 ?_
              refine lv_ior hx hb dX9_readsItem_180 ?_
              refine r_iast Sx hW 6 0 rfl rfl (j := (7 + ja)) (i7j hA.2) (by have := hA.1; omega) (by decide) dX9_readsItem_181 (ws' := (pMod cI cZ b (upA M_156 6 (upd (M_156 6) (7 + ja) (((M_156 6) (7 + ja)) ||| ((1 : Int32) <<< (v_156 &&& 31))))) tr)) rfl (fun H locs hW => ?_)
              refine lv_aload_n hx hb dX9_readsItem_182 rfl (lv_at hl 2 rfl) ?_
              refine r_get Sx hW 0 rfl rfl bw_wsX90 13 (by decide) (v := .ref (b 6)) rfl mw119 dX9_readsItem_183 ?_
              refine lv_bipush (v := (7 : Int32)) hx hb dX9_readsItem_186 rfl ?_
              refine lv_iload_n hx hb dX9_readsItem_188 rfl (lv_at hl 0 rfl) ?_
              refine lv_iadd hx hb dX9_readsItem_189 ?_
              refine lv_dup2_11 hx hb dX9_readsItem_190 rfl rfl ?_
              refine r_iald Sx hW 6 0 (f := (upd (M_156 6) (7 + ja) (((M_156 6) (7 + ja)) ||| ((1 : Int32) <<< (v_156 &&& 31))))) rfl rfl (j := (7 + jb)) (i7j hB.2) (by have := hB.1; omega) (by decide) dX9_readsItem_191 ?_
              refine lv_iconst (v := (1 : Int32)) hx hb dX9_readsItem_192 rfl ?_
              refine lv_iload_n hx hb dX9_readsItem_193 rfl (lv_at hl 1 rfl) ?_
              refine lv_ishl hx hb dX9_readsItem_194 ?_
              refine lv_ior hx hb dX9_readsItem_195 ?_
              refine r_iast Sx hW 6 0 rfl rfl (j := (7 + jb)) (i7j hB.2) (by have := hB.1; omega) (by decide) dX9_readsItem_196 (ws' := (pMod cI cZ b (upA M_156 6 (upd (upd (M_156 6) (7 + ja) (((M_156 6) (7 + ja)) ||| ((1 : Int32) <<< (v_156 &&& 31)))) (7 + jb) (((upd (M_156 6) (7 + ja) (((M_156 6) (7 + ja)) ||| ((1 : Int32) <<< (v_156 &&& 31)))) (7 + jb)) ||| ((1 : Int32) <<< (v_111 &&& 31))))) tr)) rfl (fun H locs hW => ?_)
              refine lv_goto (tgt := 218) hx hb dX9_readsItem_197 rfl ?_
              exact hret _ _ _ _ _ hW rfl dX9_readsItem_218 (by rw [riM, if_neg c_3, if_neg c_24, if_pos c_98, riQ, nmS, nmI, ← hM_111, ← hv_111, riQ1, ← hM_156, ← hv_156, riQ2, if_pos hwl, ← hja, ← hjb] <;> rfl)
          · refine lv_aload_n hx hb dX9_readsItem_143 rfl (lv_at hl 1 rfl) ?_
            refine r_get Sx hW 0 rfl rfl bw_wsX90 7 (by decide) (v := .int (M_111 0 5)) rfl mw255 dX9_readsItem_144 ?_
            refine lv_iload_n hx hb dX9_readsItem_147 rfl (lv_at hl 0 rfl) ?_
            refine lv_icmp_eq (tgt := 155) hx hb dX9_readsItem_148 rfl (fun c_148 => ?_) (fun c_148 => ?_)
            · refine lv_iconst (v := (0 : Int32)) hx hb dX9_readsItem_155 rfl ?_
              refine r_eq (y := (qB M_111 v_111 Dn)) (by rw [qB, if_pos c_121, if_neg c_140, if_pos c_148]) ?_
              refine callVI Sx hW (c_X9_takes l D cI cZ cN b M_111 tr z hz2 hw_111 (qB M_111 v_111 Dn)) vmX9_takes mw268 [0, 1, 2, 3, 4, 5, 6, 7, 8, 9, 10, 11, 12, 13, 14, 15, 16, 17] rfl (by decide) 0 rfl rfl (As := [.int (qB M_111 v_111 Dn)]) (rest := []) rfl rfl hl.1 (Nat.le_of_ble_eq_true rfl) ⟨Nat.le_of_ble_eq_true rfl, Nat.le_of_ble_eq_true rfl⟩ ⟨Nat.le_refl _, Nat.le_refl _⟩ dX9_readsItem_156 (fun rx wx H locs hqx hW => ?_)
              obtain ⟨hrx, rfl⟩ := hqx
              obtain ⟨M_156, hM_156⟩ : ∃ gX, gX = tkS z M_111 (qB M_111 v_111 Dn) := ⟨_, rfl⟩
              obtain ⟨v_156, hv_156⟩ : ∃ gX, gX = tkI M_111 (qB M_111 v_111 Dn) := ⟨_, rfl⟩
              rw [← hM_156] at hW
              rw [← hv_156] at hrx
              have hw_156 : wfm z M_156 := by rw [hM_156]; exact wfm_tk hz2 hw_111
              have hW : AtC D (tyG cI cZ cN) Ax (pMod cI cZ b M_156 tr) sx H locs := hW.re [] 18 (by decide) rfl rfl trivial (by decide +kernel) rfl rfl
              refine r_eq (y := v_156) hrx ?_
              refine lv_istore_n (lv' := [(3, .int v_156), (2, .int v_111), (0, .ref (b 0)), (1, .int k)]) hx hb dX9_readsItem_159 rfl hl (by decide) rfl (fun ls hl => ?_)
              refine lv_aload_n hx hb dX9_readsItem_160 rfl (lv_at hl 2 rfl) ?_
              refine callVI Sx hW (c_X9_isWell l D cI cZ cN b M_156 tr) vmX9_isWell mw260 [0, 1, 2, 3, 4, 5, 6, 7, 8, 9, 10, 11, 12, 13, 14, 15, 16, 17] rfl (by decide) 0 rfl rfl (As := []) (rest := []) rfl rfl hl.1 (Nat.le_of_ble_eq_true rfl) ⟨Nat.le_of_ble_eq_true rfl, Nat.le_of_ble_eq_true rfl⟩ ⟨Nat.le_refl _, Nat.le_refl _⟩ dX9_readsItem_161 (fun rx wx H locs hqx hW => ?_)
              obtain ⟨hrx, rfl⟩ := hqx
              have hW : AtC D (tyG cI cZ cN) Ax (pMod cI cZ b M_156 tr) sx H locs := hW.re [] 18 (by decide) rfl rfl trivial (by decide +kernel) rfl rfl
              refine r_eq (y := (if (M_156 0 6) < 0 then (1 : Int32) else 0)) hrx ?_
              refine lv_if_eq (tgt := 197) hx hb dX9_readsItem_164 rfl (fun c_164 => ?_) (fun c_164 => ?_)
              · have hwl := wl_0 c_164
                refine lv_goto (tgt := 218) hx hb dX9_readsItem_197 rfl ?_
                exact hret _ _ _ _ _ hW rfl dX9_readsItem_218 (by rw [riM, if_neg c_3, if_neg c_24, if_pos c_98, riQ, nmS, nmI, ← hM_111, ← hv_111, riQ1, ← hM_156, ← hv_156, riQ2, if_neg hwl] <;> rfl)
              · have hwl := wl_1 c_164
                have pl1 : 0 ≤ M_111 0 4 := by rw [hM_111]; exact tk_pl hz2 hw hpl
                have w2 := tk_well (z := z) (M := M_111) (is := (qB M_111 v_111 Dn)) pl1 (by rw [← hM_156]; exact hwl)
                have w1 := tk_well (z := z) (M := M) (is := (nuB M 0 (nI Dn - 1))) hpl (by rw [← hM_111]; exact w2.1)
                have hA : tn v_111 < Dn ∧ v_111 = nI (tn v_111) := by rw [hv_111]; exact nu_nat hD7 w1
                have hB : tn v_156 < Dn ∧ v_156 = nI (tn v_156) := by rw [hv_156]; exact qB_nat hD7 w2
                obtain ⟨ja, hja⟩ : ∃ j, j = tn v_111 := ⟨_, rfl⟩
                obtain ⟨jb, hjb⟩ : ∃ j, j = tn v_156 := ⟨_, rfl⟩
                rw [← hja] at hA
                rw [← hjb] at hB
                refine lv_aload_n hx hb dX9_readsItem_167 rfl (lv_at hl 2 rfl) ?_
                refine r_get Sx hW 0 rfl rfl bw_wsX90 13 (by decide) (v := .ref (b 6)) rfl mw119 dX9_readsItem_168 ?_
                refine lv_bipush (v := (7 : Int32)) hx hb dX9_readsItem_171 rfl ?_
                refine lv_iload_n hx hb dX9_readsItem_173 rfl (lv_at hl 1 rfl) ?_
                refine lv_iadd hx hb dX9_readsItem_174 ?_
                refine lv_dup2_11 hx hb dX9_readsItem_175 rfl rfl ?_
                refine r_iald Sx hW 6 0 rfl rfl (j := (7 + ja)) (i7j hA.2) (by have := hA.1; omega) (by decide) dX9_readsItem_176 ?_
                refine lv_iconst (v := (1 : Int32)) hx hb dX9_readsItem_177 rfl ?_
                refine lv_iload_n hx hb dX9_readsItem_178 rfl (lv_at hl 0 rfl) ?_
                refine lv_ishl hx hb dX9_readsItem_179 ?_
                refine lv_ior hx hb dX9_readsItem_180 ?_
                refine r_iast Sx hW 6 0 rfl rfl (j := (7 + ja)) (i7j hA.2) (by have := hA.1; omega) (by decide) dX9_readsItem_181 (ws' := (pMod cI cZ b (upA M_156 6 (upd (M_156 6) (7 + ja) (((M_156 6) (7 + ja)) ||| ((1 : Int32) <<< (v_156 &&& 31))))) tr)) rfl (fun H locs hW => ?_)
                refine lv_aload_n hx hb dX9_readsItem_182 rfl (lv_at hl 2 rfl) ?_
                refine r_get Sx hW 0 rfl rfl bw_wsX90 13 (by decide) (v := .ref (b 6)) rfl mw119 dX9_readsItem_183 ?_
                refine lv_bipush (v := (7 : Int32)) hx hb dX9_readsItem_186 rfl ?_
                refine lv_iload_n hx hb dX9_readsItem_188 rfl (lv_at hl 0 rfl) ?_
                refine lv_iadd hx hb dX9_readsItem_189 ?_
                refine lv_dup2_11 hx hb dX9_readsItem_190 rfl rfl ?_
                refine r_iald Sx hW 6 0 (f := (upd (M_156 6) (7 + ja) (((M_156 6) (7 + ja)) ||| ((1 : Int32) <<< (v_156 &&& 31))))) rfl rfl (j := (7 + jb)) (i7j hB.2) (by have := hB.1; omega) (by decide) dX9_readsItem_191 ?_
                refine lv_iconst (v := (1 : Int32)) hx hb dX9_readsItem_192 rfl ?_
                refine lv_iload_n hx hb dX9_readsItem_193 rfl (lv_at hl 1 rfl) ?_
                refine lv_ishl hx hb dX9_readsItem_194 ?_
                refine lv_ior hx hb dX9_readsItem_195 ?_
                refine r_iast Sx hW 6 0 rfl rfl (j := (7 + jb)) (i7j hB.2) (by have := hB.1; omega) (by decide) dX9_readsItem_196 (ws' := (pMod cI cZ b (upA M_156 6 (upd (upd (M_156 6) (7 + ja) (((M_156 6) (7 + ja)) ||| ((1 : Int32) <<< (v_156 &&& 31)))) (7 + jb) (((upd (M_156 6) (7 + ja) (((M_156 6) (7 + ja)) ||| ((1 : Int32) <<< (v_156 &&& 31)))) (7 + jb)) ||| ((1 : Int32) <<< (v_111 &&& 31))))) tr)) rfl (fun H locs hW => ?_)
                refine lv_goto (tgt := 218) hx hb dX9_readsItem_197 rfl ?_
                exact hret _ _ _ _ _ hW rfl dX9_readsItem_218 (by rw [riM, if_neg c_3, if_neg c_24, if_pos c_98, riQ, nmS, nmI, ← hM_111, ← hv_111, riQ1, ← hM_156, ← hv_156, riQ2, if_pos hwl, ← hja, ← hjb] <;> rfl)
            · refine lv_iconst (v := (1 : Int32)) hx hb dX9_readsItem_151 rfl ?_
              refine lv_goto (tgt := 156) hx hb dX9_readsItem_152 rfl ?_
              refine r_eq (y := (qB M_111 v_111 Dn)) (by rw [qB, if_pos c_121, if_neg c_140, if_neg c_148]) ?_
              refine callVI Sx hW (c_X9_takes l D cI cZ cN b M_111 tr z hz2 hw_111 (qB M_111 v_111 Dn)) vmX9_takes mw268 [0, 1, 2, 3, 4, 5, 6, 7, 8, 9, 10, 11, 12, 13, 14, 15, 16, 17] rfl (by decide) 0 rfl rfl (As := [.int (qB M_111 v_111 Dn)]) (rest := []) rfl rfl hl.1 (Nat.le_of_ble_eq_true rfl) ⟨Nat.le_of_ble_eq_true rfl, Nat.le_of_ble_eq_true rfl⟩ ⟨Nat.le_refl _, Nat.le_refl _⟩ dX9_readsItem_156 (fun rx wx H locs hqx hW => ?_)
              obtain ⟨hrx, rfl⟩ := hqx
              obtain ⟨M_156, hM_156⟩ : ∃ gX, gX = tkS z M_111 (qB M_111 v_111 Dn) := ⟨_, rfl⟩
              obtain ⟨v_156, hv_156⟩ : ∃ gX, gX = tkI M_111 (qB M_111 v_111 Dn) := ⟨_, rfl⟩
              rw [← hM_156] at hW
              rw [← hv_156] at hrx
              have hw_156 : wfm z M_156 := by rw [hM_156]; exact wfm_tk hz2 hw_111
              have hW : AtC D (tyG cI cZ cN) Ax (pMod cI cZ b M_156 tr) sx H locs := hW.re [] 18 (by decide) rfl rfl trivial (by decide +kernel) rfl rfl
              refine r_eq (y := v_156) hrx ?_
              refine lv_istore_n (lv' := [(3, .int v_156), (2, .int v_111), (0, .ref (b 0)), (1, .int k)]) hx hb dX9_readsItem_159 rfl hl (by decide) rfl (fun ls hl => ?_)
              refine lv_aload_n hx hb dX9_readsItem_160 rfl (lv_at hl 2 rfl) ?_
              refine callVI Sx hW (c_X9_isWell l D cI cZ cN b M_156 tr) vmX9_isWell mw260 [0, 1, 2, 3, 4, 5, 6, 7, 8, 9, 10, 11, 12, 13, 14, 15, 16, 17] rfl (by decide) 0 rfl rfl (As := []) (rest := []) rfl rfl hl.1 (Nat.le_of_ble_eq_true rfl) ⟨Nat.le_of_ble_eq_true rfl, Nat.le_of_ble_eq_true rfl⟩ ⟨Nat.le_refl _, Nat.le_refl _⟩ dX9_readsItem_161 (fun rx wx H locs hqx hW => ?_)
              obtain ⟨hrx, rfl⟩ := hqx
              have hW : AtC D (tyG cI cZ cN) Ax (pMod cI cZ b M_156 tr) sx H locs := hW.re [] 18 (by decide) rfl rfl trivial (by decide +kernel) rfl rfl
              refine r_eq (y := (if (M_156 0 6) < 0 then (1 : Int32) else 0)) hrx ?_
              refine lv_if_eq (tgt := 197) hx hb dX9_readsItem_164 rfl (fun c_164 => ?_) (fun c_164 => ?_)
              · have hwl := wl_0 c_164
                refine lv_goto (tgt := 218) hx hb dX9_readsItem_197 rfl ?_
                exact hret _ _ _ _ _ hW rfl dX9_readsItem_218 (by rw [riM, if_neg c_3, if_neg c_24, if_pos c_98, riQ, nmS, nmI, ← hM_111, ← hv_111, riQ1, ← hM_156, ← hv_156, riQ2, if_neg hwl] <;> rfl)
              · have hwl := wl_1 c_164
                have pl1 : 0 ≤ M_111 0 4 := by rw [hM_111]; exact tk_pl hz2 hw hpl
                have w2 := tk_well (z := z) (M := M_111) (is := (qB M_111 v_111 Dn)) pl1 (by rw [← hM_156]; exact hwl)
                have w1 := tk_well (z := z) (M := M) (is := (nuB M 0 (nI Dn - 1))) hpl (by rw [← hM_111]; exact w2.1)
                have hA : tn v_111 < Dn ∧ v_111 = nI (tn v_111) := by rw [hv_111]; exact nu_nat hD7 w1
                have hB : tn v_156 < Dn ∧ v_156 = nI (tn v_156) := by rw [hv_156]; exact qB_nat hD7 w2
                obtain ⟨ja, hja⟩ : ∃ j, j = tn v_111 := ⟨_, rfl⟩
                obtain ⟨jb, hjb⟩ : ∃ j, j = tn v_156 := ⟨_, rfl⟩
                rw [← hja] at hA
                rw [← hjb] at hB
                refine lv_aload_n hx hb dX9_readsItem_167 rfl (lv_at hl 2 rfl) ?_
                refine r_get Sx hW 0 rfl rfl bw_wsX90 13 (by decide) (v := .ref (b 6)) rfl mw119 dX9_readsItem_168 ?_
                refine lv_bipush (v := (7 : Int32)) hx hb dX9_readsItem_171 rfl ?_
                refine lv_iload_n hx hb dX9_readsItem_173 rfl (lv_at hl 1 rfl) ?_
                refine lv_iadd hx hb dX9_readsItem_174 ?_
                refine lv_dup2_11 hx hb dX9_readsItem_175 rfl rfl ?_
                refine r_iald Sx hW 6 0 rfl rfl (j := (7 + ja)) (i7j hA.2) (by have := hA.1; omega) (by decide) dX9_readsItem_176 ?_
                refine lv_iconst (v := (1 : Int32)) hx hb dX9_readsItem_177 rfl ?_
                refine lv_iload_n hx hb dX9_readsItem_178 rfl (lv_at hl 0 rfl) ?_
                refine lv_ishl hx hb dX9_readsItem_179 ?_
                refine lv_ior hx hb dX9_readsItem_180 ?_
                refine r_iast Sx hW 6 0 rfl rfl (j := (7 + ja)) (i7j hA.2) (by have := hA.1; omega) (by decide) dX9_readsItem_181 (ws' := (pMod cI cZ b (upA M_156 6 (upd (M_156 6) (7 + ja) (((M_156 6) (7 + ja)) ||| ((1 : Int32) <<< (v_156 &&& 31))))) tr)) rfl (fun H locs hW => ?_)
                refine lv_aload_n hx hb dX9_readsItem_182 rfl (lv_at hl 2 rfl) ?_
                refine r_get Sx hW 0 rfl rfl bw_wsX90 13 (by decide) (v := .ref (b 6)) rfl mw119 dX9_readsItem_183 ?_
                refine lv_bipush (v := (7 : Int32)) hx hb dX9_readsItem_186 rfl ?_
                refine lv_iload_n hx hb dX9_readsItem_188 rfl (lv_at hl 0 rfl) ?_
                refine lv_iadd hx hb dX9_readsItem_189 ?_
                refine lv_dup2_11 hx hb dX9_readsItem_190 rfl rfl ?_
                refine r_iald Sx hW 6 0 (f := (upd (M_156 6) (7 + ja) (((M_156 6) (7 + ja)) ||| ((1 : Int32) <<< (v_156 &&& 31))))) rfl rfl (j := (7 + jb)) (i7j hB.2) (by have := hB.1; omega) (by decide) dX9_readsItem_191 ?_
                refine lv_iconst (v := (1 : Int32)) hx hb dX9_readsItem_192 rfl ?_
                refine lv_iload_n hx hb dX9_readsItem_193 rfl (lv_at hl 1 rfl) ?_
                refine lv_ishl hx hb dX9_readsItem_194 ?_
                refine lv_ior hx hb dX9_readsItem_195 ?_
                refine r_iast Sx hW 6 0 rfl rfl (j := (7 + jb)) (i7j hB.2) (by have := hB.1; omega) (by decide) dX9_readsItem_196 (ws' := (pMod cI cZ b (upA M_156 6 (upd (upd (M_156 6) (7 + ja) (((M_156 6) (7 + ja)) ||| ((1 : Int32) <<< (v_156 &&& 31)))) (7 + jb) (((upd (M_156 6) (7 + ja) (((M_156 6) (7 + ja)) ||| ((1 : Int32) <<< (v_156 &&& 31)))) (7 + jb)) ||| ((1 : Int32) <<< (v_111 &&& 31))))) tr)) rfl (fun H locs hW => ?_)
                refine lv_goto (tgt := 218) hx hb dX9_readsItem_197 rfl ?_
                exact hret _ _ _ _ _ hW rfl dX9_readsItem_218 (by rw [riM, if_neg c_3, if_neg c_24, if_pos c_98, riQ, nmS, nmI, ← hM_111, ← hv_111, riQ1, ← hM_156, ← hv_156, riQ2, if_pos hwl, ← hja, ← hjb] <;> rfl)
    · exact absurd c_24 h2
  · exact absurd c_3 h1

theorem c_X9_readsItem (l : Launch) (D : va_G) (cI cZ cN : ClassId) (b : Nat → Nat) (M : NV) (tr : Int64) (z : Nat) (hz2 : z ≤ 200) (hw : wfm z M) (Dn : Nat) (hD : M 2 4 = nI Dn) (hD7 : Dn ≤ 7) (hpl : 0 ≤ M 0 4) (k : Int32) (hk : k = 112 → Dn < 7) : CtV l yX9_readsItem cX9_readsItem 4 4 D (tyG cI cZ cN) [.ref (b 0), .int k] (pMod cI cZ b M tr) (fun w => w = (pMod cI cZ b (riM z M k Dn) tr)) := by
  by_cases h1 : k = 110
  · exact c_X9_readsItem_n l D cI cZ cN b M tr z hz2 hw Dn hD hD7 hpl k hk h1
  · by_cases h2 : k = 112
    · exact c_X9_readsItem_p l D cI cZ cN b M tr z hz2 hw Dn hD hD7 hpl k hk h1 h2
    · by_cases h3 : k = 113
      · exact c_X9_readsItem_q l D cI cZ cN b M tr z hz2 hw Dn hD hD7 hpl k hk h1 h2 h3
      · exact c_X9_readsItem_l l D cI cZ cN b M tr z hz2 hw Dn hD hD7 hpl k hk h1 h2 h3
