/-! the Reader: its words -/
theorem upA_same {Q : NV} {c i : Nat} {x : Int32} (h : Q c i = x) : upA Q c (upd (Q c) i x) = Q := by
  funext c' i'
  unfold upA
  by_cases hc : c' = c
  · subst hc
    rw [show Nat.beq c' c' = true from Nat.beq_refl c', cond_true]
    unfold upd
    by_cases hi : i' = i
    · subst hi; rw [if_pos rfl, h]
    · rw [if_neg hi]
  · rw [show Nat.beq c' c = false from by cases h2 : Nat.beq c' c with | false => rfl | true => exact absurd (Nat.eq_of_beq_eq_true h2) hc, cond_false]
def skB (X : Nat → Int32) (z : Nat) : Nat → Nat → Nat
  | 0, p => p
  | f + 1, p => if p < z ∧ X p = 32 then skB X z f (p + 1) else p
def dgE (X : Nat → Int32) (z : Nat) : Nat → Nat → Nat
  | 0, p => p
  | f + 1, p => if p < z ∧ inI (X p) 48 57 ≠ 0 then dgE X z f (p + 1) else p
def dgV (X : Nat → Int32) (z : Nat) : Nat → Nat → Int32 → Int32
  | 0, _, v => v
  | f + 1, p, v => if p < z ∧ inI (X p) 48 57 ≠ 0 then dgV X z f (p + 1) (v * 10 + X p - 48) else v
theorem skB_stop (X : Nat → Int32) (z f p : Nat) (h : ¬ (p < z ∧ X p = 32)) : skB X z f p = p := by cases f <;> simp [skB, h]
theorem dgE_stop (X : Nat → Int32) (z f p : Nat) (h : ¬ (p < z ∧ inI (X p) 48 57 ≠ 0)) : dgE X z f p = p := by cases f <;> simp only [dgE, h, if_false]
theorem dgV_stop (X : Nat → Int32) (z f p : Nat) (v : Int32) (h : ¬ (p < z ∧ inI (X p) 48 57 ≠ 0)) : dgV X z f p v = v := by cases f <;> simp only [dgV, h, if_false]
theorem skB_le (X : Nat → Int32) (z : Nat) : ∀ f p, p ≤ z → p ≤ skB X z f p ∧ skB X z f p ≤ z
  | 0, p, h => ⟨Nat.le_refl _, h⟩
  | f + 1, p, h => by
    rw [skB]
    split
    · rename_i h2; have := skB_le X z f (p + 1) h2.1; omega
    · exact ⟨Nat.le_refl _, h⟩
theorem dgE_le (X : Nat → Int32) (z : Nat) : ∀ f p, p ≤ z → p ≤ dgE X z f p ∧ dgE X z f p ≤ z
  | 0, p, h => ⟨Nat.le_refl _, h⟩
  | f + 1, p, h => by
    rw [dgE]
    split
    · rename_i h2; have := dgE_le X z f (p + 1) h2.1; omega
    · exact ⟨Nat.le_refl _, h⟩
def tkT (X : Nat → Int32) (s e : Nat) : Int32 := if 2 < nI (e - s) then 258 else if nI (e - s) ≤ 1 then 256 else if X s = 48 then 258 else 256
def tkQ (X : Nat → Int32) (z : Nat) (Q : NV) (s p : Nat) : NV := upA Q 0 (upd (upd (upd (Q 0) 0 (nI (dgE X z (z - p) p))) 2 (tkT X s (dgE X z (z - p) p))) 3 (dgV X z (z - p) p 0))
def ntQ1 (X : Nat → Int32) (z : Nat) (Q : NV) (s : Nat) : NV := if s < z then (if inI (X s) 48 57 = 0 then upA Q 0 (upd (upd (upd (Q 0) 0 (nI (s + 1))) 1 (nI s)) 2 (X s)) else tkQ X z (upA Q 0 (upd (upd (Q 0) 0 (nI s)) 1 (nI s))) s s) else upA Q 0 (upd (upd (upd (Q 0) 0 (nI s)) 1 (nI s)) 2 257)
def ntP1 (X : Nat → Int32) (z s : Nat) : Nat := if s < z then (if inI (X s) 48 57 = 0 then s + 1 else dgE X z (z - s) s) else s
/-- the reader's state: its place, itself, its draft, the draft's Now -/
abbrev PS : Type := Nat × NV × NV × NV
def nT (T : NV) (z : Nat) (σ : PS) : PS := (ntP1 (T 0) z (skB (T 0) z (z - σ.1) σ.1), ntQ1 (T 0) z σ.2.1 (skB (T 0) z (z - σ.1) σ.1), σ.2.2.1, σ.2.2.2)
def wfP (z : Nat) (σ : PS) : Prop := σ.2.1 0 0 = nI σ.1 ∧ σ.1 ≤ z ∧ (∃ N : Nat, N ≤ 7 ∧ σ.2.2.1 3 1 = nI N) ∧ ∃ C : Nat, 1 ≤ C ∧ C ≤ 4 ∧ σ.2.2.1 3 0 = nI C
theorem ntQ1_p (X : Nat → Int32) (z : Nat) (Q : NV) (s : Nat) : ntQ1 X z Q s 0 0 = nI (ntP1 X z s) := by
  unfold ntQ1 ntP1
  split
  · split
    · rfl
    · rfl
  · rfl
theorem ntP1_le (X : Nat → Int32) (z s : Nat) (h : s ≤ z) : ntP1 X z s ≤ z := by
  unfold ntP1
  split
  · split
    · omega
    · exact (dgE_le X z _ s h).2
  · exact h
theorem wf_nT {T : NV} {z : Nat} {σ : PS} (h : wfP z σ) : wfP z (nT T z σ) := by
  obtain ⟨h1, h2, h3, h4⟩ := h
  exact ⟨ntQ1_p _ _ _ _, ntP1_le _ _ _ (skB_le _ _ _ _ h2).2, h3, h4⟩
def rnR (Q : NV) (lo hi : Int32) : Int32 := if Q 0 2 = 256 then inI (Q 0 3) lo hi else 0
def isE (Q : NV) : Int32 := if Q 0 2 = 59 then 1 else 0
def rdNm (T : NV) (z : Nat) (σ : PS) : Int32 × PS := if rnR (nT T z σ).2.1 1 4 = 0 then (0, nT T z σ) else (1, (nT T z σ).1, (nT T z σ).2.1, upA σ.2.2.1 3 (upd (σ.2.2.1 3) 0 ((nT T z σ).2.1 0 3)), σ.2.2.2)
def ppl (L : NV) : Nat := (L 3 1).toNatClampNeg
def rdPs (T : NV) (z : Nat) (σ : PS) : Int32 × PS := if rnR (nT T z σ).2.1 0 (σ.2.2.1 3 0 - 1) = 0 then (0, nT T z σ) else if rnR (nT T z (nT T z σ)).2.1 0 99 = 0 then (0, nT T z (nT T z σ)) else if rnR (nT T z (nT T z (nT T z σ))).2.1 0 31 = 0 then (0, nT T z (nT T z (nT T z σ))) else
  (1, (nT T z (nT T z (nT T z σ))).1, (nT T z (nT T z (nT T z σ))).2.1, apL σ.2.2.1 (ppl σ.2.2.1) ((nT T z (nT T z (nT T z σ))).2.1 0 3), apV σ.2.2.2 (ppl σ.2.2.1) ((nT T z σ).2.1 0 3) ((nT T z (nT T z σ)).2.1 0 3))
def foQ (f : Nat → Int32) (o v : Nat) : Nat → Int32 := upd (upd f o (f o ||| ((1 : Int32) <<< (nI v &&& 31)))) v (upd f o (f o ||| ((1 : Int32) <<< (nI v &&& 31))) v ||| ((1 : Int32) <<< (nI o &&& 31)))
def rdQr (T : NV) (z : Nat) (σ : PS) : Int32 × PS := if rnR (nT T z σ).2.1 0 (σ.2.2.1 3 1 - 1) = 0 then (0, nT T z σ) else if rnR (nT T z (nT T z σ)).2.1 0 (σ.2.2.1 3 1 - 1) = 0 then (0, nT T z (nT T z σ)) else if (nT T z (nT T z σ)).2.1 0 3 = (nT T z σ).2.1 0 3 then (0, nT T z (nT T z σ)) else
  (1, (nT T z (nT T z σ)).1, (nT T z (nT T z σ)).2.1, upA σ.2.2.1 1 (foQ (σ.2.2.1 1) ((nT T z σ).2.1 0 3).toNatClampNeg ((nT T z (nT T z σ)).2.1 0 3).toNatClampNeg), σ.2.2.2)
def rdLw (T : NV) (z : Nat) (σ : PS) : Int32 × PS := if rnR (nT T z σ).2.1 0 15 = 0 then (0, nT T z σ) else (1, (nT T z σ).1, upA (nT T z σ).2.1 0 (upd ((nT T z σ).2.1 0) 4 1), σ.2.2.1, upA σ.2.2.2 3 (upd (σ.2.2.2 3) 1 ((nT T z σ).2.1 0 3)))
def thE (T : NV) (z : Nat) (x : Int32 × PS) : Int32 × PS := if x.1 = 0 then (0, x.2) else (isE (nT T z x.2).2.1, nT T z x.2)
def riI (T : NV) (z : Nat) (ahead : Int32) (σ : PS) : Int32 × PS :=
  if σ.2.1 0 2 = 108 then (if σ.2.1 0 4 = 0 then thE T z (rdLw T z σ) else (0, σ))
  else if σ.2.1 0 2 = 110 then (if ahead = 0 then thE T z (rdNm T z σ) else (0, σ))
  else if σ.2.1 0 2 = 112 then (if 7 ≤ σ.2.2.1 3 1 then (0, σ) else thE T z (rdPs T z σ))
  else if σ.2.1 0 2 = 113 then thE T z (rdQr T z σ)
  else (0, σ)
def rdL (T : NV) (z : Nat) : Nat → Nat → PS → Int32 × PS
  | 0, k, σ => (nI k, σ)
  | f + 1, k, σ => if σ.2.1 0 2 = 257 then (nI k, σ) else if (riI T z (nI k) σ).1 = 0 then (-10 - (riI T z (nI k) σ).2.2.1 0 1, (riI T z (nI k) σ).2) else rdL T z f (k + 1) (nT T z (riI T z (nI k) σ).2)
theorem rdL_end {T : NV} {z f k : Nat} {σ : PS} (h : σ.2.1 0 2 = 257) : rdL T z f k σ = (nI k, σ) := by
  cases f with
  | zero => rfl
  | succ f => rw [rdL, if_pos h]
def rdR (T : NV) (z : Nat) (Q L V : NV) : Int32 × PS := rdL T z 200 0 (nT T z (0, upA Q 0 (upd (upd (Q 0) 0 0) 4 0), emL L, emV V))
theorem inI_1 {v lo hi : Int32} (h : ¬ inI v lo hi = 0) : lo ≤ v ∧ v ≤ hi := by
  unfold inI at h
  split at h
  · exact absurd rfl h
  · split at h
    · exact absurd rfl h
    · rename_i h1 h2; exact ⟨Int32.not_lt.mp h1, Int32.not_lt.mp h2⟩
theorem inI_of {v lo hi : Int32} (h : ¬ inI v lo hi = 0) : inI v lo hi = 1 := by
  unfold inI at h ⊢
  split
  · rename_i h1; simp [h1] at h
  · split
    · rename_i h1 h2; simp [h1, h2] at h
    · rfl
theorem inI_nat {v hi : Int32} {n : Nat} (hM : hi.toInt = (n : Int) - 1) (h : ¬ inI v 0 hi = 0) : ∃ j : Nat, j < n ∧ v = nI j := by
  obtain ⟨h1, h2⟩ := inI_1 h
  have h3 := Int32.le_iff_toInt_le.mp h1
  have h4 := Int32.le_iff_toInt_le.mp h2
  rw [hM] at h4
  have e0 : (0 : Int32).toInt = 0 := by decide
  rw [e0] at h3
  obtain ⟨j, hj, hv⟩ := nI_of (x := v) (by intro q; have := Int32.lt_iff_toInt_lt.mp q; rw [e0] at this; omega)
  refine ⟨j, ?_, hv⟩
  rw [hv, nI_toInt hj] at h4
  omega
theorem nI_m1 {N : Nat} (h : N < 1000) : (nI N - 1).toInt = (N : Int) - 1 := by
  exact pk_sub_toInt (a := N) (b := 1) (by omega) (by decide)
theorem rnR_1 {Q : NV} {lo hi : Int32} (h : ¬ rnR Q lo hi = 0) : Q 0 2 = 256 ∧ ¬ inI (Q 0 3) lo hi = 0 := by
  unfold rnR at h
  split at h
  · exact ⟨by assumption, h⟩
  · exact absurd rfl h
theorem ppl_of {L : NV} {N : Nat} (h : L 3 1 = nI N) (hN : N ≤ 7) : ppl L = N := by rw [ppl, h, nI_clamp (by omega)]
theorem wf_rdNm {T : NV} {z : Nat} {σ : PS} (h : wfP z σ) : wfP z (rdNm T z σ).2 := by
  have h1 := wf_nT (T := T) h
  unfold rdNm
  split
  · exact h1
  · rename_i h2
    obtain ⟨a1, a2, a3, a4⟩ := h1
    obtain ⟨b1, b2⟩ := inI_1 (rnR_1 h2).2
    obtain ⟨j, hj, hv⟩ := nI_of2 (x := (nT T z σ).2.1 0 3) (M := 4) (n := 4) (by decide) (by intro q; exact absurd (Int32.lt_of_lt_of_le (show (0 : Int32) < 1 by decide) b1) (Int32.not_lt.mpr (Int32.le_of_lt q))) b2
    refine ⟨a1, a2, a3, j, ?_, hj, hv⟩
    rw [hv] at b1
    exact (nI_leI (a := 1) (b := j) (by decide) (by omega)).mp b1
theorem wf_rdPs {T : NV} {z : Nat} {σ : PS} (h : wfP z σ) (h7 : ¬ 7 ≤ σ.2.2.1 3 1) : wfP z (rdPs T z σ).2 := by
  have h1 := wf_nT (T := T) h
  have h2 := wf_nT (T := T) h1
  have h3 := wf_nT (T := T) h2
  unfold rdPs
  split
  · exact h1
  · split
    · exact h2
    · split
      · exact h3
      · obtain ⟨a1, a2, ⟨N, hN, eN⟩, a4⟩ := h3
        have eN' : σ.2.2.1 3 1 = nI N := eN
        have hlt : N < 7 := by
          rw [eN'] at h7
          exact Nat.not_le.mp (fun q => h7 ((nI_leI (a := 7) (b := N) (by decide) (by omega)).mpr q))
        refine ⟨a1, a2, ⟨N + 1, by omega, ?_⟩, a4⟩
        show nI (ppl σ.2.2.1 + 1) = nI (N + 1)
        rw [ppl_of eN' hN]
theorem wf_rdQr {T : NV} {z : Nat} {σ : PS} (h : wfP z σ) : wfP z (rdQr T z σ).2 := by
  have h1 := wf_nT (T := T) h
  have h2 := wf_nT (T := T) h1
  unfold rdQr
  split
  · exact h1
  · split
    · exact h2
    · split
      · exact h2
      · exact h2
theorem wf_rdLw {T : NV} {z : Nat} {σ : PS} (h : wfP z σ) : wfP z (rdLw T z σ).2 := by
  have h1 := wf_nT (T := T) h
  unfold rdLw
  split
  · exact h1
  · exact h1
theorem wf_thE {T : NV} {z : Nat} {x : Int32 × PS} (h : wfP z x.2) : wfP z (thE T z x).2 := by
  unfold thE
  split
  · exact h
  · exact wf_nT h
theorem wf_riI {T : NV} {z : Nat} {k : Int32} {σ : PS} (h : wfP z σ) : wfP z (riI T z k σ).2 := by
  unfold riI
  split
  · split
    · exact wf_thE (wf_rdLw h)
    · exact h
  · split
    · split
      · exact wf_thE (wf_rdNm h)
      · exact h
    · split
      · split
        · exact h
        · rename_i h7; exact wf_thE (wf_rdPs h h7)
      · split
        · exact wf_thE (wf_rdQr h)
        · exact h

set_option maxHeartbeats 4000000 in
set_option maxRecDepth 100000 in
theorem c_X4_isDigit (l : Launch) (D : va_G) (cI cZ cN : ClassId) (x : Int32) : CtI l yX4_isDigit cX4_isDigit 1 (some .boolean) 0 D (tyG cI cZ cN) [.int x] [] (fun r w => r = inI x 48 57 ∧ w = []) := by
  refine CtI.of rfl (Nat.le_of_ble_eq_true rfl) ?_
  intro pg ev sx mx ax bx mt cx ls Qx Ax Sx hret hW hl
  have hx := Sx.1
  have hb := Sx.2.1
  have hl : lv_has ls 1 [(0, .int x)] := hl
  refine lv_iload_n hx hb dX4_isDigit_0 rfl (lv_at hl 0 rfl) ?_
  refine lv_bipush (v := (48 : Int32)) hx hb dX4_isDigit_1 rfl ?_
  refine lv_icmp_lt (tgt := 16) hx hb dX4_isDigit_3 rfl (fun c_3 => ?_) (fun c_3 => ?_)
  · refine lv_iconst (v := (0 : Int32)) hx hb dX4_isDigit_16 rfl ?_
    exact hret _ _ _ _ _ _ hW rfl rfl dX4_isDigit_17 (⟨by simp [inI, c_3], rfl⟩)
  · refine lv_iload_n hx hb dX4_isDigit_6 rfl (lv_at hl 0 rfl) ?_
    refine lv_bipush (v := (57 : Int32)) hx hb dX4_isDigit_7 rfl ?_
    refine lv_icmp_gt (tgt := 16) hx hb dX4_isDigit_9 rfl (fun c_9 => ?_) (fun c_9 => ?_)
    · refine lv_iconst (v := (0 : Int32)) hx hb dX4_isDigit_16 rfl ?_
      exact hret _ _ _ _ _ _ hW rfl rfl dX4_isDigit_17 (⟨by simp [inI, c_3, c_9], rfl⟩)
    · refine lv_iconst (v := (1 : Int32)) hx hb dX4_isDigit_12 rfl ?_
      refine lv_goto (tgt := 17) hx hb dX4_isDigit_13 rfl ?_
      exact hret _ _ _ _ _ _ hW rfl rfl dX4_isDigit_17 (⟨by simp [inI, c_3, c_9], rfl⟩)

theorem upd_same {f : Nat → Int32} {i : Nat} {x : Int32} (h : f i = x) : upd f i x = f := by
  funext j
  unfold upd
  by_cases hj : j = i
  · subst hj; rw [if_pos rfl, h]
  · rw [if_neg hj]

set_option maxHeartbeats 4000000 in
set_option maxRecDepth 100000 in
theorem c_X4_takeNumber (l : Launch) (D : va_G) (cI cZ cN : ClassId) (a b : Nat → Nat) (Qr L V T : NV) (p s0 : Nat) (z : Nat) (hz : T 1 0 = nI z) (hz2 : z ≤ 200) (hp : Qr 0 0 = nI p) (hs : Qr 0 1 = nI s0) (hsp : s0 ≤ p) (hpz : p < z) : CtV l yX4_takeNumber cX4_takeNumber 4 1 D (tyG cI cZ cN) [.ref (a 0), .ref (b 0)] ((pRdr cI a Qr L V) ++ (pTxt cI b T)) (fun w => w = pRdr cI a (tkQ (T 0) z Qr s0 p) L V ++ pTxt cI b T) := by
  refine CtV.of rfl (Nat.le_of_ble_eq_true rfl) ?_
  intro pg ev sx mx ax bx mt cx ls Qx Ax Sx hret hW hl
  have hx := Sx.1
  have hb := Sx.2.1
  have hl : lv_has ls 4 [(0, .ref (a 0)), (1, .ref (b 0))] := hl
  refine lv_aload_n hx hb dX4_takeNumber_0 rfl (lv_at hl 0 rfl) ?_
  refine lv_iconst (v := (0 : Int32)) hx hb dX4_takeNumber_1 rfl ?_
  refine r_put Sx hW 0 rfl rfl bw_wsX40 tyX4_ok nmX4 4 (by decide) mw62 rfl rfl rfl (Nat.le_of_ble_eq_true rfl) dX4_takeNumber_2 (ws' := ((pRdr cI a (upA Qr 0 (upd (Qr 0) 3 (0 : Int32))) L V) ++ (pTxt cI b T))) rfl (fun H locs hW => ?_)
  have lp_5 : ∀ (n : Nat) (q : Nat) (v : Int32), ((dgE (T 0) z (z - q) q = dgE (T 0) z (z - p) p)) → ((dgV (T 0) z (z - q) q v = dgV (T 0) z (z - p) p 0)) → ((p ≤ q)) → ((q ≤ z)) → ((z + 1 ≤ q + n)) → ∀ (H : Heap) (locs : List Loc) (ls : Array Slot), AtC D (tyG cI cZ cN) Ax ((pRdr cI a (upA Qr 0 (upd (upd (Qr 0) 0 (nI q)) 3 v)) L V) ++ (pTxt cI b T)) sx H locs → lv_has ls 4 [(0, .ref (a 0)), (1, .ref (b 0))] → W pg l ev (rmN 1) sx mx ax bx mt cx H locs 0 0 Qx (F0 mx 5 ls []) := by
    intro n
    induction n with
    | zero =>
      intro q v he hv hpq hq hn H locs ls hW hl
      exact absurd hn (by omega)
    | succ n ih5 =>
      intro q v he hv hpq hq hn H locs ls hW hl
      refine lv_aload_n hx hb dX4_takeNumber_5 rfl (lv_at hl 0 rfl) ?_
      refine r_get Sx hW 0 rfl rfl bw_wsX40 1 (by decide) (v := .int (nI q)) rfl mw59 dX4_takeNumber_6 ?_
      refine lv_aload_n hx hb dX4_takeNumber_9 rfl (lv_at hl 1 rfl) ?_
      refine r_get Sx hW 9 rfl rfl bw_wsX60 1 (by decide) (v := .int (T 1 0)) rfl mw180 dX4_takeNumber_10 ?_
      refine r_eq (y := (nI z)) hz ?_
      refine lv_icmp_ge (tgt := 68) hx hb dX4_takeNumber_13 rfl (fun c_13 => ?_) (fun c_13 => ?_)
      · have ge_13 : z ≤ q := (nI_leI (a := z) (b := q) (by omega) (by omega)).mp c_13
        have hst : ¬ (q < z ∧ inI (T 0 q) 48 57 ≠ 0) := fun h => by first | exact absurd h.1 (by omega) | exact h.2 c_13
        have he : dgE (T 0) z (z - p) p = q := by rw [← he]; exact dgE_stop _ _ _ _ hst
        have hv : dgV (T 0) z (z - p) p 0 = v := by rw [← hv]; exact dgV_stop _ _ _ _ _ hst
        refine lv_aload_n hx hb dX4_takeNumber_68 rfl (lv_at hl 0 rfl) ?_
        refine r_get Sx hW 0 rfl rfl bw_wsX40 1 (by decide) (v := .int (nI q)) rfl mw59 dX4_takeNumber_69 ?_
        refine lv_aload_n hx hb dX4_takeNumber_72 rfl (lv_at hl 0 rfl) ?_
        refine r_get Sx hW 0 rfl rfl bw_wsX40 2 (by decide) (v := .int (Qr 0 1)) rfl mw60 dX4_takeNumber_73 ?_
        refine r_eq (y := (nI s0)) hs ?_
        refine lv_isub hx hb dX4_takeNumber_76 ?_
        refine r_eq (y := (nI (q - s0))) (pk_sub (a := q) (b := s0) (by omega)) ?_
        refine lv_istore_n (lv' := [(2, .int (nI (q - s0))), (0, .ref (a 0)), (1, .ref (b 0))]) hx hb dX4_takeNumber_77 rfl hl (by decide) rfl (fun ls hl => ?_)
        refine lv_iload_n hx hb dX4_takeNumber_78 rfl (lv_at hl 0 rfl) ?_
        refine lv_iconst (v := (1 : Int32)) hx hb dX4_takeNumber_79 rfl ?_
        refine lv_icmp_le (tgt := 101) hx hb dX4_takeNumber_80 rfl (fun c_80 => ?_) (fun c_80 => ?_)
        · refine lv_iconst (v := (0 : Int32)) hx hb dX4_takeNumber_101 rfl ?_
          refine lv_istore_n (lv' := [(3, .int (0 : Int32)), (2, .int (nI (q - s0))), (0, .ref (a 0)), (1, .ref (b 0))]) hx hb dX4_takeNumber_102 rfl hl (by decide) rfl (fun ls hl => ?_)
          refine lv_aload_n hx hb dX4_takeNumber_103 rfl (lv_at hl 2 rfl) ?_
          refine lv_iload_n hx hb dX4_takeNumber_104 rfl (lv_at hl 1 rfl) ?_
          refine lv_iconst (v := (2 : Int32)) hx hb dX4_takeNumber_105 rfl ?_
          refine lv_icmp_gt (tgt := 113) hx hb dX4_takeNumber_106 rfl (fun c_106 => ?_) (fun c_106 => ?_)
          · refine lv_sipush (v := (258 : Int32)) hx hb dX4_takeNumber_113 rfl ?_
            refine lv_goto (tgt := 122) hx hb dX4_takeNumber_116 rfl ?_
            refine r_put Sx hW 0 rfl rfl bw_wsX40 tyX4_ok nmX4 3 (by decide) mw61 rfl rfl rfl (Nat.le_of_ble_eq_true rfl) dX4_takeNumber_122 (ws' := ((pRdr cI a (upA Qr 0 (upd (upd (upd (Qr 0) 0 (nI q)) 2 (258 : Int32)) 3 v)) L V) ++ (pTxt cI b T))) rfl (fun H locs hW => ?_)
            exact hret _ _ _ _ _ hW rfl dX4_takeNumber_125 (by simp only [tkQ, he, hv, tkT]; simp [c_80, c_106])
          · refine lv_iload_n hx hb dX4_takeNumber_109 rfl (lv_at hl 0 rfl) ?_
            refine lv_if_eq (tgt := 119) hx hb dX4_takeNumber_110 rfl (fun c_110 => ?_) (fun c_110 => ?_)
            · refine lv_sipush (v := (256 : Int32)) hx hb dX4_takeNumber_119 rfl ?_
              refine r_put Sx hW 0 rfl rfl bw_wsX40 tyX4_ok nmX4 3 (by decide) mw61 rfl rfl rfl (Nat.le_of_ble_eq_true rfl) dX4_takeNumber_122 (ws' := ((pRdr cI a (upA Qr 0 (upd (upd (upd (Qr 0) 0 (nI q)) 2 (256 : Int32)) 3 v)) L V) ++ (pTxt cI b T))) rfl (fun H locs hW => ?_)
              exact hret _ _ _ _ _ hW rfl dX4_takeNumber_125 (by simp only [tkQ, he, hv, tkT]; simp [c_80, c_106, c_110])
            · exact absurd c_110 (by decide)
        · refine lv_aload_n hx hb dX4_takeNumber_83 rfl (lv_at hl 2 rfl) ?_
          refine r_get Sx hW 9 rfl rfl bw_wsX60 0 (by decide) (v := .ref (b 1)) rfl mw181 dX4_takeNumber_84 ?_
          refine lv_aload_n hx hb dX4_takeNumber_87 rfl (lv_at hl 1 rfl) ?_
          refine r_get Sx hW 0 rfl rfl bw_wsX40 2 (by decide) (v := .int (Qr 0 1)) rfl mw60 dX4_takeNumber_88 ?_
          refine r_eq (y := (nI s0)) hs ?_
          refine r_iald Sx hW 10 0 rfl rfl (j := s0) rfl (by omega) (by decide) dX4_takeNumber_91 ?_
          refine lv_bipush (v := (48 : Int32)) hx hb dX4_takeNumber_92 rfl ?_
          refine lv_icmp_ne (tgt := 101) hx hb dX4_takeNumber_94 rfl (fun c_94 => ?_) (fun c_94 => ?_)
          · refine lv_iconst (v := (0 : Int32)) hx hb dX4_takeNumber_101 rfl ?_
            refine lv_istore_n (lv' := [(3, .int (0 : Int32)), (2, .int (nI (q - s0))), (0, .ref (a 0)), (1, .ref (b 0))]) hx hb dX4_takeNumber_102 rfl hl (by decide) rfl (fun ls hl => ?_)
            refine lv_aload_n hx hb dX4_takeNumber_103 rfl (lv_at hl 2 rfl) ?_
            refine lv_iload_n hx hb dX4_takeNumber_104 rfl (lv_at hl 1 rfl) ?_
            refine lv_iconst (v := (2 : Int32)) hx hb dX4_takeNumber_105 rfl ?_
            refine lv_icmp_gt (tgt := 113) hx hb dX4_takeNumber_106 rfl (fun c_106 => ?_) (fun c_106 => ?_)
            · refine lv_sipush (v := (258 : Int32)) hx hb dX4_takeNumber_113 rfl ?_
              refine lv_goto (tgt := 122) hx hb dX4_takeNumber_116 rfl ?_
              refine r_put Sx hW 0 rfl rfl bw_wsX40 tyX4_ok nmX4 3 (by decide) mw61 rfl rfl rfl (Nat.le_of_ble_eq_true rfl) dX4_takeNumber_122 (ws' := ((pRdr cI a (upA Qr 0 (upd (upd (upd (Qr 0) 0 (nI q)) 2 (258 : Int32)) 3 v)) L V) ++ (pTxt cI b T))) rfl (fun H locs hW => ?_)
              exact hret _ _ _ _ _ hW rfl dX4_takeNumber_125 (by simp only [tkQ, he, hv, tkT]; simp [c_80, c_94, c_106])
            · refine lv_iload_n hx hb dX4_takeNumber_109 rfl (lv_at hl 0 rfl) ?_
              refine lv_if_eq (tgt := 119) hx hb dX4_takeNumber_110 rfl (fun c_110 => ?_) (fun c_110 => ?_)
              · refine lv_sipush (v := (256 : Int32)) hx hb dX4_takeNumber_119 rfl ?_
                refine r_put Sx hW 0 rfl rfl bw_wsX40 tyX4_ok nmX4 3 (by decide) mw61 rfl rfl rfl (Nat.le_of_ble_eq_true rfl) dX4_takeNumber_122 (ws' := ((pRdr cI a (upA Qr 0 (upd (upd (upd (Qr 0) 0 (nI q)) 2 (256 : Int32)) 3 v)) L V) ++ (pTxt cI b T))) rfl (fun H locs hW => ?_)
                exact hret _ _ _ _ _ hW rfl dX4_takeNumber_125 (by simp only [tkQ, he, hv, tkT]; simp [c_80, c_94, c_106, c_110])
              · exact absurd c_110 (by decide)
          · refine lv_iconst (v := (1 : Int32)) hx hb dX4_takeNumber_97 rfl ?_
            refine lv_goto (tgt := 102) hx hb dX4_takeNumber_98 rfl ?_
            refine lv_istore_n (lv' := [(3, .int (1 : Int32)), (2, .int (nI (q - s0))), (0, .ref (a 0)), (1, .ref (b 0))]) hx hb dX4_takeNumber_102 rfl hl (by decide) rfl (fun ls hl => ?_)
            refine lv_aload_n hx hb dX4_takeNumber_103 rfl (lv_at hl 2 rfl) ?_
            refine lv_iload_n hx hb dX4_takeNumber_104 rfl (lv_at hl 1 rfl) ?_
            refine lv_iconst (v := (2 : Int32)) hx hb dX4_takeNumber_105 rfl ?_
            refine lv_icmp_gt (tgt := 113) hx hb dX4_takeNumber_106 rfl (fun c_106 => ?_) (fun c_106 => ?_)
            · refine lv_sipush (v := (258 : Int32)) hx hb dX4_takeNumber_113 rfl ?_
              refine lv_goto (tgt := 122) hx hb dX4_takeNumber_116 rfl ?_
              refine r_put Sx hW 0 rfl rfl bw_wsX40 tyX4_ok nmX4 3 (by decide) mw61 rfl rfl rfl (Nat.le_of_ble_eq_true rfl) dX4_takeNumber_122 (ws' := ((pRdr cI a (upA Qr 0 (upd (upd (upd (Qr 0) 0 (nI q)) 2 (258 : Int32)) 3 v)) L V) ++ (pTxt cI b T))) rfl (fun H locs hW => ?_)
              exact hret _ _ _ _ _ hW rfl dX4_takeNumber_125 (by simp only [tkQ, he, hv, tkT]; simp [c_80, c_94, c_106])
            · refine lv_iload_n hx hb dX4_takeNumber_109 rfl (lv_at hl 0 rfl) ?_
              refine lv_if_eq (tgt := 119) hx hb dX4_takeNumber_110 rfl (fun c_110 => ?_) (fun c_110 => ?_)
              · exact absurd c_110 (by decide)
              · refine lv_sipush (v := (258 : Int32)) hx hb dX4_takeNumber_113 rfl ?_
                refine lv_goto (tgt := 122) hx hb dX4_takeNumber_116 rfl ?_
                refine r_put Sx hW 0 rfl rfl bw_wsX40 tyX4_ok nmX4 3 (by decide) mw61 rfl rfl rfl (Nat.le_of_ble_eq_true rfl) dX4_takeNumber_122 (ws' := ((pRdr cI a (upA Qr 0 (upd (upd (upd (Qr 0) 0 (nI q)) 2 (258 : Int32)) 3 v)) L V) ++ (pTxt cI b T))) rfl (fun H locs hW => ?_)
                exact hret _ _ _ _ _ hW rfl dX4_takeNumber_125 (by simp only [tkQ, he, hv, tkT]; simp [c_80, c_94, c_106, c_110])
      · have lt_13 : q < z := Nat.not_le.mp (fun h => c_13 ((nI_leI (a := z) (b := q) (by omega) (by omega)).mpr h))
        refine lv_aload_n hx hb dX4_takeNumber_16 rfl (lv_at hl 1 rfl) ?_
        refine r_get Sx hW 9 rfl rfl bw_wsX60 0 (by decide) (v := .ref (b 1)) rfl mw181 dX4_takeNumber_17 ?_
        refine lv_aload_n hx hb dX4_takeNumber_20 rfl (lv_at hl 0 rfl) ?_
        refine r_get Sx hW 0 rfl rfl bw_wsX40 1 (by decide) (v := .int (nI q)) rfl mw59 dX4_takeNumber_21 ?_
        refine r_iald Sx hW 10 0 rfl rfl (j := q) rfl (by omega) (by decide) dX4_takeNumber_24 ?_
        refine callSI Sx hW (c_X4_isDigit l D cI cZ cN ((T 0) q)) smX4_isDigit mw182 (As := [.int ((T 0) q)]) (rest := []) rfl rfl hl.1 (Nat.le_of_ble_eq_true rfl) ⟨Nat.le_of_ble_eq_true rfl, Nat.le_of_ble_eq_true rfl⟩ ⟨Nat.le_refl _, Nat.le_refl _⟩ dX4_takeNumber_25 (fun rx H locs hqx hW => ?_)
        obtain ⟨hrx, -⟩ := hqx
        refine r_eq (y := (inI ((T 0) q) 48 57)) hrx ?_
        refine lv_if_eq (tgt := 68) hx hb dX4_takeNumber_28 rfl (fun c_28 => ?_) (fun c_28 => ?_)
        · have hst : ¬ (q < z ∧ inI (T 0 q) 48 57 ≠ 0) := fun h => by first | exact absurd h.1 (by omega) | exact h.2 c_28
          have he : dgE (T 0) z (z - p) p = q := by rw [← he]; exact dgE_stop _ _ _ _ hst
          have hv : dgV (T 0) z (z - p) p 0 = v := by rw [← hv]; exact dgV_stop _ _ _ _ _ hst
          refine lv_aload_n hx hb dX4_takeNumber_68 rfl (lv_at hl 0 rfl) ?_
          refine r_get Sx hW 0 rfl rfl bw_wsX40 1 (by decide) (v := .int (nI q)) rfl mw59 dX4_takeNumber_69 ?_
          refine lv_aload_n hx hb dX4_takeNumber_72 rfl (lv_at hl 0 rfl) ?_
          refine r_get Sx hW 0 rfl rfl bw_wsX40 2 (by decide) (v := .int (Qr 0 1)) rfl mw60 dX4_takeNumber_73 ?_
          refine r_eq (y := (nI s0)) hs ?_
          refine lv_isub hx hb dX4_takeNumber_76 ?_
          refine r_eq (y := (nI (q - s0))) (pk_sub (a := q) (b := s0) (by omega)) ?_
          refine lv_istore_n (lv' := [(2, .int (nI (q - s0))), (0, .ref (a 0)), (1, .ref (b 0))]) hx hb dX4_takeNumber_77 rfl hl (by decide) rfl (fun ls hl => ?_)
          refine lv_iload_n hx hb dX4_takeNumber_78 rfl (lv_at hl 0 rfl) ?_
          refine lv_iconst (v := (1 : Int32)) hx hb dX4_takeNumber_79 rfl ?_
          refine lv_icmp_le (tgt := 101) hx hb dX4_takeNumber_80 rfl (fun c_80 => ?_) (fun c_80 => ?_)
          · refine lv_iconst (v := (0 : Int32)) hx hb dX4_takeNumber_101 rfl ?_
            refine lv_istore_n (lv' := [(3, .int (0 : Int32)), (2, .int (nI (q - s0))), (0, .ref (a 0)), (1, .ref (b 0))]) hx hb dX4_takeNumber_102 rfl hl (by decide) rfl (fun ls hl => ?_)
            refine lv_aload_n hx hb dX4_takeNumber_103 rfl (lv_at hl 2 rfl) ?_
            refine lv_iload_n hx hb dX4_takeNumber_104 rfl (lv_at hl 1 rfl) ?_
            refine lv_iconst (v := (2 : Int32)) hx hb dX4_takeNumber_105 rfl ?_
            refine lv_icmp_gt (tgt := 113) hx hb dX4_takeNumber_106 rfl (fun c_106 => ?_) (fun c_106 => ?_)
            · refine lv_sipush (v := (258 : Int32)) hx hb dX4_takeNumber_113 rfl ?_
              refine lv_goto (tgt := 122) hx hb dX4_takeNumber_116 rfl ?_
              refine r_put Sx hW 0 rfl rfl bw_wsX40 tyX4_ok nmX4 3 (by decide) mw61 rfl rfl rfl (Nat.le_of_ble_eq_true rfl) dX4_takeNumber_122 (ws' := ((pRdr cI a (upA Qr 0 (upd (upd (upd (Qr 0) 0 (nI q)) 2 (258 : Int32)) 3 v)) L V) ++ (pTxt cI b T))) rfl (fun H locs hW => ?_)
              exact hret _ _ _ _ _ hW rfl dX4_takeNumber_125 (by simp only [tkQ, he, hv, tkT]; simp [c_80, c_106])
            · refine lv_iload_n hx hb dX4_takeNumber_109 rfl (lv_at hl 0 rfl) ?_
              refine lv_if_eq (tgt := 119) hx hb dX4_takeNumber_110 rfl (fun c_110 => ?_) (fun c_110 => ?_)
              · refine lv_sipush (v := (256 : Int32)) hx hb dX4_takeNumber_119 rfl ?_
                refine r_put Sx hW 0 rfl rfl bw_wsX40 tyX4_ok nmX4 3 (by decide) mw61 rfl rfl rfl (Nat.le_of_ble_eq_true rfl) dX4_takeNumber_122 (ws' := ((pRdr cI a (upA Qr 0 (upd (upd (upd (Qr 0) 0 (nI q)) 2 (256 : Int32)) 3 v)) L V) ++ (pTxt cI b T))) rfl (fun H locs hW => ?_)
                exact hret _ _ _ _ _ hW rfl dX4_takeNumber_125 (by simp only [tkQ, he, hv, tkT]; simp [c_80, c_106, c_110])
              · exact absurd c_110 (by decide)
          · refine lv_aload_n hx hb dX4_takeNumber_83 rfl (lv_at hl 2 rfl) ?_
            refine r_get Sx hW 9 rfl rfl bw_wsX60 0 (by decide) (v := .ref (b 1)) rfl mw181 dX4_takeNumber_84 ?_
            refine lv_aload_n hx hb dX4_takeNumber_87 rfl (lv_at hl 1 rfl) ?_
            refine r_get Sx hW 0 rfl rfl bw_wsX40 2 (by decide) (v := .int (Qr 0 1)) rfl mw60 dX4_takeNumber_88 ?_
            refine r_eq (y := (nI s0)) hs ?_
            refine r_iald Sx hW 10 0 rfl rfl (j := s0) rfl (by omega) (by decide) dX4_takeNumber_91 ?_
            refine lv_bipush (v := (48 : Int32)) hx hb dX4_takeNumber_92 rfl ?_
            refine lv_icmp_ne (tgt := 101) hx hb dX4_takeNumber_94 rfl (fun c_94 => ?_) (fun c_94 => ?_)
            · refine lv_iconst (v := (0 : Int32)) hx hb dX4_takeNumber_101 rfl ?_
              refine lv_istore_n (lv' := [(3, .int (0 : Int32)), (2, .int (nI (q - s0))), (0, .ref (a 0)), (1, .ref (b 0))]) hx hb dX4_takeNumber_102 rfl hl (by decide) rfl (fun ls hl => ?_)
              refine lv_aload_n hx hb dX4_takeNumber_103 rfl (lv_at hl 2 rfl) ?_
              refine lv_iload_n hx hb dX4_takeNumber_104 rfl (lv_at hl 1 rfl) ?_
              refine lv_iconst (v := (2 : Int32)) hx hb dX4_takeNumber_105 rfl ?_
              refine lv_icmp_gt (tgt := 113) hx hb dX4_takeNumber_106 rfl (fun c_106 => ?_) (fun c_106 => ?_)
              · refine lv_sipush (v := (258 : Int32)) hx hb dX4_takeNumber_113 rfl ?_
                refine lv_goto (tgt := 122) hx hb dX4_takeNumber_116 rfl ?_
                refine r_put Sx hW 0 rfl rfl bw_wsX40 tyX4_ok nmX4 3 (by decide) mw61 rfl rfl rfl (Nat.le_of_ble_eq_true rfl) dX4_takeNumber_122 (ws' := ((pRdr cI a (upA Qr 0 (upd (upd (upd (Qr 0) 0 (nI q)) 2 (258 : Int32)) 3 v)) L V) ++ (pTxt cI b T))) rfl (fun H locs hW => ?_)
                exact hret _ _ _ _ _ hW rfl dX4_takeNumber_125 (by simp only [tkQ, he, hv, tkT]; simp [c_80, c_94, c_106])
              · refine lv_iload_n hx hb dX4_takeNumber_109 rfl (lv_at hl 0 rfl) ?_
                refine lv_if_eq (tgt := 119) hx hb dX4_takeNumber_110 rfl (fun c_110 => ?_) (fun c_110 => ?_)
                · refine lv_sipush (v := (256 : Int32)) hx hb dX4_takeNumber_119 rfl ?_
                  refine r_put Sx hW 0 rfl rfl bw_wsX40 tyX4_ok nmX4 3 (by decide) mw61 rfl rfl rfl (Nat.le_of_ble_eq_true rfl) dX4_takeNumber_122 (ws' := ((pRdr cI a (upA Qr 0 (upd (upd (upd (Qr 0) 0 (nI q)) 2 (256 : Int32)) 3 v)) L V) ++ (pTxt cI b T))) rfl (fun H locs hW => ?_)
                  exact hret _ _ _ _ _ hW rfl dX4_takeNumber_125 (by simp only [tkQ, he, hv, tkT]; simp [c_80, c_94, c_106, c_110])
                · exact absurd c_110 (by decide)
            · refine lv_iconst (v := (1 : Int32)) hx hb dX4_takeNumber_97 rfl ?_
              refine lv_goto (tgt := 102) hx hb dX4_takeNumber_98 rfl ?_
              refine lv_istore_n (lv' := [(3, .int (1 : Int32)), (2, .int (nI (q - s0))), (0, .ref (a 0)), (1, .ref (b 0))]) hx hb dX4_takeNumber_102 rfl hl (by decide) rfl (fun ls hl => ?_)
              refine lv_aload_n hx hb dX4_takeNumber_103 rfl (lv_at hl 2 rfl) ?_
              refine lv_iload_n hx hb dX4_takeNumber_104 rfl (lv_at hl 1 rfl) ?_
              refine lv_iconst (v := (2 : Int32)) hx hb dX4_takeNumber_105 rfl ?_
              refine lv_icmp_gt (tgt := 113) hx hb dX4_takeNumber_106 rfl (fun c_106 => ?_) (fun c_106 => ?_)
              · refine lv_sipush (v := (258 : Int32)) hx hb dX4_takeNumber_113 rfl ?_
                refine lv_goto (tgt := 122) hx hb dX4_takeNumber_116 rfl ?_
                refine r_put Sx hW 0 rfl rfl bw_wsX40 tyX4_ok nmX4 3 (by decide) mw61 rfl rfl rfl (Nat.le_of_ble_eq_true rfl) dX4_takeNumber_122 (ws' := ((pRdr cI a (upA Qr 0 (upd (upd (upd (Qr 0) 0 (nI q)) 2 (258 : Int32)) 3 v)) L V) ++ (pTxt cI b T))) rfl (fun H locs hW => ?_)
                exact hret _ _ _ _ _ hW rfl dX4_takeNumber_125 (by simp only [tkQ, he, hv, tkT]; simp [c_80, c_94, c_106])
              · refine lv_iload_n hx hb dX4_takeNumber_109 rfl (lv_at hl 0 rfl) ?_
                refine lv_if_eq (tgt := 119) hx hb dX4_takeNumber_110 rfl (fun c_110 => ?_) (fun c_110 => ?_)
                · exact absurd c_110 (by decide)
                · refine lv_sipush (v := (258 : Int32)) hx hb dX4_takeNumber_113 rfl ?_
                  refine lv_goto (tgt := 122) hx hb dX4_takeNumber_116 rfl ?_
                  refine r_put Sx hW 0 rfl rfl bw_wsX40 tyX4_ok nmX4 3 (by decide) mw61 rfl rfl rfl (Nat.le_of_ble_eq_true rfl) dX4_takeNumber_122 (ws' := ((pRdr cI a (upA Qr 0 (upd (upd (upd (Qr 0) 0 (nI q)) 2 (258 : Int32)) 3 v)) L V) ++ (pTxt cI b T))) rfl (fun H locs hW => ?_)
                  exact hret _ _ _ _ _ hW rfl dX4_takeNumber_125 (by simp only [tkQ, he, hv, tkT]; simp [c_80, c_94, c_106, c_110])
        · refine lv_aload_n hx hb dX4_takeNumber_31 rfl (lv_at hl 0 rfl) ?_
          refine lv_aload_n hx hb dX4_takeNumber_32 rfl (lv_at hl 0 rfl) ?_
          refine r_get Sx hW 0 rfl rfl bw_wsX40 4 (by decide) (v := .int v) rfl mw62 dX4_takeNumber_33 ?_
          refine lv_bipush (v := (10 : Int32)) hx hb dX4_takeNumber_36 rfl ?_
          refine lv_imul hx hb dX4_takeNumber_38 ?_
          refine lv_aload_n hx hb dX4_takeNumber_39 rfl (lv_at hl 1 rfl) ?_
          refine r_get Sx hW 9 rfl rfl bw_wsX60 0 (by decide) (v := .ref (b 1)) rfl mw181 dX4_takeNumber_40 ?_
          refine lv_aload_n hx hb dX4_takeNumber_43 rfl (lv_at hl 0 rfl) ?_
          refine r_get Sx hW 0 rfl rfl bw_wsX40 1 (by decide) (v := .int (nI q)) rfl mw59 dX4_takeNumber_44 ?_
          refine r_iald Sx hW 10 0 rfl rfl (j := q) rfl (by omega) (by decide) dX4_takeNumber_47 ?_
          refine lv_iadd hx hb dX4_takeNumber_48 ?_
          refine lv_bipush (v := (48 : Int32)) hx hb dX4_takeNumber_49 rfl ?_
          refine lv_isub hx hb dX4_takeNumber_51 ?_
          refine r_put Sx hW 0 rfl rfl bw_wsX40 tyX4_ok nmX4 4 (by decide) mw62 rfl rfl rfl (Nat.le_of_ble_eq_true rfl) dX4_takeNumber_52 (ws' := ((pRdr cI a (upA Qr 0 (upd (upd (Qr 0) 0 (nI q)) 3 (((v * (10 : Int32)) + ((T 0) q)) - (48 : Int32)))) L V) ++ (pTxt cI b T))) rfl (fun H locs hW => ?_)
          refine lv_aload_n hx hb dX4_takeNumber_55 rfl (lv_at hl 0 rfl) ?_
          refine lv_dup hx hb dX4_takeNumber_56 rfl ?_
          refine r_get Sx hW 0 rfl rfl bw_wsX40 1 (by decide) (v := .int (nI q)) rfl mw59 dX4_takeNumber_57 ?_
          refine lv_iconst (v := (1 : Int32)) hx hb dX4_takeNumber_60 rfl ?_
          refine lv_iadd hx hb dX4_takeNumber_61 ?_
          refine r_eq (y := (nI (q + 1))) (nI_add q 1) ?_
          refine r_put Sx hW 0 rfl rfl bw_wsX40 tyX4_ok nmX4 1 (by decide) mw59 rfl rfl rfl (Nat.le_of_ble_eq_true rfl) dX4_takeNumber_62 (ws' := ((pRdr cI a (upA Qr 0 (upd (upd (Qr 0) 0 (nI (q + 1))) 3 (((v * (10 : Int32)) + ((T 0) q)) - (48 : Int32)))) L V) ++ (pTxt cI b T))) rfl (fun H locs hW => ?_)
          refine lv_goto (tgt := 5) hx hb dX4_takeNumber_65 rfl ?_
          exact ih5 (q + 1) (v * (10 : Int32) + T 0 q - (48 : Int32)) (by rw [← he, show z - q = (z - (q + 1)) + 1 from by omega, dgE, if_pos ⟨lt_13, c_28⟩]) (by rw [← hv, show z - q = (z - (q + 1)) + 1 from by omega, dgV, if_pos ⟨lt_13, c_28⟩]) (by omega) (by omega) (by omega) _ _ _ hW (lv_sub hl [0, 1] rfl)
  have hW_1 := hW.cong (ws' := ((pRdr cI a (upA Qr 0 (upd (upd (Qr 0) 0 (nI p)) 3 (0 : Int32))) L V) ++ (pTxt cI b T))) (by first | (rw [show (upA Qr 0 (upd (upd (Qr 0) 0 (nI p)) 3 (0 : Int32))) = (upA Qr 0 (upd (Qr 0) 3 (0 : Int32))) from (by rw [show upA Qr 0 (upd (upd (Qr 0) 0 (nI p)) 3 (0 : Int32)) = upA Qr 0 (upd (Qr 0) 3 (0 : Int32)) from congrArg (fun f => upA Qr 0 (upd f 3 (0 : Int32))) (upd_same hp)])]; done) | (rw [show (upA Qr 0 (upd (upd (Qr 0) 0 (nI p)) 3 (0 : Int32))) = (upA Qr 0 (upd (Qr 0) 3 (0 : Int32))) from (by rw [show upA Qr 0 (upd (upd (Qr 0) 0 (nI p)) 3 (0 : Int32)) = upA Qr 0 (upd (Qr 0) 3 (0 : Int32)) from congrArg (fun f => upA Qr 0 (upd f 3 (0 : Int32))) (upd_same hp)])]; rfl))
  exact lp_5 (z + 1) p 0 rfl rfl (by omega) (by omega) (by omega) _ _ _ hW_1 (lv_sub hl [0, 1] rfl)

set_option maxHeartbeats 4000000 in
set_option maxRecDepth 100000 in
theorem c_X4_nextToken (l : Launch) (D : va_G) (cI cZ cN : ClassId) (a b : Nat → Nat) (Qr L V T : NV) (p : Nat) (z : Nat) (hz : T 1 0 = nI z) (hz2 : z ≤ 200) (hp : Qr 0 0 = nI p) (hpz : p ≤ z) : CtV l yX4_nextToken cX4_nextToken 2 2 D (tyG cI cZ cN) [.ref (a 0), .ref (b 0)] ((pRdr cI a Qr L V) ++ (pTxt cI b T)) (fun w => w = pRdr cI a (nT T z (p, Qr, L, V)).2.1 L V ++ pTxt cI b T) := by
  refine CtV.of rfl (Nat.le_of_ble_eq_true rfl) ?_
  intro pg ev sx mx ax bx mt cx ls Qx Ax Sx hret hW hl
  have hx := Sx.1
  have hb := Sx.2.1
  have hl : lv_has ls 2 [(0, .ref (a 0)), (1, .ref (b 0))] := hl
  have lp_0 : ∀ (n : Nat) (q : Nat), ((skB (T 0) z (z - q) q = skB (T 0) z (z - p) p)) → ((q ≤ z)) → ((z + 1 ≤ q + n)) → ∀ (H : Heap) (locs : List Loc) (ls : Array Slot), AtC D (tyG cI cZ cN) Ax ((pRdr cI a (upA Qr 0 (upd (Qr 0) 0 (nI q))) L V) ++ (pTxt cI b T)) sx H locs → lv_has ls 2 [(0, .ref (a 0)), (1, .ref (b 0))] → W pg l ev (rmN 2) sx mx ax bx mt cx H locs 0 0 Qx (F0 mx 0 ls []) := by
    intro n
    induction n with
    | zero =>
      intro q hs hq hn H locs ls hW hl
      exact absurd hn (by omega)
    | succ n ih0 =>
      intro q hs hq hn H locs ls hW hl
      refine lv_aload_n hx hb dX4_nextToken_0 rfl (lv_at hl 0 rfl) ?_
      refine r_get Sx hW 0 rfl rfl bw_wsX40 1 (by decide) (v := .int (nI q)) rfl mw59 dX4_nextToken_1 ?_
      refine lv_aload_n hx hb dX4_nextToken_4 rfl (lv_at hl 1 rfl) ?_
      refine r_get Sx hW 9 rfl rfl bw_wsX60 1 (by decide) (v := .int (T 1 0)) rfl mw180 dX4_nextToken_5 ?_
      refine r_eq (y := (nI z)) hz ?_
      refine lv_icmp_ge (tgt := 38) hx hb dX4_nextToken_8 rfl (fun c_8 => ?_) (fun c_8 => ?_)
      · have ge_8 : z ≤ q := (nI_leI (a := z) (b := q) (by omega) (by omega)).mp c_8
        have hst : skB (T 0) z (z - p) p = q := by rw [← hs]; exact skB_stop _ _ _ _ (fun h => by first | exact absurd h.1 (by omega) | exact c_8 h.2)
        refine lv_aload_n hx hb dX4_nextToken_38 rfl (lv_at hl 0 rfl) ?_
        refine lv_aload_n hx hb dX4_nextToken_39 rfl (lv_at hl 0 rfl) ?_
        refine r_get Sx hW 0 rfl rfl bw_wsX40 1 (by decide) (v := .int (nI q)) rfl mw59 dX4_nextToken_40 ?_
        refine r_put Sx hW 0 rfl rfl bw_wsX40 tyX4_ok nmX4 2 (by decide) mw60 rfl rfl rfl (Nat.le_of_ble_eq_true rfl) dX4_nextToken_43 (ws' := ((pRdr cI a (upA Qr 0 (upd (upd (Qr 0) 0 (nI q)) 1 (nI q))) L V) ++ (pTxt cI b T))) rfl (fun H locs hW => ?_)
        refine lv_aload_n hx hb dX4_nextToken_46 rfl (lv_at hl 0 rfl) ?_
        refine r_get Sx hW 0 rfl rfl bw_wsX40 1 (by decide) (v := .int (nI q)) rfl mw59 dX4_nextToken_47 ?_
        refine lv_aload_n hx hb dX4_nextToken_50 rfl (lv_at hl 1 rfl) ?_
        refine r_get Sx hW 9 rfl rfl bw_wsX60 1 (by decide) (v := .int (T 1 0)) rfl mw180 dX4_nextToken_51 ?_
        refine r_eq (y := (nI z)) hz ?_
        refine lv_icmp_lt (tgt := 67) hx hb dX4_nextToken_54 rfl (fun c_54 => ?_) (fun c_54 => ?_)
        · have lt_54 : q < z := (nI_ltI (a := q) (b := z) (by omega) (by omega)).mp c_54
          refine lv_aload_n hx hb dX4_nextToken_67 rfl (lv_at hl 1 rfl) ?_
          refine r_get Sx hW 9 rfl rfl bw_wsX60 0 (by decide) (v := .ref (b 1)) rfl mw181 dX4_nextToken_68 ?_
          refine lv_aload_n hx hb dX4_nextToken_71 rfl (lv_at hl 0 rfl) ?_
          refine r_get Sx hW 0 rfl rfl bw_wsX40 1 (by decide) (v := .int (nI q)) rfl mw59 dX4_nextToken_72 ?_
          refine r_iald Sx hW 10 0 rfl rfl (j := q) rfl (by omega) (by decide) dX4_nextToken_75 ?_
          refine callSI Sx hW (c_X4_isDigit l D cI cZ cN ((T 0) q)) smX4_isDigit mw182 (As := [.int ((T 0) q)]) (rest := []) rfl rfl hl.1 (Nat.le_of_ble_eq_true rfl) ⟨Nat.le_of_ble_eq_true rfl, Nat.le_of_ble_eq_true rfl⟩ ⟨Nat.le_refl _, Nat.le_refl _⟩ dX4_nextToken_76 (fun rx H locs hqx hW => ?_)
          obtain ⟨hrx, -⟩ := hqx
          refine r_eq (y := (inI ((T 0) q) 48 57)) hrx ?_
          refine lv_if_eq (tgt := 90) hx hb dX4_nextToken_79 rfl (fun c_79 => ?_) (fun c_79 => ?_)
          · refine lv_aload_n hx hb dX4_nextToken_90 rfl (lv_at hl 0 rfl) ?_
            refine lv_aload_n hx hb dX4_nextToken_91 rfl (lv_at hl 1 rfl) ?_
            refine r_get Sx hW 9 rfl rfl bw_wsX60 0 (by decide) (v := .ref (b 1)) rfl mw181 dX4_nextToken_92 ?_
            refine lv_aload_n hx hb dX4_nextToken_95 rfl (lv_at hl 0 rfl) ?_
            refine r_get Sx hW 0 rfl rfl bw_wsX40 1 (by decide) (v := .int (nI q)) rfl mw59 dX4_nextToken_96 ?_
            refine r_iald Sx hW 10 0 rfl rfl (j := q) rfl (by omega) (by decide) dX4_nextToken_99 ?_
            refine r_put Sx hW 0 rfl rfl bw_wsX40 tyX4_ok nmX4 3 (by decide) mw61 rfl rfl rfl (Nat.le_of_ble_eq_true rfl) dX4_nextToken_100 (ws' := ((pRdr cI a (upA Qr 0 (upd (upd (upd (Qr 0) 0 (nI q)) 1 (nI q)) 2 ((T 0) q))) L V) ++ (pTxt cI b T))) rfl (fun H locs hW => ?_)
            refine lv_aload_n hx hb dX4_nextToken_103 rfl (lv_at hl 0 rfl) ?_
            refine lv_dup hx hb dX4_nextToken_104 rfl ?_
            refine r_get Sx hW 0 rfl rfl bw_wsX40 1 (by decide) (v := .int (nI q)) rfl mw59 dX4_nextToken_105 ?_
            refine lv_iconst (v := (1 : Int32)) hx hb dX4_nextToken_108 rfl ?_
            refine lv_iadd hx hb dX4_nextToken_109 ?_
            refine r_eq (y := (nI (q + 1))) (nI_add q 1) ?_
            refine r_put Sx hW 0 rfl rfl bw_wsX40 tyX4_ok nmX4 1 (by decide) mw59 rfl rfl rfl (Nat.le_of_ble_eq_true rfl) dX4_nextToken_110 (ws' := ((pRdr cI a (upA Qr 0 (upd (upd (upd (Qr 0) 0 (nI (q + 1))) 1 (nI q)) 2 ((T 0) q))) L V) ++ (pTxt cI b T))) rfl (fun H locs hW => ?_)
            exact hret _ _ _ _ _ hW rfl dX4_nextToken_113 (by simp only [nT, hst, ntQ1]; simp [lt_54, c_79])
          · refine lv_aload_n hx hb dX4_nextToken_82 rfl (lv_at hl 0 rfl) ?_
            refine lv_aload_n hx hb dX4_nextToken_83 rfl (lv_at hl 1 rfl) ?_
            refine callVV Sx hW (c_X4_takeNumber l D cI cZ cN a b (upA Qr 0 (upd (upd (Qr 0) 0 (nI q)) 1 (nI q))) L V T q q z hz hz2 rfl rfl (Nat.le_refl q) lt_54) vmX4_takeNumber mw185 [0, 1, 2, 3, 4, 5, 6, 7, 8, 9, 10] rfl (by decide) 0 rfl rfl (As := [.ref (b 0)]) (rest := []) rfl rfl hl.1 (Nat.le_of_ble_eq_true rfl) ⟨Nat.le_of_ble_eq_true rfl, Nat.le_of_ble_eq_true rfl⟩ ⟨Nat.le_refl _, Nat.le_refl _⟩ dX4_nextToken_84 (fun wx H locs hqx hW => ?_)
            obtain rfl := hqx
            have hW : AtC D (tyG cI cZ cN) Ax ((pRdr cI a (tkQ (T 0) z (upA Qr 0 (upd (upd (Qr 0) 0 (nI q)) 1 (nI q))) q q) L V) ++ (pTxt cI b T)) sx H locs := hW
            refine lv_goto (tgt := 113) hx hb dX4_nextToken_87 rfl ?_
            exact hret _ _ _ _ _ hW rfl dX4_nextToken_113 (by simp only [nT, hst, ntQ1]; simp [lt_54, c_79])
        · have nlt_54 : ¬ q < z := fun h => c_54 ((nI_ltI (a := q) (b := z) (by omega) (by omega)).mpr h)
          refine lv_aload_n hx hb dX4_nextToken_57 rfl (lv_at hl 0 rfl) ?_
          refine lv_sipush (v := (257 : Int32)) hx hb dX4_nextToken_58 rfl ?_
          refine r_put Sx hW 0 rfl rfl bw_wsX40 tyX4_ok nmX4 3 (by decide) mw61 rfl rfl rfl (Nat.le_of_ble_eq_true rfl) dX4_nextToken_61 (ws' := ((pRdr cI a (upA Qr 0 (upd (upd (upd (Qr 0) 0 (nI q)) 1 (nI q)) 2 (257 : Int32))) L V) ++ (pTxt cI b T))) rfl (fun H locs hW => ?_)
          refine lv_goto (tgt := 113) hx hb dX4_nextToken_64 rfl ?_
          exact hret _ _ _ _ _ hW rfl dX4_nextToken_113 (by simp only [nT, hst, ntQ1]; simp [nlt_54])
      · have lt_8 : q < z := Nat.not_le.mp (fun h => c_8 ((nI_leI (a := z) (b := q) (by omega) (by omega)).mpr h))
        refine lv_aload_n hx hb dX4_nextToken_11 rfl (lv_at hl 1 rfl) ?_
        refine r_get Sx hW 9 rfl rfl bw_wsX60 0 (by decide) (v := .ref (b 1)) rfl mw181 dX4_nextToken_12 ?_
        refine lv_aload_n hx hb dX4_nextToken_15 rfl (lv_at hl 0 rfl) ?_
        refine r_get Sx hW 0 rfl rfl bw_wsX40 1 (by decide) (v := .int (nI q)) rfl mw59 dX4_nextToken_16 ?_
        refine r_iald Sx hW 10 0 rfl rfl (j := q) rfl (by omega) (by decide) dX4_nextToken_19 ?_
        refine lv_bipush (v := (32 : Int32)) hx hb dX4_nextToken_20 rfl ?_
        refine lv_icmp_ne (tgt := 38) hx hb dX4_nextToken_22 rfl (fun c_22 => ?_) (fun c_22 => ?_)
        · have hst : skB (T 0) z (z - p) p = q := by rw [← hs]; exact skB_stop _ _ _ _ (fun h => by first | exact absurd h.1 (by omega) | exact c_22 h.2)
          refine lv_aload_n hx hb dX4_nextToken_38 rfl (lv_at hl 0 rfl) ?_
          refine lv_aload_n hx hb dX4_nextToken_39 rfl (lv_at hl 0 rfl) ?_
          refine r_get Sx hW 0 rfl rfl bw_wsX40 1 (by decide) (v := .int (nI q)) rfl mw59 dX4_nextToken_40 ?_
          refine r_put Sx hW 0 rfl rfl bw_wsX40 tyX4_ok nmX4 2 (by decide) mw60 rfl rfl rfl (Nat.le_of_ble_eq_true rfl) dX4_nextToken_43 (ws' := ((pRdr cI a (upA Qr 0 (upd (upd (Qr 0) 0 (nI q)) 1 (nI q))) L V) ++ (pTxt cI b T))) rfl (fun H locs hW => ?_)
          refine lv_aload_n hx hb dX4_nextToken_46 rfl (lv_at hl 0 rfl) ?_
          refine r_get Sx hW 0 rfl rfl bw_wsX40 1 (by decide) (v := .int (nI q)) rfl mw59 dX4_nextToken_47 ?_
          refine lv_aload_n hx hb dX4_nextToken_50 rfl (lv_at hl 1 rfl) ?_
          refine r_get Sx hW 9 rfl rfl bw_wsX60 1 (by decide) (v := .int (T 1 0)) rfl mw180 dX4_nextToken_51 ?_
          refine r_eq (y := (nI z)) hz ?_
          refine lv_icmp_lt (tgt := 67) hx hb dX4_nextToken_54 rfl (fun c_54 => ?_) (fun c_54 => ?_)
          · have lt_54 : q < z := (nI_ltI (a := q) (b := z) (by omega) (by omega)).mp c_54
            refine lv_aload_n hx hb dX4_nextToken_67 rfl (lv_at hl 1 rfl) ?_
            refine r_get Sx hW 9 rfl rfl bw_wsX60 0 (by decide) (v := .ref (b 1)) rfl mw181 dX4_nextToken_68 ?_
            refine lv_aload_n hx hb dX4_nextToken_71 rfl (lv_at hl 0 rfl) ?_
            refine r_get Sx hW 0 rfl rfl bw_wsX40 1 (by decide) (v := .int (nI q)) rfl mw59 dX4_nextToken_72 ?_
            refine r_iald Sx hW 10 0 rfl rfl (j := q) rfl (by omega) (by decide) dX4_nextToken_75 ?_
            refine callSI Sx hW (c_X4_isDigit l D cI cZ cN ((T 0) q)) smX4_isDigit mw182 (As := [.int ((T 0) q)]) (rest := []) rfl rfl hl.1 (Nat.le_of_ble_eq_true rfl) ⟨Nat.le_of_ble_eq_true rfl, Nat.le_of_ble_eq_true rfl⟩ ⟨Nat.le_refl _, Nat.le_refl _⟩ dX4_nextToken_76 (fun rx H locs hqx hW => ?_)
            obtain ⟨hrx, -⟩ := hqx
            refine r_eq (y := (inI ((T 0) q) 48 57)) hrx ?_
            refine lv_if_eq (tgt := 90) hx hb dX4_nextToken_79 rfl (fun c_79 => ?_) (fun c_79 => ?_)
            · refine lv_aload_n hx hb dX4_nextToken_90 rfl (lv_at hl 0 rfl) ?_
              refine lv_aload_n hx hb dX4_nextToken_91 rfl (lv_at hl 1 rfl) ?_
              refine r_get Sx hW 9 rfl rfl bw_wsX60 0 (by decide) (v := .ref (b 1)) rfl mw181 dX4_nextToken_92 ?_
              refine lv_aload_n hx hb dX4_nextToken_95 rfl (lv_at hl 0 rfl) ?_
              refine r_get Sx hW 0 rfl rfl bw_wsX40 1 (by decide) (v := .int (nI q)) rfl mw59 dX4_nextToken_96 ?_
              refine r_iald Sx hW 10 0 rfl rfl (j := q) rfl (by omega) (by decide) dX4_nextToken_99 ?_
              refine r_put Sx hW 0 rfl rfl bw_wsX40 tyX4_ok nmX4 3 (by decide) mw61 rfl rfl rfl (Nat.le_of_ble_eq_true rfl) dX4_nextToken_100 (ws' := ((pRdr cI a (upA Qr 0 (upd (upd (upd (Qr 0) 0 (nI q)) 1 (nI q)) 2 ((T 0) q))) L V) ++ (pTxt cI b T))) rfl (fun H locs hW => ?_)
              refine lv_aload_n hx hb dX4_nextToken_103 rfl (lv_at hl 0 rfl) ?_
              refine lv_dup hx hb dX4_nextToken_104 rfl ?_
              refine r_get Sx hW 0 rfl rfl bw_wsX40 1 (by decide) (v := .int (nI q)) rfl mw59 dX4_nextToken_105 ?_
              refine lv_iconst (v := (1 : Int32)) hx hb dX4_nextToken_108 rfl ?_
              refine lv_iadd hx hb dX4_nextToken_109 ?_
              refine r_eq (y := (nI (q + 1))) (nI_add q 1) ?_
              refine r_put Sx hW 0 rfl rfl bw_wsX40 tyX4_ok nmX4 1 (by decide) mw59 rfl rfl rfl (Nat.le_of_ble_eq_true rfl) dX4_nextToken_110 (ws' := ((pRdr cI a (upA Qr 0 (upd (upd (upd (Qr 0) 0 (nI (q + 1))) 1 (nI q)) 2 ((T 0) q))) L V) ++ (pTxt cI b T))) rfl (fun H locs hW => ?_)
              exact hret _ _ _ _ _ hW rfl dX4_nextToken_113 (by simp only [nT, hst, ntQ1]; simp [lt_54, c_79])
            · refine lv_aload_n hx hb dX4_nextToken_82 rfl (lv_at hl 0 rfl) ?_
              refine lv_aload_n hx hb dX4_nextToken_83 rfl (lv_at hl 1 rfl) ?_
              refine callVV Sx hW (c_X4_takeNumber l D cI cZ cN a b (upA Qr 0 (upd (upd (Qr 0) 0 (nI q)) 1 (nI q))) L V T q q z hz hz2 rfl rfl (Nat.le_refl q) lt_54) vmX4_takeNumber mw185 [0, 1, 2, 3, 4, 5, 6, 7, 8, 9, 10] rfl (by decide) 0 rfl rfl (As := [.ref (b 0)]) (rest := []) rfl rfl hl.1 (Nat.le_of_ble_eq_true rfl) ⟨Nat.le_of_ble_eq_true rfl, Nat.le_of_ble_eq_true rfl⟩ ⟨Nat.le_refl _, Nat.le_refl _⟩ dX4_nextToken_84 (fun wx H locs hqx hW => ?_)
              obtain rfl := hqx
              have hW : AtC D (tyG cI cZ cN) Ax ((pRdr cI a (tkQ (T 0) z (upA Qr 0 (upd (upd (Qr 0) 0 (nI q)) 1 (nI q))) q q) L V) ++ (pTxt cI b T)) sx H locs := hW
              refine lv_goto (tgt := 113) hx hb dX4_nextToken_87 rfl ?_
              exact hret _ _ _ _ _ hW rfl dX4_nextToken_113 (by simp only [nT, hst, ntQ1]; simp [lt_54, c_79])
          · have nlt_54 : ¬ q < z := fun h => c_54 ((nI_ltI (a := q) (b := z) (by omega) (by omega)).mpr h)
            refine lv_aload_n hx hb dX4_nextToken_57 rfl (lv_at hl 0 rfl) ?_
            refine lv_sipush (v := (257 : Int32)) hx hb dX4_nextToken_58 rfl ?_
            refine r_put Sx hW 0 rfl rfl bw_wsX40 tyX4_ok nmX4 3 (by decide) mw61 rfl rfl rfl (Nat.le_of_ble_eq_true rfl) dX4_nextToken_61 (ws' := ((pRdr cI a (upA Qr 0 (upd (upd (upd (Qr 0) 0 (nI q)) 1 (nI q)) 2 (257 : Int32))) L V) ++ (pTxt cI b T))) rfl (fun H locs hW => ?_)
            refine lv_goto (tgt := 113) hx hb dX4_nextToken_64 rfl ?_
            exact hret _ _ _ _ _ hW rfl dX4_nextToken_113 (by simp only [nT, hst, ntQ1]; simp [nlt_54])
        · refine lv_aload_n hx hb dX4_nextToken_25 rfl (lv_at hl 0 rfl) ?_
          refine lv_dup hx hb dX4_nextToken_26 rfl ?_
          refine r_get Sx hW 0 rfl rfl bw_wsX40 1 (by decide) (v := .int (nI q)) rfl mw59 dX4_nextToken_27 ?_
          refine lv_iconst (v := (1 : Int32)) hx hb dX4_nextToken_30 rfl ?_
          refine lv_iadd hx hb dX4_nextToken_31 ?_
          refine r_eq (y := (nI (q + 1))) (nI_add q 1) ?_
          refine r_put Sx hW 0 rfl rfl bw_wsX40 tyX4_ok nmX4 1 (by decide) mw59 rfl rfl rfl (Nat.le_of_ble_eq_true rfl) dX4_nextToken_32 (ws' := ((pRdr cI a (upA Qr 0 (upd (Qr 0) 0 (nI (q + 1)))) L V) ++ (pTxt cI b T))) rfl (fun H locs hW => ?_)
          refine lv_goto (tgt := 0) hx hb dX4_nextToken_35 rfl ?_
          exact ih0 (q + 1) (by rw [← hs, show z - q = (z - (q + 1)) + 1 from by omega, skB, if_pos ⟨lt_8, c_22⟩]) (by omega) (by omega) _ _ _ hW (lv_sub hl [0, 1] rfl)
  have hW_1 := hW.cong (ws' := ((pRdr cI a (upA Qr 0 (upd (Qr 0) 0 (nI p))) L V) ++ (pTxt cI b T))) (by first | (rw [show (upA Qr 0 (upd (Qr 0) 0 (nI p))) = Qr from (upA_same hp)]; done) | (rw [show (upA Qr 0 (upd (Qr 0) 0 (nI p))) = Qr from (upA_same hp)]; rfl))
  exact lp_0 (z + 1) p rfl (by omega) (by omega) _ _ _ hW_1 (lv_sub hl [0, 1] rfl)

set_option maxHeartbeats 4000000 in
set_option maxRecDepth 100000 in
theorem c_X4_readNumber (l : Launch) (D : va_G) (cI cZ cN : ClassId) (a b : Nat → Nat) (Qr L V T : NV) (p : Nat) (z : Nat) (hz : T 1 0 = nI z) (hz2 : z ≤ 200) (hw : wfP z (p, Qr, L, V)) (lo hi : Int32) : CtI l yX4_readNumber cX4_readNumber 4 (some .boolean) 3 D (tyG cI cZ cN) [.ref (a 0), .ref (b 0), .int lo, .int hi] ((pRdr cI a Qr L V) ++ (pTxt cI b T)) (fun r w => r = rnR (nT T z (p, Qr, L, V)).2.1 lo hi ∧ w = pRdr cI a (nT T z (p, Qr, L, V)).2.1 L V ++ pTxt cI b T) := by
  refine CtI.of rfl (Nat.le_of_ble_eq_true rfl) ?_
  intro pg ev sx mx ax bx mt cx ls Qx Ax Sx hret hW hl
  have hx := Sx.1
  have hb := Sx.2.1
  have hl : lv_has ls 4 [(0, .ref (a 0)), (1, .ref (b 0)), (2, .int lo), (3, .int hi)] := hl
  refine lv_aload_n hx hb dX4_readNumber_0 rfl (lv_at hl 0 rfl) ?_
  refine lv_aload_n hx hb dX4_readNumber_1 rfl (lv_at hl 1 rfl) ?_
  refine callVV Sx hW (c_X4_nextToken l D cI cZ cN a b Qr L V T (p, Qr, L, V).1 z hz hz2 hw.1 hw.2.1) vmX4_nextToken mw176 [0, 1, 2, 3, 4, 5, 6, 7, 8, 9, 10] rfl (by decide) 0 rfl rfl (As := [.ref (b 0)]) (rest := []) rfl rfl hl.1 (Nat.le_of_ble_eq_true rfl) ⟨Nat.le_of_ble_eq_true rfl, Nat.le_of_ble_eq_true rfl⟩ ⟨Nat.le_refl _, Nat.le_refl _⟩ dX4_readNumber_2 (fun wx H locs hqx hW => ?_)
  obtain rfl := hqx
  have hW : AtC D (tyG cI cZ cN) Ax ((pRdr cI a ((nT T z (p, Qr, L, V)).2.1) L V) ++ (pTxt cI b T)) sx H locs := hW
  refine lv_aload_n hx hb dX4_readNumber_5 rfl (lv_at hl 0 rfl) ?_
  refine r_get Sx hW 0 rfl rfl bw_wsX40 3 (by decide) (v := .int (((nT T z (p, Qr, L, V)).2.1) 0 2)) rfl mw61 dX4_readNumber_6 ?_
  refine lv_sipush (v := (256 : Int32)) hx hb dX4_readNumber_9 rfl ?_
  refine lv_icmp_ne (tgt := 31) hx hb dX4_readNumber_12 rfl (fun c_12 => ?_) (fun c_12 => ?_)
  · refine lv_iconst (v := (0 : Int32)) hx hb dX4_readNumber_31 rfl ?_
    exact hret _ _ _ _ _ _ hW rfl rfl dX4_readNumber_32 (⟨by simp [rnR, c_12], rfl⟩)
  · refine lv_aload_n hx hb dX4_readNumber_15 rfl (lv_at hl 0 rfl) ?_
    refine r_get Sx hW 0 rfl rfl bw_wsX40 4 (by decide) (v := .int (((nT T z (p, Qr, L, V)).2.1) 0 3)) rfl mw62 dX4_readNumber_16 ?_
    refine lv_iload_n hx hb dX4_readNumber_19 rfl (lv_at hl 2 rfl) ?_
    refine lv_iload_n hx hb dX4_readNumber_20 rfl (lv_at hl 3 rfl) ?_
    refine callNI Sx hW (c_X8_within l D cI cZ cN (((nT T z (p, Qr, L, V)).2.1) 0 3) lo hi) smX8_within 10 rfl (As := [.int (((nT T z (p, Qr, L, V)).2.1) 0 3), .int lo, .int hi]) (rest := []) rfl rfl hl.1 (Nat.le_of_ble_eq_true rfl) ⟨Nat.le_of_ble_eq_true rfl, Nat.le_of_ble_eq_true rfl⟩ ⟨Nat.le_refl _, Nat.le_refl _⟩ dX4_readNumber_21 (fun rx H locs hqx hW => ?_)
    obtain ⟨hrx, -⟩ := hqx
    refine r_eq (y := (inI (((nT T z (p, Qr, L, V)).2.1) 0 3) lo hi)) hrx ?_
    refine lv_if_eq (tgt := 31) hx hb dX4_readNumber_24 rfl (fun c_24 => ?_) (fun c_24 => ?_)
    · refine lv_iconst (v := (0 : Int32)) hx hb dX4_readNumber_31 rfl ?_
      exact hret _ _ _ _ _ _ hW rfl rfl dX4_readNumber_32 (⟨by simp [rnR, c_12, c_24], rfl⟩)
    · refine lv_iconst (v := (1 : Int32)) hx hb dX4_readNumber_27 rfl ?_
      refine lv_goto (tgt := 32) hx hb dX4_readNumber_28 rfl ?_
      exact hret _ _ _ _ _ _ hW rfl rfl dX4_readNumber_32 (⟨by rw [rnR, if_pos c_12, inI_of c_24], rfl⟩)

set_option maxHeartbeats 4000000 in
set_option maxRecDepth 100000 in
theorem c_X4_isEnded (l : Launch) (D : va_G) (cI cZ cN : ClassId) (a b : Nat → Nat) (Qr L V T : NV) (p : Nat) (z : Nat) (hz : T 1 0 = nI z) (hz2 : z ≤ 200) (hw : wfP z (p, Qr, L, V)) : CtI l yX4_isEnded cX4_isEnded 2 (some .boolean) 3 D (tyG cI cZ cN) [.ref (a 0), .ref (b 0)] ((pRdr cI a Qr L V) ++ (pTxt cI b T)) (fun r w => r = isE (nT T z (p, Qr, L, V)).2.1 ∧ w = pRdr cI a (nT T z (p, Qr, L, V)).2.1 L V ++ pTxt cI b T) := by
  refine CtI.of rfl (Nat.le_of_ble_eq_true rfl) ?_
  intro pg ev sx mx ax bx mt cx ls Qx Ax Sx hret hW hl
  have hx := Sx.1
  have hb := Sx.2.1
  have hl : lv_has ls 2 [(0, .ref (a 0)), (1, .ref (b 0))] := hl
  refine lv_aload_n hx hb dX4_isEnded_0 rfl (lv_at hl 0 rfl) ?_
  refine lv_aload_n hx hb dX4_isEnded_1 rfl (lv_at hl 1 rfl) ?_
  refine callVV Sx hW (c_X4_nextToken l D cI cZ cN a b Qr L V T (p, Qr, L, V).1 z hz hz2 hw.1 hw.2.1) vmX4_nextToken mw176 [0, 1, 2, 3, 4, 5, 6, 7, 8, 9, 10] rfl (by decide) 0 rfl rfl (As := [.ref (b 0)]) (rest := []) rfl rfl hl.1 (Nat.le_of_ble_eq_true rfl) ⟨Nat.le_of_ble_eq_true rfl, Nat.le_of_ble_eq_true rfl⟩ ⟨Nat.le_refl _, Nat.le_refl _⟩ dX4_isEnded_2 (fun wx H locs hqx hW => ?_)
  obtain rfl := hqx
  have hW : AtC D (tyG cI cZ cN) Ax ((pRdr cI a ((nT T z (p, Qr, L, V)).2.1) L V) ++ (pTxt cI b T)) sx H locs := hW
  refine lv_aload_n hx hb dX4_isEnded_5 rfl (lv_at hl 0 rfl) ?_
  refine r_get Sx hW 0 rfl rfl bw_wsX40 3 (by decide) (v := .int (((nT T z (p, Qr, L, V)).2.1) 0 2)) rfl mw61 dX4_isEnded_6 ?_
  refine lv_bipush (v := (59 : Int32)) hx hb dX4_isEnded_9 rfl ?_
  refine lv_icmp_ne (tgt := 18) hx hb dX4_isEnded_11 rfl (fun c_11 => ?_) (fun c_11 => ?_)
  · refine lv_iconst (v := (0 : Int32)) hx hb dX4_isEnded_18 rfl ?_
    exact hret _ _ _ _ _ _ hW rfl rfl dX4_isEnded_19 (⟨by simp [isE, c_11], rfl⟩)
  · refine lv_iconst (v := (1 : Int32)) hx hb dX4_isEnded_14 rfl ?_
    refine lv_goto (tgt := 19) hx hb dX4_isEnded_15 rfl ?_
    exact hret _ _ _ _ _ _ hW rfl rfl dX4_isEnded_19 (⟨by simp [isE, c_11], rfl⟩)

set_option maxHeartbeats 4000000 in
set_option maxRecDepth 100000 in
theorem c_X4_readNames (l : Launch) (D : va_G) (cI cZ cN : ClassId) (a b : Nat → Nat) (Qr L V T : NV) (p : Nat) (z : Nat) (hz : T 1 0 = nI z) (hz2 : z ≤ 200) (hw : wfP z (p, Qr, L, V)) : CtI l yX4_readNames cX4_readNames 2 (some .boolean) 4 D (tyG cI cZ cN) [.ref (a 0), .ref (b 0)] ((pRdr cI a Qr L V) ++ (pTxt cI b T)) (fun r w => r = (rdNm T z (p, Qr, L, V)).1 ∧ w = pRdr cI a (rdNm T z (p, Qr, L, V)).2.2.1 (rdNm T z (p, Qr, L, V)).2.2.2.1 (rdNm T z (p, Qr, L, V)).2.2.2.2 ++ pTxt cI b T) := by
  refine CtI.of rfl (Nat.le_of_ble_eq_true rfl) ?_
  intro pg ev sx mx ax bx mt cx ls Qx Ax Sx hret hW hl
  have hx := Sx.1
  have hb := Sx.2.1
  have hl : lv_has ls 2 [(0, .ref (a 0)), (1, .ref (b 0))] := hl
  refine lv_aload_n hx hb dX4_readNames_0 rfl (lv_at hl 0 rfl) ?_
  refine lv_aload_n hx hb dX4_readNames_1 rfl (lv_at hl 1 rfl) ?_
  refine lv_iconst (v := (1 : Int32)) hx hb dX4_readNames_2 rfl ?_
  refine lv_iconst (v := (4 : Int32)) hx hb dX4_readNames_3 rfl ?_
  refine callVI Sx hW (c_X4_readNumber l D cI cZ cN a b Qr L V T (p, Qr, L, V).1 z hz hz2 hw (1 : Int32) (4 : Int32)) vmX4_readNumber mw199 [0, 1, 2, 3, 4, 5, 6, 7, 8, 9, 10] rfl (by decide) 0 rfl rfl (As := [.ref (b 0), .int (1 : Int32), .int (4 : Int32)]) (rest := []) rfl rfl hl.1 (Nat.le_of_ble_eq_true rfl) ⟨Nat.le_of_ble_eq_true rfl, Nat.le_of_ble_eq_true rfl⟩ ⟨Nat.le_refl _, Nat.le_refl _⟩ dX4_readNames_4 (fun rx wx H locs hqx hW => ?_)
  obtain ⟨hrx, rfl⟩ := hqx
  have hW : AtC D (tyG cI cZ cN) Ax ((pRdr cI a ((nT T z (p, Qr, L, V)).2.1) L V) ++ (pTxt cI b T)) sx H locs := hW
  refine r_eq (y := (rnR (nT T z (p, Qr, L, V)).2.1 (1 : Int32) (4 : Int32))) hrx ?_
  refine lv_if_ne (tgt := 12) hx hb dX4_readNames_7 rfl (fun c_7 => ?_) (fun c_7 => ?_)
  · refine lv_aload_n hx hb dX4_readNames_12 rfl (lv_at hl 0 rfl) ?_
    refine r_get Sx hW 0 rfl rfl bw_wsX40 0 (by decide) (v := .ref (a 1)) rfl mw58 dX4_readNames_13 ?_
    refine lv_aload_n hx hb dX4_readNames_16 rfl (lv_at hl 0 rfl) ?_
    refine r_get Sx hW 0 rfl rfl bw_wsX40 4 (by decide) (v := .int (((nT T z (p, Qr, L, V)).2.1) 0 3)) rfl mw62 dX4_readNames_17 ?_
    refine r_put Sx hW 1 rfl rfl bw_wsX10 tyX1_ok nmX1 4 (by decide) mw198 rfl rfl rfl (Nat.le_of_ble_eq_true rfl) dX4_readNames_20 (ws' := ((pRdr cI a ((nT T z (p, Qr, L, V)).2.1) (upA L 3 (upd (L 3) 0 (((nT T z (p, Qr, L, V)).2.1) 0 3))) V) ++ (pTxt cI b T))) rfl (fun H locs hW => ?_)
    refine lv_iconst (v := (1 : Int32)) hx hb dX4_readNames_23 rfl ?_
    exact hret _ _ _ _ _ _ hW rfl rfl dX4_readNames_24 (by rw [rdNm]; first | (rw [if_pos c_7]; exact ⟨rfl, rfl⟩) | (rw [if_neg c_7]; exact ⟨rfl, rfl⟩))
  · refine lv_iconst (v := (0 : Int32)) hx hb dX4_readNames_10 rfl ?_
    exact hret _ _ _ _ _ _ hW rfl rfl dX4_readNames_11 (by rw [rdNm]; first | (rw [if_pos c_7]; exact ⟨rfl, rfl⟩) | (rw [if_neg c_7]; exact ⟨rfl, rfl⟩))

set_option maxHeartbeats 4000000 in
set_option maxRecDepth 100000 in
theorem c_X4_readPerson (l : Launch) (D : va_G) (cI cZ cN : ClassId) (a b : Nat → Nat) (Qr L V T : NV) (p : Nat) (z : Nat) (hz : T 1 0 = nI z) (hz2 : z ≤ 200) (hw : wfP z (p, Qr, L, V)) (h7 : ¬ 7 ≤ L 3 1) : CtI l yX4_readPerson cX4_readPerson 4 (some .boolean) 4 D (tyG cI cZ cN) [.ref (a 0), .ref (b 0)] ((pRdr cI a Qr L V) ++ (pTxt cI b T)) (fun r w => r = (rdPs T z (p, Qr, L, V)).1 ∧ w = pRdr cI a (rdPs T z (p, Qr, L, V)).2.2.1 (rdPs T z (p, Qr, L, V)).2.2.2.1 (rdPs T z (p, Qr, L, V)).2.2.2.2 ++ pTxt cI b T) := by
  refine CtI.of rfl (Nat.le_of_ble_eq_true rfl) ?_
  intro pg ev sx mx ax bx mt cx ls Qx Ax Sx hret hW hl
  have hx := Sx.1
  have hb := Sx.2.1
  have hl : lv_has ls 4 [(0, .ref (a 0)), (1, .ref (b 0))] := hl
  obtain ⟨-, -, ⟨N, hN7, hN⟩, -⟩ := id hw
  have hN : L 3 1 = nI N := hN
  have hlt7 : N < 7 := Nat.not_le.mp (fun q => h7 (by rw [hN]; exact (nI_leI (a := 7) (b := N) (by decide) (by omega)).mpr q))
  refine lv_aload_n hx hb dX4_readPerson_0 rfl (lv_at hl 0 rfl) ?_
  refine lv_aload_n hx hb dX4_readPerson_1 rfl (lv_at hl 1 rfl) ?_
  refine lv_iconst (v := (0 : Int32)) hx hb dX4_readPerson_2 rfl ?_
  refine lv_aload_n hx hb dX4_readPerson_3 rfl (lv_at hl 0 rfl) ?_
  refine r_get Sx hW 0 rfl rfl bw_wsX40 0 (by decide) (v := .ref (a 1)) rfl mw58 dX4_readPerson_4 ?_
  refine r_get Sx hW 1 rfl rfl bw_wsX10 4 (by decide) (v := .int (L 3 0)) rfl mw198 dX4_readPerson_7 ?_
  refine lv_iconst (v := (1 : Int32)) hx hb dX4_readPerson_10 rfl ?_
  refine lv_isub hx hb dX4_readPerson_11 ?_
  refine callVI Sx hW (c_X4_readNumber l D cI cZ cN a b Qr L V T (p, Qr, L, V).1 z hz hz2 hw (0 : Int32) ((L 3 0) - (1 : Int32))) vmX4_readNumber mw199 [0, 1, 2, 3, 4, 5, 6, 7, 8, 9, 10] rfl (by decide) 0 rfl rfl (As := [.ref (b 0), .int (0 : Int32), .int ((L 3 0) - (1 : Int32))]) (rest := []) rfl rfl hl.1 (Nat.le_of_ble_eq_true rfl) ⟨Nat.le_of_ble_eq_true rfl, Nat.le_of_ble_eq_true rfl⟩ ⟨Nat.le_refl _, Nat.le_refl _⟩ dX4_readPerson_12 (fun rx wx H locs hqx hW => ?_)
  obtain ⟨hrx, rfl⟩ := hqx
  have hW : AtC D (tyG cI cZ cN) Ax ((pRdr cI a ((nT T z (p, Qr, L, V)).2.1) L V) ++ (pTxt cI b T)) sx H locs := hW
  refine r_eq (y := (rnR (nT T z (p, Qr, L, V)).2.1 (0 : Int32) ((L 3 0) - (1 : Int32)))) hrx ?_
  refine lv_if_ne (tgt := 20) hx hb dX4_readPerson_15 rfl (fun c_15 => ?_) (fun c_15 => ?_)
  · refine lv_aload_n hx hb dX4_readPerson_20 rfl (lv_at hl 0 rfl) ?_
    refine r_get Sx hW 0 rfl rfl bw_wsX40 4 (by decide) (v := .int (((nT T z (p, Qr, L, V)).2.1) 0 3)) rfl mw62 dX4_readPerson_21 ?_
    refine lv_istore_n (lv' := [(2, .int (((nT T z (p, Qr, L, V)).2.1) 0 3)), (0, .ref (a 0)), (1, .ref (b 0))]) hx hb dX4_readPerson_24 rfl hl (by decide) rfl (fun ls hl => ?_)
    refine lv_aload_n hx hb dX4_readPerson_25 rfl (lv_at hl 1 rfl) ?_
    refine lv_aload_n hx hb dX4_readPerson_26 rfl (lv_at hl 2 rfl) ?_
    refine lv_iconst (v := (0 : Int32)) hx hb dX4_readPerson_27 rfl ?_
    refine lv_bipush (v := (99 : Int32)) hx hb dX4_readPerson_28 rfl ?_
    refine callVI Sx hW (c_X4_readNumber l D cI cZ cN a b ((nT T z (p, Qr, L, V)).2.1) L V T (nT T z (p, Qr, L, V)).1 z hz hz2 (wf_nT hw) (0 : Int32) (99 : Int32)) vmX4_readNumber mw199 [0, 1, 2, 3, 4, 5, 6, 7, 8, 9, 10] rfl (by decide) 0 rfl rfl (As := [.ref (b 0), .int (0 : Int32), .int (99 : Int32)]) (rest := []) rfl rfl hl.1 (Nat.le_of_ble_eq_true rfl) ⟨Nat.le_of_ble_eq_true rfl, Nat.le_of_ble_eq_true rfl⟩ ⟨Nat.le_refl _, Nat.le_refl _⟩ dX4_readPerson_30 (fun rx wx H locs hqx hW => ?_)
    obtain ⟨hrx, rfl⟩ := hqx
    have hW : AtC D (tyG cI cZ cN) Ax ((pRdr cI a ((nT T z (nT T z (p, Qr, L, V))).2.1) L V) ++ (pTxt cI b T)) sx H locs := hW
    refine r_eq (y := (rnR (nT T z (nT T z (p, Qr, L, V))).2.1 (0 : Int32) (99 : Int32))) hrx ?_
    refine lv_if_ne (tgt := 38) hx hb dX4_readPerson_33 rfl (fun c_33 => ?_) (fun c_33 => ?_)
    · refine lv_aload_n hx hb dX4_readPerson_38 rfl (lv_at hl 1 rfl) ?_
      refine r_get Sx hW 0 rfl rfl bw_wsX40 4 (by decide) (v := .int (((nT T z (nT T z (p, Qr, L, V))).2.1) 0 3)) rfl mw62 dX4_readPerson_39 ?_
      refine lv_istore_n (lv' := [(3, .int (((nT T z (nT T z (p, Qr, L, V))).2.1) 0 3)), (2, .int (((nT T z (p, Qr, L, V)).2.1) 0 3)), (0, .ref (a 0)), (1, .ref (b 0))]) hx hb dX4_readPerson_42 rfl hl (by decide) rfl (fun ls hl => ?_)
      refine lv_aload_n hx hb dX4_readPerson_43 rfl (lv_at hl 2 rfl) ?_
      refine lv_aload_n hx hb dX4_readPerson_44 rfl (lv_at hl 3 rfl) ?_
      refine lv_iconst (v := (0 : Int32)) hx hb dX4_readPerson_45 rfl ?_
      refine lv_bipush (v := (31 : Int32)) hx hb dX4_readPerson_46 rfl ?_
      refine callVI Sx hW (c_X4_readNumber l D cI cZ cN a b ((nT T z (nT T z (p, Qr, L, V))).2.1) L V T (nT T z (nT T z (p, Qr, L, V))).1 z hz hz2 (wf_nT (wf_nT hw)) (0 : Int32) (31 : Int32)) vmX4_readNumber mw199 [0, 1, 2, 3, 4, 5, 6, 7, 8, 9, 10] rfl (by decide) 0 rfl rfl (As := [.ref (b 0), .int (0 : Int32), .int (31 : Int32)]) (rest := []) rfl rfl hl.1 (Nat.le_of_ble_eq_true rfl) ⟨Nat.le_of_ble_eq_true rfl, Nat.le_of_ble_eq_true rfl⟩ ⟨Nat.le_refl _, Nat.le_refl _⟩ dX4_readPerson_48 (fun rx wx H locs hqx hW => ?_)
      obtain ⟨hrx, rfl⟩ := hqx
      have hW : AtC D (tyG cI cZ cN) Ax ((pRdr cI a ((nT T z (nT T z (nT T z (p, Qr, L, V)))).2.1) L V) ++ (pTxt cI b T)) sx H locs := hW
      refine r_eq (y := (rnR (nT T z (nT T z (nT T z (p, Qr, L, V)))).2.1 (0 : Int32) (31 : Int32))) hrx ?_
      refine lv_if_ne (tgt := 56) hx hb dX4_readPerson_51 rfl (fun c_51 => ?_) (fun c_51 => ?_)
      · refine lv_aload_n hx hb dX4_readPerson_56 rfl (lv_at hl 2 rfl) ?_
        refine r_get Sx hW 0 rfl rfl bw_wsX40 0 (by decide) (v := .ref (a 1)) rfl mw58 dX4_readPerson_57 ?_
        refine lv_iload_n hx hb dX4_readPerson_60 rfl (lv_at hl 1 rfl) ?_
        refine lv_iload_n hx hb dX4_readPerson_61 rfl (lv_at hl 0 rfl) ?_
        refine lv_aload_n hx hb dX4_readPerson_62 rfl (lv_at hl 2 rfl) ?_
        refine r_get Sx hW 0 rfl rfl bw_wsX40 4 (by decide) (v := .int (((nT T z (nT T z (nT T z (p, Qr, L, V)))).2.1) 0 3)) rfl mw62 dX4_readPerson_63 ?_
        refine callVV Sx hW (c_X1_addPerson l D cI cZ cN (fun i => a (i + 1)) L V (((nT T z (p, Qr, L, V)).2.1) 0 3) (((nT T z (nT T z (p, Qr, L, V))).2.1) 0 3) (((nT T z (nT T z (nT T z (p, Qr, L, V)))).2.1) 0 3) N hN hlt7) vmX1_addPerson mw211 [1, 2, 3, 4, 5, 6, 7, 8] rfl (by decide) 0 rfl rfl (As := [.int (((nT T z (p, Qr, L, V)).2.1) 0 3), .int (((nT T z (nT T z (p, Qr, L, V))).2.1) 0 3), .int (((nT T z (nT T z (nT T z (p, Qr, L, V)))).2.1) 0 3)]) (rest := []) rfl rfl hl.1 (Nat.le_of_ble_eq_true rfl) ⟨Nat.le_of_ble_eq_true rfl, Nat.le_of_ble_eq_true rfl⟩ ⟨Nat.le_refl _, Nat.le_refl _⟩ dX4_readPerson_66 (fun wx H locs hqx hW => ?_)
        obtain rfl := hqx
        have hW : AtC D (tyG cI cZ cN) Ax ((pRdr cI a ((nT T z (nT T z (nT T z (p, Qr, L, V)))).2.1) (apL L N (((nT T z (nT T z (nT T z (p, Qr, L, V)))).2.1) 0 3)) (apV V N (((nT T z (p, Qr, L, V)).2.1) 0 3) (((nT T z (nT T z (p, Qr, L, V))).2.1) 0 3))) ++ (pTxt cI b T)) sx H locs := hW
        refine lv_iconst (v := (1 : Int32)) hx hb dX4_readPerson_69 rfl ?_
        exact hret _ _ _ _ _ _ hW rfl rfl dX4_readPerson_70 (by rw [rdPs]; rw [if_neg c_15, if_neg c_33, if_neg c_51]; rw [show ppl L = N from ppl_of hN hN7]; exact ⟨rfl, rfl⟩)
      · refine lv_iconst (v := (0 : Int32)) hx hb dX4_readPerson_54 rfl ?_
        exact hret _ _ _ _ _ _ hW rfl rfl dX4_readPerson_55 (by rw [rdPs, if_neg c_15, if_neg c_33, if_pos c_51]; exact ⟨rfl, rfl⟩)
    · refine lv_iconst (v := (0 : Int32)) hx hb dX4_readPerson_36 rfl ?_
      exact hret _ _ _ _ _ _ hW rfl rfl dX4_readPerson_37 (by rw [rdPs, if_neg c_15, if_pos c_33]; exact ⟨rfl, rfl⟩)
  · refine lv_iconst (v := (0 : Int32)) hx hb dX4_readPerson_18 rfl ?_
    exact hret _ _ _ _ _ _ hW rfl rfl dX4_readPerson_19 (by rw [rdPs, if_pos c_15]; exact ⟨rfl, rfl⟩)

set_option maxHeartbeats 4000000 in
set_option maxRecDepth 100000 in
theorem c_X4_readQuarrel (l : Launch) (D : va_G) (cI cZ cN : ClassId) (a b : Nat → Nat) (Qr L V T : NV) (p : Nat) (z : Nat) (hz : T 1 0 = nI z) (hz2 : z ≤ 200) (hw : wfP z (p, Qr, L, V)) : CtI l yX4_readQuarrel cX4_readQuarrel 3 (some .boolean) 4 D (tyG cI cZ cN) [.ref (a 0), .ref (b 0)] ((pRdr cI a Qr L V) ++ (pTxt cI b T)) (fun r w => r = (rdQr T z (p, Qr, L, V)).1 ∧ w = pRdr cI a (rdQr T z (p, Qr, L, V)).2.2.1 (rdQr T z (p, Qr, L, V)).2.2.2.1 (rdQr T z (p, Qr, L, V)).2.2.2.2 ++ pTxt cI b T) := by
  refine CtI.of rfl (Nat.le_of_ble_eq_true rfl) ?_
  intro pg ev sx mx ax bx mt cx ls Qx Ax Sx hret hW hl
  have hx := Sx.1
  have hb := Sx.2.1
  have hl : lv_has ls 3 [(0, .ref (a 0)), (1, .ref (b 0))] := hl
  obtain ⟨-, -, ⟨N, hN7, hN⟩, -⟩ := id hw
  have hN : L 3 1 = nI N := hN
  have hM : (L 3 1 - 1).toInt = (N : Int) - 1 := by rw [hN]; exact nI_m1 (by omega)
  refine lv_aload_n hx hb dX4_readQuarrel_0 rfl (lv_at hl 0 rfl) ?_
  refine lv_aload_n hx hb dX4_readQuarrel_1 rfl (lv_at hl 1 rfl) ?_
  refine lv_iconst (v := (0 : Int32)) hx hb dX4_readQuarrel_2 rfl ?_
  refine lv_aload_n hx hb dX4_readQuarrel_3 rfl (lv_at hl 0 rfl) ?_
  refine r_get Sx hW 0 rfl rfl bw_wsX40 0 (by decide) (v := .ref (a 1)) rfl mw58 dX4_readQuarrel_4 ?_
  refine r_get Sx hW 1 rfl rfl bw_wsX10 5 (by decide) (v := .int (L 3 1)) rfl mw193 dX4_readQuarrel_7 ?_
  refine lv_iconst (v := (1 : Int32)) hx hb dX4_readQuarrel_10 rfl ?_
  refine lv_isub hx hb dX4_readQuarrel_11 ?_
  refine callVI Sx hW (c_X4_readNumber l D cI cZ cN a b Qr L V T (p, Qr, L, V).1 z hz hz2 hw (0 : Int32) ((L 3 1) - (1 : Int32))) vmX4_readNumber mw199 [0, 1, 2, 3, 4, 5, 6, 7, 8, 9, 10] rfl (by decide) 0 rfl rfl (As := [.ref (b 0), .int (0 : Int32), .int ((L 3 1) - (1 : Int32))]) (rest := []) rfl rfl hl.1 (Nat.le_of_ble_eq_true rfl) ⟨Nat.le_of_ble_eq_true rfl, Nat.le_of_ble_eq_true rfl⟩ ⟨Nat.le_refl _, Nat.le_refl _⟩ dX4_readQuarrel_12 (fun rx wx H locs hqx hW => ?_)
  obtain ⟨hrx, rfl⟩ := hqx
  have hW : AtC D (tyG cI cZ cN) Ax ((pRdr cI a ((nT T z (p, Qr, L, V)).2.1) L V) ++ (pTxt cI b T)) sx H locs := hW
  refine r_eq (y := (rnR (nT T z (p, Qr, L, V)).2.1 (0 : Int32) ((L 3 1) - (1 : Int32)))) hrx ?_
  refine lv_if_ne (tgt := 20) hx hb dX4_readQuarrel_15 rfl (fun c_15 => ?_) (fun c_15 => ?_)
  · obtain ⟨o, ho, hv1⟩ := inI_nat hM (rnR_1 c_15).2
    refine lv_aload_n hx hb dX4_readQuarrel_20 rfl (lv_at hl 0 rfl) ?_
    refine r_get Sx hW 0 rfl rfl bw_wsX40 4 (by decide) (v := .int (((nT T z (p, Qr, L, V)).2.1) 0 3)) rfl mw62 dX4_readQuarrel_21 ?_
    refine lv_istore_n (lv' := [(2, .int (((nT T z (p, Qr, L, V)).2.1) 0 3)), (0, .ref (a 0)), (1, .ref (b 0))]) hx hb dX4_readQuarrel_24 rfl hl (by decide) rfl (fun ls hl => ?_)
    refine lv_aload_n hx hb dX4_readQuarrel_25 rfl (lv_at hl 1 rfl) ?_
    refine lv_aload_n hx hb dX4_readQuarrel_26 rfl (lv_at hl 2 rfl) ?_
    refine lv_iconst (v := (0 : Int32)) hx hb dX4_readQuarrel_27 rfl ?_
    refine lv_aload_n hx hb dX4_readQuarrel_28 rfl (lv_at hl 1 rfl) ?_
    refine r_get Sx hW 0 rfl rfl bw_wsX40 0 (by decide) (v := .ref (a 1)) rfl mw58 dX4_readQuarrel_29 ?_
    refine r_get Sx hW 1 rfl rfl bw_wsX10 5 (by decide) (v := .int (L 3 1)) rfl mw193 dX4_readQuarrel_32 ?_
    refine lv_iconst (v := (1 : Int32)) hx hb dX4_readQuarrel_35 rfl ?_
    refine lv_isub hx hb dX4_readQuarrel_36 ?_
    refine callVI Sx hW (c_X4_readNumber l D cI cZ cN a b ((nT T z (p, Qr, L, V)).2.1) L V T (nT T z (p, Qr, L, V)).1 z hz hz2 (wf_nT hw) (0 : Int32) ((L 3 1) - (1 : Int32))) vmX4_readNumber mw199 [0, 1, 2, 3, 4, 5, 6, 7, 8, 9, 10] rfl (by decide) 0 rfl rfl (As := [.ref (b 0), .int (0 : Int32), .int ((L 3 1) - (1 : Int32))]) (rest := []) rfl rfl hl.1 (Nat.le_of_ble_eq_true rfl) ⟨Nat.le_of_ble_eq_true rfl, Nat.le_of_ble_eq_true rfl⟩ ⟨Nat.le_refl _, Nat.le_refl _⟩ dX4_readQuarrel_37 (fun rx wx H locs hqx hW => ?_)
    obtain ⟨hrx, rfl⟩ := hqx
    have hW : AtC D (tyG cI cZ cN) Ax ((pRdr cI a ((nT T z (nT T z (p, Qr, L, V))).2.1) L V) ++ (pTxt cI b T)) sx H locs := hW
    refine r_eq (y := (rnR (nT T z (nT T z (p, Qr, L, V))).2.1 (0 : Int32) ((L 3 1) - (1 : Int32)))) hrx ?_
    refine lv_if_eq (tgt := 51) hx hb dX4_readQuarrel_40 rfl (fun c_40 => ?_) (fun c_40 => ?_)
    · refine lv_iconst (v := (0 : Int32)) hx hb dX4_readQuarrel_51 rfl ?_
      exact hret _ _ _ _ _ _ hW rfl rfl dX4_readQuarrel_52 (by rw [rdQr, if_neg c_15, if_pos c_40]; exact ⟨rfl, rfl⟩)
    · obtain ⟨v, hv, hv2⟩ := inI_nat hM (rnR_1 c_40).2
      refine lv_aload_n hx hb dX4_readQuarrel_43 rfl (lv_at hl 1 rfl) ?_
      refine r_get Sx hW 0 rfl rfl bw_wsX40 4 (by decide) (v := .int (((nT T z (nT T z (p, Qr, L, V))).2.1) 0 3)) rfl mw62 dX4_readQuarrel_44 ?_
      refine lv_iload_n hx hb dX4_readQuarrel_47 rfl (lv_at hl 0 rfl) ?_
      refine lv_icmp_ne (tgt := 53) hx hb dX4_readQuarrel_48 rfl (fun c_48 => ?_) (fun c_48 => ?_)
      · refine lv_aload_n hx hb dX4_readQuarrel_53 rfl (lv_at hl 1 rfl) ?_
        refine r_get Sx hW 0 rfl rfl bw_wsX40 0 (by decide) (v := .ref (a 1)) rfl mw58 dX4_readQuarrel_54 ?_
        refine r_get Sx hW 1 rfl rfl bw_wsX10 1 (by decide) (v := .ref (a 3)) rfl mw222 dX4_readQuarrel_57 ?_
        refine lv_iload_n hx hb dX4_readQuarrel_60 rfl (lv_at hl 0 rfl) ?_
        refine lv_dup2_11 hx hb dX4_readQuarrel_61 rfl rfl ?_
        refine r_iald Sx hW 3 0 rfl rfl (j := o) hv1 (by omega) (by decide) dX4_readQuarrel_62 ?_
        refine lv_iconst (v := (1 : Int32)) hx hb dX4_readQuarrel_63 rfl ?_
        refine lv_aload_n hx hb dX4_readQuarrel_64 rfl (lv_at hl 1 rfl) ?_
        refine r_get Sx hW 0 rfl rfl bw_wsX40 4 (by decide) (v := .int (((nT T z (nT T z (p, Qr, L, V))).2.1) 0 3)) rfl mw62 dX4_readQuarrel_65 ?_
        refine lv_ishl hx hb dX4_readQuarrel_68 ?_
        refine lv_ior hx hb dX4_readQuarrel_69 ?_
        refine r_eq (y := (L 1 o ||| ((1 : Int32) <<< (nI v &&& 31)))) (by rw [hv2]) ?_
        refine r_iast Sx hW 3 0 rfl rfl (j := o) hv1 (by omega) (by decide) dX4_readQuarrel_70 (ws' := ((pRdr cI a ((nT T z (nT T z (p, Qr, L, V))).2.1) (upA L 1 (upd (L 1) o (L 1 o ||| ((1 : Int32) <<< (nI v &&& 31))))) V) ++ (pTxt cI b T))) rfl (fun H locs hW => ?_)
        refine lv_aload_n hx hb dX4_readQuarrel_71 rfl (lv_at hl 1 rfl) ?_
        refine r_get Sx hW 0 rfl rfl bw_wsX40 0 (by decide) (v := .ref (a 1)) rfl mw58 dX4_readQuarrel_72 ?_
        refine r_get Sx hW 1 rfl rfl bw_wsX10 1 (by decide) (v := .ref (a 3)) rfl mw222 dX4_readQuarrel_75 ?_
        refine lv_aload_n hx hb dX4_readQuarrel_78 rfl (lv_at hl 1 rfl) ?_
        refine r_get Sx hW 0 rfl rfl bw_wsX40 4 (by decide) (v := .int (((nT T z (nT T z (p, Qr, L, V))).2.1) 0 3)) rfl mw62 dX4_readQuarrel_79 ?_
        refine lv_dup2_11 hx hb dX4_readQuarrel_82 rfl rfl ?_
        refine r_iald Sx hW 3 0 (f := (upd (L 1) o (L 1 o ||| ((1 : Int32) <<< (nI v &&& 31))))) rfl rfl (j := v) hv2 (by omega) (by decide) dX4_readQuarrel_83 ?_
        refine lv_iconst (v := (1 : Int32)) hx hb dX4_readQuarrel_84 rfl ?_
        refine lv_iload_n hx hb dX4_readQuarrel_85 rfl (lv_at hl 0 rfl) ?_
        refine lv_ishl hx hb dX4_readQuarrel_86 ?_
        refine lv_ior hx hb dX4_readQuarrel_87 ?_
        refine r_eq (y := (upd (L 1) o (L 1 o ||| ((1 : Int32) <<< (nI v &&& 31))) v ||| ((1 : Int32) <<< (nI o &&& 31)))) (by rw [hv1] <;> rfl) ?_
        refine r_iast Sx hW 3 0 rfl rfl (j := v) hv2 (by omega) (by decide) dX4_readQuarrel_88 (ws' := ((pRdr cI a ((nT T z (nT T z (p, Qr, L, V))).2.1) (upA L 1 (upd (upd (L 1) o (L 1 o ||| ((1 : Int32) <<< (nI v &&& 31)))) v (upd (L 1) o (L 1 o ||| ((1 : Int32) <<< (nI v &&& 31))) v ||| ((1 : Int32) <<< (nI o &&& 31))))) V) ++ (pTxt cI b T))) rfl (fun H locs hW => ?_)
        refine lv_iconst (v := (1 : Int32)) hx hb dX4_readQuarrel_89 rfl ?_
        exact hret _ _ _ _ _ _ hW rfl rfl dX4_readQuarrel_90 (by rw [rdQr, if_neg c_15, if_neg c_40, if_neg c_48]; rw [hv1, hv2, nI_clamp (by omega), nI_clamp (by omega)]; exact ⟨rfl, rfl⟩)
      · refine lv_iconst (v := (0 : Int32)) hx hb dX4_readQuarrel_51 rfl ?_
        exact hret _ _ _ _ _ _ hW rfl rfl dX4_readQuarrel_52 (by rw [rdQr, if_neg c_15, if_neg c_40, if_pos c_48]; exact ⟨rfl, rfl⟩)
  · refine lv_iconst (v := (0 : Int32)) hx hb dX4_readQuarrel_18 rfl ?_
    exact hret _ _ _ _ _ _ hW rfl rfl dX4_readQuarrel_19 (by rw [rdQr, if_pos c_15]; exact ⟨rfl, rfl⟩)

set_option maxHeartbeats 4000000 in
set_option maxRecDepth 100000 in
theorem c_X4_readLaws (l : Launch) (D : va_G) (cI cZ cN : ClassId) (a b : Nat → Nat) (Qr L V T : NV) (p : Nat) (z : Nat) (hz : T 1 0 = nI z) (hz2 : z ≤ 200) (hw : wfP z (p, Qr, L, V)) : CtI l yX4_readLaws cX4_readLaws 2 (some .boolean) 4 D (tyG cI cZ cN) [.ref (a 0), .ref (b 0)] ((pRdr cI a Qr L V) ++ (pTxt cI b T)) (fun r w => r = (rdLw T z (p, Qr, L, V)).1 ∧ w = pRdr cI a (rdLw T z (p, Qr, L, V)).2.2.1 (rdLw T z (p, Qr, L, V)).2.2.2.1 (rdLw T z (p, Qr, L, V)).2.2.2.2 ++ pTxt cI b T) := by
  refine CtI.of rfl (Nat.le_of_ble_eq_true rfl) ?_
  intro pg ev sx mx ax bx mt cx ls Qx Ax Sx hret hW hl
  have hx := Sx.1
  have hb := Sx.2.1
  have hl : lv_has ls 2 [(0, .ref (a 0)), (1, .ref (b 0))] := hl
  refine lv_aload_n hx hb dX4_readLaws_0 rfl (lv_at hl 0 rfl) ?_
  refine lv_aload_n hx hb dX4_readLaws_1 rfl (lv_at hl 1 rfl) ?_
  refine lv_iconst (v := (0 : Int32)) hx hb dX4_readLaws_2 rfl ?_
  refine lv_bipush (v := (15 : Int32)) hx hb dX4_readLaws_3 rfl ?_
  refine callVI Sx hW (c_X4_readNumber l D cI cZ cN a b Qr L V T (p, Qr, L, V).1 z hz hz2 hw (0 : Int32) (15 : Int32)) vmX4_readNumber mw199 [0, 1, 2, 3, 4, 5, 6, 7, 8, 9, 10] rfl (by decide) 0 rfl rfl (As := [.ref (b 0), .int (0 : Int32), .int (15 : Int32)]) (rest := []) rfl rfl hl.1 (Nat.le_of_ble_eq_true rfl) ⟨Nat.le_of_ble_eq_true rfl, Nat.le_of_ble_eq_true rfl⟩ ⟨Nat.le_refl _, Nat.le_refl _⟩ dX4_readLaws_5 (fun rx wx H locs hqx hW => ?_)
  obtain ⟨hrx, rfl⟩ := hqx
  have hW : AtC D (tyG cI cZ cN) Ax ((pRdr cI a ((nT T z (p, Qr, L, V)).2.1) L V) ++ (pTxt cI b T)) sx H locs := hW
  refine r_eq (y := (rnR (nT T z (p, Qr, L, V)).2.1 (0 : Int32) (15 : Int32))) hrx ?_
  refine lv_if_ne (tgt := 13) hx hb dX4_readLaws_8 rfl (fun c_8 => ?_) (fun c_8 => ?_)
  · refine lv_aload_n hx hb dX4_readLaws_13 rfl (lv_at hl 0 rfl) ?_
    refine r_get Sx hW 0 rfl rfl bw_wsX40 0 (by decide) (v := .ref (a 1)) rfl mw58 dX4_readLaws_14 ?_
    refine r_get Sx hW 1 rfl rfl bw_wsX10 3 (by decide) (v := .ref (a 5)) rfl mw227 dX4_readLaws_17 ?_
    refine lv_aload_n hx hb dX4_readLaws_20 rfl (lv_at hl 0 rfl) ?_
    refine r_get Sx hW 0 rfl rfl bw_wsX40 4 (by decide) (v := .int (((nT T z (p, Qr, L, V)).2.1) 0 3)) rfl mw62 dX4_readLaws_21 ?_
    refine r_put Sx hW 5 rfl rfl bw_wsX20 tyX2_ok nmX2 4 (by decide) mw228 rfl rfl rfl (Nat.le_of_ble_eq_true rfl) dX4_readLaws_24 (ws' := ((pRdr cI a ((nT T z (p, Qr, L, V)).2.1) L (upA V 3 (upd (V 3) 1 (((nT T z (p, Qr, L, V)).2.1) 0 3)))) ++ (pTxt cI b T))) rfl (fun H locs hW => ?_)
    refine lv_aload_n hx hb dX4_readLaws_27 rfl (lv_at hl 0 rfl) ?_
    refine lv_iconst (v := (1 : Int32)) hx hb dX4_readLaws_28 rfl ?_
    refine r_put Sx hW 0 rfl rfl bw_wsX40 tyX4_ok nmX4 5 (by decide) mw63 rfl rfl rfl (Nat.le_of_ble_eq_true rfl) dX4_readLaws_29 (ws' := ((pRdr cI a (upA ((nT T z (p, Qr, L, V)).2.1) 0 (upd (((nT T z (p, Qr, L, V)).2.1) 0) 4 (1 : Int32))) L (upA V 3 (upd (V 3) 1 (((nT T z (p, Qr, L, V)).2.1) 0 3)))) ++ (pTxt cI b T))) rfl (fun H locs hW => ?_)
    refine lv_iconst (v := (1 : Int32)) hx hb dX4_readLaws_32 rfl ?_
    exact hret _ _ _ _ _ _ hW rfl rfl dX4_readLaws_33 (by rw [rdLw]; first | (rw [if_pos c_8]; exact ⟨rfl, rfl⟩) | (rw [if_neg c_8]; exact ⟨rfl, rfl⟩))
  · refine lv_iconst (v := (0 : Int32)) hx hb dX4_readLaws_11 rfl ?_
    exact hret _ _ _ _ _ _ hW rfl rfl dX4_readLaws_12 (by rw [rdLw]; first | (rw [if_pos c_8]; exact ⟨rfl, rfl⟩) | (rw [if_neg c_8]; exact ⟨rfl, rfl⟩))

theorem isE_0 {Q : NV} (h : isE Q = 0) : isE Q = 0 := h
theorem isE_1 {Q : NV} (h : ¬ isE Q = 0) : isE Q = 1 := by
  unfold isE at h ⊢
  split
  · rfl
  · rename_i h2; simp [h2] at h

set_option maxHeartbeats 4000000 in
set_option maxRecDepth 100000 in
theorem c_X4_readItem (l : Launch) (D : va_G) (cI cZ cN : ClassId) (a b : Nat → Nat) (Qr L V T : NV) (p : Nat) (z : Nat) (hz : T 1 0 = nI z) (hz2 : z ≤ 200) (hw : wfP z (p, Qr, L, V)) (k : Int32) : CtI l yX4_readItem cX4_readItem 3 (some .boolean) 5 D (tyG cI cZ cN) [.ref (a 0), .ref (b 0), .int k] ((pRdr cI a Qr L V) ++ (pTxt cI b T)) (fun r w => r = (riI T z k (p, Qr, L, V)).1 ∧ w = pRdr cI a (riI T z k (p, Qr, L, V)).2.2.1 (riI T z k (p, Qr, L, V)).2.2.2.1 (riI T z k (p, Qr, L, V)).2.2.2.2 ++ pTxt cI b T) := by
  refine CtI.of rfl (Nat.le_of_ble_eq_true rfl) ?_
  intro pg ev sx mx ax bx mt cx ls Qx Ax Sx hret hW hl
  have hx := Sx.1
  have hb := Sx.2.1
  have hl : lv_has ls 3 [(0, .ref (a 0)), (1, .ref (b 0)), (2, .int k)] := hl
  refine lv_aload_n hx hb dX4_readItem_0 rfl (lv_at hl 0 rfl) ?_
  refine r_get Sx hW 0 rfl rfl bw_wsX40 3 (by decide) (v := .int (Qr 0 2)) rfl mw61 dX4_readItem_1 ?_
  by_cases e_4_108 : (Qr 0 2) = (108 : Int32)
  · refine r_eq e_4_108 ?_
    refine lv_tableIn (off := 122) (tgt := 126) hx hb dX4_readItem_4 (by decide) (by decide) rfl rfl ?_
    refine lv_aload_n hx hb dX4_readItem_126 rfl (lv_at hl 0 rfl) ?_
    refine r_get Sx hW 0 rfl rfl bw_wsX40 5 (by decide) (v := .int (Qr 0 4)) rfl mw63 dX4_readItem_127 ?_
    refine lv_if_ne (tgt := 153) hx hb dX4_readItem_130 rfl (fun c_130 => ?_) (fun c_130 => ?_)
    · refine lv_iconst (v := (0 : Int32)) hx hb dX4_readItem_153 rfl ?_
      exact hret _ _ _ _ _ _ hW rfl rfl dX4_readItem_154 (by rw [riI, if_pos e_4_108, if_neg c_130]; exact ⟨rfl, rfl⟩)
    · refine lv_aload_n hx hb dX4_readItem_133 rfl (lv_at hl 0 rfl) ?_
      refine lv_aload_n hx hb dX4_readItem_134 rfl (lv_at hl 1 rfl) ?_
      refine callVI Sx hW (c_X4_readLaws l D cI cZ cN a b Qr L V T (p, Qr, L, V).1 z hz hz2 hw) vmX4_readLaws mw223 [0, 1, 2, 3, 4, 5, 6, 7, 8, 9, 10] rfl (by decide) 0 rfl rfl (As := [.ref (b 0)]) (rest := []) rfl rfl hl.1 (Nat.le_of_ble_eq_true rfl) ⟨Nat.le_of_ble_eq_true rfl, Nat.le_of_ble_eq_true rfl⟩ ⟨Nat.le_refl _, Nat.le_refl _⟩ dX4_readItem_135 (fun rx wx H locs hqx hW => ?_)
      obtain ⟨hrx, rfl⟩ := hqx
      have hW : AtC D (tyG cI cZ cN) Ax ((pRdr cI a ((rdLw T z (p, Qr, L, V)).2.2.1) ((rdLw T z (p, Qr, L, V)).2.2.2.1) ((rdLw T z (p, Qr, L, V)).2.2.2.2)) ++ (pTxt cI b T)) sx H locs := hW
      refine r_eq (y := (rdLw T z (p, Qr, L, V)).1) hrx ?_
      refine lv_if_eq (tgt := 153) hx hb dX4_readItem_138 rfl (fun c_138 => ?_) (fun c_138 => ?_)
      · refine lv_iconst (v := (0 : Int32)) hx hb dX4_readItem_153 rfl ?_
        exact hret _ _ _ _ _ _ hW rfl rfl dX4_readItem_154 (by rw [riI, if_pos e_4_108, if_pos c_130, thE, if_pos c_138]; exact ⟨rfl, rfl⟩)
      · refine lv_aload_n hx hb dX4_readItem_141 rfl (lv_at hl 0 rfl) ?_
        refine lv_aload_n hx hb dX4_readItem_142 rfl (lv_at hl 1 rfl) ?_
        refine callVI Sx hW (c_X4_isEnded l D cI cZ cN a b ((rdLw T z (p, Qr, L, V)).2.2.1) ((rdLw T z (p, Qr, L, V)).2.2.2.1) ((rdLw T z (p, Qr, L, V)).2.2.2.2) T (rdLw T z (p, Qr, L, V)).2.1 z hz hz2 (wf_rdLw hw)) vmX4_isEnded mw203 [0, 1, 2, 3, 4, 5, 6, 7, 8, 9, 10] rfl (by decide) 0 rfl rfl (As := [.ref (b 0)]) (rest := []) rfl rfl hl.1 (Nat.le_of_ble_eq_true rfl) ⟨Nat.le_of_ble_eq_true rfl, Nat.le_of_ble_eq_true rfl⟩ ⟨Nat.le_refl _, Nat.le_refl _⟩ dX4_readItem_143 (fun rx wx H locs hqx hW => ?_)
        obtain ⟨hrx, rfl⟩ := hqx
        have hW : AtC D (tyG cI cZ cN) Ax ((pRdr cI a ((nT T z (rdLw T z (p, Qr, L, V)).2).2.1) ((rdLw T z (p, Qr, L, V)).2.2.2.1) ((rdLw T z (p, Qr, L, V)).2.2.2.2)) ++ (pTxt cI b T)) sx H locs := hW
        refine r_eq (y := (isE (nT T z (rdLw T z (p, Qr, L, V)).2).2.1)) hrx ?_
        refine lv_if_eq (tgt := 153) hx hb dX4_readItem_146 rfl (fun c_146 => ?_) (fun c_146 => ?_)
        · refine lv_iconst (v := (0 : Int32)) hx hb dX4_readItem_153 rfl ?_
          exact hret _ _ _ _ _ _ hW rfl rfl dX4_readItem_154 (by rw [riI, if_pos e_4_108, if_pos c_130, thE, if_neg c_138]; exact ⟨(isE_0 c_146).symm, rfl⟩)
        · refine lv_iconst (v := (1 : Int32)) hx hb dX4_readItem_149 rfl ?_
          refine lv_goto (tgt := 154) hx hb dX4_readItem_150 rfl ?_
          exact hret _ _ _ _ _ _ hW rfl rfl dX4_readItem_154 (by rw [riI, if_pos e_4_108, if_pos c_130, thE, if_neg c_138]; exact ⟨(isE_1 c_146).symm, rfl⟩)
  by_cases e_4_109 : (Qr 0 2) = (109 : Int32)
  · refine r_eq e_4_109 ?_
    refine lv_tableIn (off := 151) (tgt := 155) hx hb dX4_readItem_4 (by decide) (by decide) rfl rfl ?_
    refine lv_iconst (v := (0 : Int32)) hx hb dX4_readItem_155 rfl ?_
    exact hret _ _ _ _ _ _ hW rfl rfl dX4_readItem_156 (by simp [riI, e_4_108, e_4_109])
  by_cases e_4_110 : (Qr 0 2) = (110 : Int32)
  · refine r_eq e_4_110 ?_
    refine lv_tableIn (off := 40) (tgt := 44) hx hb dX4_readItem_4 (by decide) (by decide) rfl rfl ?_
    refine lv_iload_n hx hb dX4_readItem_44 rfl (lv_at hl 2 rfl) ?_
    refine lv_if_ne (tgt := 68) hx hb dX4_readItem_45 rfl (fun c_45 => ?_) (fun c_45 => ?_)
    · refine lv_iconst (v := (0 : Int32)) hx hb dX4_readItem_68 rfl ?_
      exact hret _ _ _ _ _ _ hW rfl rfl dX4_readItem_69 (by rw [riI, if_neg e_4_108, if_pos e_4_110, if_neg c_45]; exact ⟨rfl, rfl⟩)
    · refine lv_aload_n hx hb dX4_readItem_48 rfl (lv_at hl 0 rfl) ?_
      refine lv_aload_n hx hb dX4_readItem_49 rfl (lv_at hl 1 rfl) ?_
      refine callVI Sx hW (c_X4_readNames l D cI cZ cN a b Qr L V T (p, Qr, L, V).1 z hz hz2 hw) vmX4_readNames mw194 [0, 1, 2, 3, 4, 5, 6, 7, 8, 9, 10] rfl (by decide) 0 rfl rfl (As := [.ref (b 0)]) (rest := []) rfl rfl hl.1 (Nat.le_of_ble_eq_true rfl) ⟨Nat.le_of_ble_eq_true rfl, Nat.le_of_ble_eq_true rfl⟩ ⟨Nat.le_refl _, Nat.le_refl _⟩ dX4_readItem_50 (fun rx wx H locs hqx hW => ?_)
      obtain ⟨hrx, rfl⟩ := hqx
      have hW : AtC D (tyG cI cZ cN) Ax ((pRdr cI a ((rdNm T z (p, Qr, L, V)).2.2.1) ((rdNm T z (p, Qr, L, V)).2.2.2.1) ((rdNm T z (p, Qr, L, V)).2.2.2.2)) ++ (pTxt cI b T)) sx H locs := hW
      refine r_eq (y := (rdNm T z (p, Qr, L, V)).1) hrx ?_
      refine lv_if_eq (tgt := 68) hx hb dX4_readItem_53 rfl (fun c_53 => ?_) (fun c_53 => ?_)
      · refine lv_iconst (v := (0 : Int32)) hx hb dX4_readItem_68 rfl ?_
        exact hret _ _ _ _ _ _ hW rfl rfl dX4_readItem_69 (by rw [riI, if_neg e_4_108, if_pos e_4_110, if_pos c_45, thE, if_pos c_53]; exact ⟨rfl, rfl⟩)
      · refine lv_aload_n hx hb dX4_readItem_56 rfl (lv_at hl 0 rfl) ?_
        refine lv_aload_n hx hb dX4_readItem_57 rfl (lv_at hl 1 rfl) ?_
        refine callVI Sx hW (c_X4_isEnded l D cI cZ cN a b ((rdNm T z (p, Qr, L, V)).2.2.1) ((rdNm T z (p, Qr, L, V)).2.2.2.1) ((rdNm T z (p, Qr, L, V)).2.2.2.2) T (rdNm T z (p, Qr, L, V)).2.1 z hz hz2 (wf_rdNm hw)) vmX4_isEnded mw203 [0, 1, 2, 3, 4, 5, 6, 7, 8, 9, 10] rfl (by decide) 0 rfl rfl (As := [.ref (b 0)]) (rest := []) rfl rfl hl.1 (Nat.le_of_ble_eq_true rfl) ⟨Nat.le_of_ble_eq_true rfl, Nat.le_of_ble_eq_true rfl⟩ ⟨Nat.le_refl _, Nat.le_refl _⟩ dX4_readItem_58 (fun rx wx H locs hqx hW => ?_)
        obtain ⟨hrx, rfl⟩ := hqx
        have hW : AtC D (tyG cI cZ cN) Ax ((pRdr cI a ((nT T z (rdNm T z (p, Qr, L, V)).2).2.1) ((rdNm T z (p, Qr, L, V)).2.2.2.1) ((rdNm T z (p, Qr, L, V)).2.2.2.2)) ++ (pTxt cI b T)) sx H locs := hW
        refine r_eq (y := (isE (nT T z (rdNm T z (p, Qr, L, V)).2).2.1)) hrx ?_
        refine lv_if_eq (tgt := 68) hx hb dX4_readItem_61 rfl (fun c_61 => ?_) (fun c_61 => ?_)
        · refine lv_iconst (v := (0 : Int32)) hx hb dX4_readItem_68 rfl ?_
          exact hret _ _ _ _ _ _ hW rfl rfl dX4_readItem_69 (by rw [riI, if_neg e_4_108, if_pos e_4_110, if_pos c_45, thE, if_neg c_53]; exact ⟨(isE_0 c_61).symm, rfl⟩)
        · refine lv_iconst (v := (1 : Int32)) hx hb dX4_readItem_64 rfl ?_
          refine lv_goto (tgt := 69) hx hb dX4_readItem_65 rfl ?_
          exact hret _ _ _ _ _ _ hW rfl rfl dX4_readItem_69 (by rw [riI, if_neg e_4_108, if_pos e_4_110, if_pos c_45, thE, if_neg c_53]; exact ⟨(isE_1 c_61).symm, rfl⟩)
  by_cases e_4_111 : (Qr 0 2) = (111 : Int32)
  · refine r_eq e_4_111 ?_
    refine lv_tableIn (off := 151) (tgt := 155) hx hb dX4_readItem_4 (by decide) (by decide) rfl rfl ?_
    refine lv_iconst (v := (0 : Int32)) hx hb dX4_readItem_155 rfl ?_
    exact hret _ _ _ _ _ _ hW rfl rfl dX4_readItem_156 (by simp [riI, e_4_108, e_4_109, e_4_110, e_4_111])
  by_cases e_4_112 : (Qr 0 2) = (112 : Int32)
  · refine r_eq e_4_112 ?_
    refine lv_tableIn (off := 66) (tgt := 70) hx hb dX4_readItem_4 (by decide) (by decide) rfl rfl ?_
    refine lv_aload_n hx hb dX4_readItem_70 rfl (lv_at hl 0 rfl) ?_
    refine r_get Sx hW 0 rfl rfl bw_wsX40 0 (by decide) (v := .ref (a 1)) rfl mw58 dX4_readItem_71 ?_
    refine r_get Sx hW 1 rfl rfl bw_wsX10 5 (by decide) (v := .int (L 3 1)) rfl mw193 dX4_readItem_74 ?_
    refine lv_bipush (v := (7 : Int32)) hx hb dX4_readItem_77 rfl ?_
    refine lv_icmp_ge (tgt := 102) hx hb dX4_readItem_79 rfl (fun c_79 => ?_) (fun c_79 => ?_)
    · refine lv_iconst (v := (0 : Int32)) hx hb dX4_readItem_102 rfl ?_
      exact hret _ _ _ _ _ _ hW rfl rfl dX4_readItem_103 (by rw [riI, if_neg e_4_108, if_neg e_4_110, if_pos e_4_112, if_pos c_79]; exact ⟨rfl, rfl⟩)
    · refine lv_aload_n hx hb dX4_readItem_82 rfl (lv_at hl 0 rfl) ?_
      refine lv_aload_n hx hb dX4_readItem_83 rfl (lv_at hl 1 rfl) ?_
      refine callVI Sx hW (c_X4_readPerson l D cI cZ cN a b Qr L V T (p, Qr, L, V).1 z hz hz2 hw c_79) vmX4_readPerson mw207 [0, 1, 2, 3, 4, 5, 6, 7, 8, 9, 10] rfl (by decide) 0 rfl rfl (As := [.ref (b 0)]) (rest := []) rfl rfl hl.1 (Nat.le_of_ble_eq_true rfl) ⟨Nat.le_of_ble_eq_true rfl, Nat.le_of_ble_eq_true rfl⟩ ⟨Nat.le_refl _, Nat.le_refl _⟩ dX4_readItem_84 (fun rx wx H locs hqx hW => ?_)
      obtain ⟨hrx, rfl⟩ := hqx
      have hW : AtC D (tyG cI cZ cN) Ax ((pRdr cI a ((rdPs T z (p, Qr, L, V)).2.2.1) ((rdPs T z (p, Qr, L, V)).2.2.2.1) ((rdPs T z (p, Qr, L, V)).2.2.2.2)) ++ (pTxt cI b T)) sx H locs := hW
      refine r_eq (y := (rdPs T z (p, Qr, L, V)).1) hrx ?_
      refine lv_if_eq (tgt := 102) hx hb dX4_readItem_87 rfl (fun c_87 => ?_) (fun c_87 => ?_)
      · refine lv_iconst (v := (0 : Int32)) hx hb dX4_readItem_102 rfl ?_
        exact hret _ _ _ _ _ _ hW rfl rfl dX4_readItem_103 (by rw [riI, if_neg e_4_108, if_neg e_4_110, if_pos e_4_112, if_neg c_79, thE, if_pos c_87]; exact ⟨rfl, rfl⟩)
      · refine lv_aload_n hx hb dX4_readItem_90 rfl (lv_at hl 0 rfl) ?_
        refine lv_aload_n hx hb dX4_readItem_91 rfl (lv_at hl 1 rfl) ?_
        refine callVI Sx hW (c_X4_isEnded l D cI cZ cN a b ((rdPs T z (p, Qr, L, V)).2.2.1) ((rdPs T z (p, Qr, L, V)).2.2.2.1) ((rdPs T z (p, Qr, L, V)).2.2.2.2) T (rdPs T z (p, Qr, L, V)).2.1 z hz hz2 (wf_rdPs hw c_79)) vmX4_isEnded mw203 [0, 1, 2, 3, 4, 5, 6, 7, 8, 9, 10] rfl (by decide) 0 rfl rfl (As := [.ref (b 0)]) (rest := []) rfl rfl hl.1 (Nat.le_of_ble_eq_true rfl) ⟨Nat.le_of_ble_eq_true rfl, Nat.le_of_ble_eq_true rfl⟩ ⟨Nat.le_refl _, Nat.le_refl _⟩ dX4_readItem_92 (fun rx wx H locs hqx hW => ?_)
        obtain ⟨hrx, rfl⟩ := hqx
        have hW : AtC D (tyG cI cZ cN) Ax ((pRdr cI a ((nT T z (rdPs T z (p, Qr, L, V)).2).2.1) ((rdPs T z (p, Qr, L, V)).2.2.2.1) ((rdPs T z (p, Qr, L, V)).2.2.2.2)) ++ (pTxt cI b T)) sx H locs := hW
        refine r_eq (y := (isE (nT T z (rdPs T z (p, Qr, L, V)).2).2.1)) hrx ?_
        refine lv_if_eq (tgt := 102) hx hb dX4_readItem_95 rfl (fun c_95 => ?_) (fun c_95 => ?_)
        · refine lv_iconst (v := (0 : Int32)) hx hb dX4_readItem_102 rfl ?_
          exact hret _ _ _ _ _ _ hW rfl rfl dX4_readItem_103 (by rw [riI, if_neg e_4_108, if_neg e_4_110, if_pos e_4_112, if_neg c_79, thE, if_neg c_87]; exact ⟨(isE_0 c_95).symm, rfl⟩)
        · refine lv_iconst (v := (1 : Int32)) hx hb dX4_readItem_98 rfl ?_
          refine lv_goto (tgt := 103) hx hb dX4_readItem_99 rfl ?_
          exact hret _ _ _ _ _ _ hW rfl rfl dX4_readItem_103 (by rw [riI, if_neg e_4_108, if_neg e_4_110, if_pos e_4_112, if_neg c_79, thE, if_neg c_87]; exact ⟨(isE_1 c_95).symm, rfl⟩)
  by_cases e_4_113 : (Qr 0 2) = (113 : Int32)
  · refine r_eq e_4_113 ?_
    refine lv_tableIn (off := 100) (tgt := 104) hx hb dX4_readItem_4 (by decide) (by decide) rfl rfl ?_
    refine lv_aload_n hx hb dX4_readItem_104 rfl (lv_at hl 0 rfl) ?_
    refine lv_aload_n hx hb dX4_readItem_105 rfl (lv_at hl 1 rfl) ?_
    refine callVI Sx hW (c_X4_readQuarrel l D cI cZ cN a b Qr L V T (p, Qr, L, V).1 z hz hz2 hw) vmX4_readQuarrel mw218 [0, 1, 2, 3, 4, 5, 6, 7, 8, 9, 10] rfl (by decide) 0 rfl rfl (As := [.ref (b 0)]) (rest := []) rfl rfl hl.1 (Nat.le_of_ble_eq_true rfl) ⟨Nat.le_of_ble_eq_true rfl, Nat.le_of_ble_eq_true rfl⟩ ⟨Nat.le_refl _, Nat.le_refl _⟩ dX4_readItem_106 (fun rx wx H locs hqx hW => ?_)
    obtain ⟨hrx, rfl⟩ := hqx
    have hW : AtC D (tyG cI cZ cN) Ax ((pRdr cI a ((rdQr T z (p, Qr, L, V)).2.2.1) ((rdQr T z (p, Qr, L, V)).2.2.2.1) ((rdQr T z (p, Qr, L, V)).2.2.2.2)) ++ (pTxt cI b T)) sx H locs := hW
    refine r_eq (y := (rdQr T z (p, Qr, L, V)).1) hrx ?_
    refine lv_if_eq (tgt := 124) hx hb dX4_readItem_109 rfl (fun c_109 => ?_) (fun c_109 => ?_)
    · refine lv_iconst (v := (0 : Int32)) hx hb dX4_readItem_124 rfl ?_
      exact hret _ _ _ _ _ _ hW rfl rfl dX4_readItem_125 (by rw [riI, if_neg e_4_108, if_neg e_4_110, if_neg e_4_112, if_pos e_4_113, thE, if_pos c_109]; exact ⟨rfl, rfl⟩)
    · refine lv_aload_n hx hb dX4_readItem_112 rfl (lv_at hl 0 rfl) ?_
      refine lv_aload_n hx hb dX4_readItem_113 rfl (lv_at hl 1 rfl) ?_
      refine callVI Sx hW (c_X4_isEnded l D cI cZ cN a b ((rdQr T z (p, Qr, L, V)).2.2.1) ((rdQr T z (p, Qr, L, V)).2.2.2.1) ((rdQr T z (p, Qr, L, V)).2.2.2.2) T (rdQr T z (p, Qr, L, V)).2.1 z hz hz2 (wf_rdQr hw)) vmX4_isEnded mw203 [0, 1, 2, 3, 4, 5, 6, 7, 8, 9, 10] rfl (by decide) 0 rfl rfl (As := [.ref (b 0)]) (rest := []) rfl rfl hl.1 (Nat.le_of_ble_eq_true rfl) ⟨Nat.le_of_ble_eq_true rfl, Nat.le_of_ble_eq_true rfl⟩ ⟨Nat.le_refl _, Nat.le_refl _⟩ dX4_readItem_114 (fun rx wx H locs hqx hW => ?_)
      obtain ⟨hrx, rfl⟩ := hqx
      have hW : AtC D (tyG cI cZ cN) Ax ((pRdr cI a ((nT T z (rdQr T z (p, Qr, L, V)).2).2.1) ((rdQr T z (p, Qr, L, V)).2.2.2.1) ((rdQr T z (p, Qr, L, V)).2.2.2.2)) ++ (pTxt cI b T)) sx H locs := hW
      refine r_eq (y := (isE (nT T z (rdQr T z (p, Qr, L, V)).2).2.1)) hrx ?_
      refine lv_if_eq (tgt := 124) hx hb dX4_readItem_117 rfl (fun c_117 => ?_) (fun c_117 => ?_)
      · refine lv_iconst (v := (0 : Int32)) hx hb dX4_readItem_124 rfl ?_
        exact hret _ _ _ _ _ _ hW rfl rfl dX4_readItem_125 (by rw [riI, if_neg e_4_108, if_neg e_4_110, if_neg e_4_112, if_pos e_4_113, thE, if_neg c_109]; exact ⟨(isE_0 c_117).symm, rfl⟩)
      · refine lv_iconst (v := (1 : Int32)) hx hb dX4_readItem_120 rfl ?_
        refine lv_goto (tgt := 125) hx hb dX4_readItem_121 rfl ?_
        exact hret _ _ _ _ _ _ hW rfl rfl dX4_readItem_125 (by rw [riI, if_neg e_4_108, if_neg e_4_110, if_neg e_4_112, if_pos e_4_113, thE, if_neg c_109]; exact ⟨(isE_1 c_117).symm, rfl⟩)
  refine lv_tableOut (tgt := 155) hx hb dX4_readItem_4 (by have q0 := lv_neT e_4_108 (show ((108 : Int32)).toInt = 108 from by decide); have q1 := lv_neT e_4_109 (show ((109 : Int32)).toInt = 109 from by decide); have q2 := lv_neT e_4_110 (show ((110 : Int32)).toInt = 110 from by decide); have q3 := lv_neT e_4_111 (show ((111 : Int32)).toInt = 111 from by decide); have q4 := lv_neT e_4_112 (show ((112 : Int32)).toInt = 112 from by decide); have q5 := lv_neT e_4_113 (show ((113 : Int32)).toInt = 113 from by decide); omega) rfl ?_
  refine lv_iconst (v := (0 : Int32)) hx hb dX4_readItem_155 rfl ?_
  exact hret _ _ _ _ _ _ hW rfl rfl dX4_readItem_156 (by simp [riI, e_4_108, e_4_109, e_4_110, e_4_111, e_4_112, e_4_113])

set_option maxHeartbeats 4000000 in
set_option maxRecDepth 100000 in
theorem c_X4_read (l : Launch) (D : va_G) (cI cZ cN : ClassId) (a b : Nat → Nat) (Qr L V T : NV) (z : Nat) (hz : T 1 0 = nI z) (hz2 : z ≤ 200) : CtI l yX4_read cX4_read 3 (some .int) 6 D (tyG cI cZ cN) [.ref (a 0), .ref (b 0)] ((pRdr cI a Qr L V) ++ (pTxt cI b T)) (fun r w => r = (rdR T z Qr L V).1 ∧ w = pRdr cI a (rdR T z Qr L V).2.2.1 (rdR T z Qr L V).2.2.2.1 (rdR T z Qr L V).2.2.2.2 ++ pTxt cI b T) := by
  refine CtI.of rfl (Nat.le_of_ble_eq_true rfl) ?_
  intro pg ev sx mx ax bx mt cx ls Qx Ax Sx hret hW hl
  have hx := Sx.1
  have hb := Sx.2.1
  have hl : lv_has ls 3 [(0, .ref (a 0)), (1, .ref (b 0))] := hl
  refine lv_aload_n hx hb dX4_read_0 rfl (lv_at hl 0 rfl) ?_
  refine r_get Sx hW 0 rfl rfl bw_wsX40 0 (by decide) (v := .ref (a 1)) rfl mw58 dX4_read_1 ?_
  refine callVV Sx hW (c_X1_empty l D cI cZ cN (fun i => a (i + 1)) L V) vmX1_empty mw168 [1, 2, 3, 4, 5, 6, 7, 8] rfl (by decide) 0 rfl rfl (As := []) (rest := []) rfl rfl hl.1 (Nat.le_of_ble_eq_true rfl) ⟨Nat.le_of_ble_eq_true rfl, Nat.le_of_ble_eq_true rfl⟩ ⟨Nat.le_refl _, Nat.le_refl _⟩ dX4_read_4 (fun wx H locs hqx hW => ?_)
  obtain rfl := hqx
  have hW : AtC D (tyG cI cZ cN) Ax ((pRdr cI a Qr (emL L) (emV V)) ++ (pTxt cI b T)) sx H locs := hW
  refine lv_aload_n hx hb dX4_read_7 rfl (lv_at hl 0 rfl) ?_
  refine lv_iconst (v := (0 : Int32)) hx hb dX4_read_8 rfl ?_
  refine r_put Sx hW 0 rfl rfl bw_wsX40 tyX4_ok nmX4 1 (by decide) mw59 rfl rfl rfl (Nat.le_of_ble_eq_true rfl) dX4_read_9 (ws' := ((pRdr cI a (upA Qr 0 (upd (Qr 0) 0 (0 : Int32))) (emL L) (emV V)) ++ (pTxt cI b T))) rfl (fun H locs hW => ?_)
  refine lv_aload_n hx hb dX4_read_12 rfl (lv_at hl 0 rfl) ?_
  refine lv_iconst (v := (0 : Int32)) hx hb dX4_read_13 rfl ?_
  refine r_put Sx hW 0 rfl rfl bw_wsX40 tyX4_ok nmX4 5 (by decide) mw63 rfl rfl rfl (Nat.le_of_ble_eq_true rfl) dX4_read_14 (ws' := ((pRdr cI a (upA Qr 0 (upd (upd (Qr 0) 0 (0 : Int32)) 4 (0 : Int32))) (emL L) (emV V)) ++ (pTxt cI b T))) rfl (fun H locs hW => ?_)
  refine lv_iconst (v := (0 : Int32)) hx hb dX4_read_17 rfl ?_
  refine lv_istore_n (lv' := [(2, .int (0 : Int32)), (0, .ref (a 0)), (1, .ref (b 0))]) hx hb dX4_read_18 rfl hl (by decide) rfl (fun ls hl => ?_)
  have hw0 : wfP z (0, (upA Qr 0 (upd (upd (Qr 0) 0 (0 : Int32)) 4 (0 : Int32))), (emL L), (emV V)) := ⟨rfl, Nat.zero_le _, ⟨0, Nat.zero_le _, rfl⟩, ⟨4, by decide, by decide, rfl⟩⟩
  refine lv_aload_n hx hb dX4_read_19 rfl (lv_at hl 1 rfl) ?_
  refine lv_aload_n hx hb dX4_read_20 rfl (lv_at hl 2 rfl) ?_
  refine callVV Sx hW (c_X4_nextToken l D cI cZ cN a b (upA Qr 0 (upd (upd (Qr 0) 0 (0 : Int32)) 4 (0 : Int32))) (emL L) (emV V) T (0, (upA Qr 0 (upd (upd (Qr 0) 0 (0 : Int32)) 4 (0 : Int32))), (emL L), (emV V)).1 z hz hz2 hw0.1 hw0.2.1) vmX4_nextToken mw176 [0, 1, 2, 3, 4, 5, 6, 7, 8, 9, 10] rfl (by decide) 0 rfl rfl (As := [.ref (b 0)]) (rest := []) rfl rfl hl.1 (Nat.le_of_ble_eq_true rfl) ⟨Nat.le_of_ble_eq_true rfl, Nat.le_of_ble_eq_true rfl⟩ ⟨Nat.le_refl _, Nat.le_refl _⟩ dX4_read_21 (fun wx H locs hqx hW => ?_)
  obtain rfl := hqx
  have hW : AtC D (tyG cI cZ cN) Ax ((pRdr cI a ((nT T z (0, (upA Qr 0 (upd (upd (Qr 0) 0 (0 : Int32)) 4 (0 : Int32))), (emL L), (emV V))).2.1) (emL L) (emV V)) ++ (pTxt cI b T)) sx H locs := hW
  have lp_24 : ∀ (n : Nat) (k : Nat) (σ : PS), ((wfP z σ)) → ((rdL T z (200 - k) k σ = rdR T z Qr L V)) → ((k ≤ 200)) → ((200 + 1 ≤ k + n)) → ∀ (H : Heap) (locs : List Loc) (ls : Array Slot), AtC D (tyG cI cZ cN) Ax ((pRdr cI a σ.2.1 σ.2.2.1 σ.2.2.2) ++ (pTxt cI b T)) sx H locs → lv_has ls 3 [(0, .ref (a 0)), (1, .ref (b 0)), (2, .int (nI k))] → W pg l ev (rmN 6) sx mx ax bx mt cx H locs 0 0 Qx (F0 mx 24 ls []) := by
    intro n
    induction n with
    | zero =>
      intro k σ hσ hr hk hn H locs ls hW hl
      exact absurd hn (by omega)
    | succ n ih24 =>
      intro k σ hσ hr hk hn H locs ls hW hl
      refine lv_aload_n hx hb dX4_read_24 rfl (lv_at hl 0 rfl) ?_
      refine r_get Sx hW 0 rfl rfl bw_wsX40 3 (by decide) (v := .int (σ.2.1 0 2)) rfl mw61 dX4_read_25 ?_
      refine lv_sipush (v := (257 : Int32)) hx hb dX4_read_28 rfl ?_
      refine lv_icmp_eq (tgt := 69) hx hb dX4_read_31 rfl (fun c_31 => ?_) (fun c_31 => ?_)
      · refine lv_iload_n hx hb dX4_read_69 rfl (lv_at hl 2 rfl) ?_
        exact hret _ _ _ _ _ _ hW rfl rfl dX4_read_70 (by rw [show rdR T z Qr L V = (nI k, σ) from hr.symm.trans (rdL_end c_31)]; exact ⟨rfl, rfl⟩)
      · refine lv_iload_n hx hb dX4_read_34 rfl (lv_at hl 2 rfl) ?_
        refine lv_sipush (v := (200 : Int32)) hx hb dX4_read_35 rfl ?_
        refine lv_icmp_ge (tgt := 69) hx hb dX4_read_38 rfl (fun c_38 => ?_) (fun c_38 => ?_)
        · have ge_38 : 200 ≤ k := (nI_leI (a := 200) (b := k) (by decide) (by omega)).mp c_38
          refine lv_iload_n hx hb dX4_read_69 rfl (lv_at hl 2 rfl) ?_
          exact hret _ _ _ _ _ _ hW rfl rfl dX4_read_70 (by rw [show rdR T z Qr L V = (nI k, σ) from by rw [← hr, show 200 - k = 0 from by omega]; rfl]; exact ⟨rfl, rfl⟩)
        · have lt_38 : k < 200 := Nat.not_le.mp (fun h => c_38 ((nI_leI (a := 200) (b := k) (by decide) (by omega)).mpr h))
          refine lv_aload_n hx hb dX4_read_41 rfl (lv_at hl 0 rfl) ?_
          refine lv_aload_n hx hb dX4_read_42 rfl (lv_at hl 1 rfl) ?_
          refine lv_iload_n hx hb dX4_read_43 rfl (lv_at hl 2 rfl) ?_
          refine callVI Sx hW (c_X4_readItem l D cI cZ cN a b σ.2.1 σ.2.2.1 σ.2.2.2 T σ.1 z hz hz2 hσ (nI k)) vmX4_readItem mw189 [0, 1, 2, 3, 4, 5, 6, 7, 8, 9, 10] rfl (by decide) 0 rfl rfl (As := [.ref (b 0), .int (nI k)]) (rest := []) rfl rfl hl.1 (Nat.le_of_ble_eq_true rfl) ⟨Nat.le_of_ble_eq_true rfl, Nat.le_of_ble_eq_true rfl⟩ ⟨Nat.le_refl _, Nat.le_refl _⟩ dX4_read_44 (fun rx wx H locs hqx hW => ?_)
          obtain ⟨hrx, rfl⟩ := hqx
          have hW : AtC D (tyG cI cZ cN) Ax ((pRdr cI a ((riI T z (nI k) σ).2.2.1) ((riI T z (nI k) σ).2.2.2.1) ((riI T z (nI k) σ).2.2.2.2)) ++ (pTxt cI b T)) sx H locs := hW
          refine r_eq (y := (riI T z (nI k) σ).1) hrx ?_
          refine lv_if_ne (tgt := 58) hx hb dX4_read_47 rfl (fun c_47 => ?_) (fun c_47 => ?_)
          · refine lv_iinc (v := (nI (k + 1))) (lv' := [(2, .int (nI (k + 1))), (0, .ref (a 0)), (1, .ref (b 0))]) hx hb dX4_read_58 hl (k := 2) rfl (inc_n k 1) (by decide) rfl (fun ls hl => ?_)
            refine lv_aload_n hx hb dX4_read_61 rfl (lv_at hl 1 rfl) ?_
            refine lv_aload_n hx hb dX4_read_62 rfl (lv_at hl 2 rfl) ?_
            refine callVV Sx hW (c_X4_nextToken l D cI cZ cN a b ((riI T z (nI k) σ).2.2.1) ((riI T z (nI k) σ).2.2.2.1) ((riI T z (nI k) σ).2.2.2.2) T (riI T z (nI k) σ).2.1 z hz hz2 (wf_riI hσ).1 (wf_riI hσ).2.1) vmX4_nextToken mw176 [0, 1, 2, 3, 4, 5, 6, 7, 8, 9, 10] rfl (by decide) 0 rfl rfl (As := [.ref (b 0)]) (rest := []) rfl rfl hl.1 (Nat.le_of_ble_eq_true rfl) ⟨Nat.le_of_ble_eq_true rfl, Nat.le_of_ble_eq_true rfl⟩ ⟨Nat.le_refl _, Nat.le_refl _⟩ dX4_read_63 (fun wx H locs hqx hW => ?_)
            obtain rfl := hqx
            have hW : AtC D (tyG cI cZ cN) Ax ((pRdr cI a ((nT T z (riI T z (nI k) σ).2).2.1) ((riI T z (nI k) σ).2.2.2.1) ((riI T z (nI k) σ).2.2.2.2)) ++ (pTxt cI b T)) sx H locs := hW
            refine lv_goto (tgt := 24) hx hb dX4_read_66 rfl ?_
            exact ih24 (k + 1) (nT T z (riI T z (nI k) σ).2) (wf_nT (wf_riI hσ)) (by rw [← hr, show 200 - k = (200 - (k + 1)) + 1 from by omega, rdL, if_neg c_31, if_neg c_47]) (by omega) (by omega) _ _ _ hW (lv_sub hl [1, 2, 0] rfl)
          · refine lv_bipush (v := (-10 : Int32)) hx hb dX4_read_50 rfl ?_
            refine lv_aload_n hx hb dX4_read_52 rfl (lv_at hl 0 rfl) ?_
            refine r_get Sx hW 0 rfl rfl bw_wsX40 2 (by decide) (v := .int (((riI T z (nI k) σ).2.2.1) 0 1)) rfl mw60 dX4_read_53 ?_
            refine lv_isub hx hb dX4_read_56 ?_
            exact hret _ _ _ _ _ _ hW rfl rfl dX4_read_57 (by rw [show rdR T z Qr L V = (-10 - (riI T z (nI k) σ).2.2.1 0 1, (riI T z (nI k) σ).2) from by rw [← hr, show 200 - k = (200 - (k + 1)) + 1 from by omega, rdL, if_neg c_31, if_pos c_47]]; exact ⟨rfl, rfl⟩)
  exact lp_24 201 0 (nT T z (0, (upA Qr 0 (upd (upd (Qr 0) 0 (0 : Int32)) 4 (0 : Int32))), (emL L), (emV V))) (wf_nT hw0) rfl (by omega) (by omega) _ _ _ hW (lv_sub hl [1, 2, 0] rfl)
