/-! the pure layer: the text told; images; kinds -/

theorem flQ_at (f : Nat → Int32) : ∀ n i, flQ f n i = if 7 ≤ i ∧ i < 7 + n then 0 else f i
  | 0, i => by rw [flQ, if_neg (by omega)]
  | n + 1, i => by
    rw [flQ]
    by_cases e : i = 7 + n
    · subst e; rw [pk_us, if_pos (by omega)]
    · rw [pk_un e, flQ_at f n i]
      by_cases q : 7 ≤ i ∧ i < 7 + n
      · rw [if_pos q, if_pos (by omega)]
      · rw [if_neg q, if_neg (by omega)]
theorem shB_at (f : Nat → Int32) : ∀ n i, n ≤ 7 → shB f n i = if i < n then f (7 + i) else f i
  | 0, i, _ => by rw [shB, if_neg (by omega)]
  | n + 1, i, hn => by
    rw [shB]
    by_cases e : i = n
    · subst e; rw [pk_us, shB_at f i (7 + i) (by omega), if_neg (by omega), if_pos (by omega)]
    · rw [pk_un e, shB_at f n i (by omega)]
      by_cases q : i < n
      · rw [if_pos q, if_pos (by omega)]
      · rw [if_neg q, if_neg (by omega)]
theorem stS_at (f nm wl : Nat → Int32) (D : Nat) : ∀ n, n ≤ 7 → (∀ i, i < n → stS f nm wl D n i = (if nI D ≤ nI i then 0 else nm i) ∧ stS f nm wl D n (7 + i) = (if nI D ≤ nI i then 0 else wl i)) ∧ ∀ j, 14 ≤ j → stS f nm wl D n j = f j
  | 0, _ => ⟨fun i hi => absurd hi (Nat.not_lt_zero i), fun j _ => rfl⟩
  | n + 1, hn => by
    obtain ⟨i1, i2⟩ := stS_at f nm wl D n (by omega)
    rw [stS]
    refine ⟨fun i hi => ?_, fun j hj => by rw [pk_un (by omega), pk_un (by omega)]; exact i2 j hj⟩
    by_cases e : i = n
    · subst e; exact ⟨by rw [pk_un (by omega), pk_us], by rw [pk_us]⟩
    · exact ⟨by rw [pk_un (by omega), pk_un e]; exact (i1 i (by omega)).1, by rw [pk_un (by omega), pk_un (by omega)]; exact (i1 i (by omega)).2⟩
theorem rp_all {T Q Ld Vd M : NV} {z : Nat} (hT : rTx T M z) :
    (∃ s, s ≤ 200 ∧ (rdR T z Q Ld Vd).1 = -10 - nI s ∧ (rpR z M).1 0 6 = nI s ∧ fMo M (rpR z M).1) ∨
    (∃ i n C, i < 1000 ∧ (rdR T z Q Ld Vd).1 = nI i ∧ (rpR z M).2 = i ∧ RR M (T 0) z n C (rdR T z Q Ld Vd).2 (rpR z M).1) := by
  obtain ⟨t1, t2, t3, t4, t5⟩ := hT
  have hq0 : rQ0 (T 0) z (0, upA Q 0 (upd (upd (Q 0) 0 0) 4 0), emL Ld, emV Vd) (rp0 M) := ⟨t4.symm, t3, rfl, Nat.zero_le _, rfl, rfl⟩
  have hR : RR M (T 0) z 0 4 (nT T z (0, upA Q 0 (upd (upd (Q 0) 0 0) 4 0), emL Ld, emV Vd)) (adM z (rp0 M)) := by
    refine ⟨rQ_next t2 t5 hq0, ⟨⟨rfl, rfl, by omega, by omega⟩, ⟨rfl, rfl, by omega⟩, ⟨rfl, ⟨15, by omega, rfl⟩, rfl, rfl, rfl⟩, fun i hi => absurd hi (Nat.not_lt_zero i), fun i hi => absurd hi (Nat.not_lt_zero i), fun i _ h2 => ?_, fun p q hp => absurd hp (Nat.not_lt_zero p), fun p hp => absurd hp (Nat.not_lt_zero p), fun p hp => absurd hp (Nat.not_lt_zero p)⟩, fMo_ad ⟨rfl, rfl, rfl, rfl, rfl, rfl, rfl, fun i hi => ⟨rfl, ?_⟩, fun c hc => ?_⟩⟩
    · show flQ (M 6) 7 (7 + i) = 0
      rw [flQ_at, if_pos (by omega)]
    · show flQ (M 6) 7 i = M 6 i
      rw [flQ_at, if_neg (by omega)]
    · unfold rp0
      rw [upA_ne (by omega), upA_ne (by omega), upA_ne (by omega)]
  obtain ⟨k1, k2⟩ := hR.ok t2 t5
  have hwf : wfm z (rp0 M) := rp0_wf t3 (fun j hj => by rw [← t4]; obtain ⟨n, hn, e⟩ := t5 j hj; rw [e]; exact nI_nn (by omega))
  refine rp_loop t2 t5 200 (z + 2) 0 0 4 _ _ hR (fun _ => rfl) (fun hne => ?_) (by omega)
  have hm : ¬ adM z (rp0 M) 0 3 = 0 := by
    rcases hR.1.2.2 with ⟨a, b⟩ | ⟨a, b, c⟩ | ⟨a, b⟩ | ⟨a, b, -⟩ | ⟨⟨a, -⟩, b⟩
    · exact absurd a hne
    · rw [b]; decide
    · rw [b]; decide
    · rw [b]; decide
    · rw [b]; decide
  have := (ad_pM t2 hwf).2 hm
  rw [k2] at this
  omega
theorem nn10 {s : Nat} (h : s ≤ 200) : ¬ (0 : Int32) ≤ -10 - nI s := by
  have e : ∀ s, s < 201 → ¬ (0 : Int32) ≤ -10 - nI s := by decide +kernel
  exact e s (by omega)

set_option maxHeartbeats 1000000 in
theorem st_republic (cI cZ cN : ClassId) (a b : Nat → Nat) {T Q Ld Vd L V S : NV} {R : Nat → NV} {C1 C2 Rn Wd : NV} {Im : Nat → NV} {K : NV} {tr : Int64} {M : NV} {z N C k y z1 z2 : Nat} (h : Rel T L V S R C1 C2 Im K M z N C k y z1 z2) : Nx cI cZ cN a b (if 0 ≤ (rdR T z Q Ld Vd).1 then (pOne cI cZ cN a (zeT T) ((rdR T z Q Ld Vd).2.2.1) ((rdR T z Q Ld Vd).2.2.2.1) ((rdR T z Q Ld Vd).2.2.2.2) (cpL (rdR T z Q Ld Vd).2.2.2.1 L) (cpN (rdR T z Q Ld Vd).2.2.2.2 V) (zeS S) R (zeC C1) (zeC C2) Rn Wd Im (upA K 0 (fil (K 0) 0 2)) tr) else (pOne cI cZ cN a T ((rdR T z Q Ld Vd).2.2.1) ((rdR T z Q Ld Vd).2.2.2.1) ((rdR T z Q Ld Vd).2.2.2.2) L V S R C1 C2 Rn Wd Im K tr)) ((pMod cI cZ b (rpZ (rpR z M)) tr)) ((rdR T z Q Ld Vd).1 = rpA (rpR z M)) := by
  have h0 := h
  obtain ⟨hT, hCt, hLd, hV, hP, h1, h2, hI⟩ := h
  have hN := hCt.2.1
  have hC4 := hCt.2.2.2.2.1
  have hC1 := hCt.2.2.2.2.2.1
  rcases rp_all (Q := Q) (Ld := Ld) (Vd := Vd) hT with ⟨s, hs, e1, e2, hf⟩ | ⟨i, n, D, hi, e1, e2, hR⟩
  · have hw : ¬ (rpR z M).1 0 6 < 0 := by rw [e2]; exact Int32.not_lt.mpr (nI_nn (by omega))
    have hz : rpZ (rpR z M) = (rpR z M).1 := by unfold rpZ; rw [if_neg hw]
    have ha : rpA (rpR z M) = -10 - nI s := by unfold rpA; rw [if_neg hw, e2]
    obtain ⟨X, hX⟩ : ∃ X, X = (rpR z M).1 := ⟨_, rfl⟩
    rw [hz, ha, ← hX, e1, if_neg (nn10 hs)]
    rw [← hX] at hf
    obtain ⟨f1, f2, f3, f4, f5, f6, f7, f8, f9⟩ := hf
    obtain ⟨t1, t2, t3, t4, t5⟩ := hT
    obtain ⟨c1, c2, c3, c4, c5, c6, c7⟩ := hCt
    obtain ⟨d1, d2, d3, d4⟩ := hLd
    obtain ⟨p1, p2, p3, p4, p5, p6⟩ := hP
    obtain ⟨a1, a2, a3, a4⟩ := h1
    obtain ⟨b1, b2, b3, b4⟩ := h2
    refine Rel.nx (M := X) ⟨⟨t1, t2, by rw [f2]; exact t3, by rw [f1]; exact t4, t5⟩, ⟨c1, c2, by rw [f7]; exact c3, c4, c5, c6, by rw [f6]; exact c7⟩, ⟨fun i hi => by rw [(f8 i (by omega)).1]; exact d1 i hi, fun i hi => by rw [(f8 i (by omega)).2]; exact d2 i hi, d3, d4⟩, by rw [f9 7 (by omega)]; exact hV, ⟨p1, p2, p3, p4, by rw [f3]; exact p5, fun e he => by rw [f9 11 (by omega)]; exact p6 e he⟩, ⟨a1, a2, by rw [f4]; exact a3, by rw [f9 12 (by omega), f9 13 (by omega)]; exact a4⟩, ⟨b1, b2, by rw [f5]; exact b3, by rw [f9 14 (by omega), f9 15 (by omega)]; exact b4⟩, fun j hj => by rw [f9 10 (by omega), f9 9 (by omega)]; exact hI j hj⟩ rfl rfl rfl
  · obtain ⟨σ, hσ⟩ : ∃ σ, σ = (rdR T z Q Ld Vd).2 := ⟨_, rfl⟩
    obtain ⟨X, hX⟩ : ∃ X, X = (rpR z M).1 := ⟨_, rfl⟩
    have hw : (rpR z M).1 0 6 < 0 := m1_lt hR.1.1.2.2.2.2.1
    have hz : rpZ (rpR z M) = seM X n := by
      unfold rpZ
      rw [if_pos hw, hR.2.1.2.1.2.1, tn_n (by have := hR.2.1.2.1.2.2; omega), hX]
    have ha : rpA (rpR z M) = nI i := by unfold rpA; rw [if_pos hw, e2]
    rw [hz, ha, e1, if_pos (nI_nn hi), ← hσ]
    rw [← hX, ← hσ] at hR
    obtain ⟨⟨⟨q1, -, -, -, -, -⟩, -, -⟩, ⟨⟨d1, d2, d3, d4⟩, ⟨d5, d6, d7⟩, ⟨d8, d9, d10, d11, d12⟩, d13, d14, -, d16, d17, d18⟩, hf⟩ := hR
    obtain ⟨s1, s2⟩ := stS_at (fil (X 7) 0 25) (X 3) (X 4) n 7 (Nat.le_refl _)
    obtain ⟨Y, hY⟩ : ∃ Y, Y = stS (fil (X 7) 0 25) (X 3) (X 4) n 7 := ⟨_, rfl⟩
    rw [← hY] at s1 s2
    have g7 : seM X n 7 = upd Y 22 (X 2 5) := by rw [hY]; rfl
    have le : ∀ i, i < 7 → (nI n ≤ nI i ↔ n ≤ i) := fun i hi => nI_leI (by omega) (by omega)
    have y0 : ∀ j, 14 ≤ j → j < 25 → Y j = 0 := fun j h1 h2 => by rw [s2 j h1]; exact fil_in _ _ 25 j h2
    have yi : ∀ i, i < n → Y i = σ.2.2.2 0 i ∧ Y (7 + i) = σ.2.2.2 1 i := fun i hi => by
      obtain ⟨u1, u2⟩ := s1 i (by omega)
      rw [u1, u2, if_neg (fun q => by have := (le i (by omega)).mp q; omega), if_neg (fun q => by have := (le i (by omega)).mp q; omega)]
      exact ⟨(d13 i hi).1, (d13 i hi).2.1⟩
    refine Rel.nx (T := zeT T) (L := cpL σ.2.2.1 L) (V := cpN σ.2.2.2 V) (S := zeS S) (C1 := zeC C1) (C2 := zeC C2) (K := upA K 0 (fil (K 0) 0 2)) (M := seM X n) (z := 0) (N := n) (C := D) (y := 0) (z1 := 0) (z2 := 0) ⟨⟨rfl, by omega, rfl, ?_, fun j hj => absurd hj (Nat.not_lt_zero j)⟩, ⟨d5, d7, rfl, d1, d4, d3, d2⟩, ⟨fun i hi => ?_, fun i hi => ?_, fun p q hp hq => ?_, fun p hp => ?_⟩, ?_, ⟨hP.1, hP.2.1, rfl, by omega, rfl, fun e he => absurd he (Nat.not_lt_zero e)⟩, ⟨rfl, by omega, rfl, fun e he => absurd he (Nat.not_lt_zero e)⟩, ⟨rfl, by omega, rfl, fun e he => absurd he (Nat.not_lt_zero e)⟩, fun j hj => ?_⟩ rfl rfl rfl
    · exact q1.symm
    · show va_cpy (σ.2.2.1 0) (L 0) 0 0 7 i = shB (X 5) 7 i
      rw [pk_cpy_in (by omega) (by omega), Nat.zero_add, Nat.sub_zero, shB_at _ 7 i (by omega), if_pos (by omega)]
      exact (d13 i hi).2.2.1.symm
    · show va_cpy (σ.2.2.1 1) (L 1) 0 0 7 i = shB (X 6) 7 i
      rw [pk_cpy_in (by omega) (by omega), Nat.zero_add, Nat.sub_zero, shB_at _ 7 i (by omega), if_pos (by omega)]
      exact (d14 i hi).symm
    · show bt (va_cpy (σ.2.2.1 1) (L 1) 0 0 7 p) q = bt (va_cpy (σ.2.2.1 1) (L 1) 0 0 7 q) p
      rw [pk_cpy_in (by omega) (by omega), Nat.zero_add, Nat.sub_zero, pk_cpy_in (by omega) (by omega), Nat.zero_add, Nat.sub_zero]
      exact d16 p q hp hq
    · show bt (va_cpy (σ.2.2.1 1) (L 1) 0 0 7 p) p = false
      rw [pk_cpy_in (by omega) (by omega), Nat.zero_add, Nat.sub_zero]
      exact d17 p hp
    · rw [g7]
      refine nwR.cp (r := upd Y 22 (X 2 5)) (by omega) ⟨fun i hi => ?_, fun i hi => ?_, fun i hi => ?_, ?_, ?_, ?_, ?_, fun i hi => ?_, fun i hi => ?_, fun i hi => ?_, fun i hi => ?_, ?_, ?_, ?_⟩ (fun i _ => rfl)
      · rw [pk_un (by omega), (yi i hi).1]
      · rw [pk_un (by omega), (yi i hi).2]
      · rw [pk_un (by omega), y0 (14 + i) (by omega) (by omega)]; exact (d13 i hi).2.2.2.1
      · rw [pk_un (by omega), y0 21 (by omega) (by omega)]; exact d10
      · rw [pk_us]; exact d8.symm
      · rw [pk_un (by omega), y0 23 (by omega) (by omega)]; exact d11
      · rw [pk_un (by omega), y0 24 (by omega) (by omega)]; exact d12
      · rw [pk_un (by omega), (yi i hi).1]; exact (d13 i hi).2.2.2.2.1
      · rw [pk_un (by omega)]
        by_cases q : i < n
        · rw [(yi i q).2]
          obtain ⟨w, hw1, hw2⟩ := (d13 i q).2.2.2.2.2
          exact ⟨w, by omega, hw2⟩
        · rw [(s1 i hi).2, if_pos ((le i hi).mpr (by omega))]; exact ⟨0, by omega, rfl⟩
      · rw [pk_un (by omega), y0 (14 + i) (by omega) (by omega)]; exact ⟨0, by omega, rfl⟩
      · rw [pk_un (by omega), y0 21 (by omega) (by omega)]; exact b_0 i
      · rw [pk_us, d8]; exact d9
      · rw [pk_un (by omega), y0 23 (by omega) (by omega)]; exact ⟨0, by omega, rfl⟩
      · rw [pk_un (by omega), y0 24 (by omega) (by omega)]; exact ⟨0, by omega, rfl⟩
    · have k0 : upA K 0 (fil (K 0) 0 2) 0 j = 0 := fil_in (K 0) 0 2 j hj
      refine ⟨?_, fun q => absurd k0 q⟩
      rw [k0]
      show (0 : Int32) = upd (upd (X 10) 0 0) 1 0 j
      rcases (show j = 0 ∨ j = 1 by omega) with rfl | rfl <;> rfl

set_option maxHeartbeats 1000000 in
theorem st_keep (cI cZ cN : ClassId) (a b : Nat → Nat) {T Q Ld Vd L V S : NV} {R : Nat → NV} {C1 C2 Rn Wd : NV} {Im : Nat → NV} {K : NV} {tr : Int64} {M : NV} {z N C k y z1 z2 : Nat} (h : Rel T L V S R C1 C2 Im K M z N C k y z1 z2) (x : Int32) : Nx cI cZ cN a b (if ¬ inI x 0 1 = 0 then (pOne cI cZ cN a T Q Ld Vd L V S R C1 C2 Rn Wd (upR Im x.toNatClampNeg (cpN V (Im x.toNatClampNeg))) (stK K x.toNatClampNeg) tr) else (pOne cI cZ cN a T Q Ld Vd L V S R C1 C2 Rn Wd Im K tr)) (if ¬ inI x 0 1 = 0 then (pMod cI cZ b (upA (upA (upA M 9 (cpO (M 9) (M 7) (25 * x.toNatClampNeg) 25)) 10 (upd (M 10) x.toNatClampNeg 1)) 0 (upd (M 0) 0 (0 : Int32))) tr) else (pMod cI cZ b (upA M 0 (upd (M 0) 0 (0 : Int32))) tr)) ((if ¬ inI x 0 1 = 0 then V 3 3 else -1) = (if ¬ inI x 0 1 = 0 then M 7 24 else -1)) := by
  have h0 := h
  obtain ⟨hT, hCt, hLd, hV, hP, h1, h2, hI⟩ := h
  have hN := hCt.2.1
  have hC4 := hCt.2.2.2.2.1
  have hC1 := hCt.2.2.2.2.2.1
  by_cases hc : ¬ inI x 0 1 = 0
  · rw [if_pos hc, if_pos hc, if_pos hc, if_pos hc]
    obtain ⟨J, hJ, rfl⟩ := inI_nat (n := 2) (by decide) hc
    have eJ : (nI J).toNatClampNeg = J := nI_clamp (by omega)
    rw [eJ]
    refine Rel.nx (Im := upR Im J (cpN V (Im J))) (K := stK K J) (M := upA (upA (upA M 9 (cpO (M 9) (M 7) (25 * J) 25)) 10 (upd (M 10) J 1)) 0 (upd (M 0) 0 (0 : Int32))) ⟨hT, hCt, hLd, hV, hP, h1, h2, fun j hj => ?_⟩ rfl rfl hV.2.2.2.2.2.2.1
    show upd (K 0) J 1 j = upd (M 10) J 1 j ∧ (¬ upd (K 0) J 1 j = 0 → nwR N C (upR Im J (cpN V (Im J)) j) (fun i => cpO (M 9) (M 7) (25 * J) 25 (25 * j + i)))
    by_cases e : j = J
    · subst e
      rw [pk_us, pk_us, upR_k]
      refine ⟨rfl, fun _ => hV.cp hN (fun i hi => ?_)⟩
      rw [cpO_at, if_pos (by omega), show 25 * j + i - 25 * j = i from by omega]
    · rw [pk_un e, pk_un e, upR_n e]
      refine ⟨(hI j hj).1, fun q => ((hI j hj).2 q).cg hN (fun i hi => ?_) (fun _ _ _ _ => rfl) (fun _ _ => rfl)⟩
      show cpO (M 9) (M 7) (25 * J) 25 (25 * j + i) = _
      rw [cpO_at, if_neg (by omega)]
  · rw [if_neg hc, if_neg hc, if_neg hc, if_neg hc]
    exact Rel.nx (M := upA M 0 (upd (M 0) 0 (0 : Int32))) ⟨hT, hCt, hLd, hV, hP, h1, h2, hI⟩ rfl rfl rfl

set_option maxHeartbeats 1000000 in
theorem st_back (cI cZ cN : ClassId) (a b : Nat → Nat) {T Q Ld Vd L V S : NV} {R : Nat → NV} {C1 C2 Rn Wd : NV} {Im : Nat → NV} {K : NV} {tr : Int64} {M : NV} {z N C k y z1 z2 : Nat} (h : Rel T L V S R C1 C2 Im K M z N C k y z1 z2) (x : Int32) : Nx cI cZ cN a b (if ¬ inI x 0 1 = 0 ∧ ¬ K 0 x.toNatClampNeg = 0 then (pOne cI cZ cN a T Q Ld Vd L (cpN (Im x.toNatClampNeg) V) (zeS S) R C1 C2 Rn Wd Im K tr) else (pOne cI cZ cN a T Q Ld Vd L V S R C1 C2 Rn Wd Im K tr)) (if ¬ inI x 0 1 = 0 ∧ ¬ M 10 x.toNatClampNeg = 0 then (pMod cI cZ b (upA (upA M 7 (cpR (M 7) (M 9) (25 * x.toNatClampNeg) 25)) 0 (upd (upd (M 0) 0 (0 : Int32)) 8 (0 : Int32))) tr) else (pMod cI cZ b (upA M 0 (upd (M 0) 0 (0 : Int32))) tr)) ((if ¬ inI x 0 1 = 0 then (if K 0 x.toNatClampNeg = 0 then -2 else Im x.toNatClampNeg 3 3) else -1) = (if ¬ inI x 0 1 = 0 then (if M 10 x.toNatClampNeg = 0 then -2 else cpR (M 7) (M 9) (25 * x.toNatClampNeg) 25 24) else -1)) := by
  have h0 := h
  obtain ⟨hT, hCt, hLd, hV, hP, h1, h2, hI⟩ := h
  have hN := hCt.2.1
  have hC4 := hCt.2.2.2.2.1
  have hC1 := hCt.2.2.2.2.2.1
  by_cases hc : ¬ inI x 0 1 = 0
  · rw [if_pos hc, if_pos hc]
    obtain ⟨J, hJ, rfl⟩ := inI_nat (n := 2) (by decide) hc
    have eJ : (nI J).toNatClampNeg = J := nI_clamp (by omega)
    rw [eJ]
    obtain ⟨i1, i2⟩ := hI J hJ
    by_cases hk : K 0 J = 0
    · have hm : M 10 J = 0 := by rw [← i1]; exact hk
      rw [if_pos hk, if_pos hm, if_neg (fun q => q.2 hk), if_neg (fun q => q.2 hm)]
      exact Rel.nx (M := upA M 0 (upd (M 0) 0 (0 : Int32))) ⟨hT, hCt, hLd, hV, hP, h1, h2, hI⟩ rfl rfl rfl
    · have hm : ¬ M 10 J = 0 := by rw [← i1]; exact hk
      rw [if_neg hk, if_neg hm, if_pos ⟨hc, hk⟩, if_pos ⟨hc, hm⟩]
      have hh := i2 hk
      refine Rel.nx (V := cpN (Im J) V) (S := zeS S) (M := upA (upA M 7 (cpR (M 7) (M 9) (25 * J) 25)) 0 (upd (upd (M 0) 0 (0 : Int32)) 8 (0 : Int32))) (y := 0) ⟨hT, hCt, hLd, hh.cp hN (fun i hi => cpR_at _ _ _ 25 i hi), ⟨hP.1, hP.2.1, rfl, by omega, rfl, fun e he => absurd he (Nat.not_lt_zero e)⟩, h1, h2, hI⟩ rfl rfl ?_
      rw [cpR_at _ _ _ 25 24 (by omega)]
      exact hh.2.2.2.2.2.2.1
  · rw [if_neg hc, if_neg hc, if_neg (fun q => hc q.1), if_neg (fun q => hc q.1)]
    exact Rel.nx (M := upA M 0 (upd (M 0) 0 (0 : Int32))) ⟨hT, hCt, hLd, hV, hP, h1, h2, hI⟩ rfl rfl rfl

/-- the class's rates -/
def raC (N : Nat) (V : NV) (q : Int32) (P : Nat) : Int32 := if q = 0 then V 1 P else if q = 1 then V 1 P + fmI (V 0) (V 2) N (V 3 1) P else if q = 2 then V 1 P - txI (V 0) (V 1) N (V 3 1) P (V 0 P) else if q = 3 then 2 * (V 1 P + fmI (V 0) (V 2) N (V 3 1) P) else if q = 4 then V 1 P - txI (V 0) (V 1) N (V 3 1) P (V 0 P) + nI P else V 1 P + V 3 3
theorem ra_eq {N C P : Nat} {V : NV} {r : Nat → Int32} (hN : N ≤ 7) (hP : P < N) (h : nwR N C V r) (q : Int32) : raC N V q P = raM r N q P := by
  unfold raC raM
  rw [h.2.1 P hP, tx_s hN h hP, fame_eq hN (fun i hi => (h.1 i hi).symm) (fun i hi => (h.2.2.1 i hi).symm) h.2.2.2.2.1.symm hP, h.2.2.2.2.2.2.1]

set_option maxHeartbeats 1000000 in
theorem st_rate (cI cZ cN : ClassId) (a b : Nat → Nat) {T Q Ld Vd L V S : NV} {R : Nat → NV} {C1 C2 Rn Wd : NV} {Im : Nat → NV} {K : NV} {tr : Int64} {M : NV} {z N C k y z1 z2 : Nat} (h : Rel T L V S R C1 C2 Im K M z N C k y z1 z2) (q p0 : Int32) : Nx cI cZ cN a b ((pOne cI cZ cN a T Q Ld Vd L V S R C1 C2 Rn Wd Im K (if raO N q p0 then tr + raT q else tr))) ((pMod cI cZ b (upA M 0 (upd (M 0) 0 (0 : Int32))) (if raO N q p0 then tr + raT q else tr))) ((if raO N q p0 then raC N V q (tn p0) else -1000000) = (if raO N q p0 then raM (M 7) N q (tn p0) else -1000000)) := by
  have h0 := h
  obtain ⟨hT, hCt, hLd, hV, hP, h1, h2, hI⟩ := h
  have hN := hCt.2.1
  have hC4 := hCt.2.2.2.2.1
  have hC1 := hCt.2.2.2.2.2.1
  by_cases hc : raO N q p0
  · rw [if_pos hc, if_pos hc, if_pos hc]
    exact Rel.nx (M := upA M 0 (upd (M 0) 0 (0 : Int32))) ⟨hT, hCt, hLd, hV, hP, h1, h2, hI⟩ rfl rfl (ra_eq hN (in_tn hN hc.2).1 hV q)
  · rw [if_neg hc, if_neg hc, if_neg hc]
    exact Rel.nx (M := upA M 0 (upd (M 0) 0 (0 : Int32))) ⟨hT, hCt, hLd, hV, hP, h1, h2, hI⟩ rfl rfl rfl
