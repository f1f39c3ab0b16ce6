/-! the pure layer: each call keeps what both have in common, and answers alike -/

theorem in_7 {wh : Int32} (h : ¬ inI wh 0 7 = 0) : wh = 0 ∨ wh = 1 ∨ wh = 2 ∨ wh = 3 ∨ wh = 4 ∨ wh = 5 ∨ wh = 6 ∨ wh = 7 := by
  obtain ⟨j, hj, e⟩ := inI_nat (n := 8) (by decide) h
  subst e
  rcases (show j = 0 ∨ j = 1 ∨ j = 2 ∨ j = 3 ∨ j = 4 ∨ j = 5 ∨ j = 6 ∨ j = 7 by omega) with rfl | rfl | rfl | rfl | rfl | rfl | rfl | rfl <;> decide +kernel
theorem in_3 {wh : Int32} (h : ¬ inI wh 0 3 = 0) : wh = 0 ∨ wh = 1 ∨ wh = 2 ∨ wh = 3 := by
  obtain ⟨j, hj, e⟩ := inI_nat (n := 4) (by decide) h
  subst e
  rcases (show j = 0 ∨ j = 1 ∨ j = 2 ∨ j = 3 by omega) with rfl | rfl | rfl | rfl <;> decide +kernel
theorem opP_cong {N : Nat} {p : Int32} {f g : Nat → Int32} (hN : N ≤ 7) (h : ∀ P, P < N → f P = g P) : opP N p f = opP N p g := by
  unfold opP
  by_cases q : inI p 0 (nI N - 1) = 0
  · rw [if_pos q, if_pos q]
  · rw [if_neg q, if_neg q]; exact h _ (in_tn hN q).1
theorem pers_eq {N C : Nat} {L V : NV} {r bi : Nat → Int32} (hN : N ≤ 7) (hC : C ≤ 4) (h : nwR N C V r) (hb : ∀ i, i < N → L 0 i = bi i) (wh : Int32) {P : Nat} (hP : P < N) : prR N C L V wh P = peM r bi N wh P := by
  have hnm : nmO (V 0) N C := fun i hi => by rw [h.1 i hi]; exact h.2.2.2.2.2.2.2.1 i hi
  unfold prR peM
  by_cases hw : inI wh 0 7 = 0
  · rw [if_pos hw, if_neg (in_no hw (by decide)), if_neg (in_no hw (by decide)), if_neg (in_no hw (by decide)), if_neg (in_no hw (by decide)), if_neg (in_no hw (by decide)), if_neg (in_no hw (by decide)), if_neg (in_no hw (by decide)), if_neg (in_no hw (by decide))]
  · rw [if_neg hw]
    rcases in_7 hw with rfl | rfl | rfl | rfl | rfl | rfl | rfl | rfl
    · rw [if_pos rfl, if_neg (by decide), if_pos rfl]; exact h.1 P hP
    · rw [if_neg (by decide), if_pos rfl, if_neg (by decide), if_neg (by decide), if_pos rfl]; exact h.2.1 P hP
    · rw [if_neg (by decide), if_neg (by decide), if_pos rfl, if_neg (by decide), if_neg (by decide), if_neg (by decide), if_pos rfl]; exact hb P hP
    · rw [if_neg (by decide), if_neg (by decide), if_neg (by decide), if_pos rfl, if_neg (by decide), if_neg (by decide), if_neg (by decide), if_neg (by decide), h.2.2.2.1]; rfl
    · rw [if_neg (by decide), if_neg (by decide), if_neg (by decide), if_neg (by decide), if_pos rfl, if_pos (by decide), if_pos rfl]
      exact lim_b hN hC hnm (fun i hi => (h.1 i hi).symm) h.2.2.2.1.symm h.2.2.2.2.1.symm hP
    · rw [if_neg (by decide), if_neg (by decide), if_neg (by decide), if_neg (by decide), if_neg (by decide), if_pos rfl, if_pos (by decide), if_neg (by decide), if_pos rfl]; exact h.2.2.1 P hP
    · rw [if_neg (by decide), if_neg (by decide), if_neg (by decide), if_neg (by decide), if_neg (by decide), if_neg (by decide), if_pos rfl, if_pos (by decide), if_neg (by decide), if_neg (by decide), if_pos rfl]
      exact fame_eq hN (fun i hi => (h.1 i hi).symm) (fun i hi => (h.2.2.1 i hi).symm) h.2.2.2.2.1.symm hP
    · rw [if_neg (by decide), if_neg (by decide), if_neg (by decide), if_neg (by decide), if_neg (by decide), if_neg (by decide), if_neg (by decide), if_pos rfl, if_pos (by decide), if_neg (by decide), if_neg (by decide), if_neg (by decide)]
      exact tx_s hN h hP
theorem bill_eq {N C : Nat} {L V : NV} {r bi : Nat → Int32} (hN : N ≤ 7) (hC : C ≤ 4) (h : nwR N C V r) (hb : ∀ i, i < N → L 0 i = bi i) (b wh : Int32) : biR N C L V b wh = biM r bi N C b wh := by
  have hnm := h.2.2.2.2.2.2.2.1
  unfold biR biM
  by_cases hbb : inI b 0 4 = 0
  · rw [if_pos hbb, if_pos hbb]
  · rw [if_neg hbb, if_neg hbb]
    obtain ⟨j, hj, rfl⟩ := inI_nat (n := 5) (by decide) hbb
    have v := vo_eq (b := j) (fv := L 0) (bi := bi) (f := V 0) (la := V 3 1) hN hC (by omega) hnm h.1 (fun i hi => (hb i hi).symm) h.2.2.2.2.1.symm (am_ev hN hC hnm)
    by_cases hw : inI wh 0 3 = 0
    · rw [if_pos hw, if_neg (in_no hw (by decide)), if_neg (in_no hw (by decide)), if_neg (in_no hw (by decide)), if_neg (in_no hw (by decide))]
    · rw [if_neg hw]
      rcases in_3 hw with rfl | rfl | rfl | rfl
      · rw [if_pos rfl, if_pos rfl]; exact v.1
      · rw [if_neg (by decide), if_pos rfl, if_neg (by decide), if_pos rfl]; exact v.2
      · rw [if_neg (by decide), if_neg (by decide), if_pos rfl, if_neg (by decide), if_neg (by decide), if_pos rfl]
        exact ps_eq hN hC (by omega) hnm h.1 (fun i hi => (hb i hi).symm) h.2.2.2.2.1.symm (am_ev hN hC hnm)
      · rw [if_neg (by decide), if_neg (by decide), if_neg (by decide), if_pos rfl, if_neg (by decide), if_neg (by decide), if_neg (by decide)]
        exact sw_eq hN hC (by omega) hnm h.1 (fun i hi => (hb i hi).symm) h.2.2.2.2.1.symm C
theorem now_eq {N C y : Nat} {L V : NV} {r qu : Nat → Int32} (w : Nat → Int32) (hN : N ≤ 7) (hC : C ≤ 4) (h : nwR N C V r) (hq : ∀ i, i < N → L 1 i = qu i) (hs : ∀ p q, p < N → q < N → bt (L 1 p) q = bt (L 1 q) p) (h0 : ∀ p, p < N → bt (L 1 p) p = false) (wh : Int32) : noR N C y L V wh = nwM r qu w N C y wh := by
  have hnm : nmO (V 0) N C := fun i hi => by rw [h.1 i hi]; exact h.2.2.2.2.2.2.2.1 i hi
  unfold noR nwM
  by_cases hw : inI wh 0 7 = 0
  · rw [if_pos hw, if_neg (in_no hw (by decide)), if_neg (in_no hw (by decide)), if_neg (in_no hw (by decide)), if_neg (in_no hw (by decide)), if_neg (in_no hw (by decide)), if_neg (in_no hw (by decide)), if_neg (in_no hw (by decide)), if_neg (in_no hw (by decide))]
  · rw [if_neg hw]
    rcases in_7 hw with rfl | rfl | rfl | rfl | rfl | rfl | rfl | rfl
    · rw [if_pos rfl, if_neg (by decide), if_pos rfl]; exact h.2.2.2.2.2.2.1
    · rw [if_neg (by decide), if_pos rfl, if_neg (by decide), if_neg (by decide), if_pos rfl]; exact h.2.2.2.2.2.1
    · rw [if_neg (by decide), if_neg (by decide), if_pos rfl, if_neg (by decide), if_neg (by decide), if_neg (by decide)]; exact h.2.2.2.2.1
    · rw [if_neg (by decide), if_neg (by decide), if_neg (by decide), if_pos rfl, if_pos (by decide), if_pos rfl]
      exact lim_set hN hC hnm (fun i hi => (h.1 i hi).symm) h.2.2.2.1.symm h.2.2.2.2.1.symm (by rw [h.2.2.2.1]; exact h.2.2.2.2.2.2.2.2.2.2.1)
    · rw [if_neg (by decide), if_neg (by decide), if_neg (by decide), if_neg (by decide), if_pos rfl, if_pos (by decide), if_neg (by decide), if_pos rfl]
      exact bad_eq hN h.1 hq hs h0
    · rw [if_neg (by decide), if_neg (by decide), if_neg (by decide), if_neg (by decide), if_neg (by decide), if_pos rfl, if_pos (by decide), if_neg (by decide), if_neg (by decide), if_pos rfl]
      exact alo_eq hN hC h.2.2.2.2.2.2.2.1 h.1
    · rw [if_neg (by decide), if_neg (by decide), if_neg (by decide), if_neg (by decide), if_neg (by decide), if_neg (by decide), if_pos rfl, if_pos (by decide), if_neg (by decide), if_neg (by decide), if_neg (by decide), if_pos rfl]
      exact (rs_eq hN h w N (Nat.le_refl _)).symm
    · rw [if_neg (by decide), if_neg (by decide), if_neg (by decide), if_neg (by decide), if_neg (by decide), if_neg (by decide), if_neg (by decide), if_pos rfl, if_pos (by decide), if_neg (by decide), if_neg (by decide), if_neg (by decide), if_neg (by decide)]
theorem cnt_eq {N C z z1 z2 : Nat} (w : Int32) : coR N C z z1 z2 w = coMr N C z z1 z2 w := by
  unfold coR coMr
  by_cases h0 : w = 0
  · subst h0; rw [if_pos rfl, if_neg (by decide), if_pos (by decide)]
  · rw [if_neg h0]
    by_cases h1 : w = 1
    · subst h1; rw [if_pos rfl, if_neg (by decide), if_neg (by decide)]
    · rw [if_neg h1]
      have : inI w 0 1 = 0 := by
        by_cases q : inI w 0 1 = 0
        · exact q
        · exact absurd (in_1 q) (fun x => x.elim h0 h1)
      rw [if_pos this]
theorem ty_eq {z : Nat} (hz : z ≤ 200) : (nI z < 200) ↔ ¬ nI z = 200 := by
  have e1 : (nI z < (200 : Int32)) ↔ z < 200 := nI_ltI (a := z) (b := 200) (by omega) (by decide)
  have e2 : (nI z = (200 : Int32)) ↔ z = 200 := nI_eq (a := z) (b := 200) (by omega) (by decide)
  rw [e1, e2]; omega
theorem six_eq {z : Nat} (hz : z ≤ 6) : (nI z < 6) ↔ ¬ nI z = 6 := by
  have e1 : (nI z < (6 : Int32)) ↔ z < 6 := nI_ltI (a := z) (b := 6) (by omega) (by decide)
  have e2 : (nI z = (6 : Int32)) ↔ z = 6 := nI_eq (a := z) (b := 6) (by omega) (by decide)
  rw [e1, e2]; omega

set_option maxHeartbeats 1000000 in
theorem st_type (cI cZ cN : ClassId) (a b : Nat → Nat) {T Q Ld Vd L V S : NV} {R : Nat → NV} {C1 C2 Rn Wd : NV} {Im : Nat → NV} {K : NV} {tr : Int64} {M : NV} {z N C k y z1 z2 : Nat} (h : Rel T L V S R C1 C2 Im K M z N C k y z1 z2) (x : Int32) : Nx cI cZ cN a b ((pOne cI cZ cN a (tyT T z x) Q Ld Vd L V S R C1 C2 Rn Wd Im K tr)) ((pMod cI cZ b (upA (upA M 1 (tyMX (M 1) z x)) 0 (upd (upd (M 0) 0 (0 : Int32)) 1 (tyMz z x))) tr)) (tyR z x = tyMr z x) := by
  have h0 := h
  obtain ⟨hT, hCt, hLd, hV, hP, h1, h2, hI⟩ := h
  have hN := hCt.2.1
  have hC4 := hCt.2.2.2.2.1
  have hC1 := hCt.2.2.2.2.2.1
  obtain ⟨t1, t2, t3, t4, t5⟩ := hT
  unfold tyR tyT tyMr tyMX tyMz
  by_cases hx : inI x 0 255 = 0
  · rw [if_pos hx, if_pos hx, if_pos hx, if_pos hx, if_pos hx]
    exact Rel.nx (M := upA (upA M 1 (M 1)) 0 (upd (upd (M 0) 0 (0 : Int32)) 1 (nI z))) (z := z) ⟨⟨t1, t2, rfl, t4, t5⟩, hCt, hLd, hV, hP, h1, h2, hI⟩ rfl rfl rfl
  · rw [if_neg hx, if_neg hx, if_neg hx, if_neg hx, if_neg hx]
    by_cases hl : nI z < 200
    · have hl2 := (ty_eq t2).mp hl
      have hz : z < 200 := (nI_ltI (a := z) (b := 200) (by omega) (by decide)).mp hl
      rw [if_pos hl, if_pos hl, if_neg hl2, if_neg hl2, if_neg hl2]
      obtain ⟨n, hn, en⟩ := inI_nat (n := 256) (by decide) hx
      refine Rel.nx (T := upA (upA T 0 (upd (T 0) z x)) 1 (upd (T 1) 0 (nI (z + 1)))) (M := upA (upA M 1 (upd (M 1) z x)) 0 (upd (upd (M 0) 0 (0 : Int32)) 1 (nI (z + 1)))) (z := z + 1) ⟨⟨rfl, by omega, rfl, ?_, fun j hj => ?_⟩, hCt, hLd, hV, hP, h1, h2, hI⟩ rfl rfl rfl
      · show upd (T 0) z x = upd (M 1) z x
        rw [t4]
      · show ∃ n, n < 256 ∧ upd (T 0) z x j = nI n
        by_cases e : j = z
        · subst e; rw [pk_us]; exact ⟨n, hn, en⟩
        · rw [pk_un e]; exact t5 j (by omega)
    · have hl2 : nI z = 200 := by
        by_cases q : nI z = 200
        · exact q
        · exact absurd ((ty_eq t2).mpr q) hl
      rw [if_neg hl, if_neg hl, if_pos hl2, if_pos hl2, if_pos hl2]
      exact Rel.nx (M := upA (upA M 1 (M 1)) 0 (upd (upd (M 0) 0 (0 : Int32)) 1 (nI z))) (z := z) ⟨⟨t1, t2, rfl, t4, t5⟩, hCt, hLd, hV, hP, h1, h2, hI⟩ rfl rfl rfl

set_option maxHeartbeats 1000000 in
theorem st_clear (cI cZ cN : ClassId) (a b : Nat → Nat) {T Q Ld Vd L V S : NV} {R : Nat → NV} {C1 C2 Rn Wd : NV} {Im : Nat → NV} {K : NV} {tr : Int64} {M : NV} {z N C k y z1 z2 : Nat} (h : Rel T L V S R C1 C2 Im K M z N C k y z1 z2) : Nx cI cZ cN a b ((pOne cI cZ cN a (zeT T) Q Ld Vd L V S R C1 C2 Rn Wd Im K tr)) ((pMod cI cZ b (upA M 0 (upd (upd (M 0) 0 (0 : Int32)) 1 (0 : Int32))) tr)) (nI z = nI z) := by
  have h0 := h
  obtain ⟨hT, hCt, hLd, hV, hP, h1, h2, hI⟩ := h
  have hN := hCt.2.1
  have hC4 := hCt.2.2.2.2.1
  have hC1 := hCt.2.2.2.2.2.1
  exact Rel.nx (T := zeT T) (M := upA M 0 (upd (upd (M 0) 0 (0 : Int32)) 1 (0 : Int32))) (z := 0) ⟨⟨rfl, by omega, rfl, hT.2.2.2.1, fun j hj => absurd hj (Nat.not_lt_zero j)⟩, hCt, hLd, hV, hP, h1, h2, hI⟩ rfl rfl rfl

set_option maxHeartbeats 1000000 in
theorem st_person (cI cZ cN : ClassId) (a b : Nat → Nat) {T Q Ld Vd L V S : NV} {R : Nat → NV} {C1 C2 Rn Wd : NV} {Im : Nat → NV} {K : NV} {tr : Int64} {M : NV} {z N C k y z1 z2 : Nat} (h : Rel T L V S R C1 C2 Im K M z N C k y z1 z2) (p0 wh : Int32) : Nx cI cZ cN a b ((pOne cI cZ cN a T Q Ld Vd L V S R C1 C2 Rn Wd Im K tr)) ((pMod cI cZ b (upA M 0 (upd (M 0) 0 (0 : Int32))) tr)) (opP N p0 (prR N C L V wh) = opP N p0 (peM (M 7) (M 5) N wh)) := by
  have h0 := h
  obtain ⟨hT, hCt, hLd, hV, hP, h1, h2, hI⟩ := h
  have hN := hCt.2.1
  have hC4 := hCt.2.2.2.2.1
  have hC1 := hCt.2.2.2.2.2.1
  exact Rel.nx (M := upA M 0 (upd (M 0) 0 (0 : Int32))) ⟨hT, hCt, hLd, hV, hP, h1, h2, hI⟩ rfl rfl (opP_cong hN (fun P hP => pers_eq hN hC4 hV hLd.1 wh hP))

set_option maxHeartbeats 1000000 in
theorem st_quarrels (cI cZ cN : ClassId) (a b : Nat → Nat) {T Q Ld Vd L V S : NV} {R : Nat → NV} {C1 C2 Rn Wd : NV} {Im : Nat → NV} {K : NV} {tr : Int64} {M : NV} {z N C k y z1 z2 : Nat} (h : Rel T L V S R C1 C2 Im K M z N C k y z1 z2) (p0 : Int32) : Nx cI cZ cN a b ((pOne cI cZ cN a T Q Ld Vd L V S R C1 C2 Rn Wd Im K tr)) ((pMod cI cZ b (upA M 0 (upd (M 0) 0 (0 : Int32))) tr)) (opP N p0 (L 1) = opP N p0 (M 6)) := by
  have h0 := h
  obtain ⟨hT, hCt, hLd, hV, hP, h1, h2, hI⟩ := h
  have hN := hCt.2.1
  have hC4 := hCt.2.2.2.2.1
  have hC1 := hCt.2.2.2.2.2.1
  exact Rel.nx (M := upA M 0 (upd (M 0) 0 (0 : Int32))) ⟨hT, hCt, hLd, hV, hP, h1, h2, hI⟩ rfl rfl (opP_cong hN hLd.2.1)

set_option maxHeartbeats 1000000 in
theorem st_name (cI cZ cN : ClassId) (a b : Nat → Nat) {T Q Ld Vd L V S : NV} {R : Nat → NV} {C1 C2 Rn Wd : NV} {Im : Nat → NV} {K : NV} {tr : Int64} {M : NV} {z N C k y z1 z2 : Nat} (h : Rel T L V S R C1 C2 Im K M z N C k y z1 z2) (p0 wh : Int32) : Nx cI cZ cN a b ((pOne cI cZ cN a T Q Ld Vd L V S R C1 C2 Rn Wd Im K tr)) ((pMod cI cZ b (upA M 0 (upd (M 0) 0 (0 : Int32))) tr)) (naR N C V p0 wh = naM (M 7) N C p0 wh) := by
  have h0 := h
  obtain ⟨hT, hCt, hLd, hV, hP, h1, h2, hI⟩ := h
  have hN := hCt.2.1
  have hC4 := hCt.2.2.2.2.1
  have hC1 := hCt.2.2.2.2.2.1
  exact Rel.nx (M := upA M 0 (upd (M 0) 0 (0 : Int32))) ⟨hT, hCt, hLd, hV, hP, h1, h2, hI⟩ rfl rfl (name_eq hN hV p0 wh)

set_option maxHeartbeats 1000000 in
theorem st_bill (cI cZ cN : ClassId) (a b : Nat → Nat) {T Q Ld Vd L V S : NV} {R : Nat → NV} {C1 C2 Rn Wd : NV} {Im : Nat → NV} {K : NV} {tr : Int64} {M : NV} {z N C k y z1 z2 : Nat} (h : Rel T L V S R C1 C2 Im K M z N C k y z1 z2) (p0 wh : Int32) : Nx cI cZ cN a b ((pOne cI cZ cN a T Q Ld Vd L V S R C1 C2 Rn Wd Im K tr)) ((pMod cI cZ b (upA M 0 (upd (M 0) 0 (0 : Int32))) tr)) (biR N C L V p0 wh = biM (M 7) (M 5) N C p0 wh) := by
  have h0 := h
  obtain ⟨hT, hCt, hLd, hV, hP, h1, h2, hI⟩ := h
  have hN := hCt.2.1
  have hC4 := hCt.2.2.2.2.1
  have hC1 := hCt.2.2.2.2.2.1
  exact Rel.nx (M := upA M 0 (upd (M 0) 0 (0 : Int32))) ⟨hT, hCt, hLd, hV, hP, h1, h2, hI⟩ rfl rfl (bill_eq hN hC4 hV hLd.1 p0 wh)

set_option maxHeartbeats 1000000 in
theorem st_now (cI cZ cN : ClassId) (a b : Nat → Nat) {T Q Ld Vd L V S : NV} {R : Nat → NV} {C1 C2 Rn Wd : NV} {Im : Nat → NV} {K : NV} {tr : Int64} {M : NV} {z N C k y z1 z2 : Nat} (h : Rel T L V S R C1 C2 Im K M z N C k y z1 z2) (wh : Int32) : Nx cI cZ cN a b ((pOne cI cZ cN a T Q Ld Vd L V S R C1 C2 Rn Wd Im K tr)) ((pMod cI cZ b (upA (upA M 8 (nwW (M 7) (M 8) N C wh)) 0 (upd (M 0) 0 (0 : Int32))) tr)) (noR N C y L V wh = nwM (M 7) (M 6) (M 8) N C y wh) := by
  have h0 := h
  obtain ⟨hT, hCt, hLd, hV, hP, h1, h2, hI⟩ := h
  have hN := hCt.2.1
  have hC4 := hCt.2.2.2.2.1
  have hC1 := hCt.2.2.2.2.2.1
  exact Rel.nx (M := upA (upA M 8 (nwW (M 7) (M 8) N C wh)) 0 (upd (M 0) 0 (0 : Int32))) ⟨hT, hCt, hLd, hV, hP, h1, h2, hI⟩ rfl rfl (now_eq (M 8) hN hC4 hV hLd.2.1 hLd.2.2.1 hLd.2.2.2 wh)

set_option maxHeartbeats 1000000 in
theorem st_hurts (cI cZ cN : ClassId) (a b : Nat → Nat) {T Q Ld Vd L V S : NV} {R : Nat → NV} {C1 C2 Rn Wd : NV} {Im : Nat → NV} {K : NV} {tr : Int64} {M : NV} {z N C k y z1 z2 : Nat} (h : Rel T L V S R C1 C2 Im K M z N C k y z1 z2) (p0 p1 : Int32) : Nx cI cZ cN a b (if ¬ inI p0 0 (nI N - 1) = 0 ∧ ¬ inI p1 0 1 = 0 then (pOne cI cZ cN a T Q Ld Vd L (upA V 3 (upd (V 3) 0 ((V 3 0 &&& (((1 : Int32) <<< (p0 &&& 31)) ^^^ (-1))) ||| (p1 <<< (p0 &&& 31))))) (pastS S (nI ((k + 1) % 10)) (nI (min 10 (y + 1)))) (upR R k (cpN V (R k))) C1 C2 Rn Wd Im K tr) else (pOne cI cZ cN a T Q Ld Vd L V S R C1 C2 Rn Wd Im K tr)) (if ¬ inI p0 0 (nI N - 1) = 0 ∧ ¬ inI p1 0 1 = 0 then (pMod cI cZ b (upA (upA (upA M 7 (upd (M 7) 21 ((M 7 21 &&& (((1 : Int32) <<< (p0 &&& 31)) ^^^ (-1))) ||| (p1 <<< (p0 &&& 31))))) 11 (noU (M 11) (M 7) y)) 0 (upd (upd (M 0) 0 (0 : Int32)) 8 (nI (noN y)))) tr) else (pMod cI cZ b (upA M 0 (upd (M 0) 0 (0 : Int32))) tr)) ((if ¬ inI p0 0 (nI N - 1) = 0 ∧ ¬ inI p1 0 1 = 0 then bitI (V 3 0) p0 else -1) = (if ¬ inI p0 0 (nI N - 1) = 0 ∧ ¬ inI p1 0 1 = 0 then ((M 7 21 >>> (p0 &&& 31)) &&& 1) else -1)) := by
  have h0 := h
  obtain ⟨hT, hCt, hLd, hV, hP, h1, h2, hI⟩ := h
  have hN := hCt.2.1
  have hC4 := hCt.2.2.2.2.1
  have hC1 := hCt.2.2.2.2.2.1
  by_cases hc : ¬ inI p0 0 (nI N - 1) = 0 ∧ ¬ inI p1 0 1 = 0
  · rw [if_pos hc, if_pos hc, if_pos hc, if_pos hc]
    obtain ⟨P, hPN, rfl⟩ := inI_nat (nI_m1 (show N < 1000 by omega)) hc.1
    refine Rel.nx (V := upA V 3 (upd (V 3) 0 ((V 3 0 &&& (((1 : Int32) <<< (nI P &&& 31)) ^^^ (-1))) ||| (p1 <<< (nI P &&& 31))))) (S := pastS S (nI ((k + 1) % 10)) (nI (min 10 (y + 1)))) (R := upR R k (cpN V (R k))) (M := upA (upA (upA M 7 (upd (M 7) 21 ((M 7 21 &&& (((1 : Int32) <<< (nI P &&& 31)) ^^^ (-1))) ||| (p1 <<< (nI P &&& 31))))) 11 (noU (M 11) (M 7) y)) 0 (upd (upd (M 0) 0 (0 : Int32)) 8 (nI (noN y)))) (k := (k + 1) % 10) (y := min 10 (y + 1)) ⟨hT, hCt, hLd, nw_hu hN hPN (in_1 hc.2) hV, hP.rem hN hV rfl rfl, h1, h2, hI⟩ rfl rfl ?_
    show bitI (V 3 0) (nI P) = bitI (M 7 21) (nI P)
    rw [hV.2.2.2.1]
  · rw [if_neg hc, if_neg hc, if_neg hc, if_neg hc]
    exact Rel.nx (M := upA M 0 (upd (M 0) 0 (0 : Int32))) ⟨hT, hCt, hLd, hV, hP, h1, h2, hI⟩ rfl rfl rfl

set_option maxHeartbeats 1000000 in
theorem st_deeds (cI cZ cN : ClassId) (a b : Nat → Nat) {T Q Ld Vd L V S : NV} {R : Nat → NV} {C1 C2 Rn Wd : NV} {Im : Nat → NV} {K : NV} {tr : Int64} {M : NV} {z N C k y z1 z2 : Nat} (h : Rel T L V S R C1 C2 Im K M z N C k y z1 z2) (p0 : Int32) : Nx cI cZ cN a b (if ¬ inI p0 0 (nI N - 1) = 0 ∧ ¬ ¬ V 2 p0.toNatClampNeg < 99 then (pOne cI cZ cN a T Q Ld Vd L (deV V p0.toNatClampNeg) (pastS S (nI ((k + 1) % 10)) (nI (min 10 (y + 1)))) (upR R k (cpN V (R k))) C1 C2 Rn Wd Im K tr) else (pOne cI cZ cN a T Q Ld Vd L V S R C1 C2 Rn Wd Im K tr)) (if ¬ inI p0 0 (nI N - 1) = 0 ∧ ¬ M 7 (14 + p0.toNatClampNeg) = 99 then (pMod cI cZ b (upA (upA (upA M 7 (upd (M 7) (14 + p0.toNatClampNeg) (M 7 (14 + p0.toNatClampNeg) + 1))) 11 (noU (M 11) (M 7) y)) 0 (upd (upd (M 0) 0 (0 : Int32)) 8 (nI (noN y)))) tr) else (pMod cI cZ b (upA M 0 (upd (M 0) 0 (0 : Int32))) tr)) (deR N V p0 = deM (M 7) N p0) := by
  have h0 := h
  obtain ⟨hT, hCt, hLd, hV, hP, h1, h2, hI⟩ := h
  have hN := hCt.2.1
  have hC4 := hCt.2.2.2.2.1
  have hC1 := hCt.2.2.2.2.2.1
  unfold deR deM
  by_cases hin : inI p0 0 (nI N - 1) = 0
  · rw [if_pos hin, if_pos hin, if_neg (fun q => q.1 hin), if_neg (fun q => q.1 hin)]
    exact Rel.nx (M := upA M 0 (upd (M 0) 0 (0 : Int32))) ⟨hT, hCt, hLd, hV, hP, h1, h2, hI⟩ rfl rfl rfl
  · rw [if_neg hin, if_neg hin]
    obtain ⟨P, hPN, rfl⟩ := inI_nat (nI_m1 (show N < 1000 by omega)) hin
    have eP : (nI P).toNatClampNeg = P := nI_clamp (by omega)
    rw [eP]
    obtain ⟨d, hd, ed⟩ := hV.2.2.2.2.2.2.2.2.2.1 P hPN
    have eV : V 2 P = nI d := by rw [hV.2.2.1 P hPN, ed]
    have e1 : (V 2 P < 99) ↔ d < 99 := by rw [eV]; exact nI_ltI (a := d) (b := 99) (by omega) (by decide)
    have e2 : (M 7 (14 + P) = 99) ↔ d = 99 := by rw [ed]; exact nI_eq (a := d) (b := 99) (by omega) (by decide)
    by_cases hq : d < 99
    · have q1 := e1.mpr hq
      have q2 : ¬ M 7 (14 + P) = 99 := fun q => by have := e2.mp q; omega
      rw [if_pos q1, if_neg q2, if_pos ⟨hin, fun q => q q1⟩, if_pos ⟨hin, q2⟩]
      have hV2 := nw_de hN hPN hq ed hV
      refine Rel.nx (V := deV V P) (S := pastS S (nI ((k + 1) % 10)) (nI (min 10 (y + 1)))) (R := upR R k (cpN V (R k))) (M := upA (upA (upA M 7 (upd (M 7) (14 + P) (M 7 (14 + P) + 1))) 11 (noU (M 11) (M 7) y)) 0 (upd (upd (M 0) 0 (0 : Int32)) 8 (nI (noN y)))) (k := (k + 1) % 10) (y := min 10 (y + 1)) ⟨hT, hCt, hLd, hV2, hP.rem hN hV rfl rfl, h1, h2, hI⟩ rfl rfl ?_
      exact fame_eq hN (fun i hi => (hV2.1 i hi).symm) (fun i hi => (hV2.2.2.1 i hi).symm) hV2.2.2.2.2.1.symm hPN
    · have q1 : ¬ V 2 P < 99 := fun q => hq (e1.mp q)
      have q2 : M 7 (14 + P) = 99 := e2.mpr (by omega)
      rw [if_neg q1, if_pos q2, if_neg (fun q => q.2 q1), if_neg (fun q => q.2 q2)]
      exact Rel.nx (M := upA M 0 (upd (M 0) 0 (0 : Int32))) ⟨hT, hCt, hLd, hV, hP, h1, h2, hI⟩ rfl rfl rfl

set_option maxHeartbeats 1000000 in
theorem st_earns (cI cZ cN : ClassId) (a b : Nat → Nat) {T Q Ld Vd L V S : NV} {R : Nat → NV} {C1 C2 Rn Wd : NV} {Im : Nat → NV} {K : NV} {tr : Int64} {M : NV} {z N C k y z1 z2 : Nat} (h : Rel T L V S R C1 C2 Im K M z N C k y z1 z2) (p0 p1 : Int32) : Nx cI cZ cN a b (if ¬ inI p0 0 (nI N - 1) = 0 ∧ ¬ inI p1 (-99) 99 = 0 then (pOne cI cZ cN a T Q Ld Vd L (eaV V p0.toNatClampNeg p1) (pastS S (nI ((k + 1) % 10)) (nI (min 10 (y + 1)))) (upR R k (cpN V (R k))) C1 C2 Rn Wd Im K tr) else (pOne cI cZ cN a T Q Ld Vd L V S R C1 C2 Rn Wd Im K tr)) (if ¬ inI p0 0 (nI N - 1) = 0 ∧ ¬ inI p1 (-99) 99 = 0 then (pMod cI cZ b (upA (upA (upA M 7 (upd (M 7) (7 + p0.toNatClampNeg) (eaM (M 7 (7 + p0.toNatClampNeg)) p1))) 11 (noU (M 11) (M 7) y)) 0 (upd (upd (M 0) 0 (0 : Int32)) 8 (nI (noN y)))) tr) else (pMod cI cZ b (upA M 0 (upd (M 0) 0 (0 : Int32))) tr)) ((if ¬ inI p0 0 (nI N - 1) = 0 ∧ ¬ inI p1 (-99) 99 = 0 then eaX (V 1 p0.toNatClampNeg) p1 else -1) = (if ¬ inI p0 0 (nI N - 1) = 0 ∧ ¬ inI p1 (-99) 99 = 0 then eaM (M 7 (7 + p0.toNatClampNeg)) p1 else -1)) := by
  have h0 := h
  obtain ⟨hT, hCt, hLd, hV, hP, h1, h2, hI⟩ := h
  have hN := hCt.2.1
  have hC4 := hCt.2.2.2.2.1
  have hC1 := hCt.2.2.2.2.2.1
  by_cases hc : ¬ inI p0 0 (nI N - 1) = 0 ∧ ¬ inI p1 (-99) 99 = 0
  · rw [if_pos hc, if_pos hc, if_pos hc, if_pos hc]
    obtain ⟨P, hPN, rfl⟩ := inI_nat (nI_m1 (show N < 1000 by omega)) hc.1
    have eP : (nI P).toNatClampNeg = P := nI_clamp (by omega)
    rw [eP]
    obtain ⟨e1, e2⟩ := nw_ea hN hPN hc.2 hV
    exact Rel.nx (V := eaV V P p1) (S := pastS S (nI ((k + 1) % 10)) (nI (min 10 (y + 1)))) (R := upR R k (cpN V (R k))) (M := upA (upA (upA M 7 (upd (M 7) (7 + P) (eaM (M 7 (7 + P)) p1))) 11 (noU (M 11) (M 7) y)) 0 (upd (upd (M 0) 0 (0 : Int32)) 8 (nI (noN y)))) (k := (k + 1) % 10) (y := min 10 (y + 1)) ⟨hT, hCt, hLd, e2, hP.rem hN hV rfl rfl, h1, h2, hI⟩ rfl rfl e1
  · rw [if_neg hc, if_neg hc, if_neg hc, if_neg hc]
    exact Rel.nx (M := upA M 0 (upd (M 0) 0 (0 : Int32))) ⟨hT, hCt, hLd, hV, hP, h1, h2, hI⟩ rfl rfl rfl

set_option maxHeartbeats 1000000 in
theorem st_names (cI cZ cN : ClassId) (a b : Nat → Nat) {T Q Ld Vd L V S : NV} {R : Nat → NV} {C1 C2 Rn Wd : NV} {Im : Nat → NV} {K : NV} {tr : Int64} {M : NV} {z N C k y z1 z2 : Nat} (h : Rel T L V S R C1 C2 Im K M z N C k y z1 z2) (p0 p1 : Int32) : Nx cI cZ cN a b (if ¬ inI p0 0 (nI N - 1) = 0 ∧ ¬ inI p1 0 (nI C - 1) = 0 then (pOne cI cZ cN a T Q Ld Vd L (nmV V p0.toNatClampNeg p1) (pastS S (nI ((k + 1) % 10)) (nI (min 10 (y + 1)))) (upR R k (cpN V (R k))) C1 C2 Rn Wd Im K tr) else (pOne cI cZ cN a T Q Ld Vd L V S R C1 C2 Rn Wd Im K tr)) (if ¬ inI p0 0 (nI N - 1) = 0 ∧ ¬ inI p1 0 (nI C - 1) = 0 then (pMod cI cZ b (upA (upA (upA M 7 (upd (M 7) p0.toNatClampNeg p1)) 11 (noU (M 11) (M 7) y)) 0 (upd (upd (M 0) 0 (0 : Int32)) 8 (nI (noN y)))) tr) else (pMod cI cZ b (upA M 0 (upd (M 0) 0 (0 : Int32))) tr)) ((if ¬ inI p0 0 (nI N - 1) = 0 ∧ ¬ inI p1 0 (nI C - 1) = 0 then V 0 p0.toNatClampNeg else -1) = (if ¬ inI p0 0 (nI N - 1) = 0 ∧ ¬ inI p1 0 (nI C - 1) = 0 then M 7 p0.toNatClampNeg else -1)) := by
  have h0 := h
  obtain ⟨hT, hCt, hLd, hV, hP, h1, h2, hI⟩ := h
  have hN := hCt.2.1
  have hC4 := hCt.2.2.2.2.1
  have hC1 := hCt.2.2.2.2.2.1
  by_cases hc : ¬ inI p0 0 (nI N - 1) = 0 ∧ ¬ inI p1 0 (nI C - 1) = 0
  · rw [if_pos hc, if_pos hc, if_pos hc, if_pos hc]
    obtain ⟨P, hPN, rfl⟩ := inI_nat (nI_m1 (show N < 1000 by omega)) hc.1
    obtain ⟨c, hcC, rfl⟩ := inI_nat (nI_m1 (show C < 1000 by omega)) hc.2
    have eP : (nI P).toNatClampNeg = P := nI_clamp (by omega)
    rw [eP]
    exact Rel.nx (V := nmV V P (nI c)) (S := pastS S (nI ((k + 1) % 10)) (nI (min 10 (y + 1)))) (R := upR R k (cpN V (R k))) (M := upA (upA (upA M 7 (upd (M 7) P (nI c))) 11 (noU (M 11) (M 7) y)) 0 (upd (upd (M 0) 0 (0 : Int32)) 8 (nI (noN y)))) (k := (k + 1) % 10) (y := min 10 (y + 1)) ⟨hT, hCt, hLd, nw_nm hN hPN hcC hV, hP.rem hN hV rfl rfl, h1, h2, hI⟩ rfl rfl (hV.1 P hPN)
  · rw [if_neg hc, if_neg hc, if_neg hc, if_neg hc]
    exact Rel.nx (M := upA M 0 (upd (M 0) 0 (0 : Int32))) ⟨hT, hCt, hLd, hV, hP, h1, h2, hI⟩ rfl rfl rfl

set_option maxHeartbeats 1000000 in
theorem st_laws (cI cZ cN : ClassId) (a b : Nat → Nat) {T Q Ld Vd L V S : NV} {R : Nat → NV} {C1 C2 Rn Wd : NV} {Im : Nat → NV} {K : NV} {tr : Int64} {M : NV} {z N C k y z1 z2 : Nat} (h : Rel T L V S R C1 C2 Im K M z N C k y z1 z2) (p0 : Int32) : Nx cI cZ cN a b (if ¬ inI p0 0 15 = 0 then (pOne cI cZ cN a T Q Ld Vd L (laV V p0) (pastS S (nI ((k + 1) % 10)) (nI (min 10 (y + 1)))) (upR R k (cpN V (R k))) C1 C2 Rn Wd Im K tr) else (pOne cI cZ cN a T Q Ld Vd L V S R C1 C2 Rn Wd Im K tr)) (if ¬ inI p0 0 15 = 0 then (pMod cI cZ b (upA (upA (upA M 7 (upd (M 7) 22 p0)) 11 (noU (M 11) (M 7) y)) 0 (upd (upd (M 0) 0 (0 : Int32)) 8 (nI (noN y)))) tr) else (pMod cI cZ b (upA M 0 (upd (M 0) 0 (0 : Int32))) tr)) ((if ¬ inI p0 0 15 = 0 then V 3 1 else -1) = (if ¬ inI p0 0 15 = 0 then M 7 22 else -1)) := by
  have h0 := h
  obtain ⟨hT, hCt, hLd, hV, hP, h1, h2, hI⟩ := h
  have hN := hCt.2.1
  have hC4 := hCt.2.2.2.2.1
  have hC1 := hCt.2.2.2.2.2.1
  by_cases hc : ¬ inI p0 0 15 = 0
  · rw [if_pos hc, if_pos hc, if_pos hc, if_pos hc]
    obtain ⟨l, hl, rfl⟩ := inI_nat (n := 16) (by decide) hc
    exact Rel.nx (V := laV V (nI l)) (S := pastS S (nI ((k + 1) % 10)) (nI (min 10 (y + 1)))) (R := upR R k (cpN V (R k))) (M := upA (upA (upA M 7 (upd (M 7) 22 (nI l))) 11 (noU (M 11) (M 7) y)) 0 (upd (upd (M 0) 0 (0 : Int32)) 8 (nI (noN y)))) (k := (k + 1) % 10) (y := min 10 (y + 1)) ⟨hT, hCt, hLd, nw_la hN hl hV, hP.rem hN hV rfl rfl, h1, h2, hI⟩ rfl rfl hV.2.2.2.2.1
  · rw [if_neg hc, if_neg hc, if_neg hc, if_neg hc]
    exact Rel.nx (M := upA M 0 (upd (M 0) 0 (0 : Int32))) ⟨hT, hCt, hLd, hV, hP, h1, h2, hI⟩ rfl rfl rfl

set_option maxHeartbeats 1000000 in
theorem st_year (cI cZ cN : ClassId) (a b : Nat → Nat) {T Q Ld Vd L V S : NV} {R : Nat → NV} {C1 C2 Rn Wd : NV} {Im : Nat → NV} {K : NV} {tr : Int64} {M : NV} {z N C k y z1 z2 : Nat} (h : Rel T L V S R C1 C2 Im K M z N C k y z1 z2) : Nx cI cZ cN a b (if V 3 3 < 999 then (pOne cI cZ cN a T Q Ld Vd (pyL L V N) (pyV L V N) (pastS S (nI ((k + 1) % 10)) (nI (min 10 (y + 1)))) (upR R k (cpN V (R k))) C1 C2 Rn Wd Im K tr) else (pOne cI cZ cN a T Q Ld Vd L V S R C1 C2 Rn Wd Im K tr)) (if ¬ M 7 24 = 999 then (pMod cI cZ b (upA (upA (upA (upA M 7 (yrF (M 7) (M 16) N)) 11 (noU (M 11) (M 7) y)) 16 (bsF (M 7) (M 16) N N)) 0 (upd (upd (M 0) 0 (0 : Int32)) 8 (nI (noN y)))) tr) else (pMod cI cZ b (upA M 0 (upd (M 0) 0 (0 : Int32))) tr)) ((if V 3 3 < 999 then pdF (duV L V N) N else -2) = (if ¬ M 7 24 = 999 then ysM (M 7) (M 16) N N else -2)) := by
  have h0 := h
  obtain ⟨hT, hCt, hLd, hV, hP, h1, h2, hI⟩ := h
  have hN := hCt.2.1
  have hC4 := hCt.2.2.2.2.1
  have hC1 := hCt.2.2.2.2.2.1
  obtain ⟨yr, hyr, eyr⟩ := hV.2.2.2.2.2.2.2.2.2.2.2.2.2
  have eV : V 3 3 = nI yr := by rw [hV.2.2.2.2.2.2.1, eyr]
  have e1 : (V 3 3 < 999) ↔ yr < 999 := by rw [eV]; exact nI_ltI (a := yr) (b := 999) (by omega) (by decide)
  have e2 : (M 7 24 = 999) ↔ yr = 999 := by rw [eyr]; exact nI_eq (a := yr) (b := 999) (by omega) (by decide)
  by_cases hq : yr < 999
  · have q1 := e1.mpr hq
    have q2 : ¬ M 7 24 = 999 := fun q => by have := e2.mp q; omega
    rw [if_pos q1, if_pos q1, if_pos q2, if_pos q2]
    exact Rel.nx (L := pyL L V N) (V := pyV L V N) (S := pastS S (nI ((k + 1) % 10)) (nI (min 10 (y + 1)))) (R := upR R k (cpN V (R k))) (M := upA (upA (upA (upA M 7 (yrF (M 7) (M 16) N)) 11 (noU (M 11) (M 7) y)) 16 (bsF (M 7) (M 16) N N)) 0 (upd (upd (M 0) 0 (0 : Int32)) 8 (nI (noN y)))) (k := (k + 1) % 10) (y := min 10 (y + 1)) ⟨hT, hCt, hLd, nw_yr (M 16) hN q2 hV, hP.rem hN hV rfl rfl, h1, h2, hI⟩ rfl rfl (pd_ys (M 16) hN hV N (Nat.le_refl _))
  · have q1 : ¬ V 3 3 < 999 := fun q => hq (e1.mp q)
    have q2 : M 7 24 = 999 := e2.mpr (by omega)
    rw [if_neg q1, if_neg q1, if_neg (fun q => q q2), if_neg (fun q => q q2)]
    exact Rel.nx (M := upA M 0 (upd (M 0) 0 (0 : Int32))) ⟨hT, hCt, hLd, hV, hP, h1, h2, hI⟩ rfl rfl rfl

set_option maxHeartbeats 1000000 in
theorem st_undo (cI cZ cN : ClassId) (a b : Nat → Nat) {T Q Ld Vd L V S : NV} {R : Nat → NV} {C1 C2 Rn Wd : NV} {Im : Nat → NV} {K : NV} {tr : Int64} {M : NV} {z N C k y z1 z2 : Nat} (h : Rel T L V S R C1 C2 Im K M z N C k y z1 z2) : Nx cI cZ cN a b (if 0 < nI y then (pOne cI cZ cN a T Q Ld Vd L (cpN (R ((k + 9) % 10)) V) (pastS S (nI ((k + 9) % 10)) (nI (y - 1))) R C1 C2 Rn Wd Im K tr) else (pOne cI cZ cN a T Q Ld Vd L V S R C1 C2 Rn Wd Im K tr)) (if ¬ nI y = 0 then (pMod cI cZ b (upA (upA M 7 (cpR (M 7) (M 11) (25 * (y - 1)) 25)) 0 (upd (upd (M 0) 0 (0 : Int32)) 8 (nI (y - 1)))) tr) else (pMod cI cZ b (upA M 0 (upd (M 0) 0 (0 : Int32))) tr)) ((if 0 < nI y then nI (y - 1) else -2) = (if ¬ nI y = 0 then nI (y - 1) else -2)) := by
  have h0 := h
  obtain ⟨hT, hCt, hLd, hV, hP, h1, h2, hI⟩ := h
  have hN := hCt.2.1
  have hC4 := hCt.2.2.2.2.1
  have hC1 := hCt.2.2.2.2.2.1
  obtain ⟨p1, p2, p3, p4, p5, p6⟩ := hP
  by_cases hq : 0 < y
  · have q1 : (0 : Int32) < nI y := (nI_ltI (a := 0) (b := y) (by decide) (by omega)).mpr hq
    have q2 : ¬ nI y = 0 := nI_ne0 hq (by omega)
    rw [if_pos q1, if_pos q1, if_pos q2, if_pos q2]
    refine Rel.nx (V := cpN (R ((k + 9) % 10)) V) (S := pastS S (nI ((k + 9) % 10)) (nI (y - 1))) (M := upA (upA M 7 (cpR (M 7) (M 11) (25 * (y - 1)) 25)) 0 (upd (upd (M 0) 0 (0 : Int32)) 8 (nI (y - 1)))) (k := (k + 9) % 10) (y := y - 1) ⟨hT, hCt, hLd, ?_, ⟨rfl, by omega, rfl, by omega, rfl, fun e he => ?_⟩, h1, h2, hI⟩ rfl rfl rfl
    · have hh := p6 (y - 1) (by omega)
      rw [show (k + 10 - y + (y - 1)) % 10 = (k + 9) % 10 from by omega] at hh
      exact hh.cp hN (fun i hi => cpR_at _ _ _ 25 i hi)
    · have hh := p6 e (by omega)
      rw [show ((k + 9) % 10 + 10 - (y - 1) + e) % 10 = (k + 10 - y + e) % 10 from by omega]
      exact hh
  · have y0 : y = 0 := by omega
    have q1 : ¬ (0 : Int32) < nI y := by rw [y0]; decide
    have q2 : nI y = 0 := by rw [y0]; rfl
    rw [if_neg q1, if_neg q1, if_neg (fun q => q q2), if_neg (fun q => q q2)]
    exact Rel.nx (M := upA M 0 (upd (M 0) 0 (0 : Int32))) ⟨hT, hCt, hLd, hV, ⟨p1, p2, p3, p4, p5, p6⟩, h1, h2, hI⟩ rfl rfl rfl

set_option maxHeartbeats 1000000 in
theorem st_tells (cI cZ cN : ClassId) (a b : Nat → Nat) {T Q Ld Vd L V S : NV} {R : Nat → NV} {C1 C2 Rn Wd : NV} {Im : Nat → NV} {K : NV} {tr : Int64} {M : NV} {z N C k y z1 z2 : Nat} (h : Rel T L V S R C1 C2 Im K M z N C k y z1 z2) (p0 p1 : Int32) : Nx cI cZ cN a b (if ¬ inI p0 0 (nI N - 1) = 0 ∧ ¬ inI p1 0 1 = 0 then (pOne cI cZ cN a T Q Ld Vd L V S R (addS C1 p0 p1 z1) C2 Rn Wd Im K tr) else (pOne cI cZ cN a T Q Ld Vd L V S R C1 C2 Rn Wd Im K tr)) (if (¬ inI p0 0 (nI N - 1) = 0 ∧ ¬ inI p1 0 1 = 0) ∧ ¬ nI z1 = 6 then (pMod cI cZ b (upA (upA (upA M 12 (upd (M 12) z1 p0)) 13 (upd (M 13) z1 p1)) 0 (upd (upd (M 0) 0 (0 : Int32)) 9 (nI (z1 + 1)))) tr) else (pMod cI cZ b (upA M 0 (upd (M 0) 0 (0 : Int32))) tr)) ((if ¬ inI p0 0 (nI N - 1) = 0 ∧ ¬ inI p1 0 1 = 0 then addR z1 else -1) = (if ¬ inI p0 0 (nI N - 1) = 0 ∧ ¬ inI p1 0 1 = 0 then (if nI z1 = 6 then -3 else nI (z1 + 1)) else -1)) := by
  have h0 := h
  obtain ⟨hT, hCt, hLd, hV, hP, h1, h2, hI⟩ := h
  have hN := hCt.2.1
  have hC4 := hCt.2.2.2.2.1
  have hC1 := hCt.2.2.2.2.2.1
  by_cases hc : ¬ inI p0 0 (nI N - 1) = 0 ∧ ¬ inI p1 0 1 = 0
  · rw [if_pos hc, if_pos hc, if_pos hc]
    obtain ⟨j, hj, rfl⟩ := inI_nat (nI_m1 (show N < 1000 by omega)) hc.1
    obtain ⟨c1, c2, c3, c4⟩ := h1
    unfold addR addS
    by_cases hl : nI z1 < 6
    · have hl2 := (six_eq c2).mp hl
      have hz : z1 < 6 := (nI_ltI (a := z1) (b := 6) (by omega) (by decide)).mp hl
      rw [if_pos hl, if_pos hl, if_neg hl2, if_pos ⟨hc, hl2⟩]
      refine Rel.nx (C1 := upA (upA (upA C1 0 (upd (C1 0) z1 (nI j))) 1 (upd (C1 1) z1 p1)) 2 (upd (C1 2) 0 (nI (z1 + 1)))) (M := upA (upA (upA M 12 (upd (M 12) z1 (nI j))) 13 (upd (M 13) z1 p1)) 0 (upd (upd (M 0) 0 (0 : Int32)) 9 (nI (z1 + 1)))) (z1 := z1 + 1) ⟨hT, hCt, hLd, hV, hP, ?_, h2, hI⟩ rfl rfl rfl
      refine ⟨rfl, by omega, rfl, fun e he => ?_⟩
      show (∃ P, P < _ ∧ upd (M 12) z1 (nI j) e = nI P) ∧ upd (C1 0) z1 (nI j) e = upd (M 12) z1 (nI j) e ∧ upd (C1 1) z1 p1 e = upd (M 13) z1 p1 e ∧ (upd (M 13) z1 p1 e = 0 ∨ upd (M 13) z1 p1 e = 1)
      by_cases q : e = z1
      · subst q
        rw [pk_us, pk_us, pk_us, pk_us]
        exact ⟨⟨j, hj, rfl⟩, rfl, rfl, in_1 hc.2⟩
      · rw [pk_un q, pk_un q, pk_un q, pk_un q]
        exact c4 e (by omega)
    · have hl2 : nI z1 = 6 := by
        by_cases q : nI z1 = 6
        · exact q
        · exact absurd ((six_eq c2).mpr q) hl
      rw [if_neg hl, if_neg hl, if_pos hl2, if_neg (fun q => q.2 hl2)]
      exact Rel.nx (M := upA M 0 (upd (M 0) 0 (0 : Int32))) ⟨hT, hCt, hLd, hV, hP, ⟨c1, c2, c3, c4⟩, h2, hI⟩ rfl rfl rfl
  · rw [if_neg hc, if_neg hc, if_neg hc, if_neg (fun q => hc q.1)]
    exact Rel.nx (M := upA M 0 (upd (M 0) 0 (0 : Int32))) ⟨hT, hCt, hLd, hV, hP, h1, h2, hI⟩ rfl rfl rfl

set_option maxHeartbeats 1000000 in
theorem st_record (cI cZ cN : ClassId) (a b : Nat → Nat) {T Q Ld Vd L V S : NV} {R : Nat → NV} {C1 C2 Rn Wd : NV} {Im : Nat → NV} {K : NV} {tr : Int64} {M : NV} {z N C k y z1 z2 : Nat} (h : Rel T L V S R C1 C2 Im K M z N C k y z1 z2) (p0 p1 : Int32) : Nx cI cZ cN a b (if ¬ inI p0 0 4 = 0 ∧ ¬ inI p1 0 1 = 0 then (pOne cI cZ cN a T Q Ld Vd L V S R C1 (addS C2 p0 p1 z2) Rn Wd Im K tr) else (pOne cI cZ cN a T Q Ld Vd L V S R C1 C2 Rn Wd Im K tr)) (if (¬ inI p0 0 4 = 0 ∧ ¬ inI p1 0 1 = 0) ∧ ¬ nI z2 = 6 then (pMod cI cZ b (upA (upA (upA M 14 (upd (M 14) z2 p0)) 15 (upd (M 15) z2 p1)) 0 (upd (upd (M 0) 0 (0 : Int32)) 10 (nI (z2 + 1)))) tr) else (pMod cI cZ b (upA M 0 (upd (M 0) 0 (0 : Int32))) tr)) ((if ¬ inI p0 0 4 = 0 ∧ ¬ inI p1 0 1 = 0 then addR z2 else -1) = (if ¬ inI p0 0 4 = 0 ∧ ¬ inI p1 0 1 = 0 then (if nI z2 = 6 then -3 else nI (z2 + 1)) else -1)) := by
  have h0 := h
  obtain ⟨hT, hCt, hLd, hV, hP, h1, h2, hI⟩ := h
  have hN := hCt.2.1
  have hC4 := hCt.2.2.2.2.1
  have hC1 := hCt.2.2.2.2.2.1
  by_cases hc : ¬ inI p0 0 4 = 0 ∧ ¬ inI p1 0 1 = 0
  · rw [if_pos hc, if_pos hc, if_pos hc]
    obtain ⟨j, hj, rfl⟩ := inI_nat (n := 5) (by decide) hc.1
    obtain ⟨c1, c2, c3, c4⟩ := h2
    unfold addR addS
    by_cases hl : nI z2 < 6
    · have hl2 := (six_eq c2).mp hl
      have hz : z2 < 6 := (nI_ltI (a := z2) (b := 6) (by omega) (by decide)).mp hl
      rw [if_pos hl, if_pos hl, if_neg hl2, if_pos ⟨hc, hl2⟩]
      refine Rel.nx (C2 := upA (upA (upA C2 0 (upd (C2 0) z2 (nI j))) 1 (upd (C2 1) z2 p1)) 2 (upd (C2 2) 0 (nI (z2 + 1)))) (M := upA (upA (upA M 14 (upd (M 14) z2 (nI j))) 15 (upd (M 15) z2 p1)) 0 (upd (upd (M 0) 0 (0 : Int32)) 10 (nI (z2 + 1)))) (z2 := z2 + 1) ⟨hT, hCt, hLd, hV, hP, h1, ?_, hI⟩ rfl rfl rfl
      refine ⟨rfl, by omega, rfl, fun e he => ?_⟩
      show (∃ P, P < _ ∧ upd (M 14) z2 (nI j) e = nI P) ∧ upd (C2 0) z2 (nI j) e = upd (M 14) z2 (nI j) e ∧ upd (C2 1) z2 p1 e = upd (M 15) z2 p1 e ∧ (upd (M 15) z2 p1 e = 0 ∨ upd (M 15) z2 p1 e = 1)
      by_cases q : e = z2
      · subst q
        rw [pk_us, pk_us, pk_us, pk_us]
        exact ⟨⟨j, hj, rfl⟩, rfl, rfl, in_1 hc.2⟩
      · rw [pk_un q, pk_un q, pk_un q, pk_un q]
        exact c4 e (by omega)
    · have hl2 : nI z2 = 6 := by
        by_cases q : nI z2 = 6
        · exact q
        · exact absurd ((six_eq c2).mpr q) hl
      rw [if_neg hl, if_neg hl, if_pos hl2, if_neg (fun q => q.2 hl2)]
      exact Rel.nx (M := upA M 0 (upd (M 0) 0 (0 : Int32))) ⟨hT, hCt, hLd, hV, hP, h1, ⟨c1, c2, c3, c4⟩, hI⟩ rfl rfl rfl
  · rw [if_neg hc, if_neg hc, if_neg hc, if_neg (fun q => hc q.1)]
    exact Rel.nx (M := upA M 0 (upd (M 0) 0 (0 : Int32))) ⟨hT, hCt, hLd, hV, hP, h1, h2, hI⟩ rfl rfl rfl

set_option maxHeartbeats 1000000 in
theorem st_forget (cI cZ cN : ClassId) (a b : Nat → Nat) {T Q Ld Vd L V S : NV} {R : Nat → NV} {C1 C2 Rn Wd : NV} {Im : Nat → NV} {K : NV} {tr : Int64} {M : NV} {z N C k y z1 z2 : Nat} (h : Rel T L V S R C1 C2 Im K M z N C k y z1 z2) : Nx cI cZ cN a b ((pOne cI cZ cN a T Q Ld Vd L V S R (zeC C1) (zeC C2) Rn Wd Im K tr)) ((pMod cI cZ b (upA M 0 (upd (upd (upd (M 0) 0 (0 : Int32)) 9 (0 : Int32)) 10 (0 : Int32))) tr)) (nI (z1 + z2) = nI (z1 + z2)) := by
  have h0 := h
  obtain ⟨hT, hCt, hLd, hV, hP, h1, h2, hI⟩ := h
  have hN := hCt.2.1
  have hC4 := hCt.2.2.2.2.1
  have hC1 := hCt.2.2.2.2.2.1
  exact Rel.nx (C1 := zeC C1) (C2 := zeC C2) (M := upA M 0 (upd (upd (upd (M 0) 0 (0 : Int32)) 9 (0 : Int32)) 10 (0 : Int32))) (z1 := 0) (z2 := 0) ⟨hT, hCt, hLd, hV, hP, ⟨rfl, by omega, rfl, fun e he => absurd he (Nat.not_lt_zero e)⟩, ⟨rfl, by omega, rfl, fun e he => absurd he (Nat.not_lt_zero e)⟩, hI⟩ rfl rfl rfl

set_option maxHeartbeats 1000000 in
theorem st_cheapest (cI cZ cN : ClassId) (a b : Nat → Nat) {T Q Ld Vd L V S : NV} {R : Nat → NV} {C1 C2 Rn Wd : NV} {Im : Nat → NV} {K : NV} {tr : Int64} {M : NV} {z N C k y z1 z2 : Nat} (h : Rel T L V S R C1 C2 Im K M z N C k y z1 z2) (p0 : Int32) : Nx cI cZ cN a b ((pOne cI cZ cN a T Q Ld Vd L V S R C1 C2 Rn Wd Im K tr)) (if ¬ inI p0 0 (nI N - 1) = 0 then (pMod cI cZ b (upA (upA M 8 ((coM (M 7) (M 8) N p0.toNatClampNeg (C - 1)).2)) 0 (upd (M 0) 0 (0 : Int32))) tr) else (pMod cI cZ b (upA M 0 (upd (M 0) 0 (0 : Int32))) tr)) (opP N p0 (fun P => chp (txI (V 0) (V 1) N (V 3 1) P) (C - 1)) = opP N p0 (fun P => (coM (M 7) (M 8) N P (C - 1)).1)) := by
  have h0 := h
  obtain ⟨hT, hCt, hLd, hV, hP, h1, h2, hI⟩ := h
  have hN := hCt.2.1
  have hC4 := hCt.2.2.2.2.1
  have hC1 := hCt.2.2.2.2.2.1
  have he : opP N p0 (fun P => chp (txI (V 0) (V 1) N (V 3 1) P) (C - 1)) = opP N p0 (fun P => (coM (M 7) (M 8) N P (C - 1)).1) := opP_cong hN (fun P hP => (ch_eq hN hV hP (M 8) (C - 1)).symm)
  by_cases hc : ¬ inI p0 0 (nI N - 1) = 0
  · rw [if_pos hc]
    exact Rel.nx (M := upA (upA M 8 ((coM (M 7) (M 8) N p0.toNatClampNeg (C - 1)).2)) 0 (upd (M 0) 0 (0 : Int32))) ⟨hT, hCt, hLd, hV, hP, h1, h2, hI⟩ rfl rfl he
  · rw [if_neg hc]
    exact Rel.nx (M := upA M 0 (upd (M 0) 0 (0 : Int32))) ⟨hT, hCt, hLd, hV, hP, h1, h2, hI⟩ rfl rfl he

set_option maxHeartbeats 1000000 in
theorem st_apart (cI cZ cN : ClassId) (a b : Nat → Nat) {T Q Ld Vd L V S : NV} {R : Nat → NV} {C1 C2 Rn Wd : NV} {Im : Nat → NV} {K : NV} {tr : Int64} {M : NV} {z N C k y z1 z2 : Nat} (h : Rel T L V S R C1 C2 Im K M z N C k y z1 z2) (p0 : Int32) : Nx cI cZ cN a b ((pOne cI cZ cN a T Q Ld Vd L V S R C1 C2 (apW N C V L Rn p0) Wd Im K tr)) (if p0 = -1 ∨ ¬ inI p0 0 (nI N - 1) = 0 then (pMod cI cZ b (upA (upA (upA M 8 ((apF (M 7) (M 8) (M 16) (M 6) C N (C ^ N)).2.2)) 16 ((apF (M 7) (M 8) (M 16) (M 6) C N (C ^ N)).2.1)) 0 (upd (M 0) 0 (0 : Int32))) tr) else (pMod cI cZ b (upA M 0 (upd (M 0) 0 (0 : Int32))) tr)) (apR N C V L Rn p0 = (if p0 = -1 ∨ ¬ inI p0 0 (nI N - 1) = 0 then apX (M 7) (M 8) (M 16) (M 6) C N p0 else -1)) := by
  have h0 := h
  obtain ⟨hT, hCt, hLd, hV, hP, h1, h2, hI⟩ := h
  have hN := hCt.2.1
  have hC4 := hCt.2.2.2.2.1
  have hC1 := hCt.2.2.2.2.2.1
  have he := apart_eq (Rn := Rn) (w := M 8) (b := M 16) hN hC4 hC1 hV.1 hLd.2.1 p0
  by_cases hc : p0 = -1 ∨ ¬ inI p0 0 (nI N - 1) = 0
  · rw [if_pos hc] at he ⊢
    rw [if_pos hc]
    exact Rel.nx (M := upA (upA (upA M 8 ((apF (M 7) (M 8) (M 16) (M 6) C N (C ^ N)).2.2)) 16 ((apF (M 7) (M 8) (M 16) (M 6) C N (C ^ N)).2.1)) 0 (upd (M 0) 0 (0 : Int32))) ⟨hT, hCt, hLd, hV, hP, h1, h2, hI⟩ rfl rfl he
  · rw [if_neg hc] at he ⊢
    rw [if_neg hc]
    exact Rel.nx (M := upA M 0 (upd (M 0) 0 (0 : Int32))) ⟨hT, hCt, hLd, hV, hP, h1, h2, hI⟩ rfl rfl he

set_option maxHeartbeats 1000000 in
theorem st_married (cI cZ cN : ClassId) (a b : Nat → Nat) {T Q Ld Vd L V S : NV} {R : Nat → NV} {C1 C2 Rn Wd : NV} {Im : Nat → NV} {K : NV} {tr : Int64} {M : NV} {z N C k y z1 z2 : Nat} (h : Rel T L V S R C1 C2 Im K M z N C k y z1 z2) (p0 : Int32) : Nx cI cZ cN a b ((pOne cI cZ cN a T Q Ld Vd L V S R C1 C2 Rn (maW N V L Wd p0) Im K tr)) (if p0 = -1 ∨ ¬ inI p0 0 (nI N - 1) = 0 then (pMod cI cZ b (upA (upA (upA M 16 ((maF (M 7) (M 6) (prS (M 7) (M 6) (M 17) N (2 ^ N - 1)) N (2 ^ N - 1) (M 16) N).2)) 17 (prS (M 7) (M 6) (M 17) N (2 ^ N - 1))) 0 (upd (M 0) 0 (0 : Int32))) tr) else (pMod cI cZ b (upA M 0 (upd (M 0) 0 (0 : Int32))) tr)) (maR N V L Wd p0 = (if p0 = -1 ∨ ¬ inI p0 0 (nI N - 1) = 0 then (if p0 = -1 then (prS (M 7) (M 6) (M 17) N (2 ^ N - 1)) (2 ^ N - 1) else (maF (M 7) (M 6) (prS (M 7) (M 6) (M 17) N (2 ^ N - 1)) N (2 ^ N - 1) (M 16) N).2 p0.toNatClampNeg) else -1)) := by
  have h0 := h
  obtain ⟨hT, hCt, hLd, hV, hP, h1, h2, hI⟩ := h
  have hN := hCt.2.1
  have hC4 := hCt.2.2.2.2.1
  have hC1 := hCt.2.2.2.2.2.1
  have he := married_eq (Wd := Wd) (b := M 16) (tw := M 17) hN hV.1 hLd.2.1 p0
  by_cases hc : p0 = -1 ∨ ¬ inI p0 0 (nI N - 1) = 0
  · rw [if_pos hc] at he ⊢
    rw [if_pos hc]
    exact Rel.nx (M := upA (upA (upA M 16 ((maF (M 7) (M 6) (prS (M 7) (M 6) (M 17) N (2 ^ N - 1)) N (2 ^ N - 1) (M 16) N).2)) 17 (prS (M 7) (M 6) (M 17) N (2 ^ N - 1))) 0 (upd (M 0) 0 (0 : Int32))) ⟨hT, hCt, hLd, hV, hP, h1, h2, hI⟩ rfl rfl he
  · rw [if_neg hc] at he ⊢
    rw [if_neg hc]
    exact Rel.nx (M := upA M 0 (upd (M 0) 0 (0 : Int32))) ⟨hT, hCt, hLd, hV, hP, h1, h2, hI⟩ rfl rfl he

set_option maxHeartbeats 1000000 in
theorem st_who (cI cZ cN : ClassId) (a b : Nat → Nat) {T Q Ld Vd L V S : NV} {R : Nat → NV} {C1 C2 Rn Wd : NV} {Im : Nat → NV} {K : NV} {tr : Int64} {M : NV} {z N C k y z1 z2 : Nat} (h : Rel T L V S R C1 C2 Im K M z N C k y z1 z2) : Nx cI cZ cN a b ((pOne cI cZ cN a T Q Ld Vd L V S R C1 C2 Rn Wd Im K tr)) ((pMod cI cZ b (upA (upA M 8 (whW (cpA (M 8) (M 7) 25) N)) 0 (upd (M 0) 0 (0 : Int32))) tr)) (whO N C V C1 z1 N = (whM (cpA (M 8) (M 7) 25) (M 12) (M 13) N z1 N)) := by
  have h0 := h
  obtain ⟨hT, hCt, hLd, hV, hP, h1, h2, hI⟩ := h
  have hN := hCt.2.1
  have hC4 := hCt.2.2.2.2.1
  have hC1 := hCt.2.2.2.2.2.1
  exact Rel.nx (M := upA (upA M 8 (whW (cpA (M 8) (M 7) 25) N)) 0 (upd (M 0) 0 (0 : Int32))) ⟨hT, hCt, hLd, hV, hP, h1, h2, hI⟩ rfl rfl (who_eq hN hC4 hV h1.2.2.2 N)

set_option maxHeartbeats 1000000 in
theorem st_which (cI cZ cN : ClassId) (a b : Nat → Nat) {T Q Ld Vd L V S : NV} {R : Nat → NV} {C1 C2 Rn Wd : NV} {Im : Nat → NV} {K : NV} {tr : Int64} {M : NV} {z N C k y z1 z2 : Nat} (h : Rel T L V S R C1 C2 Im K M z N C k y z1 z2) (wh : Int32) : Nx cI cZ cN a b ((pOne cI cZ cN a T Q Ld Vd L V S R C1 C2 Rn Wd Im K tr)) (if ¬ inI wh 0 2 = 0 then (pMod cI cZ b (upA (upA M 8 (wqW (cpA (M 8) (M 7) 25) 16)) 0 (upd (M 0) 0 (0 : Int32))) tr) else (pMod cI cZ b (upA M 0 (upd (M 0) 0 (0 : Int32))) tr)) (whR (asI N C z1 z2 L V C1 C2) wh = wqR (ftM (cpA (M 8) (M 7) 25) (M 12) (M 13) N z1) (grM (cpA (M 8) (M 7) 25) (M 5) (M 14) (M 15) N C z2) wh) := by
  have h0 := h
  obtain ⟨hT, hCt, hLd, hV, hP, h1, h2, hI⟩ := h
  have hN := hCt.2.1
  have hC4 := hCt.2.2.2.2.1
  have hC1 := hCt.2.2.2.2.2.1
  have he := which_eq (w := M 8) (what := wh) hN hC4 hV (fun i hi => (hLd.1 i hi).symm) h1.2.2.2 h2.2.2.2
  by_cases hc : ¬ inI wh 0 2 = 0
  · rw [if_pos hc]
    exact Rel.nx (M := upA (upA M 8 (wqW (cpA (M 8) (M 7) 25) 16)) 0 (upd (M 0) 0 (0 : Int32))) ⟨hT, hCt, hLd, hV, hP, h1, h2, hI⟩ rfl rfl he
  · rw [if_neg hc]
    exact Rel.nx (M := upA M 0 (upd (M 0) 0 (0 : Int32))) ⟨hT, hCt, hLd, hV, hP, h1, h2, hI⟩ rfl rfl he

set_option maxHeartbeats 1000000 in
theorem st_odds (cI cZ cN : ClassId) (a b : Nat → Nat) {T Q Ld Vd L V S : NV} {R : Nat → NV} {C1 C2 Rn Wd : NV} {Im : Nat → NV} {K : NV} {tr : Int64} {M : NV} {z N C k y z1 z2 : Nat} (h : Rel T L V S R C1 C2 Im K M z N C k y z1 z2) (p0 p1 p2 p3 : Int32) : Nx cI cZ cN a b ((pOne cI cZ cN a T Q Ld Vd L V S R C1 C2 Rn Wd Im K tr)) ((pMod cI cZ b (upA M 0 (upd (M 0) 0 (0 : Int32))) tr)) (odR N C V p0 p1 p2 p3 = odMr (M 7) N C p0 p1 p2 p3) := by
  have h0 := h
  obtain ⟨hT, hCt, hLd, hV, hP, h1, h2, hI⟩ := h
  have hN := hCt.2.1
  have hC4 := hCt.2.2.2.2.1
  have hC1 := hCt.2.2.2.2.2.1
  exact Rel.nx (M := upA M 0 (upd (M 0) 0 (0 : Int32))) ⟨hT, hCt, hLd, hV, hP, h1, h2, hI⟩ rfl rfl (odds_eq hN hC4 hC1 hV p0 p1 p2 p3)

set_option maxHeartbeats 1000000 in
theorem st_count (cI cZ cN : ClassId) (a b : Nat → Nat) {T Q Ld Vd L V S : NV} {R : Nat → NV} {C1 C2 Rn Wd : NV} {Im : Nat → NV} {K : NV} {tr : Int64} {M : NV} {z N C k y z1 z2 : Nat} (h : Rel T L V S R C1 C2 Im K M z N C k y z1 z2) (wh : Int32) : Nx cI cZ cN a b ((pOne cI cZ cN a T Q Ld Vd L V S R C1 C2 Rn Wd Im K tr)) ((pMod cI cZ b (upA M 0 (upd (M 0) 0 (0 : Int32))) tr)) (coR N C z z1 z2 wh = coMr N C z z1 z2 wh) := by
  have h0 := h
  obtain ⟨hT, hCt, hLd, hV, hP, h1, h2, hI⟩ := h
  have hN := hCt.2.1
  have hC4 := hCt.2.2.2.2.1
  have hC1 := hCt.2.2.2.2.2.1
  exact Rel.nx (M := upA M 0 (upd (M 0) 0 (0 : Int32))) ⟨hT, hCt, hLd, hV, hP, h1, h2, hI⟩ rfl rfl (cnt_eq wh)
