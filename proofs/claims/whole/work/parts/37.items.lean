/-! the pure layer: the items of the text -/
theorem m1_lt {x : Int32} (h : x = -1) : x < 0 := by rw [h]; decide
theorem tk_ok {z : Nat} {M : NV} {is : Int32} (h : M 0 6 = -1) (hi : ¬ is = 0) : tkS z M is = adM z M ∧ tkI M is = M 0 5 := by
  unfold tkS tkI
  rw [if_pos (m1_lt h), if_neg hi, if_pos (m1_lt h), if_neg hi]; exact ⟨rfl, rfl⟩
theorem tk_no {z : Nat} {M : NV} (h : M 0 6 = -1) : tkS z M 0 = upA M 0 (upd (M 0) 6 (M 0 4)) := by
  unfold tkS
  rw [if_pos (m1_lt h), if_pos rfl]
theorem tk_un {z : Nat} {M : NV} {is : Int32} (h : ¬ M 0 6 < 0) : tkS z M is = M ∧ tkI M is = 0 := by
  unfold tkS tkI
  rw [if_neg h, if_neg h]; exact ⟨rfl, rfl⟩
section RD
variable {A : NV} {T : NV} {z n C : Nat} {σ : PS} {M : NV}
theorem RR.next (hz : z ≤ 200) (hX : ltO (T 0) z) (h : RR A (T 0) z n C σ M) : RR A (T 0) z n C (nT T z σ) (adM z M) := ⟨rQ_next hz hX h.1.1, h.2.1, fMo_ad h.2.2⟩
theorem RR.fail (hz : z ≤ 200) (h : RR A (T 0) z n C σ M) : FL A σ (tkS z M 0) := by
  obtain ⟨⟨⟨-, -, -, -, h6, -⟩, ⟨s, hs, e1, e2⟩, -⟩, -, hf⟩ := h
  rw [tk_no h6]
  refine ⟨⟨s, by omega, e1, e2⟩, ?_, fMo_06 hf⟩
  · show ¬ M 0 4 < 0
    rw [e2]
    exact Int32.not_lt.mpr (nI_nn (by omega))
theorem num_step (hz : z ≤ 200) (hX : ltO (T 0) z) (h : RR A (T 0) z n C σ M) (lo hi : Int32) :
    (rnR σ.2.1 lo hi = 0 ∧ FL A σ (nmS z M lo hi)) ∨ (¬ rnR σ.2.1 lo hi = 0 ∧ RR A (T 0) z n C (nT T z σ) (nmS z M lo hi) ∧ nmI M lo hi = σ.2.1 0 3 ∧ ¬ inI (σ.2.1 0 3) lo hi = 0) := by
  have e := num_eq h.1.2.2 lo hi
  by_cases h0 : rnR σ.2.1 lo hi = 0
  · left
    refine ⟨h0, ?_⟩
    unfold nmS
    rw [← e, h0]
    exact h.fail hz
  · right
    have h1 : ¬ nuB M lo hi = 0 := by rw [← e]; exact h0
    obtain ⟨t1, t2⟩ := tk_ok (z := z) h.1.1.2.2.2.2.1 h1
    unfold nmS nmI
    rw [t1, t2]
    refine ⟨h0, h.next hz hX, ?_, (rnR_1 h0).2⟩
    rcases h.1.2.2 with ⟨a, b⟩ | ⟨a, b, c⟩ | ⟨a, b⟩ | ⟨a, b, -⟩ | ⟨⟨-, a, -⟩, b⟩
    · exact absurd (rnR_1 h0).1 (by rw [a]; decide)
    · exact c.symm
    · exact absurd (rnR_1 h0).1 (by rw [a]; decide)
    · exact absurd (rnR_1 h0).1 (by rcases a with a | a | a | a <;> rw [a] <;> decide)
    · exact absurd (rnR_1 h0).1 a
theorem FL.un (h : FL A σ M) : ∀ is, tkS z M is = M ∧ tkI M is = 0 := fun _ => tk_un h.2.1
end RD
/-- n -/
theorem it_n {A T : NV} {z C : Nat} {σ : PS} {M : NV} (hz : z ≤ 200) (hX : ltO (T 0) z) (h : RR A (T 0) z 0 C (nT T z σ) M) :
    ((rdNm T z σ).1 = 0 ∧ FL A (rdNm T z σ).2 (riA z M)) ∨ (¬ (rdNm T z σ).1 = 0 ∧ ∃ n C, RR A (T 0) z n C (nT T z (rdNm T z σ).2) (riA z M)) := by
  unfold rdNm riA
  rcases num_step hz hX h 1 4 with ⟨h0, hf⟩ | ⟨h0, hr, hv, hi⟩
  · left
    rw [if_pos h0]
    exact ⟨rfl, hf.1, hf.2.1, fMo_2 hf.2.2 (by omega)⟩
  · right
    rw [if_neg h0]
    refine ⟨(by decide : ¬ (1 : Int32) = 0), ?_⟩
    obtain ⟨b1, b2⟩ := inI_1 hi
    obtain ⟨j, hj, ej⟩ := nI_of2 (x := (nT T z σ).2.1 0 3) (M := 4) (n := 4) (by decide) (by intro q; exact absurd (Int32.lt_of_lt_of_le (show (0 : Int32) < 1 by decide) b1) (Int32.not_lt.mpr (Int32.le_of_lt q))) b2
    have hj1 : 1 ≤ j := by rw [ej] at b1; exact (nI_leI (a := 1) (b := j) (by decide) (by omega)).mp b1
    obtain ⟨q1, ⟨⟨-, -, -, -⟩, d2, d3, -, -, d6, -, -, -⟩, q3⟩ := hr
    have no : ∀ {i : Nat}, ¬ i < 0 := fun {i} => Nat.not_lt_zero i
    refine ⟨0, j, q1, ⟨⟨ej, by rw [hv]; exact ej, hj1, hj⟩, d2, d3, fun i hi => absurd hi no, fun i hi => absurd hi no, d6, fun p q hp => absurd hp no, fun p hp => absurd hp no, fun p hp => absurd hp no⟩, fMo_2 q3 (by omega)⟩
/-- l -/
theorem nt_4 (X : Nat → Int32) (z : Nat) (Q : NV) (s : Nat) : ntQ1 X z (upA Q 0 (upd (Q 0) 4 1)) s 0 1 = ntQ1 X z Q s 0 1 ∧ ntQ1 X z (upA Q 0 (upd (Q 0) 4 1)) s 0 2 = ntQ1 X z Q s 0 2 ∧ ntQ1 X z (upA Q 0 (upd (Q 0) 4 1)) s 0 3 = ntQ1 X z Q s 0 3 ∧ ntQ1 X z (upA Q 0 (upd (Q 0) 4 1)) s 0 4 = 1 := by
  unfold ntQ1
  split
  · split
    · exact ⟨rfl, rfl, rfl, rfl⟩
    · exact ⟨rfl, rfl, rfl, rfl⟩
  · exact ⟨rfl, rfl, rfl, rfl⟩
theorem it_l {A T : NV} {z n C : Nat} {σ : PS} {M : NV} (hz : z ≤ 200) (hX : ltO (T 0) z) (h : RR A (T 0) z n C (nT T z σ) M) :
    ((rdLw T z σ).1 = 0 ∧ FL A (rdLw T z σ).2 (riL z M)) ∨ (¬ (rdLw T z σ).1 = 0 ∧ ∃ n C, RR A (T 0) z n C (nT T z (rdLw T z σ).2) (riL z M)) := by
  unfold rdLw riL
  rcases num_step hz hX h 0 15 with ⟨h0, hf⟩ | ⟨h0, hr, hv, hi⟩
  · left
    rw [if_pos h0]
    have f2 := fMo_2 (k := 5) (x := nmI M 0 15) hf.2.2 (by omega)
    exact ⟨rfl, hf.1, hf.2.1, fMo_07 f2⟩
  · right
    rw [if_neg h0]
    refine ⟨(by decide : ¬ (1 : Int32) = 0), n, C, ?_⟩
    obtain ⟨l, hl, el⟩ := inI_nat (n := 16) (by decide) hi
    obtain ⟨⟨⟨a1, a2, a3, a4, a5, a6⟩, ⟨s, s1, s2, s3⟩, a8⟩, ⟨d1, d2, ⟨-, -, d3⟩, d4, d5, d6, d7, d8, d9⟩, q3⟩ := hr
    obtain ⟨S, hS⟩ : ∃ S, S = skB (T 0) z (z - (nT T z σ).1) (nT T z σ).1 := ⟨_, rfl⟩
    obtain ⟨n1, n2, n3, n4⟩ := nt_4 (T 0) z (nT T z σ).2.1 S
    refine ⟨⟨⟨a1, a2, a3, a4, a5, ?_⟩, ⟨s, s1, ?_, s3⟩, ?_⟩, ⟨d1, d2, ⟨?_, ⟨l, hl, el⟩, d3⟩, d4, d5, d6, d7, d8, d9⟩, fMo_07 (fMo_2 q3 (by omega))⟩
    · show (1 : Int32) = ntQ1 (T 0) z (upA (nT T z σ).2.1 0 (upd ((nT T z σ).2.1 0) 4 1)) (skB (T 0) z (z - (nT T z σ).1) (nT T z σ).1) 0 4
      rw [← hS, n4]
    · show ntQ1 (T 0) z (upA (nT T z σ).2.1 0 (upd ((nT T z σ).2.1 0) 4 1)) (skB (T 0) z (z - (nT T z σ).1) (nT T z σ).1) 0 1 = _
      rw [← hS, n1, hS]; exact s2
    · show tkR (ntQ1 (T 0) z (upA (nT T z σ).2.1 0 (upd ((nT T z σ).2.1 0) 4 1)) (skB (T 0) z (z - (nT T z σ).1) (nT T z σ).1) 0 2) (ntQ1 (T 0) z (upA (nT T z σ).2.1 0 (upd ((nT T z σ).2.1 0) 4 1)) (skB (T 0) z (z - (nT T z σ).1) (nT T z σ).1) 0 3) _ _
      rw [← hS, n2, n3, hS]; exact a8
    · show nmI M 0 15 = (nT T z σ).2.1 0 3
      exact hv
/-- p -/
theorem it_p {A T : NV} {z n C : Nat} {σ : PS} {M : NV} (hz : z ≤ 200) (hX : ltO (T 0) z) (hn : n < 7) (h : RR A (T 0) z n C (nT T z σ) M) :
    ((rdPs T z σ).1 = 0 ∧ FL A (rdPs T z σ).2 (riP3 z (riP2 z (riP1 z M n) n) n)) ∨ (¬ (rdPs T z σ).1 = 0 ∧ ∃ n' C, RR A (T 0) z n' C (nT T z (rdPs T z σ).2) (riP3 z (riP2 z (riP1 z M n) n) n)) := by
  have hL0 : σ.2.2.1 3 0 = nI C := h.2.1.1.1
  have hL1 : σ.2.2.1 3 1 = nI n := h.2.1.2.1.1
  have hM3 : M 2 3 = nI C := h.2.1.1.2.1
  have hC := h.2.1.1.2.2
  have hpp : ppl σ.2.2.1 = n := ppl_of hL1 (by omega)
  unfold rdPs
  rw [hL0, hpp]
  obtain ⟨X1, hX1⟩ : ∃ X1, X1 = riP1 z M n := ⟨_, rfl⟩
  obtain ⟨X2, hX2⟩ : ∃ X2, X2 = riP2 z X1 n := ⟨_, rfl⟩
  rw [← hX1, ← hX2]
  rcases num_step hz hX h 0 (nI C - 1) with ⟨h0, hf⟩ | ⟨h0, hr, hv, hi⟩
  · left
    rw [if_pos h0]
    refine ⟨rfl, ?_⟩
    have g1 : FL A (nT T z σ) X1 := by
      rw [hX1, riP1, hM3]
      exact ⟨hf.1, hf.2.1, fMo_up hf.2.2 (Or.inl rfl)⟩
    have g2 : FL A (nT T z σ) X2 := by
      rw [hX2, riP2, nmS, nmI, (g1.un _).1, (g1.un (z := z) _).2]
      exact ⟨g1.1, g1.2.1, fMo_up g1.2.2 (Or.inr rfl)⟩
    rw [riP3, nmS, nmI, (g2.un _).1, (g2.un (z := z) _).2]
    exact ⟨g2.1, g2.2.1, fMo_5 (fMo_2 g2.2.2 (by omega))⟩
  · rw [if_neg h0]
    have r1 : RR A (T 0) z n C (nT T z (nT T z σ)) X1 ∧ X1 3 n = (nT T z σ).2.1 0 3 := by
      rw [hX1, riP1, hM3, hv]
      obtain ⟨q1, ⟨d1, d2, d3, d4, d5, d6, d7, d8, d9⟩, q3⟩ := hr
      refine ⟨⟨q1, ⟨d1, d2, d3, fun i hi => ⟨?_, (d4 i hi).2⟩, d5, d6, d7, d8, d9⟩, fMo_up q3 (Or.inl rfl)⟩, ?_⟩
      · show upd _ n _ i = _; rw [pk_un (by omega)]; exact (d4 i hi).1
      · show upd _ n _ n = _; exact pk_us
    rcases num_step hz hX r1.1 0 99 with ⟨k0, kf⟩ | ⟨k0, kr, kv, ki⟩
    · left
      rw [if_pos k0]
      refine ⟨rfl, ?_⟩
      have g2 : FL A (nT T z (nT T z σ)) X2 := by
        rw [hX2, riP2]
        exact ⟨kf.1, kf.2.1, fMo_up kf.2.2 (Or.inr rfl)⟩
      rw [riP3, nmS, nmI, (g2.un _).1, (g2.un (z := z) _).2]
      exact ⟨g2.1, g2.2.1, fMo_5 (fMo_2 g2.2.2 (by omega))⟩
    · rw [if_neg k0]
      have r2 : RR A (T 0) z n C (nT T z (nT T z (nT T z σ))) X2 ∧ X2 3 n = (nT T z σ).2.1 0 3 ∧ X2 4 n = (nT T z (nT T z σ)).2.1 0 3 := by
        rw [hX2, riP2, kv]
        obtain ⟨q1, ⟨d1, d2, d3, d4, d5, d6, d7, d8, d9⟩, q3⟩ := kr
        refine ⟨⟨q1, ⟨d1, d2, d3, fun i hi => ⟨(d4 i hi).1, ?_, (d4 i hi).2.2⟩, d5, d6, d7, d8, d9⟩, fMo_up q3 (Or.inr rfl)⟩, ?_, ?_⟩
        · show upd _ n _ i = _; rw [pk_un (by omega)]; exact (d4 i hi).2.1
        · show nmS z X1 0 99 3 n = _
          unfold nmS
          rw [tkS_row _ _ _ (by decide)]; exact r1.2
        · show upd _ n _ n = _; exact pk_us
      rcases num_step hz hX r2.1 0 31 with ⟨m0, mf⟩ | ⟨m0, mr, mv, mi⟩
      · left
        rw [if_pos m0]
        refine ⟨rfl, ?_⟩
        rw [riP3]
        exact ⟨mf.1, mf.2.1, fMo_5 (fMo_2 mf.2.2 (by omega))⟩
      · right
        rw [if_neg m0]
        refine ⟨(by decide : ¬ (1 : Int32) = 0), n + 1, C, ?_⟩
        obtain ⟨c, hc, ec⟩ := inI_nat (nI_m1 (show C < 1000 by omega)) hi
        obtain ⟨w, hw, ew⟩ := inI_nat (n := 100) (by decide) ki
        obtain ⟨q1, ⟨d1, d2, d3, d4, d5, d6, d7, d8, d9⟩, q3⟩ := mr
        have z3 : nmS z X2 0 31 3 n = (nT T z σ).2.1 0 3 := by unfold nmS; rw [tkS_row _ _ _ (by decide)]; exact r2.2.1
        have z4 : nmS z X2 0 31 4 n = (nT T z (nT T z σ)).2.1 0 3 := by unfold nmS; rw [tkS_row _ _ _ (by decide)]; exact r2.2.2
        rw [riP3, mv]
        refine ⟨q1, ⟨d1, ⟨rfl, ?_, by omega⟩, d3, fun i hi => ?_, fun i hi => ?_, fun i h1 h2 => d6 i (by omega) h2, fun p q hp hq => ?_, fun p hp => ?_, fun p hp q hq => ?_⟩, fMo_5 (fMo_2 q3 (by omega))⟩
        · show nmS z X2 0 31 2 4 + 1 = _
          rw [d2.2.1]; exact nI_add n 1
        · by_cases e : i = n
          · subst e
            refine ⟨?_, ?_, ?_, ?_, ⟨c, hc, ?_⟩, ⟨w, by omega, ?_⟩⟩
            · show nmS z X2 0 31 3 i = upd _ i _ i; rw [z3, pk_us]
            · show nmS z X2 0 31 4 i = upd _ i _ i; rw [z4, pk_us]
            · show upd _ (7 + i) _ (7 + i) = upd _ i _ i; rw [pk_us, pk_us]
            · show upd _ i _ i = _; rw [pk_us]
            · show upd _ i _ i = _; rw [pk_us]; exact ec
            · show upd _ i _ i = _; rw [pk_us]; exact ew
          · obtain ⟨u1, u2, u3, u4, u5, u6⟩ := d4 i (by omega)
            refine ⟨?_, ?_, ?_, ?_, ?_, ?_⟩
            · show nmS z X2 0 31 3 i = upd _ n _ i; rw [pk_un e]; exact u1
            · show nmS z X2 0 31 4 i = upd _ n _ i; rw [pk_un e]; exact u2
            · show upd _ (7 + n) _ (7 + i) = upd _ n _ i; rw [pk_un (by omega), pk_un e]; exact u3
            · show upd _ n _ i = _; rw [pk_un e]; exact u4
            · show ∃ c, c < C ∧ upd _ n _ i = _; rw [pk_un e]; exact u5
            · show ∃ w, w ≤ 99 ∧ upd _ n _ i = _; rw [pk_un e]; exact u6
        · show nmS z X2 0 31 6 (7 + i) = upd _ n _ i
          by_cases e : i = n
          · subst e; rw [pk_us]; exact d6 i (Nat.le_refl _) hn
          · rw [pk_un e]; exact d5 i (by omega)
        · show bt (upd _ n _ p) q = bt (upd _ n _ q) p
          by_cases e : p = n
          · subst e
            rw [pk_us, b_0]
            by_cases e2 : q = p
            · subst e2; rw [pk_us, b_0]
            · rw [pk_un e2]; exact (d9 q (by omega) p (Nat.le_refl _)).symm
          · rw [pk_un e]
            by_cases e2 : q = n
            · subst e2; rw [pk_us, b_0]; exact d9 p (by omega) q (Nat.le_refl _)
            · rw [pk_un e2]; exact d7 p q (by omega) (by omega)
        · show bt (upd _ n _ p) p = false
          by_cases e : p = n
          · subst e; rw [pk_us, b_0]
          · rw [pk_un e]; exact d8 p (by omega)
        · show bt (upd _ n _ p) q = false
          by_cases e : p = n
          · subst e; rw [pk_us, b_0]
          · rw [pk_un e]; exact d9 p (by omega) q (by omega)
