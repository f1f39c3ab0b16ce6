/-! OneJohnModel: the text goes on -/
theorem ntP1_gt (X : Nat → Int32) (z s : Nat) (hs : s < z) : s < ntP1 X z s := by
  unfold ntP1
  rw [if_pos hs]
  split
  · omega
  · rename_i hd
    have e : z - s = (z - s - 1) + 1 := by omega
    rw [e, dgE, if_pos ⟨hs, hd⟩]
    have := (dgE_le X z (z - s - 1) (s + 1) (by omega)).1
    omega
theorem ad_pM {z : Nat} {M : NV} (hz : z ≤ 200) (hw : wfm z M) : pM M ≤ pM (adM z M) ∧ (¬ adM z M 0 3 = 0 → pM M < pM (adM z M)) := by
  have hs := skB_le (M 1) z (z - pM M) (pM M) hw.2.2.2
  have hl := ntP1_le (M 1) z _ hs.2
  have e : pM (adM z M) = ntP1 (M 1) z (skB (M 1) z (z - pM M) (pM M)) := nI_clamp (by omega)
  rw [e]
  by_cases h : skB (M 1) z (z - pM M) (pM M) < z
  · have := ntP1_gt (M 1) z _ h
    exact ⟨by omega, fun _ => by omega⟩
  · refine ⟨?_, fun q => absurd ?_ q⟩
    · unfold ntP1; rw [if_neg h]; exact hs.1
    · show adT (M 1) z (skB (M 1) z (z - pM M) (pM M)) = 0
      unfold adT; rw [if_neg h]
def Go (M N : NV) : Prop := N 0 6 < 0 → M 0 6 < 0 ∧ pM M ≤ pM N ∧ (¬ N 0 3 = 0 → pM M < pM N)
theorem Go.tr {A B C : NV} (h : Go A B) (g : Go B C) : Go A C := fun w => by
  obtain ⟨a, b, c⟩ := g w
  obtain ⟨d, e, _⟩ := h a
  exact ⟨d, by omega, fun q => by have := c q; omega⟩
theorem Go.tk {z : Nat} {M : NV} {is : Int32} (hz : z ≤ 200) (hw : wfm z M) (h0 : 0 ≤ M 0 4) : Go M (tkS z M is) := fun h => by
  have w := tk_well h0 h
  have e : tkS z M is = adM z M := by rw [tkS, if_pos w.1, if_neg w.2]
  rw [e]
  exact ⟨w.1, ad_pM hz hw⟩
/-- the reader may go on: its words, its place, its people -/
def rOk (z : Nat) (M : NV) : Prop := wfm z M ∧ 0 ≤ M 0 4 ∧ ∃ d, d ≤ 7 ∧ M 2 4 = nI d
theorem rOk.tk {z : Nat} {M : NV} {is : Int32} (hz : z ≤ 200) (h : rOk z M) : rOk z (tkS z M is) := by
  obtain ⟨h1, h2, d, h3, h4⟩ := h
  exact ⟨wfm_tk hz h1, tk_pl hz h1 h2, d, h3, by rw [tkS_row _ _ _ (by decide)]; exact h4⟩
theorem rOk.up {z : Nat} {M : NV} {c : Nat} {f : Nat → Int32} (hc : Nat.beq 0 c = false) (hc1 : Nat.beq 1 c = false) (hc2 : Nat.beq 2 c = false) (h : rOk z M) : rOk z (upA M c f) := by
  have e : ∀ k, Nat.beq k c = false → upA M c f k = M k := by intro k hk; unfold upA; rw [hk]; rfl
  unfold rOk wfm pM; rw [e 0 hc, e 1 hc1, e 2 hc2]; exact h
theorem rOk.up2 {z : Nat} {M : NV} {f : Nat → Int32} (hf : ∃ d, d ≤ 7 ∧ f 4 = nI d) (h : rOk z M) : rOk z (upA M 2 f) := ⟨h.1, h.2.1, hf⟩
theorem Go.up {M N : NV} {c : Nat} {f : Nat → Int32} (hc : Nat.beq 0 c = false) (h : Go M N) : Go M (upA N c f) := by
  have e : upA N c f 0 = N 0 := by unfold upA; rw [hc]; rfl
  unfold Go pM; rw [e]; exact h
