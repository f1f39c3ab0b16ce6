/-! OneJohnModel: the text goes on -/
theorem ntP1_gt (X : Nat → Int32) (z s : Nat) (hs : s < z) : s < ntP1 X z s := by
  unfold ntP1
  rw [if_pos hs]
  split
  · omega
  · rename_i hd
    have e : z - s = (z - s - 1) + 1 := by omega
    rw [e, dgE, if_pos ⟨hs, hd⟩]
    have := (dgE_le X z (z - s - 1) (s + 1) (by omega)).1
    omega
theorem ad_pM {z : Nat} {M : NV} (hz : z ≤ 200) (hw : wfm z M) : pM M ≤ pM (adM z M) ∧ (¬ adM z M 0 3 = 0 → pM M < pM (adM z M)) := by
  have hs := skB_le (M 1) z (z - pM M) (pM M) hw.2.2.2
  have hl := ntP1_le (M 1) z _ hs.2
  have e : pM (adM z M) = ntP1 (M 1) z (skB (M 1) z (z - pM M) (pM M)) := nI_clamp (by omega)
  rw [e]
  by_cases h : skB (M 1) z (z - pM M) (pM M) < z
  · have := ntP1_gt (M 1) z _ h
    exact ⟨by omega, fun _ => by omega⟩
  · refine ⟨?_, fun q => absurd ?_ q⟩
    · unfold ntP1; rw [if_neg h]; exact hs.1
    · show adT (M 1) z (skB (M 1) z (z - pM M) (pM M)) = 0
      unfold adT; rw [if_neg h]
def Go (M N : NV) : Prop := N 0 6 < 0 → M 0 6 < 0 ∧ pM M ≤ pM N ∧ (¬ N 0 3 = 0 → pM M < pM N)
theorem Go.tr {A B C : NV} (h : Go A B) (g : Go B C) : Go A C := fun w => by
  obtain ⟨a, b, c⟩ := g w
  obtain ⟨d, e, _⟩ := h a
  exact ⟨d, by omega, fun q => by have := c q; omega⟩
theorem Go.tk {z : Nat} {M : NV} {is : Int32} (hz : z ≤ 200) (hw : wfm z M) (h0 : 0 ≤ M 0 4) : Go M (tkS z M is) := fun h => by
  have w := tk_well h0 h
  have e : tkS z M is = adM z M := by rw [tkS, if_pos w.1, if_neg w.2]
  rw [e]
  exact ⟨w.1, ad_pM hz hw⟩
/-- the reader may go on: its words, its place, its people -/
def rOk (z : Nat) (M : NV) : Prop := wfm z M ∧ 0 ≤ M 0 4 ∧ ∃ d, d ≤ 7 ∧ M 2 4 = nI d
theorem rOk.tk {z : Nat} {M : NV} {is : Int32} (hz : z ≤ 200) (h : rOk z M) : rOk z (tkS z M is) := by
  obtain ⟨h1, h2, d, h3, h4⟩ := h
  exact ⟨wfm_tk hz h1, tk_pl hz h1 h2, d, h3, by rw [tkS_row _ _ _ (by decide)]; exact h4⟩
theorem rOk.up {z : Nat} {M : NV} {c : Nat} {f : Nat → Int32} (hc : Nat.beq 0 c = false) (hc1 : Nat.beq 1 c = false) (hc2 : Nat.beq 2 c = false) (h : rOk z M) : rOk z (upA M c f) := by
  have e : ∀ k, Nat.beq k c = false → upA M c f k = M k := by intro k hk; unfold upA; rw [hk]; rfl
  unfold rOk wfm pM; rw [e 0 hc, e 1 hc1, e 2 hc2]; exact h
theorem rOk.up2 {z : Nat} {M : NV} {f : Nat → Int32} (hf : ∃ d, d ≤ 7 ∧ f 4 = nI d) (h : rOk z M) : rOk z (upA M 2 f) := ⟨h.1, h.2.1, hf⟩
theorem Go.up {M N : NV} {c : Nat} {f : Nat → Int32} (hc : Nat.beq 0 c = false) (h : Go M N) : Go M (upA N c f) := by
  have e : upA N c f 0 = N 0 := by unfold upA; rw [hc]; rfl
  unfold Go pM; rw [e]; exact h

theorem ri_go {z : Nat} {M : NV} {w : Int32} {k : Nat} (hz : z ≤ 200) (h : rOk z M) (hk : M 2 4 = nI k) (hk7 : k ≤ 7) (hp : w = 112 → k < 7) : rOk z (riM z M w k) ∧ Go M (riM z M w k) := by
  have T : ∀ (N : NV) (lo hi : Int32), rOk z N → rOk z (nmS z N lo hi) ∧ Go N (nmS z N lo hi) := fun N lo hi hN => ⟨hN.tk hz, Go.tk hz hN.1 hN.2.1⟩
  unfold riM
  split
  · obtain ⟨a, g⟩ := T M 1 4 h
    exact ⟨rOk.up2 a.2.2 a, g.up rfl⟩
  · split
    · rename_i hw
      have k1 := hp hw
      obtain ⟨a1, g1⟩ := T M 0 (M 2 3 - 1) h
      have b1 : rOk z (riP1 z M k) := rOk.up rfl rfl rfl a1
      have q1 : Go M (riP1 z M k) := g1.up rfl
      have r1 : riP1 z M k 2 4 = nI k := by
        show tkS z M _ 2 4 = _
        rw [tkS_row _ _ _ (by decide)]; exact hk
      obtain ⟨X, hX⟩ : ∃ X, X = riP1 z M k := ⟨_, rfl⟩
      rw [← hX] at b1 q1 r1 ⊢
      obtain ⟨a2, g2⟩ := T X 0 99 b1
      have b2 : rOk z (riP2 z X k) := rOk.up rfl rfl rfl a2
      have q2 : Go X (riP2 z X k) := g2.up rfl
      have r2 : riP2 z X k 2 4 = nI k := by
        show tkS z X _ 2 4 = _
        rw [tkS_row _ _ _ (by decide)]; exact r1
      obtain ⟨Y, hY⟩ : ∃ Y, Y = riP2 z X k := ⟨_, rfl⟩
      rw [← hY] at b2 q2 r2 ⊢
      obtain ⟨a3, g3⟩ := T Y 0 31 b2
      refine ⟨rOk.up rfl rfl rfl (rOk.up2 ⟨k + 1, by omega, ?_⟩ a3), (q1.tr q2).tr ((g3.up rfl).up rfl)⟩
      show tkS z Y _ 2 4 + 1 = _
      rw [tkS_row _ _ _ (by decide), r2]
      exact nI_add k 1
    · split
      · obtain ⟨a, g⟩ := T M 0 (nI k - 1) h
        unfold riQ riQ1
        obtain ⟨X, hX⟩ : ∃ X, X = nmS z M 0 (nI k - 1) := ⟨_, rfl⟩
        rw [← hX] at a g ⊢
        have a2 := a.tk (is := qB X (nmI M 0 (nI k - 1)) k) hz
        have g2 := g.tr (Go.tk (is := qB X (nmI M 0 (nI k - 1)) k) hz a.1 a.2.1)
        unfold riQ2
        split
        · exact ⟨rOk.up rfl rfl rfl a2, g2.up rfl⟩
        · exact ⟨a2, g2⟩
      · obtain ⟨a, g⟩ := T M 0 15 h
        have a2 : rOk z (upA (nmS z M 0 15) 2 (upd (nmS z M 0 15 2) 5 (nmI M 0 15))) := rOk.up2 a.2.2 a
        exact ⟨a2, g⟩
def rpC (X : NV) (t : Nat) : Int32 := if X 0 3 = 1 then (if mbM X (nI t) = 0 then 0 else 1) else 0
def rpI (z : Nat) (X1 : NV) (w : Int32) : NV := if X1 0 6 < 0 then riM z X1 w (tn (X1 2 4)) else X1
def rpS (z : Nat) (X2 : NV) : NV := tkS z X2 (if X2 0 3 = 3 then 1 else 0)
def rpB (z : Nat) (X : NV) (t : Nat) : NV := rpS z (rpI z (tkS z X (rpC X t)) (tkI X (rpC X t)))
def rpL (z : Nat) : Nat → NV → Nat → NV × Nat
  | 0, X, t => (X, t)
  | f + 1, X, t => if X 0 6 < 0 then (if X 0 3 = 0 then (X, t) else rpL z f (rpB z X t) (t + 1)) else (X, t)
/-- an item begun: the people's bound -/
theorem rp_p {z : Nat} {X : NV} {t k : Nat} (hk : X 2 4 = nI k) (hk7 : k ≤ 7) (h0 : 0 ≤ X 0 4) (hw : tkS z X (rpC X t) 0 6 < 0) (hp : tkI X (rpC X t) = 112) : k < 7 := by
  obtain ⟨w, c⟩ := tk_well h0 hw
  rw [tkI, if_pos w, if_neg c] at hp
  unfold rpC at c
  split at c
  · split at c
    · exact absurd rfl c
    · rename_i hm
      unfold mbM at hm
      rw [hp, if_neg (by decide), if_pos rfl] at hm
      split at hm
      · exact absurd rfl hm
      · rename_i h7
        rw [hk] at h7
        exact Nat.lt_of_not_le (fun q => h7 ((nI_leI (a := 7) (b := k) (by omega) (by omega)).mpr q))
  · exact absurd rfl c
theorem rpI_go {z : Nat} {X : NV} {t : Nat} (hz : z ≤ 200) (h : rOk z X) : rOk z (rpI z (tkS z X (rpC X t)) (tkI X (rpC X t))) ∧ Go X (rpI z (tkS z X (rpC X t)) (tkI X (rpC X t))) := by
  have a := h.tk (is := rpC X t) hz
  have g := Go.tk (is := rpC X t) hz h.1 h.2.1
  obtain ⟨d, hd, hd4⟩ := h.2.2
  have r : tkS z X (rpC X t) 2 4 = nI d := by rw [tkS_row _ _ _ (by decide)]; exact hd4
  have e : tn (nI d) = d := nI_clamp (by omega)
  unfold rpI
  split
  · rename_i hw
    rw [r, e]
    have q := ri_go (w := tkI X (rpC X t)) hz a r hd (fun hp => rp_p hd4 hd h.2.1 hw hp)
    exact ⟨q.1, g.tr q.2⟩
  · exact ⟨a, g⟩
theorem rpB_go {z : Nat} {X : NV} {t : Nat} (hz : z ≤ 200) (h : rOk z X) : rOk z (rpB z X t) ∧ (rpB z X t 0 6 < 0 → pM X < pM (rpB z X t)) := by
  obtain ⟨a, g⟩ := rpI_go (t := t) hz h
  unfold rpB rpS
  obtain ⟨Y, hY⟩ : ∃ Y, Y = rpI z (tkS z X (rpC X t)) (tkI X (rpC X t)) := ⟨_, rfl⟩
  rw [← hY] at a g ⊢
  refine ⟨a.tk hz, fun w => ?_⟩
  obtain ⟨y1, y2⟩ := tk_well a.2.1 w
  have y3 : Y 0 3 = 3 := by
    by_cases q : Y 0 3 = 3
    · exact q
    · rw [if_neg q] at y2; exact absurd rfl y2
  have u := (g y1).2.2 (by rw [y3]; decide)
  have v := (Go.tk (is := if Y 0 3 = 3 then 1 else 0) hz a.1 a.2.1 w).2.1
  omega
