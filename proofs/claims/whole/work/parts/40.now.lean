/-! the pure layer: what is done to a Now -/
theorem nw_hu {N C P : Nat} {V : NV} {r : Nat → Int32} {p1 : Int32} (hN : N ≤ 7) (hP : P < N) (h1 : p1 = 0 ∨ p1 = 1) (h : nwR N C V r) : nwR N C (upA V 3 (upd (V 3) 0 ((V 3 0 &&& (((1 : Int32) <<< (nI P &&& 31)) ^^^ (-1))) ||| (p1 <<< (nI P &&& 31))))) (upd r 21 ((r 21 &&& (((1 : Int32) <<< (nI P &&& 31)) ^^^ (-1))) ||| (p1 <<< (nI P &&& 31)))) := by
  obtain ⟨a1, a2, a3, a4, a5, a6, a7, b1, b2, b3, b4, b5, b6, b7⟩ := h
  refine ⟨fun i hi => ?_, fun i hi => ?_, fun i hi => ?_, ?_, a5, a6, a7, fun i hi => ?_, fun i hi => ?_, fun i hi => ?_, fun i hi => ?_, b5, b6, b7⟩
  · rw [pk_un (by omega)]; exact a1 i hi
  · rw [pk_un (by omega)]; exact a2 i hi
  · rw [pk_un (by omega)]; exact a3 i hi
  · rw [pk_us]
    show (V 3 0 &&& _) ||| _ = _
    rw [a4]
  · rw [pk_un (by omega)]; exact b1 i hi
  · rw [pk_un (by omega)]; exact b2 i hi
  · rw [pk_un (by omega)]; exact b3 i hi
  · rw [pk_us]; exact hu_out hN hP b4 h1 i hi
theorem nw_la {N C l : Nat} {V : NV} {r : Nat → Int32} (hN : N ≤ 7) (hl : l < 16) (h : nwR N C V r) : nwR N C (laV V (nI l)) (upd r 22 (nI l)) := by
  obtain ⟨a1, a2, a3, a4, a5, a6, a7, b1, b2, b3, b4, b5, b6, b7⟩ := h
  refine ⟨fun i hi => ?_, fun i hi => ?_, fun i hi => ?_, a4, rfl, a6, a7, fun i hi => ?_, fun i hi => ?_, fun i hi => ?_, b4, ⟨l, hl, rfl⟩, b6, b7⟩
  · rw [pk_un (by omega)]; exact a1 i hi
  · rw [pk_un (by omega)]; exact a2 i hi
  · rw [pk_un (by omega)]; exact a3 i hi
  · rw [pk_un (by omega)]; exact b1 i hi
  · rw [pk_un (by omega)]; exact b2 i hi
  · rw [pk_un (by omega)]; exact b3 i hi
theorem nw_nm {N C P c : Nat} {V : NV} {r : Nat → Int32} (hN : N ≤ 7) (hP : P < N) (hc : c < C) (h : nwR N C V r) : nwR N C (nmV V P (nI c)) (upd r P (nI c)) := by
  obtain ⟨a1, a2, a3, a4, a5, a6, a7, b1, b2, b3, b4, b5, b6, b7⟩ := h
  refine ⟨fun i hi => ?_, fun i hi => ?_, fun i hi => ?_, ?_, ?_, ?_, ?_, fun i hi => ?_, fun i hi => ?_, fun i hi => ?_, fun i hi => ?_, ?_, ?_, ?_⟩
  · show upd (V 0) P (nI c) i = _
    by_cases e : i = P
    · subst e; rw [pk_us, pk_us]
    · rw [pk_un e, pk_un e]; exact a1 i hi
  · rw [pk_un (by omega)]; exact a2 i hi
  · rw [pk_un (by omega)]; exact a3 i hi
  · rw [pk_un (by omega)]; exact a4
  · rw [pk_un (by omega)]; exact a5
  · rw [pk_un (by omega)]; exact a6
  · rw [pk_un (by omega)]; exact a7
  · by_cases e : i = P
    · subst e; rw [pk_us]; exact ⟨c, hc, rfl⟩
    · rw [pk_un e]; exact b1 i hi
  · rw [pk_un (by omega)]; exact b2 i hi
  · rw [pk_un (by omega)]; exact b3 i hi
  · rw [pk_un (by omega)]; exact b4 i hi
  · rw [pk_un (by omega)]; exact b5
  · rw [pk_un (by omega)]; exact b6
  · rw [pk_un (by omega)]; exact b7
theorem nw_de {N C P d : Nat} {V : NV} {r : Nat → Int32} (hN : N ≤ 7) (hP : P < N) (hd : d < 99) (e : r (14 + P) = nI d) (h : nwR N C V r) : nwR N C (deV V P) (upd r (14 + P) (r (14 + P) + 1)) := by
  obtain ⟨a1, a2, a3, a4, a5, a6, a7, b1, b2, b3, b4, b5, b6, b7⟩ := h
  refine ⟨fun i hi => ?_, fun i hi => ?_, fun i hi => ?_, ?_, ?_, ?_, ?_, fun i hi => ?_, fun i hi => ?_, fun i hi => ?_, fun i hi => ?_, ?_, ?_, ?_⟩
  · rw [pk_un (by omega)]; exact a1 i hi
  · rw [pk_un (by omega)]; exact a2 i hi
  · show upd (V 2) P (V 2 P + 1) i = _
    by_cases q : i = P
    · subst q; rw [pk_us, pk_us, a3 i hi]
    · rw [pk_un q, pk_un (by omega)]; exact a3 i hi
  · rw [pk_un (by omega)]; exact a4
  · rw [pk_un (by omega)]; exact a5
  · rw [pk_un (by omega)]; exact a6
  · rw [pk_un (by omega)]; exact a7
  · rw [pk_un (by omega)]; exact b1 i hi
  · rw [pk_un (by omega)]; exact b2 i hi
  · by_cases q : i = P
    · subst q; rw [pk_us, e]; exact ⟨d + 1, by omega, nI_add d 1⟩
    · rw [pk_un (by omega)]; exact b3 i hi
  · rw [pk_un (by omega)]; exact b4 i hi
  · rw [pk_un (by omega)]; exact b5
  · rw [pk_un (by omega)]; exact b6
  · rw [pk_un (by omega)]; exact b7
theorem nw_ea {N C P : Nat} {V : NV} {r : Nat → Int32} {n : Int32} (hN : N ≤ 7) (hP : P < N) (hn : ¬ inI n (-99) 99 = 0) (h : nwR N C V r) : eaX (V 1 P) n = eaM (r (7 + P)) n ∧ nwR N C (eaV V P n) (upd r (7 + P) (eaM (r (7 + P)) n)) := by
  obtain ⟨a1, a2, a3, a4, a5, a6, a7, b1, b2, b3, b4, b5, b6, b7⟩ := h
  obtain ⟨w, hw, ew⟩ := b2 P (by omega)
  obtain ⟨e1, x, hx, e2⟩ := ea_eq hw hn
  have e0 : eaX (V 1 P) n = eaM (r (7 + P)) n := by rw [a2 P hP, ew, e1]
  refine ⟨e0, fun i hi => ?_, fun i hi => ?_, fun i hi => ?_, ?_, ?_, ?_, ?_, fun i hi => ?_, fun i hi => ?_, fun i hi => ?_, fun i hi => ?_, ?_, ?_, ?_⟩
  · rw [pk_un (by omega)]; exact a1 i hi
  · show upd (V 1) P (eaX (V 1 P) n) i = _
    by_cases q : i = P
    · subst q; rw [pk_us, pk_us, e0]
    · rw [pk_un q, pk_un (by omega)]; exact a2 i hi
  · rw [pk_un (by omega)]; exact a3 i hi
  · rw [pk_un (by omega)]; exact a4
  · rw [pk_un (by omega)]; exact a5
  · rw [pk_un (by omega)]; exact a6
  · rw [pk_un (by omega)]; exact a7
  · rw [pk_un (by omega)]; exact b1 i hi
  · by_cases q : i = P
    · subst q; rw [pk_us, ew, e2]; exact ⟨x, hx, rfl⟩
    · rw [pk_un (by omega)]; exact b2 i hi
  · rw [pk_un (by omega)]; exact b3 i hi
  · rw [pk_un (by omega)]; exact b4 i hi
  · rw [pk_un (by omega)]; exact b5
  · rw [pk_un (by omega)]; exact b6
  · rw [pk_un (by omega)]; exact b7
/-- a year -/
theorem tx_nat {N C P : Nat} {V : NV} {r : Nat → Int32} (hN : N ≤ 7) (hP : P < N) (h : nwR N C V r) : ∃ t, t ≤ 6993 ∧ txM r N P = nI t := by
  have hs : ∃ o, 0 < o ∧ o ≤ 7 ∧ onI (ofM r N 4 P) 7 = nI o := by
    unfold ofM
    split
    · exact ⟨1, by omega, by omega, on_1 P (by omega)⟩
    · exact on_pos (P := P) (fun i hi => pp_out hN i (by omega)) (by omega) (by rw [b_pp (by omega) hN, decide_eq_true hP, decide_eq_true rfl]; rfl)
  obtain ⟨o, o1, o2, o3⟩ := hs
  obtain ⟨s, s1, s2⟩ := sm_nat h.2.2.2.2.2.2.2.2.1 (ofM r N 4 P) N hN
  unfold txM
  rw [s2, o3, pk_div (by omega) o1 (by omega), show (10 : Int32) = nI 10 from rfl, pk_div (Nat.lt_of_le_of_lt (Nat.div_le_self _ _) (by omega)) (by decide) (by decide)]
  exact ⟨s / o / 10, Nat.le_trans (Nat.div_le_self _ _) (Nat.le_trans (Nat.div_le_self _ _) (by omega)), rfl⟩
/-- how much one pays -/
def duN (r : Nat → Int32) (N i : Nat) : Int32 := if r (7 + i) ≤ txM r N i then r (7 + i) else txM r N i
theorem du_nat {N C P : Nat} {V : NV} {r : Nat → Int32} (hN : N ≤ 7) (hP : P < N) (h : nwR N C V r) : ∃ w d, w ≤ 999 ∧ d ≤ w ∧ r (7 + P) = nI w ∧ duN r N P = nI d := by
  obtain ⟨t, ht, et⟩ := tx_nat hN hP h
  obtain ⟨w, hw, ew⟩ := h.2.2.2.2.2.2.2.2.1 P (by omega)
  unfold duN
  rw [et, ew]
  by_cases q : w ≤ t
  · rw [if_pos ((nI_leI (by omega) (by omega)).mpr q)]; exact ⟨w, w, hw, Nat.le_refl _, rfl, rfl⟩
  · rw [if_neg (fun x => q ((nI_leI (by omega) (by omega)).mp x))]; exact ⟨w, t, hw, by omega, rfl, rfl⟩
theorem bs_at (r b : Nat → Int32) (N : Nat) : ∀ n i, i < n → bsF r b N n i = duN r N i
  | 0, i, h => absurd h (Nat.not_lt_zero i)
  | n + 1, i, h => by
    rw [bsF]
    by_cases e : i = n
    · subst e; rw [pk_us]; rfl
    · rw [pk_un e]; exact bs_at r b N n i (by omega)
theorem du_at {w t d : Nat → Int32} : ∀ n i, i < n → duF w t d n i = if w i < t i then w i else t i
  | 0, i, h => absurd h (Nat.not_lt_zero i)
  | n + 1, i, h => by
    rw [duF]
    by_cases e : i = n
    · subst e; rw [pk_us]
    · rw [pk_un e]; exact du_at n i (by omega)
theorem duV_at {N C : Nat} {L V : NV} {r : Nat → Int32} (hN : N ≤ 7) (h : nwR N C V r) {i : Nat} (hi : i < N) : duV L V N i = duN r N i := by
  unfold duV duN
  rw [du_at N i hi, tx_s hN h hi, h.2.1 i hi]
  by_cases q : r (7 + i) < txM r N i
  · rw [if_pos q, if_pos (Int32.le_of_lt q)]
  · rw [if_neg q]
    split
    · rename_i q2; exact Int32.le_antisymm (Int32.not_lt.mp q) q2
    · rfl
theorem ys_nat {N C : Nat} {V : NV} {r : Nat → Int32} (b : Nat → Int32) (hN : N ≤ 7) (h : nwR N C V r) : ∀ n, n ≤ N → ∃ s, s ≤ 999 * n ∧ ysM r b N n = nI s
  | 0, _ => ⟨0, Nat.le_refl _, rfl⟩
  | n + 1, hn => by
    obtain ⟨s, hs, e⟩ := ys_nat b hN h n (by omega)
    obtain ⟨w, d, hw, hd, -, ed⟩ := du_nat hN (show n < N by omega) h
    rw [ysM, e, bs_at r b N (n + 1) n (by omega), ed, nI_add]
    exact ⟨s + d, by omega, rfl⟩
theorem pd_ys {N C : Nat} {L V : NV} {r : Nat → Int32} (b : Nat → Int32) (hN : N ≤ 7) (h : nwR N C V r) : ∀ n, n ≤ N → pdF (duV L V N) n = ysM r b N n
  | 0, _ => rfl
  | n + 1, hn => by rw [pdF, ysM, pd_ys b hN h n (by omega), duV_at hN h (by omega), bs_at r b N (n + 1) n (by omega)]
theorem wl_at (d w : Nat → Int32) : ∀ n i, wlF d w n i = if i < n then w i - d i else w i
  | 0, i => by rw [wlF, if_neg (by omega)]
  | n + 1, i => by
    rw [wlF]
    by_cases e : i = n
    · subst e; rw [pk_us, wl_at d w i, if_neg (by omega), if_pos (by omega)]
    · rw [pk_un e, wl_at d w n i]
      by_cases q : i < n
      · rw [if_pos q, if_pos (by omega)]
      · rw [if_neg q, if_neg (by omega)]
theorem ws_at (r d : Nat → Int32) : ∀ n i, wsF r d n i = if 7 ≤ i ∧ i < 7 + n then r i - d (i - 7) else r i
  | 0, i => by rw [wsF, if_neg (by omega)]
  | n + 1, i => by
    rw [wsF]
    by_cases e : i = 7 + n
    · subst e; rw [pk_us, ws_at r d n, if_neg (by omega), if_pos (by omega), show 7 + n - 7 = n from by omega]
    · rw [pk_un e, ws_at r d n i]
      by_cases q : 7 ≤ i ∧ i < 7 + n
      · rw [if_pos q, if_pos (by omega)]
      · rw [if_neg q, if_neg (by omega)]
theorem nw_yr {N C : Nat} {L V : NV} {r : Nat → Int32} (b : Nat → Int32) (hN : N ≤ 7) (hy : ¬ r 24 = 999) (h : nwR N C V r) : nwR N C (pyV L V N) (yrF r b N) := by
  have hys := ys_nat b hN h N (Nat.le_refl _)
  have hpd := pd_ys (L := L) b hN h N (Nat.le_refl _)
  have hdu := fun (i : Nat) (hi : i < N) => du_nat hN hi h
  have hdV := fun (i : Nat) (hi : i < N) => duV_at (L := L) hN h hi
  have hw := h.2.2.2.2.2.2.2.2.1
  obtain ⟨a1, a2, a3, a4, a5, a6, a7, b1, b2, b3, b4, b5, b6, b7⟩ := h
  obtain ⟨Y, eY⟩ : ∃ Y, Y = wsF r (bsF r b N N) N := ⟨_, rfl⟩
  have yr : ∀ i, i < 23 → yrF r b N i = Y i := fun i hi => by unfold yrF; rw [pk_un (by omega), pk_un (by omega), eY]
  have y23 : yrF r b N 23 = chX (r 23) (ysM r b N N) := by
    unfold yrF
    rw [pk_un (by omega), pk_us, ws_at, if_neg (by omega)]
  have y24 : yrF r b N 24 = r 24 + 1 := by
    unfold yrF
    rw [pk_us, pk_un (by omega), ws_at, if_neg (by omega)]
  have Yo : ∀ i, ¬ (7 ≤ i ∧ i < 7 + N) → Y i = r i := fun i hi => by rw [eY, ws_at, if_neg hi]
  have Yw : ∀ i, i < N → Y (7 + i) = r (7 + i) - duN r N i := fun i hi => by rw [eY, ws_at, if_pos (by omega), show 7 + i - 7 = i from by omega, bs_at r b N N i hi]
  obtain ⟨s, hs, es⟩ := hys
  obtain ⟨c, hc, ec⟩ := b6
  obtain ⟨y, hy9, ey⟩ := b7
  have hy2 : y < 999 := Nat.lt_of_le_of_ne hy9 (fun q => hy (by rw [ey, q]; rfl))
  refine ⟨fun i hi => ?_, fun i hi => ?_, fun i hi => ?_, ?_, ?_, ?_, ?_, fun i hi => ?_, fun i hi => ?_, fun i hi => ?_, fun i hi => ?_, ?_, ?_, ?_⟩
  · rw [yr i (by omega), Yo i (by omega)]; exact a1 i hi
  · rw [yr (7 + i) (by omega), Yw i hi]
    show wlF (duV L V N) (V 1) N i = _
    rw [wl_at, if_pos hi, a2 i hi, hdV i hi]
  · rw [yr (14 + i) (by omega), Yo (14 + i) (by omega)]; exact a3 i hi
  · rw [yr 21 (by omega), Yo 21 (by omega)]; exact a4
  · rw [yr 22 (by omega), Yo 22 (by omega)]; exact a5
  · rw [y23]
    show (if V 3 2 + pdF (duV L V N) N < 999999 then V 3 2 + pdF (duV L V N) N else 999999) = _
    unfold chX
    rw [hpd, a6, es, ec, nI_add]
    by_cases q : c + s < 999999
    · rw [if_pos (show nI (c + s) < (999999 : Int32) from (nI_ltI (a := c + s) (b := 999999) (by omega) (by decide)).mpr q), if_pos (show nI (c + s) ≤ (999999 : Int32) from (nI_leI (a := c + s) (b := 999999) (by omega) (by decide)).mpr (by omega))]
    · rw [if_neg (show ¬ nI (c + s) < (999999 : Int32) from fun x => q ((nI_ltI (a := c + s) (b := 999999) (by omega) (by decide)).mp x))]
      split
      · rename_i q2
        have := (nI_leI (a := c + s) (b := 999999) (by omega) (by decide)).mp q2
        rw [show c + s = 999999 from by omega]; rfl
      · rfl
  · rw [y24]
    show V 3 3 + 1 = _
    rw [a7]
  · rw [yr i (by omega), Yo i (by omega)]; exact b1 i hi
  · rw [yr (7 + i) (by omega)]
    by_cases q : i < N
    · obtain ⟨w, d, hw1, hd, ew, ed⟩ := hdu i q
      rw [Yw i q, ew, ed, pk_sub hd]
      exact ⟨w - d, by omega, rfl⟩
    · rw [Yo (7 + i) (by omega)]; exact hw i hi
  · rw [yr (14 + i) (by omega), Yo (14 + i) (by omega)]; exact b3 i hi
  · rw [yr 21 (by omega), Yo 21 (by omega)]; exact b4 i hi
  · rw [yr 22 (by omega), Yo 22 (by omega)]; exact b5
  · rw [y23]
    unfold chX
    rw [es, ec, nI_add]
    split
    · rename_i q2
      exact ⟨c + s, (nI_leI (a := c + s) (b := 999999) (by omega) (by decide)).mp q2, rfl⟩
    · exact ⟨999999, Nat.le_refl _, rfl⟩
  · rw [y24, ey]; exact ⟨y + 1, by omega, nI_add y 1⟩
