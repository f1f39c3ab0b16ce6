/-! the pure layer: sway, who, which, name, odds -/
theorem b_ev : ∀ N, N < 8 → ∀ i, i < N → bt (evM N) i = true := by decide +kernel
theorem nm_ne9 {c : Nat} (h : c < 1000) : ¬ nI c = -9 := by
  intro e
  have h2 := congrArg Int32.toInt e
  rw [nI_toInt (by omega), show (-9 : Int32).toInt = -9 from by decide] at h2
  omega
theorem am_ev {r : Nat → Int32} {N C : Nat} (hN : N ≤ 7) (hC : C ≤ 4) (hn : nmO r N C) : ∀ i, i < N → bt (evM N) i = !decide (r i = -9) := by
  intro i hi
  obtain ⟨c, hc, e⟩ := hn i hi
  rw [b_ev N (by omega) i hi, e, decide_eq_false (nm_ne9 (by omega))]; rfl
theorem am_k {r : Nat → Int32} {N : Nat} (hN : N ≤ 7) (k : Int32) : ∀ i, i < N → bt (evM N &&& (ppO r k N ^^^ (-1))) i = !decide (r i = k) := by
  intro i hi
  rw [b_and, b_xor, b_ev N (by omega) i hi, b_m1 i (by omega), b_pp (by omega) hN, decide_eq_true hi]
  simp
theorem sw_eq {f r fv bi : Nat → Int32} {N C b : Nat} {la : Int32} (hN : N ≤ 7) (hC : C ≤ 4) (hb : b < 32) (hn : nmO r N C) (hr : ∀ i, i < N → f i = r i) (hv : ∀ i, i < N → bi i = fv i) (h2 : r 22 = la) : ∀ n, swy fv f N C (nI b) la n = swM r bi N C (nI b) n
  | 0 => rfl
  | k + 1 => by
    rw [swy, swM, sw_eq hN hC hb hn hr hv h2 k, ps_eq hN hC hb hn hr hv h2 (am_k hN (nI k)), ps_eq hN hC hb hn hr hv h2 (am_ev hN hC hn)]
    split
    · rw [Int32.or_zero]
    · rfl
theorem psg_orF {fv f : Nat → Int32} {N C : Nat} {la : Int32} : ∀ n, psg fv f N C la n = orF (fun b => !decide (psI fv f N C (nI b) la (-9) = 0)) n
  | 0 => rfl
  | n + 1 => by
    rw [psg, orF, psg_orF n]
    by_cases h : psI fv f N C (nI n) la (-9) = 0
    · rw [if_pos h, decide_eq_true h, if_neg (by decide), Int32.or_zero]
    · rw [if_neg h, decide_eq_false h, if_pos (by decide)]
theorem psg_b {f r fv bi : Nat → Int32} {N C b : Nat} {la : Int32} (hN : N ≤ 7) (hC : C ≤ 4) (hb : b < 5) (hn : nmO r N C) (hr : ∀ i, i < N → f i = r i) (hv : ∀ i, i < N → bi i = fv i) (h2 : r 22 = la) : bitI (psg fv f N C la 5) (nI b) = psM r bi N C (nI b) (evM N) := by
  rw [bi_bt _ (by omega), psg_orF, b_orF (by omega) (by omega), decide_eq_true hb, Bool.true_and, ps_eq hN hC (by omega) hn hr hv h2 (am_ev hN hC hn)]
  by_cases h : psM r bi N C (nI b) (evM N) = 0
  · rw [h]; rfl
  · rw [psM_1 h]; rfl
theorem it_ag {f r s t to ti : Nat → Int32} {N C : Nat} {hu la : Int32} (hN : N ≤ 7) (hC : C ≤ 4) (hf : nmO f N C) (hr : ∀ i, i < N → r i = f i) (h1 : r 21 = hu) (h2 : r 22 = la) : ∀ n, (∀ e, e < n → (∃ P, P < N ∧ to e = nI P) ∧ s e = to e ∧ t e = ti e ∧ (ti e = 0 ∨ ti e = 1)) → agI (lmpI f N C hu la) s t n = itM r to ti N n
  | 0, _ => rfl
  | n + 1, h => by
    rw [agI, itM, it_ag hN hC hf hr h1 h2 n (fun e he => h e (by omega))]
    obtain ⟨⟨P, hP, e1⟩, e2, e3, e4⟩ := h n (by omega)
    have hc : tn (nI P) = P := tn_n (by omega)
    rw [e2, e3, e1, lim_b hN hC hf hr h1 h2 hP, show (nI P).toNatClampNeg = P from hc]
    split
    · rfl
    · rcases e4 with e | e <;> rw [e]
      · rw [if_neg (show ¬ (0 : Int32) = 1 by decide)]
      · rw [if_pos rfl]
theorem ir_ag {f r fv bi s t ro ri : Nat → Int32} {N C : Nat} {la : Int32} (hN : N ≤ 7) (hC : C ≤ 4) (hn : nmO r N C) (hr : ∀ i, i < N → f i = r i) (hv : ∀ i, i < N → bi i = fv i) (h2 : r 22 = la) : ∀ n, (∀ e, e < n → (∃ b, b < 5 ∧ ro e = nI b) ∧ s e = ro e ∧ t e = ri e ∧ (ri e = 0 ∨ ri e = 1)) → agI (psg fv f N C la 5) s t n = irM r bi ro ri N C n
  | 0, _ => rfl
  | n + 1, h => by
    rw [agI, irM, ir_ag hN hC hn hr hv h2 n (fun e he => h e (by omega))]
    obtain ⟨⟨b, hb, e1⟩, e2, e3, e4⟩ := h n (by omega)
    rw [e2, e3, e1, psg_b hN hC hb hn hr hv h2]
    split
    · rfl
    · rcases e4 with e | e <;> rw [e]
      · rw [if_neg (show ¬ (0 : Int32) = 1 by decide)]
      · rw [if_pos rfl]
/-- told: the reference's row as it is asked of -/
def toO (N z : Nat) (s t to ti : Nat → Int32) : Prop := ∀ e, e < z → (∃ P, P < N ∧ to e = nI P) ∧ s e = to e ∧ t e = ti e ∧ (ti e = 0 ∨ ti e = 1)
theorem who_eq {N C z1 : Nat} {V C1 : NV} {r w to ti : Nat → Int32} (hN : N ≤ 7) (hC : C ≤ 4) (h : nwR N C V r) (ht : toO N z1 (C1 0) (C1 1) to ti) : ∀ n, whO N C V C1 z1 n = whM (cpA w r 25) to ti N z1 n := by
  have key : ∀ hu, agI (lmpI (V 0) N C hu (V 3 1)) (C1 0) (C1 1) z1 = itM (upd (cpA w r 25) 21 hu) to ti N z1 := fun hu => by
    refine it_ag hN hC (fun i hi => by rw [h.1 i hi]; exact h.2.2.2.2.2.2.2.1 i hi) (fun i hi => ?_) pk_us ?_ z1 ht
    · rw [pk_un (by omega), cpA_in w r 25 i (by omega), h.1 i hi]
    · rw [pk_un (by omega), cpA_in w r 25 22 (by omega), h.2.2.2.2.1]
  intro n
  induction n with
  | zero => rw [whO, whM, key]
  | succ n ih =>
    rw [whO, whM, key, ih]
    split
    · rw [Int32.or_zero]
    · rfl
/-- which: downward and upward -/
theorem wh_15 (F : Int32 → Int32) : ∀ n, (whK F n).2.2 &&& 15 = (whK F n).2.2
  | 0 => by show (15 : Int32) &&& 15 = 15; decide +kernel
  | n + 1 => by
    rw [whK]
    split
    · exact wh_15 F n
    · show ((whK F n).2.2 &&& nI (15 - n)) &&& 15 = (whK F n).2.2 &&& nI (15 - n)
      rw [Int32.and_assoc, Int32.and_comm (nI (15 - n)), ← Int32.and_assoc, wh_15 F n]
theorem wq_15 (f g : Nat → Int32) : ∀ n, (wqK f g n).2.2 &&& 15 = (wqK f g n).2.2
  | 0 => by show (15 : Int32) &&& 15 = 15; decide +kernel
  | n + 1 => by
    rw [wqK]
    split
    · exact wq_15 f g n
    · split
      · exact wq_15 f g n
      · show ((wqK f g n).2.2 &&& nI n) &&& 15 = (wqK f g n).2.2 &&& nI n
        rw [Int32.and_assoc, Int32.and_comm (nI n), ← Int32.and_assoc, wq_15 f g n]
theorem wq_c (f g : Nat → Int32) : ∀ n, ∃ c, c ≤ n ∧ (wqK f g n).1 = nI c ∧ (c = 0 → (wqK f g n).2.1 = -9)
  | 0 => ⟨0, Nat.le_refl _, rfl, fun _ => rfl⟩
  | n + 1 => by
    obtain ⟨c, hc, e, e2⟩ := wq_c f g n
    rw [wqK]
    split
    · exact ⟨c, by omega, e, e2⟩
    · split
      · exact ⟨c, by omega, e, e2⟩
      · exact ⟨c + 1, by omega, by show (wqK f g n).1 + 1 = _; rw [e]; exact nI_add c 1, fun q => by omega⟩
theorem wh_wq {F : Int32 → Int32} {f g : Nat → Int32} (h : ∀ j, j < 16 → (F (nI j) = 0 ↔ (f j = 0 ∨ g j = 0))) : ∀ n, n ≤ 16 →
    (wqK f g n).1 + (whK F (16 - n)).1 = (whK F 16).1 ∧ (if (wqK f g n).1 = 0 then (whK F (16 - n)).2.1 else (wqK f g n).2.1) = (whK F 16).2.1 ∧ (wqK f g n).2.2 &&& (whK F (16 - n)).2.2 = (whK F 16).2.2
  | 0, _ => by
    refine ⟨?_, ?_, ?_⟩
    · show (0 : Int32) + _ = _; rw [Int32.zero_add]
    · show (if (0 : Int32) = 0 then _ else _) = _; rw [if_pos rfl]
    · show (15 : Int32) &&& _ = _; rw [Int32.and_comm]; exact wh_15 F 16
  | n + 1, hn => by
    obtain ⟨i1, i2, i3⟩ := wh_wq h n (by omega)
    rw [show 16 - n = (15 - n) + 1 from by omega, whK, show 15 - (15 - n) = n from by omega] at i1 i2 i3
    rw [show 16 - (n + 1) = 15 - n from by omega, wqK]
    by_cases hF : F (nI n) = 0
    · rw [if_pos hF] at i1 i2 i3
      by_cases hf : f n = 0
      · rw [if_pos hf]; exact ⟨i1, i2, i3⟩
      · rw [if_neg hf, if_pos (((h n (by omega)).mp hF).resolve_left hf)]; exact ⟨i1, i2, i3⟩
    · rw [if_neg hF] at i1 i2 i3
      have hf : ¬ f n = 0 := fun q => hF ((h n (by omega)).mpr (Or.inl q))
      have hg : ¬ g n = 0 := fun q => hF ((h n (by omega)).mpr (Or.inr q))
      rw [if_neg hf, if_neg hg]
      obtain ⟨c, hc, ec, -⟩ := wq_c f g n
      refine ⟨?_, ?_, ?_⟩
      · rw [← i1]
        show (wqK f g n).1 + 1 + (whK F (15 - n)).1 = (wqK f g n).1 + ((whK F (15 - n)).1 + 1)
        rw [Int32.add_assoc, Int32.add_comm 1]
      · rw [← i2]
        show (if (wqK f g n).1 + 1 = 0 then _ else (if (wqK f g n).1 = 0 then nI n else (wqK f g n).2.1)) = (if (wqK f g n).1 = 0 then nI n else (wqK f g n).2.1)
        rw [if_neg]
        rw [ec, show nI c + 1 = nI (c + 1) from nI_add c 1]
        exact nI_ne0 (by omega) (by omega)
      · rw [← i3]
        show ((wqK f g n).2.2 &&& nI n) &&& (whK F (15 - n)).2.2 = (wqK f g n).2.2 &&& ((whK F (15 - n)).2.2 &&& nI n)
        rw [Int32.and_assoc, Int32.and_comm (nI n)]
theorem whR_eq {F : Int32 → Int32} {f g : Nat → Int32} (h : ∀ j, j < 16 → (F (nI j) = 0 ↔ (f j = 0 ∨ g j = 0))) (what : Int32) : whR F what = wqR f g what := by
  obtain ⟨i1, i2, i3⟩ := wh_wq h 16 (by omega)
  obtain ⟨c, hc, ec, e9⟩ := wq_c f g 16
  have k1 : (wqK f g 16).1 = (whK F 16).1 := by rw [← i1]; show _ = _ + (0 : Int32); rw [Int32.add_zero]
  have k3 : (wqK f g 16).2.2 = (whK F 16).2.2 := by rw [← i3]; show _ = _ &&& (15 : Int32); rw [wq_15]
  have k2 : (wqK f g 16).2.1 = (whK F 16).2.1 := by
    rw [← i2]
    split
    · rename_i q
      show _ = (-9 : Int32)
      apply e9
      rw [ec] at q
      exact Nat.eq_zero_of_not_pos (fun p => nI_ne0 p (by omega) q)
    · rfl
  have k9 : (whK F 16).1 = 0 → (whK F 16).2.1 = -9 := by
    intro q
    rw [← k2]
    apply e9
    rw [← k1, ec] at q
    exact Nat.eq_zero_of_not_pos (fun p => nI_ne0 p (by omega) q)
  unfold whR wqR
  rw [k1, k2, k3]
  by_cases h0 : inI what 0 2 = 0
  · rw [if_pos h0, if_pos h0]
  · rw [if_neg h0, if_neg h0]
    by_cases hw : what = 0
    · rw [if_pos hw, if_pos hw]
    · rw [if_neg hw, if_neg hw]
      by_cases hz : (whK F 16).1 = 0
      · rw [if_pos hz, if_pos hz, k9 hz]; split <;> rfl
      · rw [if_neg hz, if_neg hz]
theorem which_eq {N C z1 z2 : Nat} {L V C1 C2 : NV} {r w bi to ti ro ri : Nat → Int32} (hN : N ≤ 7) (hC : C ≤ 4) (h : nwR N C V r) (hv : ∀ i, i < N → bi i = L 0 i) (ht : toO N z1 (C1 0) (C1 1) to ti) (hr2 : toO 5 z2 (C2 0) (C2 1) ro ri) (what : Int32) : whR (asI N C z1 z2 L V C1 C2) what = wqR (ftM (cpA w r 25) to ti N z1) (grM (cpA w r 25) bi ro ri N C z2) what := by
  apply whR_eq
  intro j hj
  have hi : ∀ i, i < N → upd (cpA w r 25) 22 (nI j) i = V 0 i := fun i hi => by rw [pk_un (by omega), cpA_in w r 25 i (by omega), h.1 i hi]
  have hnm : nmO (V 0) N C := fun i hi => by rw [h.1 i hi]; exact h.2.2.2.2.2.2.2.1 i hi
  have e1 := it_ag (s := C1 0) (t := C1 1) (to := to) (ti := ti) (r := upd (cpA w r 25) 22 (nI j)) hN hC hnm hi (show _ = V 3 0 by rw [pk_un (by omega), cpA_in w r 25 21 (by omega), h.2.2.2.1]) pk_us z1 ht
  have e2 := ir_ag (s := C2 0) (t := C2 1) (ro := ro) (ri := ri) (f := V 0) (fv := L 0) (bi := bi) (r := upd (cpA w r 25) 22 (nI j)) (la := nI j) hN hC (fun i hi2 => by rw [hi i hi2]; exact hnm i hi2) (fun i hi2 => (hi i hi2).symm) hv pk_us z2 hr2
  unfold asI ftM grM
  rw [e1, e2]
  by_cases q : itM (upd (cpA w r 25) 22 (nI j)) to ti N z1 = 0
  · rw [if_pos q]; exact ⟨fun _ => Or.inl q, fun _ => rfl⟩
  · rw [if_neg q]; exact ⟨fun e => Or.inr e, fun e => e.resolve_left q⟩
/-- least terms -/
theorem cd_gcd : ∀ n k x y, n ≤ 31 → x < 2 ^ 31 → y < 2 ^ n → cdL (2 * n + 1 + k) (nI x) (nI y) = nI (Nat.gcd x y)
  | 0, k, x, y, _, _, hy => by
    have : y = 0 := by simp at hy; exact hy
    subst this
    rw [show nI 0 = 0 from rfl, cdL_0, Nat.gcd_zero_right]
  | n + 1, k, x, y, hn, hx, hy => by
    have h31 : y < 2 ^ 31 := Nat.lt_of_lt_of_le hy (Nat.pow_le_pow_right (by decide) hn)
    rw [show 2 * (n + 1) + 1 + k = (2 * n + 1 + k) + 1 + 1 from by omega]
    by_cases h0 : y = 0
    · subst h0
      rw [show nI 0 = 0 from rfl, cdL_0, Nat.gcd_zero_right]
    · rw [cdL, if_neg (nI_ne0 (by omega) h31), pk_rem hx (by omega) h31]
      have hr : x % y < y := Nat.mod_lt _ (by omega)
      by_cases h1 : x % y = 0
      · rw [h1, show nI 0 = 0 from rfl, cdL_0, Nat.gcd_comm, Nat.gcd_rec, h1, Nat.gcd_zero_left]
      · rw [cdL, if_neg (nI_ne0 (by omega) (by omega)), pk_rem h31 (by omega) (by omega)]
        have hr2 : y % (x % y) < x % y := Nat.mod_lt _ (by omega)
        have hr3 : y % (x % y) ≤ y - x % y := by
          have := Nat.div_add_mod y (x % y)
          have h5 : 1 ≤ y / (x % y) := (Nat.le_div_iff_mul_le (by omega)).mpr (by omega)
          have h6 : x % y * 1 ≤ x % y * (y / (x % y)) := Nat.mul_le_mul_left _ h5
          omega
        rw [Nat.pow_succ] at hy
        rw [cd_gcd n k (x % y) (y % (x % y)) (by omega) (by omega) (by omega)]
        congr 1
        rw [Nat.gcd_comm (x % y), ← Nat.gcd_rec, ← Nat.gcd_rec, Nat.gcd_comm]
theorem cd_64 {x y : Nat} (hx : x < 2 ^ 31) (hy : y < 2 ^ 31) : cdL 64 (nI x) (nI y) = nI (Nat.gcd x y) := cd_gcd 31 1 x y (Nat.le_refl _) hx hy
theorem il_eq {x y : Nat} (hx : x < 2 ^ 31) (hy : y < 2 ^ 31) (h0 : 0 < x ∨ 0 < y) : ilI (nI x) (nI y) = nI x / nI (Nat.gcd x y) := by
  have hg : 0 < Nat.gcd x y := Nat.gcd_pos_iff.mpr h0
  have hl : Nat.gcd x y < 2 ^ 31 := by
    rcases h0 with h | h
    · exact Nat.lt_of_le_of_lt (Nat.gcd_le_left y h) hx
    · exact Nat.lt_of_le_of_lt (Nat.gcd_le_right x h) hy
  unfold ilI
  rw [cd_64 hx hy, if_pos (show (1 : Int32) ≤ nI (Nat.gcd x y) from (nI_leI (a := 1) (by decide) hl).mpr hg)]
theorem sm_0 {r : Nat → Int32} {F : Nat} : ∀ {n : Nat}, n ≤ 32 → smO r F 0 n = 0
  | 0, _ => rfl
  | n + 1, h => by
    rw [smO, sm_0 (by omega)]
    show _ + (if bitI 0 (nI n) = 1 then _ else 0) = _
    rw [(bi_0 (by omega)).mpr (b_0 n), if_neg (by decide), Int32.add_zero]
theorem in_2 {wh : Int32} (h : ¬ inI wh 0 2 = 0) : wh = 0 ∨ wh = 1 ∨ wh = 2 := by
  obtain ⟨j, hj, e⟩ := inI_nat (n := 3) (by decide) h
  rcases (show j = 0 ∨ j = 1 ∨ j = 2 by omega) with rfl | rfl | rfl
  · exact Or.inl e
  · exact Or.inr (Or.inl e)
  · exact Or.inr (Or.inr e)
theorem in_no {wh lo hi x : Int32} (h : inI wh lo hi = 0) (hx : ¬ inI x lo hi = 0) : ¬ wh = x := fun e => by subst e; exact hx h
theorem name_eq {N C : Nat} {V : NV} {r : Nat → Int32} (hN : N ≤ 7) (h : nwR N C V r) (k wh : Int32) : naR N C V k wh = naM r N C k wh := by
  unfold naR naM
  by_cases hk : inI k 0 (nI C - 1) = 0
  · rw [if_pos hk, if_pos hk]
  · rw [if_neg hk, if_neg hk, br_pp, pp_cong k (f := r) (fun i hi => h.1 i hi)]
    by_cases hw : inI wh 0 2 = 0
    · rw [if_pos hw, if_neg (in_no hw (by decide)), if_neg (in_no hw (by decide)), if_neg (in_no hw (by decide))]
    · rw [if_neg hw]
      have hwo : wo (ppO r k N) (V 1) N = smO r 7 (ppO r k N) N := wo_sm (F := 7) _ (by omega) (fun i hi => (h.2.1 i hi).symm)
      rw [hwo]
      have h7 : s7 (ppO r k N) := fun i hi => pp_out hN i (by omega)
      rw [bc_on h7]
      obtain ⟨s, hs, es⟩ := sm_nat h.2.2.2.2.2.2.2.2.1 (ppO r k N) N hN
      by_cases hS : ppO r k N = 0
      · rw [hS, sm_0 (by omega), show onI 0 7 = 0 from by decide +kernel, show mx1 0 = 1 from by decide +kernel]
        rcases in_2 hw with rfl | rfl | rfl <;> decide +kernel
      · obtain ⟨o, o1, o2, o3⟩ := on_nat2 hN hS
        have c1 : (nI s).toNatClampNeg = s := nI_clamp (by omega)
        have c2 : (nI o).toNatClampNeg = o := nI_clamp (by omega)
        rw [if_neg hS, es, o3, mx1_n o1 o2, il_eq (by omega) (by omega) (Or.inr o1), il_eq (by omega) (by omega) (Or.inl o1), c1, c2]
        unfold paR
        rcases in_2 hw with rfl | rfl | rfl
        · rw [if_pos rfl, if_pos rfl]
        · rw [if_neg (by decide), if_pos rfl, if_neg (by decide), if_pos (by decide)]
        · rw [if_neg (by decide), if_neg (by decide), if_pos rfl, if_neg (by decide), if_neg (by decide), Nat.gcd_comm]
/-- odds: by numbers -/
def odN (C E B : Nat) : Nat → Nat
  | 0 => 0
  | i + 1 => odN C E B i + (if pcN i < B then 0 else (C - 1) ^ (E - pcN i))
theorem odM_nat {C E v o : Nat} (hC : C ≤ 4) (hC1 : 1 ≤ C) (ho : o ≤ 7) (hv : v ≤ 20) : ∀ n, odM (nI o) C E v n = nI (odN C E (v - o) n)
  | 0 => rfl
  | n + 1 => by
    rw [odM, odN, odM_nat hC hC1 ho hv n, show nI C - 1 = nI (C - 1) from pk_sub (a := C) (b := 1) hC1, pwI_nat, nI_add]
    have hp := pc_le n
    have hq : (nI (o + pcN n) < nI v) ↔ pcN n < v - o := by rw [nI_ltI (by omega) (by omega)]; omega
    by_cases h : pcN n < v - o
    · rw [if_pos (hq.mpr h), if_pos h, Int32.add_zero, Nat.add_zero]
    · rw [if_neg (fun q => h (hq.mp q)), if_neg h, nI_add]
def chN (E k : Nat) : Nat → Nat
  | 0 => 1
  | j + 1 => chN E k j * (E - k + (j + 1)) / (j + 1)
def crN (C E B : Nat) : Nat → Nat
  | 0 => 0
  | j + 1 => crN C E B j + chN E (B + j) (B + j) * (C - 1) ^ (E - (B + j))
theorem ch_b : ∀ E, E < 7 → ∀ k, k < 7 → k ≤ E → ∀ j, j ≤ k → chN E k j ≤ 1000 := by decide +kernel
theorem chI_nat {E k : Nat} (hE : E < 7) (hk : k ≤ E) : ∀ j, j ≤ k → chI (nI E) (nI k) j = nI (chN E k j)
  | 0, _ => rfl
  | j + 1, h => by
    have hb := ch_b E hE k (by omega) hk j (by omega)
    rw [chI, chN, chI_nat hE hk j (by omega), pk_sub hk, nI_add, pk_mul]
    have h2 : chN E k j * (E - k + (j + 1)) ≤ 1000 * 100 := Nat.mul_le_mul hb (by omega)
    exact pk_div (by omega) (by omega) (by omega)
theorem crI_nat {C E B : Nat} (hC1 : 1 ≤ C) (hE : E < 7) : ∀ j, B + j ≤ E + 1 → crI C E B j = nI (crN C E B j)
  | 0, _ => rfl
  | j + 1, h => by
    rw [crI, crN, crI_nat hC1 hE j (by omega), chI_nat hE (by omega) _ (Nat.le_refl _), show nI C - 1 = nI (C - 1) from pk_sub (a := C) (b := 1) hC1, pwI_nat, pk_mul, nI_add]
theorem od_fin : ∀ C, C < 5 → 1 ≤ C → ∀ E, E < 7 → ∀ B, B < 8 → odN C E B (2 ^ E) = crN C E B (E + 1 - B) ∧ odN C E B (2 ^ E) ≤ 4096 := by decide +kernel
theorem od_big {C E B : Nat} (hB : 7 < B) : ∀ n, odN C E B n = 0
  | 0 => rfl
  | n + 1 => by
    have := pc_le n
    rw [odN, od_big hB n, if_pos (by omega)]
theorem od_all {C E B : Nat} (hC : C ≤ 4) (hC1 : 1 ≤ C) (hE : E < 7) : odN C E B (2 ^ E) = crN C E B (E + 1 - B) ∧ odN C E B (2 ^ E) ≤ 4096 := by
  rcases Nat.lt_or_ge B 8 with h | h
  · exact od_fin C (by omega) hC1 E hE B h
  · rw [od_big (by omega), show E + 1 - B = 0 from by omega]; exact ⟨rfl, by omega⟩
theorem odds_eq {N C : Nat} {V : NV} {r : Nat → Int32} (hN : N ≤ 7) (hC : C ≤ 4) (hC1 : 1 ≤ C) (h : nwR N C V r) (k n v wh : Int32) : odR N C V k n v wh = odMr r N C k n v wh := by
  unfold odR odMr
  by_cases hc : ¬ inI k 0 (nI C - 1) = 0 ∧ ¬ inI n 0 6 = 0 ∧ ¬ inI v 0 20 = 0 ∧ ¬ inI wh 0 1 = 0
  · rw [if_pos hc, if_pos hc, br_pp, pp_cong k (f := r) (fun i hi => h.1 i hi)]
    obtain ⟨-, h1, h2, h3⟩ := hc
    obtain ⟨E, hE, rfl⟩ := inI_nat (n := 7) (by decide) h1
    obtain ⟨W, hW, rfl⟩ := inI_nat (n := 21) (by decide) h2
    obtain ⟨j, hj, rfl⟩ := inI_nat (n := 2) (by decide) h3
    have h7 : s7 (ppO r k N) := fun i hi => pp_out hN i (by omega)
    obtain ⟨m, hm, em⟩ := s7_nat h7
    rw [em, bc_nat m hm, on_nat m hm]
    have hp := pc_le m
    rw [show (nI E).toNatClampNeg = E from nI_clamp (by omega), show (nI W).toNatClampNeg = W from nI_clamp (by omega), show (nI (pcN m)).toNatClampNeg = pcN m from nI_clamp (by omega), pwI_nat, odM_nat hC hC1 hp (by omega)]
    obtain ⟨o1, o2⟩ := od_all (B := W - pcN m) hC hC1 hE
    have hcr : crI C E (W - pcN m) (E + 1 - (W - pcN m)) = nI (crN C E (W - pcN m) (E + 1 - (W - pcN m))) := by
      rcases Nat.lt_or_ge (E + 1) (W - pcN m) with q | q
      · rw [show E + 1 - (W - pcN m) = 0 from by omega]; rfl
      · exact crI_nat hC1 hE _ (by omega)
    rw [hcr, ← o1, show (nI (odN C E (W - pcN m) (2 ^ E))).toNatClampNeg = odN C E (W - pcN m) (2 ^ E) from nI_clamp (by omega)]
    have hl := cpw (C := C) (e := E) hC hE
    have hl0 : 0 < C ^ E := Nat.pow_pos hC1
    rw [il_eq (by omega) (by omega) (Or.inr hl0), il_eq (by omega) (by omega) (Or.inl hl0)]
    unfold paR
    split
    · rfl
    · rw [Nat.gcd_comm]
  · rw [if_neg hc, if_neg hc]
