/-! the pure layer: cheapest, restless, alone, bad ones, votes, who, which -/
theorem cpA_in (f g : Nat → Int32) : ∀ n i, i < n → cpA f g n i = g i
  | 0, i, h => absurd h (Nat.not_lt_zero i)
  | n + 1, i, h => by
    rw [cpA]
    by_cases e : i = n
    · subst e; exact pk_us
    · rw [pk_un e]; exact cpA_in f g n i (by omega)
theorem tb_P {w s : Nat → Int32} {P : Nat} {k : Int32} : tbW w s P k P = k := pk_us
theorem tb_i {w s : Nat → Int32} {P i : Nat} {k : Int32} (h : i ≠ P) (hi : i < 25) : tbW w s P k i = s i := by
  unfold tbW; rw [pk_un h, cpA_in w s 25 i hi]
/-- what of a Now and of the reference's row is alike -/
def nwR (N C : Nat) (V : NV) (r : Nat → Int32) : Prop :=
  (∀ i, i < N → V 0 i = r i) ∧ (∀ i, i < N → V 1 i = r (7 + i)) ∧ (∀ i, i < N → V 2 i = r (14 + i)) ∧ V 3 0 = r 21 ∧ V 3 1 = r 22 ∧ V 3 2 = r 23 ∧ V 3 3 = r 24 ∧
  nmO r N C ∧ wOk r ∧ (∀ i, i < N → ∃ d, d ≤ 99 ∧ r (14 + i) = nI d) ∧ (∀ i, N ≤ i → bt (r 21) i = false) ∧ (∃ l, l < 16 ∧ r 22 = nI l) ∧ (∃ c, c ≤ 999999 ∧ r 23 = nI c) ∧ ∃ y, y ≤ 999 ∧ r 24 = nI y
theorem tx_s {N C : Nat} {V : NV} {r : Nat → Int32} (hN : N ≤ 7) (h : nwR N C V r) {P : Nat} (hP : P < N) : txI (V 0) (V 1) N (V 3 1) P (V 0 P) = txM r N P := by
  obtain ⟨w, hw, e⟩ := h.2.2.2.2.2.2.2.2.1 P (by omega)
  exact tx_eq (w := w) hN hP (fun i hi _ => (h.1 i hi).symm) (h.1 P hP).symm (fun i hi => (h.2.1 i hi).symm) h.2.2.2.2.1.symm (by rw [h.2.1 P hP, e]) (by omega)
theorem tx_w {N C : Nat} {V : NV} {r : Nat → Int32} (hN : N ≤ 7) (h : nwR N C V r) {P : Nat} (hP : P < N) (w : Nat → Int32) (k : Int32) : txI (V 0) (V 1) N (V 3 1) P k = txM (tbW w r P k) N P := by
  obtain ⟨x, hx, e⟩ := h.2.2.2.2.2.2.2.2.1 P (by omega)
  refine tx_eq (w := x) hN hP (fun i hi hne => ?_) tb_P (fun i hi => ?_) ?_ (by rw [h.2.1 P hP, e]) (by omega)
  · rw [tb_i hne (by omega)]; exact (h.1 i hi).symm
  · rw [tb_i (by omega) (by omega)]; exact (h.2.1 i hi).symm
  · rw [tb_i (by omega) (by omega)]; exact h.2.2.2.2.1.symm
theorem ch_eq {N C : Nat} {V : NV} {r : Nat → Int32} (hN : N ≤ 7) (h : nwR N C V r) {P : Nat} (hP : P < N) (w : Nat → Int32) : ∀ j, (coM r w N P j).1 = chp (txI (V 0) (V 1) N (V 3 1) P) j
  | 0 => rfl
  | j + 1 => by
    have ih := ch_eq hN h hP w j
    rw [coM, chp]
    show (if txM _ N P < txM _ N P then _ else _) = _
    rw [← tx_w hN h hP, ← tx_w hN h hP, ih]
theorem rs_eq {N C : Nat} {V : NV} {r : Nat → Int32} (hN : N ≤ 7) (h : nwR N C V r) (w : Nat → Int32) : ∀ n, n ≤ N → (rsM r w N C n).1 = rsl (txI (V 0) (V 1) N (V 3 1)) (V 0) C n
  | 0, _ => rfl
  | n + 1, hn => by
    have ih := rs_eq hN h w n (by omega)
    rw [rsM, rsl]
    show (rsM r w N C n).1 ||| (if txM r N n ≤ txM _ N n then _ else _) = _
    rw [← tx_w hN h (show n < N by omega), ch_eq hN h (show n < N by omega), ih, ← tx_s hN h (show n < N by omega)]
    by_cases q : txI (V 0) (V 1) N (V 3 1) n (chp (txI (V 0) (V 1) N (V 3 1) n) (C - 1)) < txI (V 0) (V 1) N (V 3 1) n (V 0 n)
    · rw [if_pos q, if_neg (Int32.not_le.mpr q)]
    · rw [if_neg q, if_pos (Int32.not_lt.mp q), Int32.or_zero]
/-- alone -/
theorem alo_fin : ∀ m, m < 128 → ∀ P, P < 7 → bt (nI m) P = true → (bcI (nI m) = 1 ↔ nI m = ((1 : Int32) <<< (nI P &&& 31))) := by decide +kernel
theorem b_alo {f : Nat → Int32} {N P c : Nat} (hN : N ≤ 7) (hP : P < N) (hc : c < 1000) (e : f P = nI c) : ∀ n, n ≤ 1000 → bt (alo f N n) P = (decide (c < n) && decide (bcI (ppO f (nI c) N) = 1))
  | 0, _ => by rw [alo, b_0]; simp
  | k + 1, hk => by
    rw [alo, br_pp]
    have ih := b_alo hN hP hc e k (by omega)
    by_cases hck : c = k
    · subst hck
      by_cases h0 : bcI (ppO f (nI c) N) = 1
      · rw [if_pos h0, b_or, ih, b_pp (by omega) hN]; simp [h0, hP, e]
      · rw [if_neg h0, ih]; simp [h0]
    · have hne : ¬ f P = nI k := by rw [e]; exact fun q => hck ((nI_eq (by omega) (by omega)).mp q)
      have hd : decide (c < k + 1) = decide (c < k) := by
        rw [Bool.eq_iff_iff]
        simp only [decide_eq_true_eq]
        omega
      by_cases h0 : bcI (ppO f (nI k) N) = 1
      · rw [if_pos h0, b_or, ih, b_pp (by omega) hN, hd, decide_eq_false hne, Bool.and_false, Bool.or_false]
      · rw [if_neg h0, ih, hd]
theorem alo_out {f : Nat → Int32} {N : Nat} (hN : N ≤ 7) : ∀ n i, N ≤ i → bt (alo f N n) i = false
  | 0, i, _ => b_0 i
  | k + 1, i, h => by
    rw [alo, br_pp]
    split
    · rw [b_or, alo_out hN k i h, pp_out hN i h]; rfl
    · exact alo_out hN k i h
theorem aloM_orF (r : Nat → Int32) (N : Nat) : ∀ n, aloM r N n = orF (fun i => decide (ppO r (r i) N = ((1 : Int32) <<< (nI i &&& 31)))) n
  | 0 => rfl
  | n + 1 => by
    rw [aloM, orF, aloM_orF r N n]
    by_cases h : ppO r (r n) N = ((1 : Int32) <<< (nI n &&& 31)) <;> simp [h]
theorem alo_eq {f r : Nat → Int32} {N C : Nat} (hN : N ≤ 7) (hC : C ≤ 4) (hf : nmO r N C) (hr : ∀ i, i < N → f i = r i) : alo f N C = aloM r N N := by
  apply b_ext
  intro i hi
  rw [aloM_orF, b_orF hi (by omega)]
  by_cases hP : i < N
  · obtain ⟨c, hc, e⟩ := hf i hP
    rw [b_alo (c := c) hN hP (by omega) (by rw [hr i hP, e]) C (by omega), decide_eq_true hc, decide_eq_true hP, Bool.true_and, Bool.true_and, e, pp_cong (nI c) hr]
    obtain ⟨m, hm, em⟩ := s7_nat (x := ppO r (nI c) N) (fun i hi => pp_out hN i (by omega))
    have hb : bt (ppO r (nI c) N) i = true := by rw [b_pp hi hN, decide_eq_true hP, decide_eq_true e]; rfl
    rw [em] at hb ⊢
    have := alo_fin m hm i (by omega) hb
    rw [Bool.eq_iff_iff]
    simp only [decide_eq_true_eq]
    exact this
  · rw [decide_eq_false hP, Bool.false_and]
    exact alo_out hN C i (by omega)
/-- bad ones -/
def sm (f : Nat → Nat) : Nat → Nat
  | 0 => 0
  | n + 1 => sm f n + f n
theorem sm_cong {f g : Nat → Nat} : ∀ {n : Nat}, (∀ k, k < n → f k = g k) → sm f n = sm g n
  | 0, _ => rfl
  | n + 1, h => by rw [sm, sm, sm_cong (fun k hk => h k (by omega)), h n (by omega)]
theorem sm_add (f g : Nat → Nat) : ∀ n, sm (fun k => f k + g k) n = sm f n + sm g n
  | 0 => rfl
  | n + 1 => by rw [sm, sm, sm, sm_add f g n]; omega
theorem sm_le {f : Nat → Nat} {c : Nat} : ∀ {n : Nat}, (∀ k, k < n → f k ≤ c) → sm f n ≤ c * n
  | 0, _ => Nat.le_refl _
  | n + 1, h => by
    have h1 := sm_le (f := f) (c := c) (n := n) (fun k hk => h k (by omega))
    have h2 := h n (by omega)
    rw [sm, Nat.mul_succ]
    omega
theorem ct_sm (p : Nat → Bool) : ∀ n, ct p n = sm (fun k => if p k then 1 else 0) n
  | 0 => rfl
  | n + 1 => by rw [ct, sm, ct_sm p n]
/-- of a symmetric relation with none to itself: all pairs are twice those upward -/
theorem sym2 {a : Nat → Nat → Bool} (hs : ∀ p q, a p q = a q p) (h0 : ∀ p, a p p = false) : ∀ n, sm (fun p => ct (a p) n) n = 2 * sm (fun p => ct (fun j => a p (p + 1 + j)) (n - (p + 1))) n
  | 0 => rfl
  | n + 1 => by
    have ih := sym2 hs h0 n
    have e1 : sm (fun p => ct (a p) (n + 1)) n = sm (fun p => ct (a p) n) n + ct (a n) n := by
      rw [ct_sm (a n) n, ← sm_add]
      apply sm_cong
      intro k _
      show ct (a k) n + _ = _
      rw [hs k n]
    have e2 : sm (fun p => ct (fun j => a p (p + 1 + j)) (n + 1 - (p + 1))) n = sm (fun p => ct (fun j => a p (p + 1 + j)) (n - (p + 1))) n + ct (a n) n := by
      rw [ct_sm (a n) n, ← sm_add]
      apply sm_cong
      intro k hk
      show ct _ (n + 1 - (k + 1)) = _
      rw [show n + 1 - (k + 1) = (n - (k + 1)) + 1 from by omega, ct]
      show _ + (if a k (k + 1 + (n - (k + 1))) = true then 1 else 0) = _
      rw [show k + 1 + (n - (k + 1)) = n from by omega, hs k n]
    rw [sm, e1, ih, sm, e2]
    show _ + _ + ct (a n) (n + 1) = _
    rw [ct, h0 n, show n + 1 - (n + 1) = 0 from by omega]
    show _ + _ + (_ + 0) = 2 * (_ + _ + 0)
    omega
def bdA (fo nm : Nat → Int32) (p q : Nat) : Bool := bt (fo p) q && decide (nm p = nm q)
theorem boI_ct (fo nm : Nat → Int32) (P : Nat) (t : Nat) : ∀ j, P + 1 + j ≤ 32 → boI fo nm P (nI t) j = nI (t + ct (fun i => bdA fo nm P (P + 1 + i)) j)
  | 0, _ => rfl
  | j + 1, h => by
    rw [boI, boI_ct fo nm P t j (by omega), ct]
    show (if bitI (fo P) (nI (P + 1 + j)) = 1 then _ else _) = nI (t + (_ + (if bdA fo nm P (P + 1 + j) = true then 1 else 0)))
    unfold bdA
    rw [bi_bt _ (by omega)]
    cases bt (fo P) (P + 1 + j)
    · rw [if_neg (by decide)]; rfl
    · rw [if_pos rfl, Bool.true_and]
      by_cases h2 : nm P = nm (P + 1 + j)
      · rw [if_pos h2, decide_eq_true h2, if_pos rfl]; exact nI_add _ 1
      · rw [if_neg h2, decide_eq_false h2]; rfl
theorem boO_sm (fo nm : Nat → Int32) (N : Nat) (hN : N ≤ 7) : ∀ n, n ≤ N → boO fo nm N n = nI (sm (fun p => ct (fun j => bdA fo nm p (p + 1 + j)) (N - (p + 1))) n)
  | 0, _ => rfl
  | n + 1, h => by rw [boO, boO_sm fo nm N hN n (by omega), boI_ct fo nm n _ _ (by omega)]; rfl
theorem boM_sm {fo nm r qu : Nat → Int32} {N : Nat} (hN : N ≤ 7) (hr : ∀ i, i < N → nm i = r i) (hq : ∀ i, i < N → fo i = qu i) : ∀ n, n ≤ N → boM r qu N n = nI (sm (fun p => ct (bdA fo nm p) N) n)
  | 0, _ => rfl
  | n + 1, h => by
    rw [boM, boM_sm hN hr hq n (by omega), on_ct _ 7 (by omega), nI_add, sm]
    congr 2
    rw [ct_to hN (fun k hk => by rw [b_and, pp_out hN k hk, Bool.and_false])]
    apply ct_cong
    intro k hk
    unfold bdA
    rw [b_and, b_pp (by omega) hN, decide_eq_true hk, Bool.true_and, hq n (by omega), hr n (by omega), hr k hk]
    congr 1
    rw [Bool.eq_iff_iff]
    simp only [decide_eq_true_eq]
    exact eq_comm
theorem bad_eq {fo nm r qu : Nat → Int32} {N : Nat} (hN : N ≤ 7) (hr : ∀ i, i < N → nm i = r i) (hq : ∀ i, i < N → fo i = qu i) (hs : ∀ p q, p < N → q < N → bt (fo p) q = bt (fo q) p) (h0 : ∀ p, p < N → bt (fo p) p = false) : boO fo nm N N = boM r qu N N / 2 := by
  rw [boO_sm fo nm N hN N (Nat.le_refl _), boM_sm hN hr hq N (Nat.le_refl _)]
  have e := sym2 (a := fun p q => decide (p < N) && decide (q < N) && bdA fo nm p q) (fun p q => ?_) (fun p => ?_) N
  · have e1 : sm (fun p => ct (bdA fo nm p) N) N = sm (fun p => ct (fun q => decide (p < N) && decide (q < N) && bdA fo nm p q) N) N := by
      apply sm_cong; intro p hp; apply ct_cong; intro q hq2
      simp [hp, hq2]
    have e2 : sm (fun p => ct (fun j => bdA fo nm p (p + 1 + j)) (N - (p + 1))) N = sm (fun p => ct (fun j => decide (p < N) && decide (p + 1 + j < N) && bdA fo nm p (p + 1 + j)) (N - (p + 1))) N := by
      apply sm_cong; intro p hp; apply ct_cong; intro j hj
      have : p + 1 + j < N := by omega
      simp [hp, this]
    have hb : sm (fun p => ct (bdA fo nm p) N) N ≤ 7 * N := sm_le (fun k _ => Nat.le_trans (ct_le _ N) hN)
    rw [e1] at hb ⊢
    rw [e2]
    have hd := pk_div (a := sm (fun p => ct (fun q => decide (p < N) && decide (q < N) && bdA fo nm p q) N) N) (d := 2) (by omega) (by decide) (by decide)
    refine Eq.trans ?_ hd.symm
    congr 1

    omega
  · by_cases hp : p < N
    · by_cases hq2 : q < N
      · have hx : bdA fo nm p q = bdA fo nm q p := by
          unfold bdA
          rw [hs p q hp hq2]
          congr 1
          rw [Bool.eq_iff_iff]
          simp only [decide_eq_true_eq]
          exact eq_comm
        show (decide (p < N) && decide (q < N) && bdA fo nm p q) = (decide (q < N) && decide (p < N) && bdA fo nm q p)
        rw [hx, Bool.and_comm (decide (p < N))]
      · simp [hq2]
    · simp [hp]
  · by_cases hp : p < N
    · show (decide (p < N) && decide (p < N) && bdA fo nm p p) = false
      unfold bdA
      rw [h0 p hp, Bool.false_and, Bool.and_false]
    · simp [hp]
/-- votes -/
theorem b_sy {fv : Nat → Int32} {b side : Int32} {i : Nat} (hi : i < 32) {n : Nat} (hn : n ≤ 32) : bt (sy fv b side n) i = (decide (i < n) && decide (bitI (fv i) b = side)) := by
  have e : ∀ n, sy fv b side n = orF (fun i => decide (bitI (fv i) b = side)) n := by
    intro n
    induction n with
    | zero => rfl
    | succ n ih =>
      rw [sy, orF, ih]
      by_cases h : bitI (fv n) b = side <;> simp [h]
  rw [e, b_orF hi hn]
def yeA (fv : Nat → Int32) (b : Nat) (i : Nat) : Bool := bt (fv i) b
theorem sy_y {fv : Nat → Int32} {b : Nat} (hb : b < 32) {i N : Nat} (hi : i < 32) (hN : N ≤ 32) : bt (sy fv (nI b) 1 N) i = (decide (i < N) && yeA fv b i) := by
  rw [b_sy hi hN, yeA, bi_bt _ hb]
  cases bt (fv i) b <;> simp
theorem sy_n {fv : Nat → Int32} {b : Nat} (hb : b < 32) {i N : Nat} (hi : i < 32) (hN : N ≤ 32) : bt (sy fv (nI b) 0 N) i = (decide (i < N) && !yeA fv b i) := by
  rw [b_sy hi hN, yeA, bi_bt _ hb]
  cases bt (fv i) b <;> simp
/-- the reference's lead: those for it less the others -/
theorem ld_ct {fv bi : Nat → Int32} {b : Nat} (hb : b < 32) (g : Int32) : ∀ {n : Nat}, n ≤ 7 → (∀ i, i < n → bi i = fv i) → ldO bi g (nI b) n = nI (ct (fun i => bt g i && yeA fv b i) n) - nI (ct (fun i => bt g i && !yeA fv b i) n)
  | 0, _, _ => by show (0 : Int32) = nI 0 - nI 0; decide +kernel
  | n + 1, hn, h => by
    rw [ldO, ld_ct hb g (by omega) (fun i hi => h i (by omega)), h n (by omega), ct, ct]
    show _ + (if bitI g (nI n) = 0 then 0 else if bitI (fv n) (nI b) = 1 then 1 else -1) = _
    rw [bi_bt g (by omega), bi_bt _ hb]
    show _ + _ = nI (_ + (if (bt g n && bt (fv n) b) = true then 1 else 0)) - nI (_ + (if (bt g n && !bt (fv n) b) = true then 1 else 0))
    cases bt g n
    · rw [if_pos (by decide)]; simp
    · rw [if_neg (by decide)]
      cases bt (fv n) b
      · rw [if_neg (by decide), if_neg (by decide), if_pos (by decide), ← nI_add _ 1, show nI 1 = 1 from rfl]; simp only [Nat.add_zero, Int32.sub_eq_add_neg, Int32.neg_add, Int32.add_assoc]
      · rw [if_pos (by decide), if_pos (by decide), if_neg (by decide), ← nI_add _ 1, show nI 1 = 1 from rfl]; simp only [Nat.add_zero, Int32.sub_eq_add_neg, Int32.add_assoc]; rw [Int32.add_comm 1]
theorem ld_le1 {a b : Nat} (ha : a ≤ 7) (hb : b ≤ 7) : (nI a - nI b) * 1 ≤ 0 ↔ a ≤ b := by
  rw [Int32.mul_one, Int32.le_iff_toInt_le, pk_sub_toInt (by omega) (by omega), show (0 : Int32).toInt = 0 from by decide]; omega
theorem ld_le2 : ∀ a, a < 8 → ∀ b, b < 8 → ((nI a - nI b) * (-1) ≤ 0 ↔ b ≤ a) := by decide +kernel
theorem ld_eq : ∀ a, a < 8 → ∀ b, b < 8 → (nI a - nI b = 1 ↔ a = b + 1) ∧ (nI a - nI b = -1 ↔ b = a + 1) := by decide +kernel
/-- one voice of a name -/
theorem vc1 {f : Nat → Int32} {N b : Nat} {fv : Nat → Int32} (hN : N ≤ 7) (hb : b < 32) (k : Int32) : bcI (br f k N &&& sy fv (nI b) 1 N) = nI (ct (fun i => bt (ppO f k N) i && yeA fv b i) N) ∧ bcI (br f k N &&& sy fv (nI b) 0 N) = nI (ct (fun i => bt (ppO f k N) i && !yeA fv b i) N) := by
  rw [br_pp]
  constructor
  · rw [bc_ct hN (fun i hi => by rw [b_and, pp_out hN i hi, Bool.false_and])]
    congr 1
    apply ct_cong
    intro i hi
    rw [b_and, sy_y hb (by omega) (by omega), decide_eq_true hi, Bool.true_and]
  · rw [bc_ct hN (fun i hi => by rw [b_and, pp_out hN i hi, Bool.false_and])]
    congr 1
    apply ct_cong
    intro i hi
    rw [b_and, sy_n hb (by omega) (by omega), decide_eq_true hi, Bool.true_and]
/-- by names: the class's votes and the reference's voices -/
theorem vK_eq {f r fv bi : Nat → Int32} {N b : Nat} {la am wi : Int32} (hN : N ≤ 7) (hb : b < 32) (hl : ¬ la &&& 2 = 0) (hr : ∀ i, i < N → f i = r i) (hv : ∀ i, i < N → bi i = fv i) (ham : ∀ i, i < N → bt am i = !decide (r i = wi)) : ∀ n,
    vt f N (sy fv (nI b) 1 N) (sy fv (nI b) 0 N) la wi n = vK r bi N (nI b) am 1 n ∧ vt f N (sy fv (nI b) 0 N) (sy fv (nI b) 1 N) la wi n = vK r bi N (nI b) am (-1) n
  | 0 => ⟨rfl, rfl⟩
  | k + 1 => by
    obtain ⟨ih1, ih2⟩ := vK_eq hN hb hl hr hv ham k
    have hld := ld_ct (fv := fv) (bi := bi) hb (ppO r (nI k) N &&& am) hN hv
    obtain ⟨v1, v2⟩ := vc1 (f := f) (fv := fv) hN hb (nI k)
    by_cases hw : nI k = wi
    · have z : ∀ (p : Nat → Bool), ct (fun i => bt (ppO r (nI k) N &&& am) i && p i) N = 0 := fun p => ct_no (fun i hi => by
        rw [b_and, b_pp (by omega) hN, ham i hi, ← hw]
        by_cases e : r i = nI k <;> simp [e])
      have hz : ldO bi (ppO r (nI k) N &&& am) (nI b) N = 0 := by rw [hld, z, z]; rfl
      rw [vt, vt, vK, vK, if_pos hw, if_pos hw, ih1, ih2, hz]
      exact ⟨by rw [if_pos (by decide), Int32.add_zero], by rw [if_pos (by decide), Int32.add_zero]⟩
    · have z : ∀ (p : Nat → Bool), ct (fun i => bt (ppO r (nI k) N &&& am) i && p i) N = ct (fun i => bt (ppO f (nI k) N) i && p i) N := fun p => ct_cong (fun i hi => by
        rw [b_and, b_pp (by omega) hN, b_pp (by omega) hN, ham i hi, hr i hi]
        by_cases e : r i = nI k
        · have : ¬ r i = wi := fun q => hw (by rw [← e, q])
          simp [e, hw]
        · simp [e])
      rw [z, z] at hld
      have q1 := ct_le (fun i => bt (ppO f (nI k) N) i && yeA fv b i) N
      have q2 := ct_le (fun i => bt (ppO f (nI k) N) i && !yeA fv b i) N
      rw [vt, vt, vK, vK, if_neg hw, if_neg hw, if_neg hl, if_neg hl, ih1, ih2, v1, v2, hld]
      constructor
      · congr 1
        by_cases q : ct (fun i => bt (ppO f (nI k) N) i && yeA fv b i) N ≤ ct (fun i => bt (ppO f (nI k) N) i && !yeA fv b i) N
        · rw [if_pos ((nI_leI (by omega) (by omega)).mpr q), if_pos ((ld_le1 (by omega) (by omega)).mpr q)]
        · rw [if_neg (fun h => q ((nI_leI (by omega) (by omega)).mp h)), if_neg (fun h => q ((ld_le1 (by omega) (by omega)).mp h))]
      · congr 1
        by_cases q : ct (fun i => bt (ppO f (nI k) N) i && !yeA fv b i) N ≤ ct (fun i => bt (ppO f (nI k) N) i && yeA fv b i) N
        · rw [if_pos ((nI_leI (by omega) (by omega)).mpr q), if_pos ((ld_le2 _ (by omega) _ (by omega)).mpr q)]
        · rw [if_neg (fun h => q ((nI_leI (by omega) (by omega)).mp h)), if_neg (fun h => q ((ld_le2 _ (by omega) _ (by omega)).mp h))]
/-- one by one: the reference -/
theorem ct_at {p : Nat → Bool} {i : Nat} : ∀ {n : Nat}, i < n → ct (fun j => decide (j = i) && p j) n = if p i then 1 else 0
  | 0, h => absurd h (Nat.not_lt_zero i)
  | n + 1, h => by
    rw [ct]
    by_cases e : i = n
    · subst e
      rw [ct_no (fun k hk => by rw [decide_eq_false (by omega), Bool.false_and])]
      simp
    · rw [ct_at (show i < n by omega), decide_eq_false (fun q => e q.symm), Bool.false_and]; rfl
theorem vP_eq {fv bi : Nat → Int32} {N b : Nat} {am : Int32} (hN : N ≤ 7) (hb : b < 32) (hv : ∀ i, i < N → bi i = fv i) : ∀ n, n ≤ N →
    vP bi N (nI b) am 1 n = nI (ct (fun i => bt am i && yeA fv b i) n) ∧ vP bi N (nI b) am (-1) n = nI (ct (fun i => bt am i && !yeA fv b i) n)
  | 0, _ => ⟨rfl, rfl⟩
  | n + 1, hn => by
    obtain ⟨ih1, ih2⟩ := vP_eq (am := am) hN hb hv n (by omega)
    have hld := ld_ct (fv := fv) (bi := bi) hb (am &&& ((1 : Int32) <<< (nI n &&& 31))) hN hv
    have z : ∀ (p : Nat → Bool), ct (fun i => bt (am &&& ((1 : Int32) <<< (nI n &&& 31))) i && p i) N = if (bt am n && p n) then 1 else 0 := fun p => by
      rw [← ct_at (p := fun i => bt am i && p i) (show n < N by omega)]
      apply ct_cong
      intro i hi
      rw [b_and, b_one (by omega) (by omega)]
      cases bt am i <;> cases p i <;> simp
    rw [z, z] at hld
    rw [vP, vP, ih1, ih2, hld, ct, ct]
    cases bt am n <;> cases yeA fv b n
    · exact ⟨by rw [if_neg (by decide)]; simp, by rw [if_neg (by decide)]; simp⟩
    · exact ⟨by rw [if_neg (by decide)]; simp, by rw [if_neg (by decide)]; simp⟩
    · exact ⟨by rw [if_neg (by decide)]; simp, by rw [if_pos (by decide)]; exact nI_add _ 1⟩
    · exact ⟨by rw [if_pos (by decide)]; exact nI_add _ 1, by rw [if_neg (by decide)]; simp⟩
/-- one by one: the class, name by name -/
theorem vt_ct {f fv : Nat → Int32} {N b : Nat} {la wi : Int32} (hN : N ≤ 7) (hb : b < 32) (hl : la &&& 2 = 0) : ∀ n, n < 1000 →
    vt f N (sy fv (nI b) 1 N) (sy fv (nI b) 0 N) la wi n = nI (ct (fun i => (List.range n).any (fun k => !decide (nI k = wi) && decide (f i = nI k)) && yeA fv b i) N) ∧ vt f N (sy fv (nI b) 0 N) (sy fv (nI b) 1 N) la wi n = nI (ct (fun i => (List.range n).any (fun k => !decide (nI k = wi) && decide (f i = nI k)) && !yeA fv b i) N)
  | 0, _ => by
    have z : ∀ (p : Nat → Bool), ct (fun i => (List.range 0).any (fun k => !decide (nI k = wi) && decide (f i = nI k)) && p i) N = 0 := fun p => ct_no (fun i _ => rfl)
    rw [z, z]; exact ⟨rfl, rfl⟩
  | k + 1, hk => by
    obtain ⟨ih1, ih2⟩ := vt_ct (fv := fv) hN hb hl k (by omega)
    obtain ⟨v1, v2⟩ := vc1 (f := f) (fv := fv) hN hb (nI k)
    by_cases hw : nI k = wi
    · have z : ∀ (p : Nat → Bool), ct (fun i => (List.range (k + 1)).any (fun k => !decide (nI k = wi) && decide (f i = nI k)) && p i) N = ct (fun i => (List.range k).any (fun k => !decide (nI k = wi) && decide (f i = nI k)) && p i) N := fun p => ct_cong (fun i _ => by
        rw [List.range_succ, List.any_append]; simp [hw])
      rw [vt, vt, if_pos hw, if_pos hw, ih1, ih2, z, z]; exact ⟨rfl, rfl⟩
    · have z : ∀ (p : Nat → Bool), ct (fun i => (List.range (k + 1)).any (fun k => !decide (nI k = wi) && decide (f i = nI k)) && p i) N = ct (fun i => (List.range k).any (fun k => !decide (nI k = wi) && decide (f i = nI k)) && p i) N + ct (fun i => bt (ppO f (nI k) N) i && p i) N := fun p => by
        rw [← ct_or]
        · apply ct_cong
          intro i hi
          rw [List.range_succ, List.any_append, b_pp (by omega) hN, decide_eq_true hi]
          simp [hw]
          cases p i <;> simp
        · intro i hi
          rintro ⟨h1, h2⟩
          rw [b_pp (by omega) hN, decide_eq_true hi, Bool.true_and] at h2
          simp only [Bool.and_eq_true, decide_eq_true_eq, List.any_eq_true, List.mem_range] at h1 h2
          obtain ⟨⟨j, hj, -, h3⟩, -⟩ := h1
          have := (nI_eq (a := j) (b := k) (by omega) (by omega)).mp (by rw [← h3, h2.1])
          omega
      rw [vt, vt, if_neg hw, if_neg hw, if_pos hl, if_pos hl, ih1, ih2, v1, v2, z, z, nI_add, nI_add]; exact ⟨rfl, rfl⟩
theorem vo_eq {f r fv bi : Nat → Int32} {N C b : Nat} {la am wi : Int32} (hN : N ≤ 7) (hC : C ≤ 4) (hb : b < 32) (hn : nmO r N C) (hr : ∀ i, i < N → f i = r i) (hv : ∀ i, i < N → bi i = fv i) (h2 : r 22 = la) (ham : ∀ i, i < N → bt am i = !decide (r i = wi)) :
    yesI fv f N C (nI b) la wi = voM r bi N C (nI b) am 1 ∧ noI fv f N C (nI b) la wi = voM r bi N C (nI b) am (-1) := by
  unfold yesI noI voM
  rw [h2]
  by_cases hl : la &&& 2 = 0
  · rw [if_pos hl, if_pos hl]
    obtain ⟨v1, v2⟩ := vt_ct (f := f) (fv := fv) (wi := wi) hN hb hl C (by omega)
    obtain ⟨w1, w2⟩ := vP_eq (am := am) hN hb hv N (Nat.le_refl _)
    rw [v1, v2, w1, w2]
    have z : ∀ (p : Nat → Bool), ct (fun i => (List.range C).any (fun k => !decide (nI k = wi) && decide (f i = nI k)) && p i) N = ct (fun i => bt am i && p i) N := fun p => ct_cong (fun i hi => by
      congr 1
      rw [ham i hi, hr i hi]
      obtain ⟨c, hc, e⟩ := hn i hi
      rw [Bool.eq_iff_iff]
      simp only [List.any_eq_true, List.mem_range, Bool.and_eq_true, decide_eq_true_eq, Bool.not_eq_true', decide_eq_false_iff_not]
      constructor
      · rintro ⟨k, -, h3, h4⟩; rw [h4]; exact h3
      · intro h3; exact ⟨c, hc, by rw [← e]; exact h3, e⟩)
    rw [z, z]; exact ⟨rfl, rfl⟩
  · rw [if_neg hl, if_neg hl]
    exact vK_eq hN hb hl hr hv ham C
theorem ps_eq {f r fv bi : Nat → Int32} {N C b : Nat} {la am wi : Int32} (hN : N ≤ 7) (hC : C ≤ 4) (hb : b < 32) (hn : nmO r N C) (hr : ∀ i, i < N → f i = r i) (hv : ∀ i, i < N → bi i = fv i) (h2 : r 22 = la) (ham : ∀ i, i < N → bt am i = !decide (r i = wi)) : psI fv f N C (nI b) la wi = psM r bi N C (nI b) am := by
  obtain ⟨v1, v2⟩ := vo_eq hN hC hb hn hr hv h2 ham
  unfold psI psM
  rw [v1, v2]
