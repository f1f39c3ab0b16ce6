/-! the pure layer: what the class's state and the reference's have in common -/
theorem nwR.cg {N C : Nat} {V V' : NV} {r r' : Nat → Int32} (hN : N ≤ 7) (h : nwR N C V r) (hr : ∀ i, i < 25 → r' i = r i) (hV : ∀ c, c < 3 → ∀ i, i < 7 → V' c i = V c i) (h3 : ∀ j, j < 4 → V' 3 j = V 3 j) : nwR N C V' r' := by
  obtain ⟨a1, a2, a3, a4, a5, a6, a7, b1, b2, b3, b4, b5, b6, b7⟩ := h
  refine ⟨fun i hi => ?_, fun i hi => ?_, fun i hi => ?_, ?_, ?_, ?_, ?_, fun i hi => ?_, fun i hi => ?_, fun i hi => ?_, fun i hi => ?_, ?_, ?_, ?_⟩
  · rw [hV 0 (by omega) i (by omega), hr i (by omega)]; exact a1 i hi
  · rw [hV 1 (by omega) i (by omega), hr (7 + i) (by omega)]; exact a2 i hi
  · rw [hV 2 (by omega) i (by omega), hr (14 + i) (by omega)]; exact a3 i hi
  · rw [h3 0 (by omega), hr 21 (by omega)]; exact a4
  · rw [h3 1 (by omega), hr 22 (by omega)]; exact a5
  · rw [h3 2 (by omega), hr 23 (by omega)]; exact a6
  · rw [h3 3 (by omega), hr 24 (by omega)]; exact a7
  · rw [hr i (by omega)]; exact b1 i hi
  · rw [hr (7 + i) (by omega)]; exact b2 i hi
  · rw [hr (14 + i) (by omega)]; exact b3 i hi
  · rw [hr 21 (by omega)]; exact b4 i hi
  · rw [hr 22 (by omega)]; exact b5
  · rw [hr 23 (by omega)]; exact b6
  · rw [hr 24 (by omega)]; exact b7
theorem cpN_c {U V : NV} : ∀ c, c < 3 → ∀ i, i < 7 → cpN U V c i = U c i := by
  intro c hc i hi
  rcases (show c = 0 ∨ c = 1 ∨ c = 2 by omega) with rfl | rfl | rfl
  · show va_cpy (U 0) (V 0) 0 0 7 i = _; rw [pk_cpy_in (by omega) (by omega), Nat.zero_add, Nat.sub_zero]
  · show va_cpy (U 1) (V 1) 0 0 7 i = _; rw [pk_cpy_in (by omega) (by omega), Nat.zero_add, Nat.sub_zero]
  · show va_cpy (U 2) (V 2) 0 0 7 i = _; rw [pk_cpy_in (by omega) (by omega), Nat.zero_add, Nat.sub_zero]
theorem cpN_3 {U V : NV} : ∀ j, j < 4 → cpN U V 3 j = U 3 j := by
  intro j hj
  rcases (show j = 0 ∨ j = 1 ∨ j = 2 ∨ j = 3 by omega) with rfl | rfl | rfl | rfl <;> rfl
theorem nwR.cp {N C : Nat} {U V : NV} {r r' : Nat → Int32} (hN : N ≤ 7) (h : nwR N C U r) (hr : ∀ i, i < 25 → r' i = r i) : nwR N C (cpN U V) r' := h.cg hN hr cpN_c cpN_3
theorem cpO_at (f g : Nat → Int32) (o : Nat) : ∀ n i, cpO f g o n i = if o ≤ i ∧ i < o + n then g (i - o) else f i
  | 0, i => by rw [cpO, if_neg (by omega)]
  | n + 1, i => by
    rw [cpO]
    by_cases e : i = o + n
    · subst e; rw [pk_us, if_pos (by omega)]; congr 1; omega
    · rw [pk_un e, cpO_at f g o n i]
      by_cases q : o ≤ i ∧ i < o + n
      · rw [if_pos q, if_pos (by omega)]
      · rw [if_neg q, if_neg (by omega)]
theorem cpR_at (f g : Nat → Int32) (o : Nat) : ∀ n i, i < n → cpR f g o n i = g (o + i)
  | 0, i, h => absurd h (Nat.not_lt_zero i)
  | n + 1, i, h => by
    rw [cpR]
    by_cases e : i = n
    · subst e; rw [pk_us]
    · rw [pk_un e]; exact cpR_at f g o n i (by omega)
theorem shF_at (f : Nat → Int32) : ∀ n i, shF f n i = if i < n then f (i + 25) else f i
  | 0, i => by rw [shF, if_neg (by omega)]
  | n + 1, i => by
    rw [shF]
    by_cases e : i = n
    · subst e; rw [pk_us, shF_at f i, if_neg (by omega), if_pos (by omega)]
    · rw [pk_un e, shF_at f n i]
      by_cases q : i < n
      · rw [if_pos q, if_pos (by omega)]
      · rw [if_neg q, if_neg (by omega)]
def rTx (T M : NV) (z : Nat) : Prop := T 1 0 = nI z ∧ z ≤ 200 ∧ M 0 1 = nI z ∧ T 0 = M 1 ∧ ltO (T 0) z
def rCt (L M : NV) (N C : Nat) : Prop := L 3 1 = nI N ∧ N ≤ 7 ∧ M 2 1 = nI N ∧ L 3 0 = nI C ∧ C ≤ 4 ∧ 1 ≤ C ∧ M 2 0 = nI C
def rLd (L M : NV) (N : Nat) : Prop := (∀ i, i < N → L 0 i = M 5 i) ∧ (∀ i, i < N → L 1 i = M 6 i) ∧ (∀ p q, p < N → q < N → bt (L 1 p) q = bt (L 1 q) p) ∧ ∀ p, p < N → bt (L 1 p) p = false
def rPs (S : NV) (R : Nat → NV) (M : NV) (N C k y : Nat) : Prop := S 0 0 = nI k ∧ k < 10 ∧ S 0 1 = nI y ∧ y ≤ 10 ∧ M 0 8 = nI y ∧ ∀ e, e < y → nwR N C (R ((k + 10 - y + e) % 10)) (fun i => M 11 (25 * e + i))
def rC1 (C1 M : NV) (N z1 : Nat) : Prop := C1 2 0 = nI z1 ∧ z1 ≤ 6 ∧ M 0 9 = nI z1 ∧ toO N z1 (C1 0) (C1 1) (M 12) (M 13)
def rC2 (C2 M : NV) (z2 : Nat) : Prop := C2 2 0 = nI z2 ∧ z2 ≤ 6 ∧ M 0 10 = nI z2 ∧ toO 5 z2 (C2 0) (C2 1) (M 14) (M 15)
def rIm (Im : Nat → NV) (K M : NV) (N C : Nat) : Prop := ∀ j, j < 2 → K 0 j = M 10 j ∧ (¬ K 0 j = 0 → nwR N C (Im j) (fun i => M 9 (25 * j + i)))
def Rel (T L V S : NV) (R : Nat → NV) (C1 C2 : NV) (Im : Nat → NV) (K M : NV) (z N C k y z1 z2 : Nat) : Prop := rTx T M z ∧ rCt L M N C ∧ rLd L M N ∧ nwR N C V (M 7) ∧ rPs S R M N C k y ∧ rC1 C1 M N z1 ∧ rC2 C2 M z2 ∧ rIm Im K M N C
/-- what is next, of both -/
def Nx (cI cZ cN : ClassId) (a b : Nat → Nat) (wc wm : va_W) (e : Prop) : Prop := ∃ (T Q Ld Vd L V S : NV) (R : Nat → NV) (C1 C2 Rn Wd : NV) (Im : Nat → NV) (K : NV) (tr : Int64) (M : NV) (z N C k y z1 z2 : Nat), Rel T L V S R C1 C2 Im K M z N C k y z1 z2 ∧ wc = pOne cI cZ cN a T Q Ld Vd L V S R C1 C2 Rn Wd Im K tr ∧ wm = pMod cI cZ b M tr ∧ e
theorem Rel.nx {cI cZ cN : ClassId} {a b : Nat → Nat} {T Q Ld Vd L V S : NV} {R : Nat → NV} {C1 C2 Rn Wd : NV} {Im : Nat → NV} {K : NV} {tr : Int64} {M : NV} {z N C k y z1 z2 : Nat} (h : Rel T L V S R C1 C2 Im K M z N C k y z1 z2) {wc wm : va_W} {e : Prop} (hc : wc = pOne cI cZ cN a T Q Ld Vd L V S R C1 C2 Rn Wd Im K tr) (hm : wm = pMod cI cZ b M tr) (he : e) : Nx cI cZ cN a b wc wm e := ⟨T, Q, Ld, Vd, L, V, S, R, C1, C2, Rn, Wd, Im, K, tr, M, z, N, C, k, y, z1, z2, h, hc, hm, he⟩
theorem upR_k {R : Nat → NV} {k : Nat} {v : NV} : upR R k v k = v := by unfold upR; rw [Nat.beq_refl]; rfl
theorem upR_n {R : Nat → NV} {k j : Nat} {v : NV} (h : j ≠ k) : upR R k v j = R j := by
  unfold upR
  rw [show Nat.beq j k = false from by cases hq : Nat.beq j k; rfl; exact absurd (Nat.eq_of_beq_eq_true hq) h]; rfl
/-- what is known is remembered -/
theorem rPs.rem {S : NV} {R : Nat → NV} {M M' V : NV} {N C k y : Nat} (hN : N ≤ 7) (h : rPs S R M N C k y) (hv : nwR N C V (M 7)) (h11 : M' 11 = noU (M 11) (M 7) y) (h8 : M' 0 8 = nI (noN y)) : rPs (pastS S (nI ((k + 1) % 10)) (nI (min 10 (y + 1)))) (upR R k (cpN V (R k))) M' N C ((k + 1) % 10) (min 10 (y + 1)) := by
  obtain ⟨h1, h2, h3, h4, h5, h6⟩ := h
  have hno : noN y = min 10 (y + 1) := by
    unfold noN
    split
    · rename_i q; subst q; rfl
    · omega
  refine ⟨rfl, by omega, rfl, by omega, by rw [h8, hno], fun e he => ?_⟩
  rw [h11]
  unfold noU
  by_cases h10 : y = 10
  · rw [if_pos h10]
    subst h10
    have hm : min 10 (10 + 1) = 10 := by decide
    rw [hm] at he ⊢
    by_cases e9 : e = 9
    · subst e9
      rw [show ((k + 1) % 10 + 10 - 10 + 9) % 10 = k from by omega, upR_k]
      refine hv.cp hN (fun i hi => ?_)
      rw [cpO_at, if_pos (by omega), show 25 * 9 + i - 25 * 9 = i from by omega]
    · rw [show ((k + 1) % 10 + 10 - 10 + e) % 10 = (k + 10 - 10 + (e + 1)) % 10 from by omega, upR_n (by omega)]
      refine (h6 (e + 1) (by omega)).cg hN (fun i hi => ?_) (fun _ _ _ _ => rfl) (fun _ _ => rfl)
      show cpO _ _ _ _ (25 * e + i) = M 11 (25 * (e + 1) + i)
      rw [cpO_at, if_neg (by omega), shF_at, if_pos (by omega)]; congr 1; omega
  · rw [if_neg h10]
    have hm : min 10 (y + 1) = y + 1 := by omega
    rw [hm] at he ⊢
    by_cases ey : e = y
    · subst ey
      rw [show ((k + 1) % 10 + 10 - (e + 1) + e) % 10 = k from by omega, upR_k]
      refine hv.cp hN (fun i hi => ?_)
      rw [cpO_at, if_pos (by omega)]; congr 1; omega
    · rw [show ((k + 1) % 10 + 10 - (y + 1) + e) % 10 = (k + 10 - y + e) % 10 from by omega, upR_n (by omega)]
      refine (h6 e (by omega)).cg hN (fun i hi => ?_) (fun _ _ _ _ => rfl) (fun _ _ => rfl)
      show cpO _ _ _ _ (25 * e + i) = M 11 (25 * e + i)
      rw [cpO_at, if_neg (by omega)]
theorem hu_out {x p1 : Int32} {N P : Nat} (hN : N ≤ 7) (hP : P < N) (h : ∀ i, N ≤ i → bt x i = false) (h1 : p1 = 0 ∨ p1 = 1) : ∀ i, N ≤ i → bt ((x &&& (((1 : Int32) <<< (nI P &&& 31)) ^^^ (-1))) ||| (p1 <<< (nI P &&& 31))) i = false := by
  intro i hi
  rw [b_or, b_and, h i hi, Bool.false_and, Bool.false_or]
  rcases h1 with rfl | rfl
  · by_cases q : i < 32
    · rw [b_shl P (by omega) 0 q, b_0, Bool.and_false]
    · exact b_big (by omega)
  · exact one_out hP (by omega) i hi
theorem in_1 {x : Int32} (h : ¬ inI x 0 1 = 0) : x = 0 ∨ x = 1 := by
  obtain ⟨j, hj, e⟩ := inI_nat (n := 2) (by decide) h
  rcases (show j = 0 ∨ j = 1 by omega) with rfl | rfl
  · exact Or.inl e
  · exact Or.inr e
/-- earnings -/
theorem ea_eq {w : Nat} {n : Int32} (hw : w ≤ 999) (hn : ¬ inI n (-99) 99 = 0) : eaX (nI w) n = eaM (nI w) n ∧ ∃ x, x ≤ 999 ∧ eaM (nI w) n = nI x := by
  obtain ⟨h1, h2⟩ := inI_1 hn
  have h3 := Int32.le_iff_toInt_le.mp h1
  have h4 := Int32.le_iff_toInt_le.mp h2
  rw [show (-99 : Int32).toInt = -99 from by decide] at h3
  rw [show (99 : Int32).toInt = 99 from by decide] at h4
  have hs : (nI w + n).toInt = (w : Int) + n.toInt := by
    rw [Int32.toInt_add, nI_toInt (by omega)]
    exact Int.bmod_eq_of_le (by omega) (by omega)
  unfold eaX eaM
  obtain ⟨s, es⟩ : ∃ s, s = nI w + n := ⟨_, rfl⟩
  rw [← es] at hs ⊢
  have c0 : (0 ≤ s) ↔ (0 : Int) ≤ s.toInt := by rw [Int32.le_iff_toInt_le]; exact Iff.rfl
  have c9 : (s ≤ 999) ↔ s.toInt ≤ 999 := by rw [Int32.le_iff_toInt_le]; exact Iff.rfl
  have d0 : (0 < s) ↔ (0 : Int) < s.toInt := by rw [Int32.lt_iff_toInt_lt]; exact Iff.rfl
  have d9 : (s < 999) ↔ s.toInt < 999 := by rw [Int32.lt_iff_toInt_lt]; exact Iff.rfl
  by_cases q0 : 0 ≤ s
  · rw [if_pos q0]
    obtain ⟨j, hj, ej⟩ := nI_of (x := s) (Int32.not_lt.mpr q0)
    rw [ej, nI_toInt hj] at c9 d9 d0
    rw [ej]
    by_cases q9 : nI j ≤ 999
    · rw [if_pos q9]
      refine ⟨?_, j, by have := c9.mp q9; omega, rfl⟩
      by_cases r9 : nI j < 999
      · rw [if_pos r9]
        by_cases r0 : 0 < nI j
        · rw [if_pos r0]
        · rw [if_neg r0]
          have : j = 0 := Nat.eq_zero_of_not_pos (fun q => r0 (d0.mpr (by omega)))
          rw [this]; rfl
      · rw [if_neg r9, if_pos (by decide)]
        have : j = 999 := by
          have h5 := c9.mp q9
          have h6 : ¬ (j : Int) < 999 := fun q => r9 (d9.mpr q)
          omega
        rw [this]; rfl
    · rw [if_neg q9]
      refine ⟨?_, 999, by omega, rfl⟩
      rw [if_neg (show ¬ nI j < 999 from fun r => q9 (c9.mpr (by have := d9.mp r; omega))), if_pos (by decide)]
  · rw [if_neg q0]
    have hneg : s.toInt < 0 := by
      have : ¬ (0 : Int) ≤ s.toInt := fun q => q0 (c0.mpr q)
      omega
    refine ⟨?_, 0, by omega, rfl⟩
    rw [if_pos (show s < 999 from d9.mpr (by omega)), if_neg (show ¬ 0 < s from fun r => by have := d0.mp r; omega)]
