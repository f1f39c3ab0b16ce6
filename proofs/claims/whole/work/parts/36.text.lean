/-! the pure layer: the text, read by the class and by the reference -/
def tkR (k v m u : Int32) : Prop := (k = 257 ∧ m = 0) ∨ (k = 256 ∧ m = 2 ∧ v = u) ∨ (k = 59 ∧ m = 3) ∨ ((k = 110 ∨ k = 112 ∨ k = 113 ∨ k = 108) ∧ m = 1 ∧ u = k) ∨ ((¬ k = 257 ∧ ¬ k = 256 ∧ ¬ k = 59 ∧ ¬ k = 110 ∧ ¬ k = 112 ∧ ¬ k = 113 ∧ ¬ k = 108) ∧ m = 4)
/-- letters -/
def ltO (X : Nat → Int32) (z : Nat) : Prop := ∀ j, j < z → ∃ n, n < 256 ∧ X j = nI n
theorem dg_is {x : Int32} (h : ¬ inI x 48 57 = 0) : ∃ d, d ≤ 9 ∧ x = nI (48 + d) := by
  obtain ⟨h1, h2⟩ := inI_1 h
  have h3 := Int32.le_iff_toInt_le.mp h1
  have h4 := Int32.le_iff_toInt_le.mp h2
  rw [show (48 : Int32).toInt = 48 from by decide] at h3
  rw [show (57 : Int32).toInt = 57 from by decide] at h4
  obtain ⟨j, hj, e⟩ := nI_of (x := x) (fun q => by have := Int32.lt_iff_toInt_lt.mp q; rw [show (0 : Int32).toInt = 0 from by decide] at this; omega)
  rw [e, nI_toInt hj] at h3 h4
  exact ⟨j - 48, by omega, by rw [e]; congr 1; omega⟩
theorem dv_big {X : Nat → Int32} {z : Nat} {v : Int32} (h : 99 < v) : ∀ f p, dvM X z f p v = v
  | 0, _ => rfl
  | f + 1, p => by
    rw [dvM]
    split
    · rw [if_neg (Int32.not_le.mpr h)]; exact dv_big h f (p + 1)
    · rfl
theorem dv_st {v d : Nat} : (10 : Int32) * nI v + nI (48 + d) - 48 = nI (10 * v + d) := by
  rw [show (10 : Int32) * nI v = nI (10 * v) from pk_mul 10 v, nI_add, show nI (10 * v + (48 + d)) - 48 = nI (10 * v + (48 + d)) - nI 48 from rfl, pk_sub (by omega)]
  congr 1
  omega
theorem dc_st {v d : Nat} : nI v * 10 + nI (48 + d) - 48 = nI (10 * v + d) := by rw [Int32.mul_comm]; exact dv_st
theorem nl {a : Nat} (h : a < 2 ^ 31) (b : Nat) (hb : b < 2 ^ 31) : (nI a ≤ nI b) ↔ a ≤ b := nI_leI h hb
/-- a number's token -/
theorem num_tk {X : Nat → Int32} {z s : Nat} (hz : z ≤ 200) (hs : s < z) (hd : ¬ inI (X s) 48 57 = 0) :
    (tkT X s (dgE X z (z - s) s) = 256 ∧ tkM X s (dgE X z (z - s) s) (dvM X z (z - s) s 0) = 2 ∧ dgV X z (z - s) s 0 = dvM X z (z - s) s 0) ∨ (tkT X s (dgE X z (z - s) s) = 258 ∧ tkM X s (dgE X z (z - s) s) (dvM X z (z - s) s 0) = 4) := by
  obtain ⟨d0, hd0, e0⟩ := dg_is hd
  have hc : (s < z ∧ inI (X s) 48 57 ≠ 0) := ⟨hs, hd⟩
  have q0 : z - s = (z - (s + 1)) + 1 := by omega
  have c48 : X s = 48 ↔ d0 = 0 := by
    rw [e0, show (48 : Int32) = nI 48 from rfl, nI_eq (by omega) (by decide)]; omega
  have z10 : (0 : Int32) * 10 + X s - 48 = nI d0 := by rw [e0]; have := dc_st (v := 0) (d := d0); rw [Nat.mul_zero, Nat.zero_add] at this; exact this
  have z11 : (10 : Int32) * 0 + X s - 48 = nI d0 := by rw [e0]; have := dv_st (v := 0) (d := d0); rw [Nat.mul_zero, Nat.zero_add] at this; exact this
  rw [q0, dgE, dgV, dvM, if_pos hc, if_pos hc, if_pos hc, if_pos (by decide), z10, z11]
  by_cases hc1 : (s + 1 < z ∧ inI (X (s + 1)) 48 57 ≠ 0)
  · obtain ⟨d1, hd1, e1⟩ := dg_is hc1.2
    rw [show z - (s + 1) = (z - (s + 2)) + 1 from by omega, dgE, dgV, dvM, if_pos hc1, if_pos hc1, if_pos hc1, if_pos (show nI d0 ≤ 99 from (nI_leI (a := d0) (b := 99) (by omega) (by decide)).mpr (by omega)), e1, dc_st, dv_st]
    by_cases hc2 : (s + 1 + 1 < z ∧ inI (X (s + 1 + 1)) 48 57 ≠ 0)
    · obtain ⟨d2, hd2, e2⟩ := dg_is hc2.2
      have hle := dgE_le X z (z - (s + 2 + 1)) (s + 1 + 1 + 1) (by omega)
      rw [show z - (s + 2) = (z - (s + 2 + 1)) + 1 from by omega, dgE, dgV, dvM, if_pos hc2, if_pos hc2, if_pos hc2, if_pos (show nI (10 * d0 + d1) ≤ 99 from (nI_leI (a := 10 * d0 + d1) (b := 99) (by omega) (by decide)).mpr (by omega)), e2, dc_st, dv_st]
      right
      obtain ⟨E, hE⟩ : ∃ E, E = dgE X z (z - (s + 2 + 1)) (s + 1 + 1 + 1) := ⟨_, rfl⟩
      rw [← hE] at hle ⊢
      unfold tkT tkM
      rw [if_pos (show (2 : Int32) < nI (E - s) from (nI_ltI (a := 2) (b := E - s) (by decide) (by omega)).mpr (by omega))]
      refine ⟨rfl, ?_⟩
      by_cases h48 : d0 = 0
      · rw [if_pos (c48.mpr h48), if_neg (show ¬ nI (E - s) ≤ 1 from fun q => by have := (nI_leI (a := E - s) (b := 1) (by omega) (by decide)).mp q; omega)]
        split <;> rfl
      · have h99 : (99 : Int32) < nI (10 * (10 * d0 + d1) + d2) := (nI_ltI (a := 99) (b := 10 * (10 * d0 + d1) + d2) (by decide) (by omega)).mpr (by omega)
        rw [dv_big h99, if_pos h99]
    · rw [dgE_stop _ _ _ _ hc2, dgV_stop _ _ _ _ _ hc2, dvM_stop _ _ _ _ _ hc2]
      unfold tkT tkM
      rw [show s + 1 + 1 - s = 2 from by omega, if_neg (show ¬ (2 : Int32) < nI 2 by decide), if_neg (show ¬ nI 2 ≤ 1 by decide), if_neg (show ¬ nI 2 ≤ 1 by decide), if_neg (show ¬ (99 : Int32) < nI (10 * d0 + d1) from fun q => by have := (nI_ltI (a := 99) (b := 10 * d0 + d1) (by decide) (by omega)).mp q; omega)]
      by_cases h48 : d0 = 0
      · right; rw [if_pos (c48.mpr h48), if_pos (c48.mpr h48)]; exact ⟨rfl, rfl⟩
      · left; rw [if_neg (fun q => h48 (c48.mp q)), if_neg (fun q => h48 (c48.mp q))]; exact ⟨rfl, rfl, rfl⟩
  · rw [dgE_stop _ _ _ _ hc1, dgV_stop _ _ _ _ _ hc1, dvM_stop _ _ _ _ _ hc1]
    left
    unfold tkT tkM
    rw [show s + 1 - s = 1 from by omega, if_neg (show ¬ (2 : Int32) < nI 1 by decide), if_pos (show nI 1 ≤ 1 by decide), if_pos (show nI 1 ≤ 1 by decide), if_neg (show ¬ (99 : Int32) < nI d0 from fun q => by have := (nI_ltI (a := 99) (b := d0) (by decide) (by omega)).mp q; omega)]
    refine ⟨rfl, ?_, rfl⟩
    split <;> rfl
/-- the lexical part, ahead of a token and with one -/
def rQ0 (X : Nat → Int32) (z : Nat) (σ : PS) (M : NV) : Prop := M 1 = X ∧ M 0 1 = nI z ∧ M 0 2 = nI σ.1 ∧ σ.1 ≤ z ∧ M 0 6 = -1 ∧ M 0 7 = σ.2.1 0 4
def rQ (X : Nat → Int32) (z : Nat) (σ : PS) (M : NV) : Prop := rQ0 X z σ M ∧ (∃ s, s ≤ z ∧ σ.2.1 0 1 = nI s ∧ M 0 4 = nI s) ∧ tkR (σ.2.1 0 2) (σ.2.1 0 3) (M 0 3) (M 0 5)
theorem ch_tk {n : Nat} (h : n < 256) {v : Int32} : tkR (nI n) v (tcM (nI n)) (nI n) := by
  have e : ∀ k : Nat, k < 1000 → (nI n = nI k ↔ n = k) := fun k hk => nI_eq (by omega) (by omega)
  have e59 : nI n = (59 : Int32) ↔ n = 59 := e 59 (by omega)
  have e110 : nI n = (110 : Int32) ↔ n = 110 := e 110 (by omega)
  have e112 : nI n = (112 : Int32) ↔ n = 112 := e 112 (by omega)
  have e113 : nI n = (113 : Int32) ↔ n = 113 := e 113 (by omega)
  have e108 : nI n = (108 : Int32) ↔ n = 108 := e 108 (by omega)
  have e257 : nI n = (257 : Int32) ↔ n = 257 := e 257 (by omega)
  have e256 : nI n = (256 : Int32) ↔ n = 256 := e 256 (by omega)
  unfold tkR tcM
  by_cases h1 : nI n = 59
  · rw [if_pos h1]; exact Or.inr (Or.inr (Or.inl ⟨h1, rfl⟩))
  · rw [if_neg h1]
    by_cases h2 : nI n = 110
    · rw [if_pos h2]; exact Or.inr (Or.inr (Or.inr (Or.inl ⟨Or.inl h2, rfl, rfl⟩)))
    · rw [if_neg h2]
      by_cases h3 : nI n = 112
      · rw [if_pos h3]; exact Or.inr (Or.inr (Or.inr (Or.inl ⟨Or.inr (Or.inl h3), rfl, rfl⟩)))
      · rw [if_neg h3]
        by_cases h4 : nI n = 113
        · rw [if_pos h4]; exact Or.inr (Or.inr (Or.inr (Or.inl ⟨Or.inr (Or.inr (Or.inl h4)), rfl, rfl⟩)))
        · rw [if_neg h4]
          by_cases h5 : nI n = 108
          · rw [if_pos h5]; exact Or.inr (Or.inr (Or.inr (Or.inl ⟨Or.inr (Or.inr (Or.inr h5)), rfl, rfl⟩)))
          · rw [if_neg h5]
            exact Or.inr (Or.inr (Or.inr (Or.inr ⟨⟨fun q => by have := e257.mp q; omega, fun q => by have := e256.mp q; omega, h1, h2, h3, h4, h5⟩, rfl⟩)))
theorem rQ_next {T : NV} {z : Nat} {σ : PS} {M : NV} (hz : z ≤ 200) (hX : ltO (T 0) z) (h : rQ0 (T 0) z σ M) : rQ (T 0) z (nT T z σ) (adM z M) := by
  obtain ⟨h1, h2, h3, h4, h5, h6⟩ := h
  have hp : pM M = σ.1 := by unfold pM; rw [h3]; exact nI_clamp (by omega)
  have hs := skB_le (T 0) z (z - σ.1) σ.1 h4
  obtain ⟨s, es⟩ : ∃ s, s = skB (T 0) z (z - σ.1) σ.1 := ⟨_, rfl⟩
  rw [← es] at hs
  have ep : (nT T z σ).1 = ntP1 (T 0) z s := by rw [nT, ← es]
  have eQ : (nT T z σ).2.1 = ntQ1 (T 0) z σ.2.1 s := by rw [nT, ← es]
  have m2 : adM z M 0 2 = nI (ntP1 (T 0) z s) := by unfold adM; rw [hp, h1, ← es]; rfl
  have m3 : adM z M 0 3 = adT (T 0) z s := by unfold adM; rw [hp, h1, ← es]; rfl
  have m4 : adM z M 0 4 = nI s := by unfold adM; rw [hp, h1, ← es]; rfl
  have m5 : adM z M 0 5 = adV (T 0) z s (M 0 5) := by unfold adM; rw [hp, h1, ← es]; rfl
  refine ⟨⟨h1, h2, by rw [m2, ep], by rw [ep]; exact ntP1_le _ _ _ hs.2, h5, ?_⟩, ⟨s, hs.2, ?_, m4⟩, ?_⟩
  · show M 0 7 = _
    rw [eQ, h6]
    unfold ntQ1
    split
    · split <;> rfl
    · rfl
  · rw [eQ]
    unfold ntQ1
    split
    · split <;> rfl
    · rfl
  · rw [eQ, m3, m5]
    unfold ntQ1 adT adV
    by_cases hsz : s < z
    · rw [if_pos hsz, if_pos hsz, if_pos hsz]
      by_cases hd : inI (T 0 s) 48 57 = 0
      · rw [if_pos hd, if_pos hd, if_pos hd]
        obtain ⟨n, hn, en⟩ := hX s hsz
        show tkR (T 0 s) (σ.2.1 0 3) (tcM (T 0 s)) (T 0 s)
        rw [en]
        exact ch_tk hn
      · rw [if_neg hd, if_neg hd, if_neg hd]
        show tkR (tkT (T 0) s (dgE (T 0) z (z - s) s)) (dgV (T 0) z (z - s) s 0) _ _
        rcases num_tk hz hsz hd with ⟨t1, t2, t3⟩ | ⟨t1, t2⟩
        · rw [t1, t2, t3]; exact Or.inr (Or.inl ⟨rfl, rfl, rfl⟩)
        · rw [t1, t2]; exact Or.inr (Or.inr (Or.inr (Or.inr ⟨by decide, rfl⟩)))
    · rw [if_neg hsz, if_neg hsz, if_neg hsz]
      exact Or.inl ⟨rfl, rfl⟩
theorem num_eq {Q M : NV} (h : tkR (Q 0 2) (Q 0 3) (M 0 3) (M 0 5)) (lo hi : Int32) : rnR Q lo hi = nuB M lo hi := by
  unfold rnR nuB
  rcases h with ⟨a, b⟩ | ⟨a, b, c⟩ | ⟨a, b⟩ | ⟨a, b, -⟩ | ⟨⟨-, a, -⟩, b⟩
  · rw [a, b, if_neg (by decide), if_neg (by decide)]
  · rw [a, b, c, if_pos rfl, if_pos rfl]
  · rw [a, b, if_neg (by decide), if_neg (by decide)]
  · rw [b, if_neg (show ¬ (1 : Int32) = 2 by decide)]; rcases a with a | a | a | a <;> rw [a, if_neg (by decide)]
  · rw [b, if_neg a, if_neg (by decide)]
theorem end_eq {Q M : NV} (h : tkR (Q 0 2) (Q 0 3) (M 0 3) (M 0 5)) : isE Q = (if M 0 3 = 3 then 1 else 0) := by
  unfold isE
  rcases h with ⟨a, b⟩ | ⟨a, b, c⟩ | ⟨a, b⟩ | ⟨a, b, -⟩ | ⟨⟨-, -, a, -⟩, b⟩
  · rw [a, b, if_neg (by decide), if_neg (by decide)]
  · rw [a, b, if_neg (by decide), if_neg (by decide)]
  · rw [a, b, if_pos rfl, if_pos rfl]
  · rw [b, if_neg (show ¬ (1 : Int32) = 3 by decide)]; rcases a with a | a | a | a <;> rw [a, if_neg (by decide)]
  · rw [b, if_neg a, if_neg (by decide)]
/-- the told part -/
def rD (n C : Nat) (L V M : NV) : Prop := (L 3 0 = nI C ∧ M 2 3 = nI C ∧ 1 ≤ C ∧ C ≤ 4) ∧ (L 3 1 = nI n ∧ M 2 4 = nI n ∧ n ≤ 7) ∧ (M 2 5 = V 3 1 ∧ (∃ l, l < 16 ∧ V 3 1 = nI l) ∧ V 3 0 = 0 ∧ V 3 2 = 0 ∧ V 3 3 = 0) ∧
  (∀ i, i < n → M 3 i = V 0 i ∧ M 4 i = V 1 i ∧ M 5 (7 + i) = L 0 i ∧ V 2 i = 0 ∧ (∃ c, c < C ∧ V 0 i = nI c) ∧ ∃ w, w ≤ 99 ∧ V 1 i = nI w) ∧
  (∀ i, i < n → M 6 (7 + i) = L 1 i) ∧ (∀ i, n ≤ i → i < 7 → M 6 (7 + i) = 0) ∧ (∀ p q, p < n → q < n → bt (L 1 p) q = bt (L 1 q) p) ∧ (∀ p, p < n → bt (L 1 p) p = false) ∧ ∀ p, p < n → ∀ q, n ≤ q → bt (L 1 p) q = false
/-- what reading leaves in the reference -/
def fMo (A M : NV) : Prop := M 1 = A 1 ∧ M 0 1 = A 0 1 ∧ M 0 8 = A 0 8 ∧ M 0 9 = A 0 9 ∧ M 0 10 = A 0 10 ∧ M 2 0 = A 2 0 ∧ M 2 1 = A 2 1 ∧ (∀ i, i < 7 → M 5 i = A 5 i ∧ M 6 i = A 6 i) ∧ ∀ c, 7 ≤ c → M c = A c
def RR (A : NV) (X : Nat → Int32) (z n C : Nat) (σ : PS) (M : NV) : Prop := rQ X z σ M ∧ rD n C σ.2.2.1 σ.2.2.2 M ∧ fMo A M
def FL (A : NV) (σ : PS) (M : NV) : Prop := (∃ s, s ≤ 200 ∧ σ.2.1 0 1 = nI s ∧ M 0 6 = nI s) ∧ ¬ M 0 6 < 0 ∧ fMo A M
theorem ad_row (z : Nat) (M : NV) {c : Nat} (hc : c ≠ 0) : adM z M c = M c := by
  have hb : Nat.beq c 0 = false := by cases c; exact absurd rfl hc; rfl
  unfold adM upA; rw [hb]; rfl
theorem fMo_ad {A : NV} {z : Nat} {M : NV} (h : fMo A M) : fMo A (adM z M) := by
  obtain ⟨h1, h2, h3, h4, h5, h6, h7, h8, h9⟩ := h
  exact ⟨h1, h2, h3, h4, h5, h6, h7, h8, fun c hc => by rw [ad_row z M (by omega)]; exact h9 c hc⟩
theorem fMo_06 {A : NV} {M : NV} {x : Int32} (h : fMo A M) : fMo A (upA M 0 (upd (M 0) 6 x)) := by
  obtain ⟨h1, h2, h3, h4, h5, h6, h7, h8, h9⟩ := h
  refine ⟨h1, h2, h3, h4, h5, h6, h7, h8, fun c hc => ?_⟩
  have hb : Nat.beq c 0 = false := by cases c; omega; rfl
  unfold upA; rw [hb]; exact h9 c hc
theorem fMo_up {A : NV} {M : NV} {c : Nat} {f : Nat → Int32} (h : fMo A M) (hc : c = 3 ∨ c = 4) : fMo A (upA M c f) := by
  obtain ⟨h1, h2, h3, h4, h5, h6, h7, h8, h9⟩ := h
  rcases hc with rfl | rfl
  · refine ⟨h1, h2, h3, h4, h5, h6, h7, h8, fun c hc => ?_⟩
    rw [show upA M 3 f c = M c from by unfold upA; rw [show Nat.beq c 3 = false from by cases hq : Nat.beq c 3; rfl; have := Nat.eq_of_beq_eq_true hq; omega]; rfl]; exact h9 c hc
  · refine ⟨h1, h2, h3, h4, h5, h6, h7, h8, fun c hc => ?_⟩
    rw [show upA M 4 f c = M c from by unfold upA; rw [show Nat.beq c 4 = false from by cases hq : Nat.beq c 4; rfl; have := Nat.eq_of_beq_eq_true hq; omega]; rfl]; exact h9 c hc
theorem upA_ne {M : NV} {c k : Nat} {f : Nat → Int32} (h : k ≠ c) : upA M c f k = M k := by
  unfold upA; rw [show Nat.beq k c = false from by cases hq : Nat.beq k c; rfl; exact absurd (Nat.eq_of_beq_eq_true hq) h]; rfl
theorem fMo_2 {A : NV} {M : NV} {k : Nat} {x : Int32} (h : fMo A M) (hk : 2 ≤ k) : fMo A (upA M 2 (upd (M 2) k x)) := by
  obtain ⟨h1, h2, h3, h4, h5, h6, h7, h8, h9⟩ := h
  refine ⟨h1, h2, h3, h4, h5, ?_, ?_, h8, fun c hc => ?_⟩
  · show upd (M 2) k x 0 = _; rw [pk_un (by omega)]; exact h6
  · show upd (M 2) k x 1 = _; rw [pk_un (by omega)]; exact h7
  · rw [upA_ne (by omega)]; exact h9 c hc
theorem fMo_5 {A : NV} {M : NV} {k : Nat} {x : Int32} (h : fMo A M) : fMo A (upA M 5 (upd (M 5) (7 + k) x)) := by
  obtain ⟨h1, h2, h3, h4, h5, h6, h7, h8, h9⟩ := h
  refine ⟨h1, h2, h3, h4, h5, h6, h7, fun i hi => ⟨?_, (h8 i hi).2⟩, fun c hc => ?_⟩
  · show upd (M 5) (7 + k) x i = _; rw [pk_un (by omega)]; exact (h8 i hi).1
  · rw [upA_ne (by omega)]; exact h9 c hc
theorem fMo_6 {A : NV} {M : NV} {f : Nat → Int32} (h : fMo A M) (hf : ∀ i, i < 7 → f i = M 6 i) : fMo A (upA M 6 f) := by
  obtain ⟨h1, h2, h3, h4, h5, h6, h7, h8, h9⟩ := h
  refine ⟨h1, h2, h3, h4, h5, h6, h7, fun i hi => ⟨(h8 i hi).1, ?_⟩, fun c hc => ?_⟩
  · show f i = _; rw [hf i hi]; exact (h8 i hi).2
  · rw [upA_ne (by omega)]; exact h9 c hc
theorem fMo_07 {A : NV} {M : NV} {x : Int32} (h : fMo A M) : fMo A (upA M 0 (upd (M 0) 7 x)) := by
  obtain ⟨h1, h2, h3, h4, h5, h6, h7, h8, h9⟩ := h
  refine ⟨h1, h2, h3, h4, h5, h6, h7, h8, fun c hc => ?_⟩
  rw [upA_ne (by omega)]; exact h9 c hc
