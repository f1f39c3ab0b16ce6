/-! the pure layer: married, the search with leaving out against the table of sets -/
def mxJ (c : Nat → Bool) (v : Nat → Nat) : Nat → Nat
  | 0 => 0
  | j + 1 => if c j then (if mxJ c v j < v j then v j else mxJ c v j) else mxJ c v j
theorem mx_ge {c : Nat → Bool} {v : Nat → Nat} : ∀ {n i : Nat}, i < n → c i = true → v i ≤ mxJ c v n
  | 0, i, h, _ => absurd h (Nat.not_lt_zero i)
  | n + 1, i, h, hc => by
    rw [mxJ]
    by_cases e : i = n
    · subst e
      rw [if_pos hc]
      split <;> omega
    · have := mx_ge (v := v) (show i < n by omega) hc
      split
      · split <;> omega
      · exact this
theorem mx_at {c : Nat → Bool} {v : Nat → Nat} : ∀ n, mxJ c v n = 0 ∨ ∃ i, i < n ∧ c i = true ∧ v i = mxJ c v n
  | 0 => Or.inl rfl
  | n + 1 => by
    have ih := mx_at (c := c) (v := v) n
    rw [mxJ]
    split
    · rename_i hc
      split
      · exact Or.inr ⟨n, by omega, hc, rfl⟩
      · rcases ih with h | ⟨i, h1, h2, h3⟩
        · exact Or.inl h
        · exact Or.inr ⟨i, by omega, h2, h3⟩
    · rcases ih with h | ⟨i, h1, h2, h3⟩
      · exact Or.inl h
      · exact Or.inr ⟨i, by omega, h2, h3⟩
theorem mx_cong {c c' : Nat → Bool} {v v' : Nat → Nat} : ∀ {n : Nat}, (∀ i, i < n → c i = c' i ∧ (c i = true → v i = v' i)) → mxJ c v n = mxJ c' v' n
  | 0, _ => rfl
  | n + 1, h => by
    have ih := mx_cong (c := c) (c' := c') (v := v) (v' := v') (n := n) (fun i hi => h i (by omega))
    obtain ⟨h1, h2⟩ := h n (by omega)
    rw [mxJ, mxJ, ih, ← h1]
    cases hc : c n
    · rfl
    · rw [h2 hc]
def ff (c : Nat → Bool) : Nat → Option Nat
  | 0 => none
  | n + 1 => match ff c n with
    | some i => some i
    | none => if c n then some n else none
theorem ff_some {c : Nat → Bool} {i : Nat} : ∀ {n : Nat}, i < n → c i = true → (∀ k, k < i → c k = false) → ff c n = some i
  | 0, h, _, _ => absurd h (Nat.not_lt_zero i)
  | n + 1, h, hc, hk => by
    by_cases e : i = n
    · subst e
      have hn : ∀ m, m ≤ i → ff c m = none := by
        intro m
        induction m with
        | zero => intro _; rfl
        | succ m ih => intro hm; rw [ff, ih (by omega)]; simp [hk m (by omega)]
      rw [ff, hn i (Nat.le_refl _)]; simp [hc]
    · rw [ff, ff_some (show i < n by omega) hc hk]
theorem ff_none {c : Nat → Bool} : ∀ {n : Nat}, (∀ k, k < n → c k = false) → ff c n = none
  | 0, _ => rfl
  | n + 1, h => by rw [ff, ff_none (fun k hk => h k (by omega))]; simp [h n (by omega)]
theorem ff_cong {c c' : Nat → Bool} : ∀ {n : Nat}, (∀ k, k < n → c k = c' k) → ff c n = ff c' n
  | 0, _ => rfl
  | n + 1, h => by rw [ff, ff, ff_cong (fun k hk => h k (by omega)), h n (by omega)]
theorem ff_is {c : Nat → Bool} : ∀ n, (ff c n = none ∧ ∀ k, k < n → c k = false) ∨ ∃ i, ff c n = some i ∧ i < n ∧ c i = true ∧ ∀ k, k < i → c k = false
  | 0 => Or.inl ⟨rfl, fun k hk => absurd hk (Nat.not_lt_zero k)⟩
  | n + 1 => by
    rcases ff_is (c := c) n with ⟨h1, h2⟩ | ⟨i, h1, h2, h3, h4⟩
    · cases hc : c n
      · exact Or.inl ⟨by rw [ff, h1]; simp [hc], fun k hk => by
          by_cases e : k = n
          · rw [e, hc]
          · exact h2 k (by omega)⟩
      · exact Or.inr ⟨n, by rw [ff, h1]; simp [hc], by omega, hc, h2⟩
    · exact Or.inr ⟨i, by rw [ff, h1], by omega, h3, h4⟩
section MA
variable (nm fo : Nat → Int32)
def Wq (W : Nat → Int32) (P q : Nat) : Nat → Int32 := upd (upd W P (nI q)) q (nI P)
def cJ (W : Nat → Int32) (P j : Nat) : Bool := decide (W (P + 1 + j) = -9) && !decide (mmI nm fo P (P + 1 + j) = 0)
def op : Nat → Nat → (Nat → Int32) → Nat
  | 0, _, _ => 0
  | d + 1, P, W => if W P = -9 then (if mxJ (cJ nm fo W P) (fun j => 1 + op d (P + 1) (Wq W P (P + 1 + j))) d < op d (P + 1) W then op d (P + 1) W else mxJ (cJ nm fo W P) (fun j => 1 + op d (P + 1) (Wq W P (P + 1 + j))) d) else op d (P + 1) W
def gJ (d P : Nat) (W : Nat → Int32) (j : Nat) : Bool := cJ nm fo W P j && decide (1 + op nm fo d (P + 1) (Wq W P (P + 1 + j)) = op nm fo (d + 1) P W)
def gr : Nat → Nat → (Nat → Int32) → (Nat → Int32)
  | 0, _, W => W
  | d + 1, P, W => if W P = -9 then (match ff (gJ nm fo d P W) d with
      | some j => gr d (P + 1) (Wq W P (P + 1 + j))
      | none => gr d (P + 1) W) else gr d (P + 1) W
end MA
def frC (W : Nat → Int32) (P : Nat) : Nat → Nat
  | 0 => 0
  | d + 1 => frC W P d + (if W (P + d) = -9 then 1 else 0)
theorem frC_hd (W : Nat → Int32) (P : Nat) : ∀ d, frC W P (d + 1) = (if W P = -9 then 1 else 0) + frC W (P + 1) d
  | 0 => by rw [frC, frC, frC, Nat.add_zero, Nat.add_comm]
  | d + 1 => by
    rw [frC, frC_hd W P d, frC, show P + (d + 1) = P + 1 + d from by omega]
    omega
theorem frC_le (W : Nat → Int32) (P : Nat) : ∀ d, frC W P d ≤ d
  | 0 => Nat.le_refl _
  | d + 1 => by
    have := frC_le W P d
    rw [frC]
    split <;> omega
theorem Wq_P {W : Nat → Int32} {P q : Nat} (h : P ≠ q) : Wq W P q P = nI q := by unfold Wq; rw [pk_un h, pk_us]
theorem Wq_q {W : Nat → Int32} {P q : Nat} : Wq W P q q = nI P := pk_us
theorem Wq_x {W : Nat → Int32} {P q x : Nat} (h1 : x ≠ P) (h2 : x ≠ q) : Wq W P q x = W x := by unfold Wq; rw [pk_un h2, pk_un h1]
theorem frC_out {W : Nat → Int32} {P q p : Nat} (hP : P < p) : ∀ d, p + d ≤ q → frC (Wq W P q) p d = frC W p d
  | 0, _ => rfl
  | d + 1, h => by rw [frC, frC, frC_out hP d (by omega), Wq_x (by omega) (by omega)]
theorem frC_q {W : Nat → Int32} {P q p : Nat} (hP : P < p) (hp : p ≤ q) (h9 : W q = -9) (hP7 : P < 1000) : ∀ d, q < p + d → frC (Wq W P q) p d + 1 = frC W p d
  | 0, h => by omega
  | d + 1, h => by
    rw [frC, frC]
    by_cases e : p + d = q
    · rw [e, Wq_q, if_neg (nm_ne9 hP7), if_pos h9, frC_out hP d (by omega)]
    · have := frC_q hP hp h9 hP7 d (by omega)
      rw [Wq_x (by omega) (by omega)]
      omega
theorem op_le {nm fo : Nat → Int32} : ∀ d P W, P + d ≤ 100 → 2 * op nm fo d P W ≤ frC W P d
  | 0, _, _, _ => Nat.le_refl _
  | d + 1, P, W, hb => by
    rw [frC_hd, op]
    have h0 := op_le (nm := nm) (fo := fo) d (P + 1) W (by omega)
    by_cases h9 : W P = -9
    · rw [if_pos h9, if_pos h9]
      split
      · omega
      · rcases mx_at (c := cJ nm fo W P) (v := fun j => 1 + op nm fo d (P + 1) (Wq W P (P + 1 + j))) d with h | ⟨i, h1, h2, h3⟩
        · omega
        · rw [← h3]
          have h4 := op_le (nm := nm) (fo := fo) d (P + 1) (Wq W P (P + 1 + i)) (by omega)
          have h5 : W (P + 1 + i) = -9 := by
            unfold cJ at h2
            simp only [Bool.and_eq_true, decide_eq_true_eq] at h2
            exact h2.1
          have h6 := frC_q (W := W) (P := P) (q := P + 1 + i) (p := P + 1) (by omega) (by omega) h5 (by omega) d (by omega)
          show 2 * (1 + _) ≤ _
          omega
    · rw [if_neg h9, if_neg h9]; omega
theorem nI_m (K : Nat) : nI (K + 1) - 1 = nI K := by
  rw [show nI (K + 1) - 1 = nI (K + 1) - nI 1 from rfl, pk_sub (by omega)]; rfl
theorem m_lt {K v : Nat} (hK : K < 1000) (hv : v < 1000) : nI K - 1 < nI v ↔ K ≤ v := by
  rw [Int32.lt_iff_toInt_lt, nI_m1 hK, nI_toInt (by omega)]; omega
theorem half {T d : Nat} (hd : d < 1000) : nI T + nI d / 2 = nI (T + d / 2) := by
  rw [show nI d / 2 = nI (d / 2) from pk_div (a := d) (d := 2) (by omega) (by decide) (by decide), nI_add]
/-- what a search leaves -/
def PO (N K v : Nat) (S S' : NV) (B : Nat → Int32) : Prop := S' 0 = S 0 ∧ (K ≤ v → S' 2 0 = nI v ∧ ∀ p, p < N → S' 1 p = B p) ∧ (¬ K ≤ v → S' 2 0 = nI K - 1 ∧ ∀ p, p < N → S' 1 p = S 1 p)
theorem un_Wq {W : Nat → Int32} {P q : Nat} (h1 : W P = -9) (h2 : W q = -9) : upd (upd (Wq W P q) P (-9)) q (-9) = W := by
  funext x
  by_cases e : x = q
  · subst e; rw [pk_us, h2]
  · rw [pk_un e]
    by_cases e2 : x = P
    · subst e2; rw [pk_us, h1]
    · rw [pk_un e2, Wq_x e2 e]
theorem pf_all {nm fo : Nat → Int32} {N : Nat} (hN : N ≤ 7) : ∀ (d P T K : Nat) (S : NV), P + d = N → T ≤ P → K ≤ 50 → S 2 0 = nI K - 1 → PO N K (T + op nm fo d P (S 0)) S (pfr nm fo d P (nI T) S) (gr nm fo d P (S 0))
  | 0, P, T, K, S, hP, hT, hK, hS => by
    rw [pfr, hS, half (by omega), op, gr]
    show PO N K T S (if nI K - 1 < nI (T + 0 / 2) then _ else _) (S 0)
    rw [show T + 0 / 2 = T from rfl]
    by_cases h : K ≤ T
    · rw [if_pos ((m_lt (by omega) (by omega)).mpr h)]
      refine ⟨rfl, fun _ => ⟨rfl, fun p hp => ?_⟩, fun q => absurd h q⟩
      show va_cpy (S 0) (S 1) 0 0 7 p = _
      rw [pk_cpy_in (by omega) (by omega), Nat.zero_add, Nat.sub_zero]
    · rw [if_neg (fun q => h ((m_lt (by omega) (by omega)).mp q))]
      exact ⟨rfl, fun q => absurd q h, fun _ => ⟨hS, fun p hp => rfl⟩⟩
  | d + 1, P, T, K, S, hP, hT, hK, hS => by
    have hb := op_le (nm := nm) (fo := fo) (d + 1) P (S 0) (by omega)
    have hb2 := frC_le (S 0) P (d + 1)
    rw [pfr, hS, half (by omega)]
    by_cases h : nI K - 1 < nI (T + (d + 1) / 2)
    · rw [if_pos h]
      obtain ⟨W, hW⟩ : ∃ W, W = S 0 := ⟨_, rfl⟩
      rw [← hW] at hb hb2 ⊢
      by_cases h9 : W P = -9
      · rw [if_pos h9]
        have loop : ∀ j, j ≤ d → pfK (pfr nm fo d (P + 1) (nI T + 1)) nm fo P S j 0 = W ∧
            ((pfK (pfr nm fo d (P + 1) (nI T + 1)) nm fo P S j 2 0 = nI K - 1 ∧ (∀ p, p < N → pfK (pfr nm fo d (P + 1) (nI T + 1)) nm fo P S j 1 p = S 1 p) ∧ ∀ i, i < j → cJ nm fo W P i = true → T + (1 + op nm fo d (P + 1) (Wq W P (P + 1 + i))) < K) ∨
              ∃ i, i < j ∧ cJ nm fo W P i = true ∧ K ≤ T + (1 + op nm fo d (P + 1) (Wq W P (P + 1 + i))) ∧ pfK (pfr nm fo d (P + 1) (nI T + 1)) nm fo P S j 2 0 = nI (T + (1 + op nm fo d (P + 1) (Wq W P (P + 1 + i)))) ∧ (∀ p, p < N → pfK (pfr nm fo d (P + 1) (nI T + 1)) nm fo P S j 1 p = gr nm fo d (P + 1) (Wq W P (P + 1 + i)) p) ∧ (∀ k, k < j → cJ nm fo W P k = true → op nm fo d (P + 1) (Wq W P (P + 1 + k)) ≤ op nm fo d (P + 1) (Wq W P (P + 1 + i))) ∧ ∀ k, k < i → cJ nm fo W P k = true → op nm fo d (P + 1) (Wq W P (P + 1 + k)) < op nm fo d (P + 1) (Wq W P (P + 1 + i))) := by
          intro j
          induction j with
          | zero => intro _; exact ⟨hW.symm, Or.inl ⟨hS, fun p hp => rfl, fun i hi => absurd hi (Nat.not_lt_zero i)⟩⟩
          | succ j ih =>
            intro hj
            obtain ⟨i1, i2⟩ := ih (by omega)
            rw [pfK]
            obtain ⟨X, hX⟩ : ∃ X, X = pfK (pfr nm fo d (P + 1) (nI T + 1)) nm fo P S j := ⟨_, rfl⟩
            rw [← hX] at i1 i2 ⊢
            rw [i1]
            by_cases hf : W (P + 1 + j) = -9
            · rw [if_pos hf]
              by_cases hm : mmI nm fo P (P + 1 + j) = 0
              · rw [if_pos hm]
                have hc : cJ nm fo W P j = false := by unfold cJ; rw [decide_eq_true hm]; simp
                refine ⟨i1, ?_⟩
                rcases i2 with ⟨a1, a2, a3⟩ | ⟨i, a1, a2, a3, a4, a5, a6, a7⟩
                · exact Or.inl ⟨a1, a2, fun i hi hci => by
                    by_cases e : i = j
                    · subst e; rw [hc] at hci; cases hci
                    · exact a3 i (by omega) hci⟩
                · exact Or.inr ⟨i, by omega, a2, a3, a4, a5, fun k hk hck => by
                    by_cases e : k = j
                    · subst e; rw [hc] at hck; cases hck
                    · exact a6 k (by omega) hck, a7⟩
              · rw [if_neg hm]
                have hc : cJ nm fo W P j = true := by unfold cJ; rw [decide_eq_true hf, decide_eq_false hm]; rfl
                obtain ⟨Y, hY⟩ : ∃ Y, Y = upA X 0 (Wq W P (P + 1 + j)) := ⟨_, rfl⟩
                have hY0 : Y 0 = Wq W P (P + 1 + j) := by rw [hY]; rfl
                have hY1 : Y 1 = X 1 := by rw [hY]; rfl
                have hY2 : Y 2 = X 2 := by rw [hY]; rfl
                have hbq := op_le (nm := nm) (fo := fo) d (P + 1) (Wq W P (P + 1 + j)) (by omega)
                have hbq2 := frC_le (Wq W P (P + 1 + j)) (P + 1) d
                show (let Z := pfr nm fo d (P + 1) (nI T + 1) (upA X 0 (Wq W P (P + 1 + j))); upA Z 0 (upd (upd (Z 0) P (-9)) (P + 1 + j) (-9))) 0 = W ∧ _
                rw [← hY]
                rw [show upd (upd W P (nI (P + 1 + j))) (P + 1 + j) (nI P) = Wq W P (P + 1 + j) from rfl, ← hY]
                rw [show nI T + 1 = nI (T + 1) from nI_add T 1] at hX ⊢
                have back : ∀ Z : NV, Z 0 = Y 0 → upd (upd (Z 0) P (-9)) (P + 1 + j) (-9) = W := fun Z hZ => by rw [hZ, hY0, un_Wq h9 hf]
                rcases i2 with ⟨a1, a2, a3⟩ | ⟨i, a1, a2, a3, a4, a5, a6, a7⟩
                · obtain ⟨g1, g2, g3⟩ := pf_all (nm := nm) (fo := fo) hN d (P + 1) (T + 1) K Y (by omega) (by omega) hK (by rw [hY2]; exact a1)
                  obtain ⟨Z, hZ⟩ : ∃ Z, Z = pfr nm fo d (P + 1) (nI (T + 1)) Y := ⟨_, rfl⟩
                  rw [← hZ] at g1 g2 g3 ⊢
                  rw [hY0] at g2 g3
                  refine ⟨back Z g1, ?_⟩
                  by_cases hkv : K ≤ T + 1 + op nm fo d (P + 1) (Wq W P (P + 1 + j))
                  · obtain ⟨g4, g5⟩ := g2 hkv
                    refine Or.inr ⟨j, by omega, hc, by omega, ?_, g5, fun k hk hck => ?_, fun k hk hck => ?_⟩
                    · show Z 2 0 = _; rw [g4]; congr 1; omega
                    · by_cases e : k = j
                      · subst e; exact Nat.le_refl _
                      · have := a3 k (by omega) hck; omega
                    · have := a3 k (by omega) hck; omega
                  · obtain ⟨g4, g5⟩ := g3 hkv
                    refine Or.inl ⟨g4, fun p hp => ?_, fun i hi hci => ?_⟩
                    · show Z 1 p = _; rw [g5 p hp, hY1, a2 p hp]
                    · by_cases e : i = j
                      · subst e; omega
                      · exact a3 i (by omega) hci
                · have hbi := op_le (nm := nm) (fo := fo) d (P + 1) (Wq W P (P + 1 + i)) (by omega)
                  have hbi2 := frC_le (Wq W P (P + 1 + i)) (P + 1) d
                  obtain ⟨g1, g2, g3⟩ := pf_all (nm := nm) (fo := fo) hN d (P + 1) (T + 1) (T + (1 + op nm fo d (P + 1) (Wq W P (P + 1 + i))) + 1) Y (by omega) (by omega) (by omega) (by rw [hY2, a4, nI_m])
                  obtain ⟨Z, hZ⟩ : ∃ Z, Z = pfr nm fo d (P + 1) (nI (T + 1)) Y := ⟨_, rfl⟩
                  rw [← hZ] at g1 g2 g3 ⊢
                  rw [hY0] at g2 g3
                  refine ⟨back Z g1, ?_⟩
                  by_cases hkv : T + (1 + op nm fo d (P + 1) (Wq W P (P + 1 + i))) + 1 ≤ T + 1 + op nm fo d (P + 1) (Wq W P (P + 1 + j))
                  · obtain ⟨g4, g5⟩ := g2 hkv
                    refine Or.inr ⟨j, by omega, hc, by omega, ?_, g5, fun k hk hck => ?_, fun k hk hck => ?_⟩
                    · show Z 2 0 = _; rw [g4]; congr 1; omega
                    · by_cases e : k = j
                      · subst e; exact Nat.le_refl _
                      · have := a6 k (by omega) hck; omega
                    · have := a6 k (by omega) hck; omega
                  · obtain ⟨g4, g5⟩ := g3 hkv
                    refine Or.inr ⟨i, by omega, a2, a3, ?_, fun p hp => ?_, fun k hk hck => ?_, a7⟩
                    · show Z 2 0 = _; rw [g4, nI_m]
                    · show Z 1 p = _; rw [g5 p hp, hY1, a5 p hp]
                    · by_cases e : k = j
                      · subst e; omega
                      · exact a6 k (by omega) hck
            · rw [if_neg hf]
              have hc : cJ nm fo W P j = false := by unfold cJ; rw [decide_eq_false hf]; rfl
              refine ⟨i1, ?_⟩
              rcases i2 with ⟨a1, a2, a3⟩ | ⟨i, a1, a2, a3, a4, a5, a6, a7⟩
              · exact Or.inl ⟨a1, a2, fun i hi hci => by
                  by_cases e : i = j
                  · subst e; rw [hc] at hci; cases hci
                  · exact a3 i (by omega) hci⟩
              · exact Or.inr ⟨i, by omega, a2, a3, a4, a5, fun k hk hck => by
                  by_cases e : k = j
                  · subst e; rw [hc] at hck; cases hck
                  · exact a6 k (by omega) hck, a7⟩
        obtain ⟨l1, l2⟩ := loop d (Nat.le_refl _)
        obtain ⟨X, hX⟩ : ∃ X, X = pfK (pfr nm fo d (P + 1) (nI T + 1)) nm fo P S d := ⟨_, rfl⟩
        rw [← hX] at l1 l2 ⊢
        have hba := op_le (nm := nm) (fo := fo) d (P + 1) W (by omega)
        have hba2 := frC_le W (P + 1) d
        obtain ⟨M, hM⟩ : ∃ M, M = mxJ (cJ nm fo W P) (fun j => 1 + op nm fo d (P + 1) (Wq W P (P + 1 + j))) d := ⟨_, rfl⟩
        have hop : op nm fo (d + 1) P W = if M < op nm fo d (P + 1) W then op nm fo d (P + 1) W else M := by rw [op, if_pos h9, hM]
        have hge : ∀ k, k < d → cJ nm fo W P k = true → 1 + op nm fo d (P + 1) (Wq W P (P + 1 + k)) ≤ M := fun k hk hck => by rw [hM]; exact mx_ge (v := fun j => 1 + op nm fo d (P + 1) (Wq W P (P + 1 + j))) hk hck
        have hat := mx_at (c := cJ nm fo W P) (v := fun j => 1 + op nm fo d (P + 1) (Wq W P (P + 1 + j))) d
        rw [← hM] at hat
        have galone : (∀ k, k < d → cJ nm fo W P k = true → 1 + op nm fo d (P + 1) (Wq W P (P + 1 + k)) < op nm fo (d + 1) P W) → gr nm fo (d + 1) P W = gr nm fo d (P + 1) W := fun hk => by
          rw [gr, if_pos h9, ff_none]
          intro k hkd
          unfold gJ
          cases hc : cJ nm fo W P k
          · rfl
          · have := hk k hkd hc
            rw [decide_eq_false (by omega)]; rfl
        rcases l2 with ⟨a1, a2, a3⟩ | ⟨i, a1, a2, a3, a4, a5, a6, a7⟩
        · obtain ⟨g1, g2, g3⟩ := pf_all (nm := nm) (fo := fo) hN d (P + 1) T K X (by omega) (by omega) hK a1
          rw [l1] at g1 g2 g3
          by_cases hka : K ≤ T + op nm fo d (P + 1) W
          · have hMa : M ≤ op nm fo d (P + 1) W := by
              rcases hat with q | ⟨i, q1, q2, q3⟩
              · omega
              · have := a3 i q1 q2; omega
            have hv : op nm fo (d + 1) P W = op nm fo d (P + 1) W := by rw [hop]; split <;> omega
            rw [hv]
            obtain ⟨g4, g5⟩ := g2 hka
            refine ⟨by rw [g1]; exact hW, fun _ => ⟨g4, ?_⟩, fun q => absurd hka q⟩
            rw [galone (fun k hk hck => by rw [hv]; have := a3 k hk hck; omega)]
            exact g5
          · have hv : op nm fo (d + 1) P W = op nm fo d (P + 1) W ∨ op nm fo (d + 1) P W = M := by rw [hop]; split <;> simp
            have hvK : T + op nm fo (d + 1) P W < K := by
              rcases hv with q | q
              · rw [q]; omega
              · rw [q]
                rcases hat with q | ⟨i, q1, q2, q3⟩
                · omega
                · have := a3 i q1 q2; omega
            obtain ⟨g4, g5⟩ := g3 hka
            exact ⟨by rw [g1]; exact hW, fun q => by omega, fun _ => ⟨g4, fun p hp => by rw [g5 p hp, a2 p hp]⟩⟩
        · have hbi := op_le (nm := nm) (fo := fo) d (P + 1) (Wq W P (P + 1 + i)) (by omega)
          have hbi2 := frC_le (Wq W P (P + 1 + i)) (P + 1) d
          obtain ⟨g1, g2, g3⟩ := pf_all (nm := nm) (fo := fo) hN d (P + 1) T (T + (1 + op nm fo d (P + 1) (Wq W P (P + 1 + i))) + 1) X (by omega) (by omega) (by omega) (by rw [a4, nI_m])
          rw [l1] at g1 g2 g3
          have hMi : M = 1 + op nm fo d (P + 1) (Wq W P (P + 1 + i)) := by
            have h1 := hge i a1 a2
            rcases hat with q | ⟨k, q1, q2, q3⟩
            · omega
            · have := a6 k q1 q2; omega
          by_cases hka : T + (1 + op nm fo d (P + 1) (Wq W P (P + 1 + i))) + 1 ≤ T + op nm fo d (P + 1) W
          · have hv : op nm fo (d + 1) P W = op nm fo d (P + 1) W := by rw [hop]; split <;> omega
            obtain ⟨g4, g5⟩ := g2 hka
            rw [hv]
            refine ⟨by rw [g1]; exact hW, fun _ => ⟨g4, ?_⟩, fun q => absurd (by omega) q⟩
            rw [galone (fun k hk hck => by rw [hv]; have := hge k hk hck; omega)]
            exact g5
          · have hv : op nm fo (d + 1) P W = 1 + op nm fo d (P + 1) (Wq W P (P + 1 + i)) := by rw [hop]; split <;> omega
            obtain ⟨g4, g5⟩ := g3 hka
            rw [hv]
            refine ⟨by rw [g1]; exact hW, fun _ => ⟨by rw [g4, nI_m], fun p hp => ?_⟩, fun q => absurd a3 q⟩
            rw [g5 p hp, a5 p hp, gr, if_pos h9, ff_some (i := i) a1]
            · unfold gJ; rw [a2, hv, decide_eq_true rfl]; rfl
            · intro k hk
              unfold gJ
              cases hc : cJ nm fo W P k
              · rfl
              · have := a7 k hk hc
                rw [hv, decide_eq_false (by omega)]; rfl
      · rw [if_neg h9]
        have g := pf_all (nm := nm) (fo := fo) hN d (P + 1) T K S (by omega) (by omega) hK hS
        rw [← hW] at g
        have e1 : op nm fo (d + 1) P W = op nm fo d (P + 1) W := by rw [op, if_neg h9]
        have e2 : gr nm fo (d + 1) P W = gr nm fo d (P + 1) W := by rw [gr, if_neg h9]
        rw [e1, e2]
        exact g
    · rw [if_neg h]
      have hK2 : ¬ K ≤ T + op nm fo (d + 1) P (S 0) := fun q => h ((m_lt (by omega) (by omega)).mpr (by omega))
      exact ⟨rfl, fun q => absurd q hK2, fun _ => ⟨hS, fun p hp => rfl⟩⟩
