/-! the pure layer: married, the reference's table and its choice -/
theorem wq_9 {W W' : Nat → Int32} {P q x : Nat} (hP : P < 1000) (hx : x ≠ P) (h : W x = -9 ↔ W' x = -9) : Wq W P q x = -9 ↔ Wq W' P q x = -9 := by
  by_cases e : x = q
  · subst e; rw [Wq_q, Wq_q]
  · rw [Wq_x hx e, Wq_x hx e]; exact h
theorem op_cong {nm fo : Nat → Int32} : ∀ (d P : Nat) (W W' : Nat → Int32), P + d < 1000 → (∀ q, P ≤ q → q < P + d → (W q = -9 ↔ W' q = -9)) → op nm fo d P W = op nm fo d P W'
  | 0, _, _, _, _, _ => rfl
  | d + 1, P, W, W', hb, h => by
    have e0 := op_cong (nm := nm) (fo := fo) d (P + 1) W W' (by omega) (fun q h1 h2 => h q (by omega) (by omega))
    have e1 : mxJ (cJ nm fo W P) (fun j => 1 + op nm fo d (P + 1) (Wq W P (P + 1 + j))) d = mxJ (cJ nm fo W' P) (fun j => 1 + op nm fo d (P + 1) (Wq W' P (P + 1 + j))) d := mx_cong (fun j hj => by
      refine ⟨?_, fun _ => ?_⟩
      · unfold cJ
        congr 1
        rw [Bool.eq_iff_iff]
        simp only [decide_eq_true_eq]
        exact h (P + 1 + j) (by omega) (by omega)
      · show 1 + _ = 1 + _
        rw [op_cong (nm := nm) (fo := fo) d (P + 1) (Wq W P (P + 1 + j)) (Wq W' P (P + 1 + j)) (by omega) (fun q h1 h2 => wq_9 (by omega) (by omega) (h q (by omega) (by omega)))])
    have e2 := h P (by omega) (by omega)
    rw [op, op, e0, e1]
    by_cases h9 : W P = -9
    · rw [if_pos h9, if_pos (e2.mp h9)]
    · rw [if_neg h9, if_neg (fun q => h9 (e2.mpr q))]
theorem op_skip {nm fo : Nat → Int32} {d P : Nat} {W : Nat → Int32} : ∀ m, (∀ q, P ≤ q → q < P + m → ¬ W q = -9) → op nm fo (m + d) P W = op nm fo d (P + m) W := by
  intro m
  induction m generalizing P with
  | zero => intro _; rw [Nat.zero_add, Nat.add_zero]
  | succ m ih =>
    intro h
    rw [show m + 1 + d = (m + d) + 1 from by omega, op, if_neg (h P (by omega) (by omega)), ih (P := P + 1) (fun q h1 h2 => h q (by omega) (by omega)), show P + 1 + m = P + (m + 1) from by omega]
/-- a set's way: free are those in it -/
def Wof (S q : Nat) : Int32 := if S / 2 ^ q % 2 = 1 then -9 else 0
theorem Wof_9 {S q : Nat} : Wof S q = -9 ↔ S / 2 ^ q % 2 = 1 := by
  unfold Wof
  split
  · rename_i h; exact ⟨fun _ => h, fun _ => rfl⟩
  · rename_i h; exact ⟨fun q => absurd q (by decide), fun q => absurd q h⟩
theorem bit_sub : ∀ S, S < 128 → ∀ p, p < 7 → S / 2 ^ p % 2 = 1 → ∀ q, q < 7 → (S - 2 ^ p) / 2 ^ q % 2 = if q = p then 0 else S / 2 ^ q % 2 := by decide +kernel
theorem lb_is : ∀ S, S < 128 → S ≠ 0 → lbN S < 7 ∧ S / 2 ^ lbN S % 2 = 1 ∧ ∀ q, q < lbN S → S / 2 ^ q % 2 = 0 := by decide +kernel
theorem pw_le : ∀ S, S < 128 → ∀ p, p < 7 → S / 2 ^ p % 2 = 1 → 2 ^ p ≤ S := by decide +kernel
def opS (nm fo : Nat → Int32) (N S : Nat) : Nat := op nm fo N 0 (Wof S)
/-- the table's value of a set that has nobody below a place -/
theorem opS_at {nm fo : Nat → Int32} {N S p : Nat} {W : Nat → Int32} (hN : N ≤ 7) (hp : p ≤ N) (h0 : ∀ q, q < p → S / 2 ^ q % 2 = 0) (hW : ∀ q, p ≤ q → q < N → (S / 2 ^ q % 2 = 1 ↔ W q = -9)) : opS nm fo N S = op nm fo (N - p) p W := by
  unfold opS
  have h1 := op_skip (nm := nm) (fo := fo) (d := N - p) (P := 0) (W := Wof S) p (fun q _ h2 => by rw [Wof_9, h0 q (by omega)]; decide)
  rw [show p + (N - p) = N from by omega, Nat.zero_add] at h1
  rw [h1]
  exact op_cong _ _ _ _ (by omega) (fun q h2 h3 => by rw [Wof_9]; exact hW q h2 (by omega))
theorem mm_eq {nm fo s qu : Nat → Int32} {P Q : Nat} (hs : s P = nm P ∧ s Q = nm Q) (hq : qu P = fo P) (hQ : Q < 32) : mmM s qu P Q = mmI nm fo P Q := by
  unfold mmM mmI
  rw [hs.1, hs.2, hq]
  split
  · rfl
  · show (if bitI (fo P) (nI Q) = 0 then (1 : Int32) else 0) = _
    rw [bi_bt _ hQ]
    cases bt (fo P) Q <;> rfl
theorem mx_step {a m v : Nat} {b : Bool} (ha : a ≤ 1000) (hm : m ≤ 1000) (hv : v ≤ 1000) : (if nI (if b = true then v else 0) ≤ nI (if m < a then a else m) then nI (if m < a then a else m) else nI (if b = true then v else 0)) = nI (if (if b = true then (if m < v then v else m) else m) < a then a else (if b = true then (if m < v then v else m) else m)) := by
  have hX : (if m < a then a else m) ≤ 1000 := by split <;> omega
  cases b
  · show (if nI 0 ≤ nI (if m < a then a else m) then nI (if m < a then a else m) else nI 0) = nI (if m < a then a else m)
    rw [if_pos ((nI_leI (by omega) (by omega)).mpr (Nat.zero_le _))]
  · show (if nI v ≤ nI (if m < a then a else m) then nI (if m < a then a else m) else nI v) = nI (if (if m < v then v else m) < a then a else (if m < v then v else m))
    have key : ∀ X, X ≤ 1000 → (if nI v ≤ nI X then nI X else nI v) = nI (if v ≤ X then X else v) := fun X h => by
      by_cases q : v ≤ X
      · rw [if_pos ((nI_leI (by omega) (by omega)).mpr q), if_pos q]
      · rw [if_neg (fun e => q ((nI_leI (by omega) (by omega)).mp e)), if_neg q]
    rw [key _ hX]
    congr 1
    by_cases h1 : m < a <;> by_cases h2 : m < v <;> simp only [h1, h2, if_true, if_false]
    · by_cases h3 : v < a
      · rw [if_pos h3, if_pos (by omega)]
      · rw [if_neg h3]; split <;> omega
    · rw [if_pos (by omega)]
    · rw [if_neg (by omega), if_neg (by omega)]
    · rw [if_pos (by omega)]
/-- the reference's row for one set -/
theorem prI_at {nm fo s qu tw : Nat → Int32} {N S p : Nat} (hN : N ≤ 7) (hS : S < 2 ^ N) (hb : S / 2 ^ p % 2 = 1) (h0 : ∀ q, q < p → S / 2 ^ q % 2 = 0) (hs : ∀ i, i < N → s i = nm i) (hq : ∀ i, i < N → qu i = fo i) (ht : ∀ X, X < S → tw X = nI (opS nm fo N X)) : ∀ j, p + 1 + j ≤ N →
    (∀ X, X ≠ S → prI s qu tw S p j X = tw X) ∧ prI s qu tw S p j S = nI (if mxJ (cJ nm fo (Wof S) p) (fun j => 1 + op nm fo (N - (p + 1)) (p + 1) (Wq (Wof S) p (p + 1 + j))) j < op nm fo (N - (p + 1)) (p + 1) (Wof S) then op nm fo (N - (p + 1)) (p + 1) (Wof S) else mxJ (cJ nm fo (Wof S) p) (fun j => 1 + op nm fo (N - (p + 1)) (p + 1) (Wq (Wof S) p (p + 1 + j))) j) := by
  have hS1 : S < 128 := lt128 hS hN
  have hpN : p < N := bit_lt hS hb
  have hle := pw_le S hS1 p (by omega) hb
  have hpos := Nat.two_pow_pos p
  have ha : opS nm fo N (S - 2 ^ p) = op nm fo (N - (p + 1)) (p + 1) (Wof S) := opS_at hN (by omega) (fun q hq2 => by
      rw [bit_sub S hS1 p (by omega) hb q (by omega)]
      split
      · rfl
      · exact h0 q (by omega)) (fun q h1 h2 => by rw [bit_sub S hS1 p (by omega) hb q (by omega), if_neg (by omega), Wof_9])
  have hba := op_le (nm := nm) (fo := fo) (N - (p + 1)) (p + 1) (Wof S) (by omega)
  have hba2 := frC_le (Wof S) (p + 1) (N - (p + 1))
  intro j
  induction j with
  | zero =>
    intro _
    refine ⟨fun X hX => pk_un hX, ?_⟩
    show upd tw S (tw (S - 2 ^ p)) S = _
    rw [pk_us, ht (S - 2 ^ p) (by omega), ha]
    congr 1
    show _ = if 0 < op nm fo (N - (p + 1)) (p + 1) (Wof S) then op nm fo (N - (p + 1)) (p + 1) (Wof S) else 0
    by_cases hz : 0 < op nm fo (N - (p + 1)) (p + 1) (Wof S)
    · rw [if_pos hz]
    · rw [if_neg hz]; omega
  | succ j ih =>
    intro hj
    obtain ⟨i1, i2⟩ := ih (by omega)
    have hm := mm_eq (nm := nm) (fo := fo) (s := s) (qu := qu) (P := p) (Q := p + 1 + j) ⟨hs p (by omega), hs (p + 1 + j) (by omega)⟩ (hq p (by omega)) (by omega)
    have hbit := bit_sub S hS1 p (by omega) hb (p + 1 + j) (by omega)
    rw [if_neg (by omega)] at hbit
    have hit : itI s qu (prI s qu tw S p j) S p (p + 1 + j) = nI (if cJ nm fo (Wof S) p j = true then 1 + op nm fo (N - (p + 1)) (p + 1) (Wq (Wof S) p (p + 1 + j)) else 0) := by
      unfold itI cJ
      rw [hbit, hm]
      by_cases hf : S / 2 ^ (p + 1 + j) % 2 = 1
      · rw [hf, if_pos (show nI 1 = (1 : Int32) from rfl), decide_eq_true (Wof_9.mpr hf), Bool.true_and]
        by_cases hz : mmI nm fo p (p + 1 + j) = 0
        · rw [if_pos hz, decide_eq_true hz, if_neg (by decide)]; rfl
        · rw [if_neg hz, decide_eq_false hz, if_pos (by decide)]
          have hb2 : (S - 2 ^ p) / 2 ^ (p + 1 + j) % 2 = 1 := by rw [hbit, hf]
          have hS2 : S - 2 ^ p < 128 := by omega
          have hle2 := pw_le (S - 2 ^ p) hS2 (p + 1 + j) (by omega) hb2
          have hpos2 := Nat.two_pow_pos (p + 1 + j)
          rw [i1 _ (by omega), ht _ (by omega), opS_at (p := p + 1) (W := Wq (Wof S) p (p + 1 + j)) hN (by omega)]
          · exact nI_add 1 _
          · intro q hq2
            rw [bit_sub _ hS2 _ (by omega) hb2 q (by omega), bit_sub S hS1 p (by omega) hb q (by omega)]
            split
            · rfl
            · split
              · rfl
              · exact h0 q (by omega)
          · intro q h1 h2
            rw [bit_sub _ hS2 _ (by omega) hb2 q (by omega), bit_sub S hS1 p (by omega) hb q (by omega)]
            by_cases e : q = p + 1 + j
            · subst e
              rw [if_pos rfl, Wq_q]
              exact ⟨fun x => absurd x (by decide), fun x => absurd x (nm_ne9 (by omega))⟩
            · rw [if_neg e, if_neg (by omega), Wq_x (by omega) e, Wof_9]
      · have : S / 2 ^ (p + 1 + j) % 2 = 0 := by omega
        rw [this, if_neg (by decide), decide_eq_false (fun x => hf (Wof_9.mp x)), Bool.false_and, if_neg (by decide)]; rfl
    rw [prI, hit, i2]
    refine ⟨fun X hX => by rw [pk_un hX]; exact i1 X hX, ?_⟩
    rw [pk_us, mxJ]
    have hbj := op_le (nm := nm) (fo := fo) (N - (p + 1)) (p + 1) (Wq (Wof S) p (p + 1 + j)) (by omega)
    have hbj2 := frC_le (Wq (Wof S) p (p + 1 + j)) (p + 1) (N - (p + 1))
    obtain ⟨a, ea⟩ : ∃ a, a = op nm fo (N - (p + 1)) (p + 1) (Wof S) := ⟨_, rfl⟩
    obtain ⟨m, em⟩ : ∃ m, m = mxJ (cJ nm fo (Wof S) p) (fun j => 1 + op nm fo (N - (p + 1)) (p + 1) (Wq (Wof S) p (p + 1 + j))) j := ⟨_, rfl⟩
    obtain ⟨v, ev⟩ : ∃ v, v = 1 + op nm fo (N - (p + 1)) (p + 1) (Wq (Wof S) p (p + 1 + j)) := ⟨_, rfl⟩
    have hm7 : m ≤ 100 := by
      rcases mx_at (c := cJ nm fo (Wof S) p) (v := fun j => 1 + op nm fo (N - (p + 1)) (p + 1) (Wq (Wof S) p (p + 1 + j))) j with q | ⟨k, -, -, q3⟩
      · omega
      · have c1 := op_le (nm := nm) (fo := fo) (N - (p + 1)) (p + 1) (Wq (Wof S) p (p + 1 + k)) (by omega)
        have c2 := frC_le (Wq (Wof S) p (p + 1 + k)) (p + 1) (N - (p + 1))
        rw [em, ← q3]; show 1 + _ ≤ _; omega
    rw [← ea] at hba
    rw [← ea, ← em, ← ev]
    exact mx_step (by omega) (by omega) (by omega)
/-- the reference's table -/
theorem prS_all {nm fo s qu tw : Nat → Int32} {N : Nat} (hN : N ≤ 7) (hs : ∀ i, i < N → s i = nm i) (hq : ∀ i, i < N → qu i = fo i) : ∀ k, k < 2 ^ N → ∀ X, X ≤ k → prS s qu tw N k X = nI (opS nm fo N X)
  | 0, _, X, hX => by
    have : X = 0 := by omega
    subst this
    rw [prS, pk_us, opS_at (p := N) (W := Wof 0) hN (Nat.le_refl _) (fun q _ => by rw [Nat.zero_div]) (fun q h1 h2 => by omega), Nat.sub_self]; rfl
  | k + 1, hk, X, hX => by
    have ih := prS_all (tw := tw) hN hs hq k (by omega)
    have h128 := lt128 hk hN
    obtain ⟨l1, l2, l3⟩ := lb_is (k + 1) h128 (by omega)
    have hlN := bit_lt hk l2
    obtain ⟨p1, p2⟩ := prI_at (nm := nm) (fo := fo) (tw := prS s qu tw N k) hN hk l2 l3 hs hq (fun Y hY => ih Y (by omega)) (N - (lbN (k + 1) + 1)) (by omega)
    rw [prS]
    by_cases e : X = k + 1
    · subst e
      rw [p2]
      congr 1
      rw [opS_at (p := lbN (k + 1)) (W := Wof (k + 1)) hN (by omega) l3 (fun q _ _ => Wof_9.symm), show N - lbN (k + 1) = (N - (lbN (k + 1) + 1)) + 1 from by omega, op, if_pos (Wof_9.mpr l2)]
    · rw [p1 X e]; exact ih X (by omega)
theorem mtF_ff {s qu tw : Nat → Int32} {lf a N : Nat} {c : Nat → Bool} (hc : ∀ j, a + 1 + j < N → (mbI s qu tw lf a (a + 1 + j) = 0 ↔ c j = false)) : ∀ n, a + 1 + n ≤ N → mtF s qu tw lf a N n = (ff (fun j => c (N - 1 - a - n + j)) n).map (fun j => N - n + j)
  | 0, _ => rfl
  | n + 1, h => by
    have ih := mtF_ff hc n (by omega)
    have h1 := hc (N - 1 - a - (n + 1)) (by omega)
    rw [show a + 1 + (N - 1 - a - (n + 1)) = N - 1 - n from by omega] at h1
    rw [mtF, ih]
    cases hx : c (N - 1 - a - (n + 1))
    · rw [if_pos (h1.mpr hx)]
      rcases ff_is (c := fun j => c (N - 1 - a - n + j)) n with ⟨q1, q2⟩ | ⟨i, q1, q2, q3, q4⟩
      · rw [q1, ff_none]
        · rfl
        · intro k hk
          cases k with
          | zero => exact hx
          | succ k =>
            have := q2 k (by omega)
            rw [show N - 1 - a - (n + 1) + (k + 1) = N - 1 - a - n + k from by omega]; exact this
      · rw [q1, ff_some (i := i + 1)]
        · show some (N - n + i) = some (N - (n + 1) + (i + 1)); congr 1; omega
        · omega
        · rw [show N - 1 - a - (n + 1) + (i + 1) = N - 1 - a - n + i from by omega]; exact q3
        · intro k hk
          cases k with
          | zero => exact hx
          | succ k =>
            have := q4 k (by omega)
            rw [show N - 1 - a - (n + 1) + (k + 1) = N - 1 - a - n + k from by omega]; exact this
    · rw [if_neg (fun q => by rw [h1.mp q] at hx; cases hx), ff_some (i := 0)]
      · show some (N - 1 - n) = some (N - (n + 1) + 0); congr 1; omega
      · omega
      · exact hx
      · intro k hk; omega
/-- the reference's choice is the first best way -/
theorem ma_all {nm fo s qu tw b : Nat → Int32} {N : Nat} {W0 : Nat → Int32} (hN : N ≤ 7) (hs : ∀ i, i < N → s i = nm i) (hq : ∀ i, i < N → qu i = fo i) (ht : ∀ X, X < 2 ^ N → tw X = nI (opS nm fo N X)) (hW0 : ∀ q, q < N → W0 q = -9) : ∀ a, a ≤ N →
    ∃ W : Nat → Int32, gr nm fo N 0 W0 = gr nm fo (N - a) a W ∧ (maF s qu tw N (2 ^ N - 1) b a).1 < 2 ^ N ∧ (∀ q, q < a → (maF s qu tw N (2 ^ N - 1) b a).1 / 2 ^ q % 2 = 0) ∧ (∀ q, a ≤ q → q < N → ((maF s qu tw N (2 ^ N - 1) b a).1 / 2 ^ q % 2 = 1 ↔ W q = -9)) ∧ ∀ p, p < N → (p < a ∨ ¬ W p = -9) → (maF s qu tw N (2 ^ N - 1) b a).2 p = W p
  | 0, _ => by
    have hp := Nat.two_pow_pos N
    refine ⟨W0, rfl, by show 2 ^ N - 1 < 2 ^ N; omega, fun q hq2 => by omega, fun q _ h2 => ?_, fun p hp2 h => ?_⟩
    · have : ∀ N, N < 8 → ∀ q, q < N → (2 ^ N - 1) / 2 ^ q % 2 = 1 := by decide +kernel
      exact ⟨fun _ => hW0 q h2, fun _ => this N (by omega) q h2⟩
    · exact absurd (hW0 p hp2) (h.resolve_left (by omega))
  | a + 1, ha => by
    obtain ⟨W, w1, w2, w3, w4, w5⟩ := ma_all (b := b) hN hs hq ht hW0 a (by omega)
    rw [maF]
    obtain ⟨X, hX⟩ : ∃ X, X = maF s qu tw N (2 ^ N - 1) b a := ⟨_, rfl⟩
    rw [← hX] at w2 w3 w4 w5 ⊢
    have hX1 := lt128 w2 hN
    rw [show N - a = (N - (a + 1)) + 1 from by omega] at w1
    by_cases hbit : X.1 / 2 ^ a % 2 = 1
    · rw [if_pos (by rw [hbit]; rfl)]
      have h9 : W a = -9 := (w4 a (Nat.le_refl _) (by omega)).mp hbit
      have hle := pw_le X.1 hX1 a (by omega) hbit
      have hpos := Nat.two_pow_pos a
      have hlf : tw X.1 = nI (op nm fo (N - (a + 1) + 1) a W) := by
        rw [ht X.1 w2, opS_at (p := a) (W := W) hN (by omega) w3 w4, show N - a = N - (a + 1) + 1 from by omega]
      have hbl := op_le (nm := nm) (fo := fo) (N - (a + 1) + 1) a W (by omega)
      have hbl2 := frC_le W a (N - (a + 1) + 1)
      have hmt := mtF_ff (s := s) (qu := qu) (tw := tw) (lf := X.1) (a := a) (N := N) (c := gJ nm fo (N - (a + 1)) a W) (fun j hj => by
        unfold mbI gJ cJ
        have hbs := bit_sub X.1 hX1 a (by omega) hbit (a + 1 + j) (by omega)
        rw [if_neg (by omega)] at hbs
        rw [hbs, mm_eq (nm := nm) (fo := fo) ⟨hs a (by omega), hs (a + 1 + j) (by omega)⟩ (hq a (by omega)) (by omega)]
        have hw := w4 (a + 1 + j) (by omega) (by omega)
        by_cases hf : X.1 / 2 ^ (a + 1 + j) % 2 = 1
        · rw [hf, if_pos (show nI 1 = (1 : Int32) from rfl), decide_eq_true (hw.mp hf), Bool.true_and]
          by_cases hz : mmI nm fo a (a + 1 + j) = 0
          · rw [if_pos hz, decide_eq_true hz]; simp
          · rw [if_neg hz, decide_eq_false hz]
            have hb2 : (X.1 - 2 ^ a) / 2 ^ (a + 1 + j) % 2 = 1 := by rw [hbs, hf]
            have hS2 : X.1 - 2 ^ a < 128 := by omega
            have htt : tw (X.1 - 2 ^ a - 2 ^ (a + 1 + j)) = nI (op nm fo (N - (a + 1)) (a + 1) (Wq W a (a + 1 + j))) := by
              rw [ht _ (Nat.lt_of_le_of_lt (Nat.le_trans (Nat.sub_le _ _) (Nat.sub_le _ _)) w2), opS_at (p := a + 1) (W := Wq W a (a + 1 + j)) hN (by omega)]
              · intro q hq2
                rw [bit_sub _ hS2 _ (by omega) hb2 q (by omega), bit_sub X.1 hX1 a (by omega) hbit q (by omega)]
                split
                · rfl
                · split
                  · rfl
                  · exact w3 q (by omega)
              · intro q h1 h2
                rw [bit_sub _ hS2 _ (by omega) hb2 q (by omega), bit_sub X.1 hX1 a (by omega) hbit q (by omega)]
                by_cases e : q = a + 1 + j
                · subst e
                  rw [if_pos rfl, Wq_q]
                  exact ⟨fun x => absurd x (by decide), fun x => absurd x (nm_ne9 (by omega))⟩
                · rw [if_neg e, if_neg (by omega), Wq_x (by omega) e]; exact w4 q (by omega) h2
            have hbq := op_le (nm := nm) (fo := fo) (N - (a + 1)) (a + 1) (Wq W a (a + 1 + j)) (by omega)
            have hbq2 := frC_le (Wq W a (a + 1 + j)) (a + 1) (N - (a + 1))
            rw [htt, hlf, show (1 : Int32) + nI (op nm fo (N - (a + 1)) (a + 1) (Wq W a (a + 1 + j))) = nI (1 + op nm fo (N - (a + 1)) (a + 1) (Wq W a (a + 1 + j))) from nI_add 1 _]
            by_cases hv : 1 + op nm fo (N - (a + 1)) (a + 1) (Wq W a (a + 1 + j)) = op nm fo (N - (a + 1) + 1) a W
            · rw [if_pos (by rw [hv]), decide_eq_true hv]; simp
            · rw [if_neg (fun q => hv ((nI_eq (by omega) (by omega)).mp q)), decide_eq_false hv]; simp
        · have : X.1 / 2 ^ (a + 1 + j) % 2 = 0 := by omega
          rw [this, if_neg (by decide), decide_eq_false (fun x => hf (hw.mpr x))]; simp) (N - 1 - a) (by omega)
      rw [show N - 1 - a - (N - 1 - a) = 0 from by omega, show N - (N - 1 - a) = a + 1 from by omega, show N - 1 - a = N - (a + 1) from by omega] at hmt
      have hmt2 : mtF s qu tw X.1 a N (N - (a + 1)) = (ff (gJ nm fo (N - (a + 1)) a W) (N - (a + 1))).map (fun j => a + 1 + j) := by
        rw [hmt]
        congr 1
        apply ff_cong
        intro k _
        rw [Nat.zero_add]
      rw [show N - 1 - a = N - (a + 1) from by omega, hmt2]
      rw [gr, if_pos h9] at w1
      rcases ff_is (c := gJ nm fo (N - (a + 1)) a W) (N - (a + 1)) with ⟨q1, -⟩ | ⟨j, q1, q2, q3, -⟩
      · rw [q1] at w1 ⊢
        refine ⟨W, w1, by show X.1 - 2 ^ a < _; omega, fun q hq2 => ?_, fun q h1 h2 => ?_, fun p hp h => ?_⟩
        · show (X.1 - 2 ^ a) / 2 ^ q % 2 = 0
          rw [bit_sub X.1 hX1 a (by omega) hbit q (by omega)]
          split
          · rfl
          · exact w3 q (by omega)
        · show (X.1 - 2 ^ a) / 2 ^ q % 2 = 1 ↔ _
          rw [bit_sub X.1 hX1 a (by omega) hbit q (by omega), if_neg (by omega)]
          exact w4 q (by omega) h2
        · show upd X.2 a (-9) p = W p
          by_cases e : p = a
          · subst e; rw [pk_us, h9]
          · rw [pk_un e]
            exact w5 p hp (h.elim (fun q => Or.inl (by omega)) Or.inr)
      · rw [q1] at w1 ⊢
        have hf : W (a + 1 + j) = -9 := by
          unfold gJ cJ at q3
          simp only [Bool.and_eq_true, decide_eq_true_eq] at q3
          exact q3.1.1
        have hbj : X.1 / 2 ^ (a + 1 + j) % 2 = 1 := (w4 _ (by omega) (by omega)).mpr hf
        have hb2 : (X.1 - 2 ^ a) / 2 ^ (a + 1 + j) % 2 = 1 := by rw [bit_sub X.1 hX1 a (by omega) hbit _ (by omega), if_neg (by omega), hbj]
        have hS2 : X.1 - 2 ^ a < 128 := by omega
        refine ⟨Wq W a (a + 1 + j), w1, Nat.lt_of_le_of_lt (Nat.le_trans (Nat.sub_le _ _) (Nat.sub_le _ _)) w2, fun q hq2 => ?_, fun q h1 h2 => ?_, fun p hp h => ?_⟩
        · show (X.1 - 2 ^ a - 2 ^ (a + 1 + j)) / 2 ^ q % 2 = 0
          rw [bit_sub _ hS2 _ (by omega) hb2 q (by omega), bit_sub X.1 hX1 a (by omega) hbit q (by omega)]
          split
          · rfl
          · split
            · rfl
            · exact w3 q (by omega)
        · show (X.1 - 2 ^ a - 2 ^ (a + 1 + j)) / 2 ^ q % 2 = 1 ↔ _
          rw [bit_sub _ hS2 _ (by omega) hb2 q (by omega), bit_sub X.1 hX1 a (by omega) hbit q (by omega)]
          by_cases e : q = a + 1 + j
          · subst e
            rw [if_pos rfl, Wq_q]
            exact ⟨fun x => absurd x (by decide), fun x => absurd x (nm_ne9 (by omega))⟩
          · rw [if_neg e, if_neg (by omega), Wq_x (by omega) e]; exact w4 q (by omega) h2
        · show upd (upd X.2 a (nI (a + 1 + j))) (a + 1 + j) (nI a) p = Wq W a (a + 1 + j) p
          by_cases e : p = a + 1 + j
          · subst e; rw [pk_us, Wq_q]
          · rw [pk_un e]
            by_cases e2 : p = a
            · subst e2; rw [pk_us, Wq_P e]
            · rw [pk_un e2, Wq_x e2 e]
              refine w5 p hp ?_
              rcases h with q | q
              · exact Or.inl (by omega)
              · rw [Wq_x e2 e] at q; exact Or.inr q
    · have hb0 : X.1 / 2 ^ a % 2 = 0 := by omega
      rw [if_neg (by rw [hb0]; decide)]
      have h9 : ¬ W a = -9 := fun q => hbit ((w4 a (Nat.le_refl _) (by omega)).mpr q)
      rw [gr, if_neg h9] at w1
      refine ⟨W, w1, w2, fun q hq2 => ?_, fun q h1 h2 => w4 q (by omega) h2, fun p hp h => ?_⟩
      · by_cases e : q = a
        · rw [e, hb0]
        · exact w3 q (by omega)
      · by_cases e : p = a
        · subst e; exact w5 p hp (Or.inr h9)
        · exact w5 p hp (h.elim (fun q => Or.inl (by omega)) Or.inr)
theorem fil_in (f : Nat → Int32) (x : Int32) : ∀ n i, i < n → fil f x n i = x
  | 0, i, h => absurd h (Nat.not_lt_zero i)
  | n + 1, i, h => by
    rw [fil]
    by_cases e : i = n
    · subst e; exact pk_us
    · rw [pk_un e]; exact fil_in f x n i (by omega)
theorem married_eq {N : Nat} {V L Wd : NV} {r b tw qu : Nat → Int32} (hN : N ≤ 7) (hr : ∀ i, i < N → V 0 i = r i) (hq : ∀ i, i < N → L 1 i = qu i) (p : Int32) : maR N V L Wd p = (if p = -1 ∨ ¬ inI p 0 (nI N - 1) = 0 then (if p = -1 then (prS r qu tw N (2 ^ N - 1)) (2 ^ N - 1) else (maF r qu (prS r qu tw N (2 ^ N - 1)) N (2 ^ N - 1) b N).2 p.toNatClampNeg) else -1) := by
  have hp := Nat.two_pow_pos N
  obtain ⟨S, hS⟩ : ∃ S, S = upA (upA Wd 0 (fil (Wd 0) (-9) 7)) 2 (upd (Wd 2) 0 (-1)) := ⟨_, rfl⟩
  have hS0 : S 0 = fil (Wd 0) (-9) 7 := by rw [hS]; rfl
  have hS9 : ∀ q, q < N → S 0 q = -9 := fun q hq2 => by rw [hS0]; exact fil_in _ _ 7 q (by omega)
  obtain ⟨-, g2, -⟩ := pf_all (nm := V 0) (fo := L 1) hN N 0 0 0 S (by omega) (Nat.le_refl _) (by omega) (by rw [hS]; show (-1 : Int32) = nI 0 - 1; decide +kernel)
  obtain ⟨g3, g4⟩ := g2 (Nat.zero_le _)
  have hw : wdS Wd N (V 0) (L 1) = pfr (V 0) (L 1) N 0 (nI 0) S := by rw [hS]; rfl
  rw [← hw, Nat.zero_add] at g3
  rw [← hw] at g4
  have htab := prS_all (nm := V 0) (fo := L 1) (s := r) (qu := qu) (tw := tw) hN (fun i hi => (hr i hi).symm) (fun i hi => (hq i hi).symm) (2 ^ N - 1) (by omega)
  have hm : wdS Wd N (V 0) (L 1) 2 0 = (prS r qu tw N (2 ^ N - 1)) (2 ^ N - 1) := by
    rw [g3, htab _ (Nat.le_refl _)]
    congr 1
    have hall : ∀ N, N < 8 → ∀ q, q < N → (2 ^ N - 1) / 2 ^ q % 2 = 1 := by decide +kernel
    unfold opS
    exact op_cong _ _ _ _ (by omega) (fun q _ h2 => by
      rw [Wof_9]
      exact ⟨fun _ => hall N (by omega) q (by omega), fun _ => hS9 q (by omega)⟩)
  unfold maR
  by_cases h1 : p = -1
  · rw [if_pos h1, if_pos (Or.inl h1), if_pos h1, hm]
  · rw [if_neg h1]
    by_cases h0 : inI p 0 (nI N - 1) = 0
    · rw [if_pos h0, if_neg (fun q => q.elim h1 (fun q => q h0))]
    · rw [if_neg h0, if_pos (Or.inr h0), if_neg h1]
      obtain ⟨h2, -⟩ := in_tn hN h0
      obtain ⟨W, w1, -, -, -, w5⟩ := ma_all (nm := V 0) (fo := L 1) (s := r) (qu := qu) (tw := prS r qu tw N (2 ^ N - 1)) (b := b) (W0 := S 0) hN (fun i hi => (hr i hi).symm) (fun i hi => (hq i hi).symm) (fun X hX => htab X (by omega)) hS9 N (Nat.le_refl _)
      show wdS Wd N (V 0) (L 1) 1 (tn p) = (maF r qu (prS r qu tw N (2 ^ N - 1)) N (2 ^ N - 1) b N).2 (tn p)
      rw [g4 _ h2, w1, Nat.sub_self, w5 _ h2 (Or.inl h2)]
      rfl
