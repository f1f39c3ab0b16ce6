/-! the pure layer: bits and sets (bt, b_ .. begun from kit/laws/BITS.to-paste) -/
def bt (x : Int32) (i : Nat) : Bool := x.toBitVec.getLsbD i
theorem b_ext {x y : Int32} (h : ∀ i, i < 32 → bt x i = bt y i) : x = y := Int32.toBitVec_inj.mp (BitVec.eq_of_getLsbD_eq (fun i hi => h i hi))
theorem b_or (x y : Int32) (i : Nat) : bt (x ||| y) i = (bt x i || bt y i) := by unfold bt; rw [Int32.toBitVec_or, BitVec.getLsbD_or]
theorem b_and (x y : Int32) (i : Nat) : bt (x &&& y) i = (bt x i && bt y i) := by unfold bt; rw [Int32.toBitVec_and, BitVec.getLsbD_and]
theorem b_xor (x y : Int32) (i : Nat) : bt (x ^^^ y) i = (bt x i ^^ bt y i) := by unfold bt; rw [Int32.toBitVec_xor, BitVec.getLsbD_xor]
theorem b_big {x : Int32} {i : Nat} (h : 32 ≤ i) : bt x i = false := BitVec.getLsbD_of_ge _ _ h
theorem b_m1 : ∀ i, i < 32 → bt (-1) i = true := by decide +kernel
theorem b_0 (i : Nat) : bt 0 i = false := BitVec.getLsbD_zero
theorem s_l : ∀ n, n < 32 → ((nI n &&& 31).toBitVec.smod 32).toNat = n := by decide +kernel
theorem b_shl (n : Nat) (hn : n < 32) (x : Int32) {i : Nat} (hi : i < 32) : bt (x <<< (nI n &&& 31)) i = (decide (n ≤ i) && bt x (i - n)) := by
  unfold bt
  rw [Int32.toBitVec_shiftLeft]
  show (x.toBitVec <<< ((nI n &&& 31).toBitVec.smod 32).toNat).getLsbD i = _
  rw [s_l n hn, BitVec.getLsbD_shiftLeft]
  rcases Nat.lt_or_ge i n with h | h
  · simp [h, Nat.not_le.mpr h]
  · simp [hi, h, Nat.not_lt.mpr h]
theorem b_sshr (n : Nat) (hn : n < 32) (x : Int32) {i : Nat} (hi : i < 32) : bt (x >>> (nI n &&& 31)) i = if n + i < 32 then bt x (n + i) else bt x 31 := by
  unfold bt
  rw [Int32.toBitVec_shiftRight]
  show (x.toBitVec.sshiftRight ((nI n &&& 31).toBitVec.smod 32).toNat).getLsbD i = _
  rw [s_l n hn, BitVec.getLsbD_sshiftRight, BitVec.msb_eq_getLsbD_last]
  simp [hi]
theorem b_1 : ∀ i, i < 32 → bt 1 i = decide (i = 0) := by decide +kernel
theorem b_127 : ∀ i, i < 32 → bt 127 i = decide (i < 7) := by decide +kernel
theorem b_one {q : Nat} (hq : q < 32) {i : Nat} (hi : i < 32) : bt ((1 : Int32) <<< (nI q &&& 31)) i = decide (i = q) := by
  rw [b_shl q hq 1 hi, b_1 (i - q) (by omega), Bool.eq_iff_iff]
  simp only [Bool.and_eq_true, decide_eq_true_eq]
  omega
theorem bi_bt (x : Int32) {p : Nat} (hp : p < 32) : bitI x (nI p) = if bt x p then 1 else 0 := by
  apply b_ext
  intro i hi
  unfold bitI
  rw [b_and, b_sshr p hp x hi, b_1 i hi]
  by_cases h : i = 0
  · subst h
    rw [if_pos (by omega), Nat.add_zero]
    cases bt x p <;> decide +kernel
  · rw [decide_eq_false h, Bool.and_false]
    cases bt x p
    · rw [if_neg (by decide), b_0]
    · rw [if_pos rfl, b_1 i hi, decide_eq_false h]
theorem bi_1 {x : Int32} {p : Nat} (hp : p < 32) : bitI x (nI p) = 1 ↔ bt x p = true := by
  rw [bi_bt x hp]
  cases bt x p <;> simp
theorem bi_0 {x : Int32} {p : Nat} (hp : p < 32) : bitI x (nI p) = 0 ↔ bt x p = false := by
  rw [bi_bt x hp]
  cases bt x p <;> simp
def s7 (x : Int32) : Prop := ∀ i, 7 ≤ i → bt x i = false
theorem s7_nat {x : Int32} (h : s7 x) : ∃ m, m < 128 ∧ x = nI m := by
  obtain ⟨j, hj, e⟩ := pk_andE x (m := 127) 7 (by decide +kernel)
  refine ⟨j, hj, ?_⟩
  rw [← e]
  apply b_ext
  intro i hi
  rw [b_and, b_127 i hi]
  by_cases h7 : i < 7
  · rw [decide_eq_true h7, Bool.and_true]
  · rw [h i (by omega), Bool.false_and]
theorem bc_on {x : Int32} (h : s7 x) : bcI x = onI x 7 := by
  obtain ⟨m, hm, rfl⟩ := s7_nat h
  rw [bc_nat m hm, on_nat m hm]
def ct (p : Nat → Bool) : Nat → Nat
  | 0 => 0
  | n + 1 => ct p n + (if p n then 1 else 0)
theorem ct_le (p : Nat → Bool) : ∀ n, ct p n ≤ n
  | 0 => Nat.le_refl _
  | n + 1 => by
    have h := ct_le p n
    rw [ct]
    split <;> omega
theorem ct_cong {p q : Nat → Bool} : ∀ {n : Nat}, (∀ k, k < n → p k = q k) → ct p n = ct q n
  | 0, _ => rfl
  | n + 1, h => by rw [ct, ct, ct_cong (fun k hk => h k (by omega)), h n (by omega)]
theorem ct_or {p q : Nat → Bool} : ∀ {n : Nat}, (∀ k, k < n → ¬ (p k = true ∧ q k = true)) → ct (fun k => p k || q k) n = ct p n + ct q n
  | 0, _ => rfl
  | n + 1, h => by
    have h1 := ct_or (p := p) (q := q) (n := n) (fun k hk => h k (by omega))
    have h2 := h n (by omega)
    rw [ct, ct, ct, h1]
    cases hp : p n <;> cases hq : q n
    · simp
    · simp; omega
    · simp; omega
    · exact absurd ⟨hp, hq⟩ h2
theorem ct_no {p : Nat → Bool} : ∀ {n : Nat}, (∀ k, k < n → p k = false) → ct p n = 0
  | 0, _ => rfl
  | n + 1, h => by rw [ct, ct_no (fun k hk => h k (by omega)), h n (by omega)]; rfl
theorem ct_more {p : Nat → Bool} {n : Nat} : ∀ {m : Nat}, (∀ k, n ≤ k → k < n + m → p k = false) → ct p (n + m) = ct p n
  | 0, _ => rfl
  | m + 1, h => by
    rw [← Nat.add_assoc, ct, ct_more (m := m) (fun k h1 h2 => h k h1 (by omega)), h (n + m) (by omega) (by omega)]
    rfl
theorem ct_to {p : Nat → Bool} {n m : Nat} (hm : n ≤ m) (h : ∀ k, n ≤ k → p k = false) : ct p m = ct p n := by
  have := ct_more (p := p) (n := n) (m := m - n) (fun k h1 _ => h k h1)
  rw [show n + (m - n) = m from by omega] at this
  exact this
theorem nI_if (a : Nat) (b : Bool) : nI a + (if b then 1 else 0) = nI (a + (if b then 1 else 0)) := by
  cases b
  · rw [if_neg (by decide), if_neg (by decide), Int32.add_zero, Nat.add_zero]
  · rw [if_pos rfl, if_pos rfl]; exact nI_add a 1
theorem on_ct (x : Int32) : ∀ n, n ≤ 32 → onI x n = nI (ct (bt x) n)
  | 0, _ => rfl
  | n + 1, h => by
    show onI x n + bitI x (nI n) = _
    rw [on_ct x n (by omega), bi_bt x (by omega), nI_if]
    rfl
theorem bc_ct {x : Int32} {N : Nat} (hN : N ≤ 7) (h : ∀ i, N ≤ i → bt x i = false) : bcI x = nI (ct (bt x) N) := by
  rw [bc_on (fun i hi => h i (by omega)), on_ct x 7 (by omega), ct_to hN h]
theorem br_pp (f : Nat → Int32) (k : Int32) : ∀ n, br f k n = ppO f k n
  | 0 => rfl
  | n + 1 => by
    rw [br, ppO, br_pp f k n]
    split
    · rfl
    · rw [Int32.or_zero]
theorem pp_cong {f r : Nat → Int32} (k : Int32) : ∀ {n : Nat}, (∀ i, i < n → r i = f i) → ppO r k n = ppO f k n
  | 0, _ => rfl
  | n + 1, h => by rw [ppO, ppO, pp_cong k (fun i hi => h i (by omega)), h n (by omega)]
/-- a set put together by a rule -/
def orF (c : Nat → Bool) : Nat → Int32
  | 0 => 0
  | n + 1 => orF c n ||| (if c n then ((1 : Int32) <<< (nI n &&& 31)) else 0)
theorem b_orF {c : Nat → Bool} {i : Nat} (hi : i < 32) : ∀ {n : Nat}, n ≤ 32 → bt (orF c n) i = (decide (i < n) && c i)
  | 0, _ => by rw [orF, b_0]; simp
  | n + 1, h => by
    rw [orF, b_or, b_orF hi (n := n) (by omega)]
    have h2 : bt (if c n = true then ((1 : Int32) <<< (nI n &&& 31)) else 0) i = (decide (i = n) && c n) := by
      cases c n
      · rw [if_neg (by decide), b_0, Bool.and_false]
      · rw [if_pos rfl, b_one (by omega) hi, Bool.and_true]
    rw [h2]
    by_cases e : i = n
    · subst e; simp
    · have : decide (i < n + 1) = decide (i < n) := by
        rw [Bool.eq_iff_iff]; simp only [decide_eq_true_eq]; omega
      rw [this, decide_eq_false e, Bool.false_and, Bool.or_false]
theorem orF_out {c : Nat → Bool} {n : Nat} (hn : n ≤ 32) : ∀ i, n ≤ i → bt (orF c n) i = false := by
  intro i hi
  by_cases h : i < 32
  · rw [b_orF h hn, decide_eq_false (show ¬ i < n by omega), Bool.false_and]
  · exact b_big (by omega)
theorem pp_orF (f : Nat → Int32) (k : Int32) : ∀ n, ppO f k n = orF (fun i => decide (f i = k)) n
  | 0 => rfl
  | n + 1 => by
    rw [ppO, orF, pp_orF f k n]
    by_cases h : f n = k <;> simp [h]
theorem b_pp {f : Nat → Int32} {k : Int32} {i : Nat} (hi : i < 32) {n : Nat} (h : n ≤ 7) : bt (ppO f k n) i = (decide (i < n) && decide (f i = k)) := by rw [pp_orF, b_orF hi (by omega)]
theorem pp_out {f : Nat → Int32} {k : Int32} {N : Nat} (hN : N ≤ 7) : ∀ i, N ≤ i → bt (ppO f k N) i = false := by
  intro i hi
  by_cases h : i < 32
  · rw [b_pp h hN, decide_eq_false (by omega), Bool.false_and]
  · exact b_big (by omega)
theorem one_out {P N : Nat} (hP : P < N) (hN : N ≤ 32) : ∀ i, N ≤ i → bt ((1 : Int32) <<< (nI P &&& 31)) i = false := by
  intro i hi
  by_cases h : i < 32
  · rw [b_one (by omega) h, decide_eq_false (by omega)]
  · exact b_big (by omega)
theorem and_one {x : Int32} {P : Nat} (hP : P < 32) : ((1 : Int32) <<< (nI P &&& 31)) &&& x = 0 ↔ bt x P = false := by
  constructor
  · intro h
    have h2 := congrArg (fun y => bt y P) h
    simp only [b_and, b_one hP hP, b_0] at h2
    simpa using h2
  · intro h
    apply b_ext
    intro i hi
    rw [b_and, b_one hP hi, b_0]
    by_cases e : i = P
    · subst e; rw [h, Bool.and_false]
    · rw [decide_eq_false e, Bool.false_and]
/-- all names are told ones -/
def nmO (f : Nat → Int32) (N C : Nat) : Prop := ∀ i, i < N → ∃ c, c < C ∧ f i = nI c
theorem b_lmp {f : Nat → Int32} {N P c : Nat} {hu : Int32} (hN : N ≤ 7) (hP : P < N) (hc : c < 1000) (e : f P = nI c) : ∀ n, n ≤ 1000 → bt (lmp f N hu n) P = (decide (c < n) && !decide (ppO f (nI c) N &&& hu = 0))
  | 0, _ => by rw [lmp, b_0]; simp
  | k + 1, hk => by
    rw [lmp, br_pp]
    have ih := b_lmp (hu := hu) hN hP hc e k (by omega)
    by_cases hck : c = k
    · subst hck
      by_cases h0 : ppO f (nI c) N &&& hu = 0
      · rw [if_pos h0, ih]; simp [h0]
      · rw [if_neg h0, b_or, ih, b_pp (by omega) hN]; simp [h0, hP, e]
    · have hne : ¬ f P = nI k := by rw [e]; exact fun q => hck ((nI_eq (by omega) (by omega)).mp q)
      have hd : decide (c < k + 1) = decide (c < k) := by
        rw [Bool.eq_iff_iff]
        simp only [decide_eq_true_eq]
        omega
      by_cases h0 : ppO f (nI k) N &&& hu = 0
      · rw [if_pos h0, ih, hd]
      · rw [if_neg h0, b_or, ih, b_pp (by omega) hN, hd, decide_eq_false hne, Bool.and_false, Bool.or_false]
theorem lmp_out {f : Nat → Int32} {N : Nat} {hu : Int32} (hN : N ≤ 7) : ∀ n i, N ≤ i → bt (lmp f N hu n) i = false
  | 0, i, _ => b_0 i
  | k + 1, i, h => by
    rw [lmp, br_pp]
    split
    · exact lmp_out hN k i h
    · rw [b_or, lmp_out hN k i h, pp_out hN i h]; rfl
theorem lim_b {f r : Nat → Int32} {N C P : Nat} {hu la : Int32} (hN : N ≤ 7) (hC : C ≤ 4) (hf : nmO f N C) (hr : ∀ i, i < N → r i = f i) (h1 : r 21 = hu) (h2 : r 22 = la) (hP : P < N) : bitI (lmpI f N C hu la) (nI P) = liM r N P := by
  rw [bi_bt _ (by omega)]
  unfold lmpI liM ofM
  rw [h1, h2]
  by_cases hl : la &&& 1 = 0
  · rw [if_pos hl, if_pos hl]
    cases hb : bt hu P
    · rw [if_neg (by decide), if_pos ((and_one (by omega)).mpr hb)]
    · rw [if_pos rfl, if_neg (fun q => by rw [(and_one (by omega)).mp q] at hb; cases hb)]
  · rw [if_neg hl, if_neg hl]
    obtain ⟨c, hc, e⟩ := hf P hP
    rw [b_lmp hN hP (by omega) e C (by omega), hr P hP, e, pp_cong (nI c) hr]
    by_cases h0 : ppO f (nI c) N &&& hu = 0 <;> simp [h0, hc]
theorem lg_orF (r : Nat → Int32) (N : Nat) : ∀ n, lgM r N n = orF (fun i => !decide (liM r N i = 0)) n
  | 0 => rfl
  | n + 1 => by
    rw [lgM, orF, lg_orF r N n]
    by_cases h : liM r N n = 0 <;> simp [h]
theorem b_lg {r : Nat → Int32} {N i : Nat} (hi : i < 32) (n : Nat) (h : n ≤ 7) : bt (lgM r N n) i = (decide (i < n) && !decide (liM r N i = 0)) := by rw [lg_orF, b_orF hi (by omega)]
theorem lim_set {f r : Nat → Int32} {N C : Nat} {hu la : Int32} (hN : N ≤ 7) (hC : C ≤ 4) (hf : nmO f N C) (hr : ∀ i, i < N → r i = f i) (h1 : r 21 = hu) (h2 : r 22 = la) (hh : ∀ i, N ≤ i → bt hu i = false) : lmpI f N C hu la = lgM r N N := by
  apply b_ext
  intro i hi
  rw [b_lg hi N hN]
  by_cases hP : i < N
  · have h := lim_b hN hC hf hr h1 h2 hP
    rw [decide_eq_true hP, Bool.true_and, ← h, bi_bt _ (by omega)]
    cases bt (lmpI f N C hu la) i <;> simp
  · rw [decide_eq_false hP, Bool.false_and]
    unfold lmpI
    split
    · exact hh i (by omega)
    · exact lmp_out hN C i (by omega)
/-- sums over a set -/
theorem wo_sm {f r : Nat → Int32} {F : Nat} (g : Int32) : ∀ {n : Nat}, n ≤ 32 → (∀ i, i < n → r (F + i) = f i) → wo g f n = smO r F g n
  | 0, _, _ => rfl
  | n + 1, hn, h => by
    rw [wo, smO, wo_sm g (by omega) (fun i hi => h i (by omega)), h n (by omega)]
    show _ = _ + (if bitI g (nI n) = 1 then f n else 0)
    rw [bi_bt g (by omega)]
    cases bt g n
    · rw [if_neg (by decide), Int32.zero_mul, if_neg (by decide)]
    · rw [if_pos rfl, Int32.one_mul, if_pos rfl]
theorem fm_sm {f g r : Nat → Int32} {N : Nat} {k : Int32} (hN : N ≤ 7) (hr : ∀ i, i < N → r i = f i) (hg : ∀ i, i < N → r (14 + i) = g i) : ∀ n, n ≤ N → fm f g k n = smO r 14 (ppO r k N) n
  | 0, _ => rfl
  | n + 1, hn => by
    rw [fm, smO, fm_sm hN hr hg n (by omega), hg n (by omega)]
    show _ = _ + (if bitI (ppO r k N) (nI n) = 1 then g n else 0)
    rw [bi_bt _ (by omega), b_pp (by omega) hN, decide_eq_true (show n < N by omega), hr n (by omega), Bool.true_and]
    by_cases h : f n = k
    · rw [if_pos h, decide_eq_true h, if_pos rfl, if_pos rfl]
    · rw [if_neg h, decide_eq_false h, if_neg (by decide), Int32.add_zero]
theorem fame_eq {f g r : Nat → Int32} {N P : Nat} {la : Int32} (hN : N ≤ 7) (hr : ∀ i, i < N → r i = f i) (hg : ∀ i, i < N → r (14 + i) = g i) (h2 : r 22 = la) (hP : P < N) : fmI f g N la P = fmM r N P := by
  unfold fmI fmM
  rw [h2, hg P hP, hr P hP]
  split
  · rfl
  · exact fm_sm hN hr hg N (Nat.le_refl _)
theorem on_pos {x : Int32} {P : Nat} (h7 : s7 x) (hP : P < 7) (h : bt x P = true) : ∃ o : Nat, 0 < o ∧ o ≤ 7 ∧ onI x 7 = nI o := by
  obtain ⟨m, hm, rfl⟩ := s7_nat h7
  refine ⟨pcN m, ?_, pc_le m, on_nat m hm⟩
  refine pc_pos2 m hm (fun e => ?_)
  subst e
  rw [show bt (nI 0) P = false from b_0 P] at h
  cases h
theorem sm_one {r : Nat → Int32} {F P : Nat} (hP : P < 7) : ∀ n, n ≤ 7 → smO r F ((1 : Int32) <<< (nI P &&& 31)) n = if P < n then r (F + P) else 0
  | 0, _ => rfl
  | n + 1, hn => by
    rw [smO, sm_one hP n (by omega)]
    show _ + (if bitI _ (nI n) = 1 then _ else 0) = _
    rw [bi_bt _ (by omega), b_one (by omega) (by omega)]
    rcases Nat.lt_trichotomy n P with h | h | h
    · rw [if_neg (by omega), decide_eq_false (by omega), if_neg (by decide), if_neg (by omega)]; rfl
    · subst h
      rw [if_neg (by omega), decide_eq_true rfl, if_pos rfl, if_pos rfl, if_pos (by omega), Int32.zero_add]
    · rw [if_pos (by omega), decide_eq_false (by omega), if_neg (by decide), if_pos (by omega), Int32.add_zero]
theorem on_1 : ∀ P, P < 7 → onI ((1 : Int32) <<< (nI P &&& 31)) 7 = 1 := by decide +kernel
theorem mx1_n {o : Nat} (h : 0 < o) (h7 : o ≤ 7) : mx1 (nI o) = nI o := by
  unfold mx1
  split
  · rfl
  · rename_i h2
    have : ¬ 1 < o := fun q => h2 ((nI_ltI (a := 1) (b := o) (by decide) (by omega)).mpr q)
    rw [show o = 1 from by omega]; rfl
theorem tx_eq {f g r : Nat → Int32} {N P w : Nat} {la k : Int32} (hN : N ≤ 7) (hP : P < N) (hr : ∀ i, i < N → i ≠ P → r i = f i) (hk : r P = k) (hg : ∀ i, i < N → r (7 + i) = g i) (h2 : r 22 = la) (hw : g P = nI w) (hw9 : w < 1000) : txI f g N la P k = txM r N P := by
  unfold txI txM ofM
  rw [h2]
  by_cases hl : la &&& 4 = 0
  · rw [if_pos hl, if_pos hl, sm_one (by omega) N hN, if_pos hP, hg P hP, on_1 P (by omega), hw]
    have h1 : nI w / 1 = nI w := by
      have := pk_div (a := w) (d := 1) (by omega) (by decide) (by decide)
      rw [Nat.div_one] at this
      exact this
    rw [h1]
  · rw [if_neg hl, if_neg hl]
    unfold txB
    rw [br_pp]
    have es : ppO f k N ||| ((1 : Int32) <<< (nI P &&& 31)) = ppO r (r P) N := by
      apply b_ext
      intro i hi
      rw [b_or, b_pp hi hN, b_pp hi hN, b_one (by omega) hi, hk]
      by_cases e : i = P
      · subst e
        rw [decide_eq_true rfl, Bool.or_true, decide_eq_true hP, decide_eq_true hk]; rfl
      · rw [decide_eq_false e, Bool.or_false]
        by_cases hi2 : i < N
        · rw [hr i hi2 e]
        · rw [decide_eq_false hi2, Bool.false_and, Bool.false_and]
    rw [es]
    have h7 : s7 (ppO r (r P) N) := fun i hi => pp_out hN i (by omega)
    have hb : bt (ppO r (r P) N) P = true := by rw [b_pp (by omega) hN, decide_eq_true hP, decide_eq_true rfl]; rfl
    obtain ⟨o, o1, o2, o3⟩ := on_pos h7 (show P < 7 by omega) hb
    rw [bc_on h7, o3, mx1_n o1 o2, wo_sm (F := 7) _ (by omega) hg]
