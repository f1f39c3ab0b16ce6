/-! the pure layer: quarrels told; the text read whole -/
theorem qB_nu {M : NV} {a : Int32} {k : Nat} : qB M a k = if nuB M 0 (nI k - 1) = 0 then 0 else if M 0 5 = a then 0 else 1 := by
  unfold qB nuB
  by_cases h : M 0 3 = 2
  · rw [if_pos h, if_pos h]
  · rw [if_neg h, if_neg h, if_pos rfl]
theorem foQ_at {f : Nat → Int32} {o v : Nat} (h : o ≠ v) (i : Nat) : foQ f o v i = if i = v then f v ||| ((1 : Int32) <<< (nI o &&& 31)) else if i = o then f o ||| ((1 : Int32) <<< (nI v &&& 31)) else f i := by
  unfold foQ
  by_cases e : i = v
  · subst e; rw [pk_us, if_pos rfl, pk_un (Ne.symm h)]
  · rw [pk_un e, if_neg e]
    by_cases e2 : i = o
    · subst e2; rw [pk_us, if_pos rfl]
    · rw [pk_un e2, if_neg e2]
theorem foQ_b {f : Nat → Int32} {o v : Nat} (h : o ≠ v) (ho : o < 7) (hv : v < 7) (p q : Nat) : bt (foQ f o v p) q = (bt (f p) q || ((decide (p = v) && decide (q = o)) || (decide (p = o) && decide (q = v)))) := by
  rw [foQ_at h]
  by_cases hq : q < 32
  · by_cases e : p = v
    · subst e
      rw [if_pos rfl, b_or, b_one (by omega) hq, decide_eq_false (show ¬ p = o from fun x => h x.symm)]; simp
    · rw [if_neg e, decide_eq_false e]
      by_cases e2 : p = o
      · subst e2
        rw [if_pos rfl, b_or, b_one (by omega) hq, decide_eq_true rfl]; simp
      · rw [if_neg e2, decide_eq_false e2]; simp
  · have b0 : ∀ x : Int32, bt x q = false := fun x => b_big (by omega)
    rw [b0, b0, decide_eq_false (show ¬ q = o by omega), decide_eq_false (show ¬ q = v by omega)]; simp
theorem it_q {A T : NV} {z n C : Nat} {σ : PS} {M : NV} (hz : z ≤ 200) (hX : ltO (T 0) z) (h : RR A (T 0) z n C (nT T z σ) M) :
    ((rdQr T z σ).1 = 0 ∧ FL A (rdQr T z σ).2 (riQ z M n)) ∨ (¬ (rdQr T z σ).1 = 0 ∧ ∃ n' C, RR A (T 0) z n' C (nT T z (rdQr T z σ).2) (riQ z M n)) := by
  have hL1 : σ.2.2.1 3 1 = nI n := h.2.1.2.1.1
  have hn := h.2.1.2.1.2.2
  unfold rdQr riQ
  rw [hL1]
  rcases num_step hz hX h 0 (nI n - 1) with ⟨h0, hf⟩ | ⟨h0, hr, hv, hi⟩
  · left
    rw [if_pos h0]
    refine ⟨rfl, ?_⟩
    rw [riQ1, (hf.un _).1, riQ2, if_neg hf.2.1]
    exact hf
  · rw [if_neg h0, hv]
    obtain ⟨Y, hY⟩ : ∃ Y, Y = nmS z M 0 (nI n - 1) := ⟨_, rfl⟩
    rw [← hY] at hr ⊢
    have e := num_eq hr.1.2.2 0 (nI n - 1)
    rw [riQ1, qB_nu, ← e]
    by_cases k0 : rnR (nT T z (nT T z σ)).2.1 0 (nI n - 1) = 0
    · left
      rw [if_pos k0, if_pos k0]
      have g := hr.fail hz
      refine ⟨rfl, ?_⟩
      rw [riQ2, if_neg g.2.1]
      exact g
    · rw [if_neg k0, if_neg k0]
      have hY5 : Y 0 5 = (nT T z (nT T z σ)).2.1 0 3 := by
        rcases hr.1.2.2 with ⟨a, b⟩ | ⟨a, b, c⟩ | ⟨a, b⟩ | ⟨a, b, -⟩ | ⟨⟨-, a, -⟩, b⟩
        · exact absurd (rnR_1 k0).1 (by rw [a]; decide)
        · exact c.symm
        · exact absurd (rnR_1 k0).1 (by rw [a]; decide)
        · exact absurd (rnR_1 k0).1 (by rcases a with a | a | a | a <;> rw [a] <;> decide)
        · exact absurd (rnR_1 k0).1 a
      rw [hY5]
      by_cases hab : (nT T z (nT T z σ)).2.1 0 3 = (nT T z σ).2.1 0 3
      · left
        rw [if_pos hab, if_pos hab]
        have g := hr.fail hz
        refine ⟨rfl, ?_⟩
        rw [riQ2, if_neg g.2.1]
        exact g
      · right
        rw [if_neg hab, if_neg hab]
        refine ⟨(by decide : ¬ (1 : Int32) = 0), n, C, ?_⟩
        obtain ⟨t1, t2⟩ := tk_ok (z := z) (is := 1) hr.1.1.2.2.2.2.1 (by decide)
        rw [t1, t2, hY5]
        have r2 := hr.next hz hX
        obtain ⟨ja, hja, eja⟩ := inI_nat (nI_m1 (show n < 1000 by omega)) hi
        obtain ⟨jb, hjb, ejb⟩ := inI_nat (nI_m1 (show n < 1000 by omega)) (rnR_1 k0).2
        rw [ejb, eja] at hab ⊢
        have hne : ja ≠ jb := fun q => hab (by rw [q])
        have ta : tn (nI ja) = ja := tn_n (by omega)
        have tb : tn (nI jb) = jb := tn_n (by omega)
        obtain ⟨q1, ⟨d1, d2, d3, d4, d5, d6, d7, d8, d9⟩, q3⟩ := r2
        have h6 : adM z Y 0 6 < 0 := m1_lt q1.1.2.2.2.2.1
        rw [riQ2, if_pos h6, ta, tb, show (nI ja).toNatClampNeg = ja from ta, show (nI jb).toNatClampNeg = jb from tb]
        refine ⟨q1, ⟨d1, d2, d3, d4, fun i hi => ?_, fun i h1 h2 => ?_, fun p q hp hq => ?_, fun p hp => ?_, fun p hp q hq => ?_⟩, fMo_6 q3 (fun i hi => by rw [pk_un (by omega), pk_un (by omega)])⟩
        · show upd _ (7 + jb) _ (7 + i) = foQ _ ja jb i
          rw [foQ_at hne]
          by_cases e1 : i = jb
          · subst e1
            rw [pk_us, if_pos rfl, pk_un (by omega), d5 i hi]; rfl
          · rw [pk_un (by omega), if_neg e1]
            by_cases e2 : i = ja
            · subst e2
              rw [pk_us, if_pos rfl, d5 i hi]; rfl
            · rw [pk_un (by omega), if_neg e2, d5 i hi]; rfl
        · show upd _ (7 + jb) _ (7 + i) = 0
          rw [pk_un (by omega), pk_un (by omega)]; exact d6 i h1 h2
        · show bt (foQ _ ja jb p) q = bt (foQ _ ja jb q) p
          rw [foQ_b hne (by omega) (by omega), foQ_b hne (by omega) (by omega)]
          have hd : bt (σ.2.2.1 1 p) q = bt (σ.2.2.1 1 q) p := d7 p q hp hq
          show (bt (σ.2.2.1 1 p) q || _) = (bt (σ.2.2.1 1 q) p || _)
          rw [hd]
          congr 1
          rw [Bool.or_comm, Bool.and_comm (decide (q = ja)), Bool.and_comm (decide (q = jb))]
        · show bt (foQ _ ja jb p) p = false
          rw [foQ_b hne (by omega) (by omega)]
          show (bt (σ.2.2.1 1 p) p || _) = false
          rw [show bt (σ.2.2.1 1 p) p = false from d8 p hp, Bool.false_or]
          by_cases e1 : p = jb
          · subst e1; rw [decide_eq_false (show ¬ p = ja from fun x => hne x.symm)]; simp
          · rw [decide_eq_false e1]; simp
        · show bt (foQ _ ja jb p) q = false
          rw [foQ_b hne (by omega) (by omega)]
          show (bt (σ.2.2.1 1 p) q || _) = false
          rw [show bt (σ.2.2.1 1 p) q = false from d9 p hp q hq, decide_eq_false (show ¬ q = ja by omega), decide_eq_false (show ¬ q = jb by omega)]; simp
/-- an item's end -/
theorem it_end {A T : NV} {z : Nat} {x : Int32 × PS} {M : NV} (hz : z ≤ 200) (hX : ltO (T 0) z) (h : (x.1 = 0 ∧ FL A x.2 M) ∨ (¬ x.1 = 0 ∧ ∃ n C, RR A (T 0) z n C (nT T z x.2) M)) :
    ((thE T z x).1 = 0 ∧ FL A (thE T z x).2 (rpS z M)) ∨ (¬ (thE T z x).1 = 0 ∧ ∃ n C, RR A (T 0) z n C (nT T z (thE T z x).2) (rpS z M)) := by
  unfold thE rpS
  rcases h with ⟨h0, hf⟩ | ⟨h0, n, C, hr⟩
  · left
    rw [if_pos h0, (hf.un _).1]
    exact ⟨rfl, hf⟩
  · rw [if_neg h0, ← end_eq hr.1.2.2]
    by_cases he : isE (nT T z x.2).2.1 = 0
    · left
      rw [he]
      exact ⟨rfl, hr.fail hz⟩
    · right
      rw [(tk_ok hr.1.1.2.2.2.2.1 he).1]
      exact ⟨he, n, C, hr.next hz hX⟩
theorem rp_no {A T : NV} {z n C t : Nat} {σ : PS} {M : NV} (hz : z ≤ 200) (h : RR A (T 0) z n C σ M) (h0 : rpC M t = 0) : FL A σ (rpB z M t) := by
  have g := h.fail hz
  unfold rpB
  rw [h0]
  unfold rpI
  rw [if_neg g.2.1]
  unfold rpS
  rw [(g.un _).1]
  exact g
theorem rp_yes {A T : NV} {z n C t : Nat} {σ : PS} {M : NV} (hz : z ≤ 200) (hX : ltO (T 0) z) (h : RR A (T 0) z n C σ M) (h0 : ¬ rpC M t = 0) : RR A (T 0) z n C (nT T z σ) (adM z M) ∧ rpB z M t = rpS z (riM z (adM z M) (M 0 5) n) := by
  have r := h.next hz hX
  refine ⟨r, ?_⟩
  have h6 : adM z M 0 6 < 0 := m1_lt r.1.1.2.2.2.2.1
  unfold rpB
  rw [(tk_ok h.1.1.2.2.2.2.1 h0).1, (tk_ok (z := z) h.1.1.2.2.2.2.1 h0).2]
  unfold rpI
  rw [if_pos h6, r.2.1.2.1.2.1, tn_n (by have := r.2.1.2.1.2.2; omega)]
/-- an item, read by both -/
theorem rp_step {A T : NV} {z n C t : Nat} {σ : PS} {M : NV} (hz : z ≤ 200) (hX : ltO (T 0) z) (h : RR A (T 0) z n C σ M) (hnt : ¬ σ.2.1 0 2 = 257) (ht : t = 0 → n = 0) (ht9 : t < 1000) :
    ((riI T z (nI t) σ).1 = 0 ∧ FL A (riI T z (nI t) σ).2 (rpB z M t)) ∨ (¬ (riI T z (nI t) σ).1 = 0 ∧ ∃ n C, RR A (T 0) z n C (nT T z (riI T z (nI t) σ).2) (rpB z M t)) := by
  have h7 : M 0 7 = σ.2.1 0 4 := h.1.1.2.2.2.2.2
  have hL1 : σ.2.2.1 3 1 = nI n := h.2.1.2.1.1
  have hM4 : M 2 4 = nI n := h.2.1.2.1.2.1
  have hn := h.2.1.2.1.2.2
  have other : (¬ σ.2.1 0 2 = 108 ∧ ¬ σ.2.1 0 2 = 110 ∧ ¬ σ.2.1 0 2 = 112 ∧ ¬ σ.2.1 0 2 = 113) → ¬ M 0 3 = 1 → ((riI T z (nI t) σ).1 = 0 ∧ FL A (riI T z (nI t) σ).2 (rpB z M t)) := fun ⟨a, b, c, d⟩ hm => by
    unfold riI
    rw [if_neg a, if_neg b, if_neg c, if_neg d]
    exact ⟨rfl, rp_no hz h (by unfold rpC; rw [if_neg hm])⟩
  rcases h.1.2.2 with ⟨a, b⟩ | ⟨a, b, c⟩ | ⟨a, b⟩ | ⟨a, b, c⟩ | ⟨⟨-, -, -, a, a2, a3, a4⟩, b⟩
  · exact absurd a hnt
  · exact Or.inl (other (by rw [a]; decide) (by rw [b]; decide))
  · exact Or.inl (other (by rw [a]; decide) (by rw [b]; decide))
  · rcases a with a | a | a | a
    · -- n
      have hC : rpC M t = (if nI t = 0 then 1 else 0) := by
        have hm : mbM M (nI t) = (if nI t = 0 then 1 else 0) := by unfold mbM; rw [c, a, if_pos rfl]
        rw [rpC, b, if_pos rfl, hm]
        split <;> rfl
      unfold riI
      rw [if_neg (by rw [a]; decide), if_pos a]
      by_cases h0 : nI t = 0
      · have ht0 : t = 0 := Nat.eq_zero_of_not_pos (fun p => nI_ne0 p (by omega) h0)
        rw [if_pos h0]
        rw [if_pos h0] at hC
        have hn0 := ht ht0
        subst hn0
        obtain ⟨r, e⟩ := rp_yes hz hX h (t := t) (by rw [hC]; decide)
        rw [e, c, a, riM, if_pos rfl]
        exact it_end hz hX (it_n hz hX r)
      · rw [if_neg h0]
        rw [if_neg h0] at hC
        exact Or.inl ⟨rfl, rp_no hz h hC⟩
    · -- p
      have hC : rpC M t = (if 7 ≤ M 2 4 then 0 else 1) := by
        have hm : mbM M (nI t) = (if 7 ≤ M 2 4 then 0 else 1) := by unfold mbM; rw [c, a, if_neg (by decide), if_pos rfl]
        rw [rpC, b, if_pos rfl, hm]
        split <;> rfl
      unfold riI
      rw [if_neg (by rw [a]; decide), if_neg (by rw [a]; decide), if_pos a, hL1]
      rw [hM4] at hC
      by_cases h0 : (7 : Int32) ≤ nI n
      · rw [if_pos h0]
        rw [if_pos h0] at hC
        exact Or.inl ⟨rfl, rp_no hz h hC⟩
      · rw [if_neg h0]
        rw [if_neg h0] at hC
        have hn7 : n < 7 := Nat.lt_of_not_le (fun q => h0 ((nI_leI (a := 7) (b := n) (by decide) (by omega)).mpr q))
        obtain ⟨r, e⟩ := rp_yes hz hX h (t := t) (by rw [hC]; decide)
        rw [e, c, a, riM, if_neg (by decide), if_pos rfl]
        exact it_end hz hX (it_p hz hX hn7 r)
    · -- q
      have hC : rpC M t = 1 := by
        have hm : mbM M (nI t) = 1 := by unfold mbM; rw [c, a, if_neg (by decide), if_neg (by decide), if_pos rfl]
        rw [rpC, b, if_pos rfl, hm]; rfl
      unfold riI
      rw [if_neg (by rw [a]; decide), if_neg (by rw [a]; decide), if_neg (by rw [a]; decide), if_pos a]
      obtain ⟨r, e⟩ := rp_yes hz hX h (t := t) (by rw [hC]; decide)
      rw [e, c, a, riM, if_neg (by decide), if_neg (by decide), if_pos rfl]
      exact it_end hz hX (it_q hz hX r)
    · -- l
      have hC : rpC M t = (if M 0 7 = 0 then 1 else 0) := by
        have hm : mbM M (nI t) = (if M 0 7 = 0 then 1 else 0) := by unfold mbM; rw [c, a, if_neg (by decide), if_neg (by decide), if_neg (by decide)]
        rw [rpC, b, if_pos rfl, hm]
        split <;> rfl
      unfold riI
      rw [if_pos a]
      rw [h7] at hC
      by_cases h0 : σ.2.1 0 4 = 0
      · rw [if_pos h0]
        rw [if_pos h0] at hC
        obtain ⟨r, e⟩ := rp_yes hz hX h (t := t) (by rw [hC]; decide)
        rw [e, c, a, riM, if_neg (by decide), if_neg (by decide), if_neg (by decide)]
        exact it_end hz hX (it_l hz hX r)
      · rw [if_neg h0]
        rw [if_neg h0] at hC
        exact Or.inl ⟨rfl, rp_no hz h hC⟩
  · exact Or.inl (other ⟨a4, a, a2, a3⟩ (by rw [b]; decide))
theorem RR.ok {A T : NV} {z n C : Nat} {σ : PS} {M : NV} (hz : z ≤ 200) (hX : ltO (T 0) z) (h : RR A (T 0) z n C σ M) : rOk z M ∧ pM M = σ.1 := by
  obtain ⟨⟨⟨a1, a2, a3, a4, -, -⟩, ⟨s, s1, s2, s3⟩, -⟩, ⟨-, ⟨-, d2, d3⟩, -⟩, -⟩ := h
  have hp : pM M = σ.1 := by unfold pM; rw [a3]; exact nI_clamp (by omega)
  refine ⟨⟨⟨a2, ?_, by rw [hp]; exact a3, by rw [hp]; exact a4⟩, by rw [s3]; exact nI_nn (by omega), n, d3, d2⟩, hp⟩
  intro j hj
  rw [a1]
  obtain ⟨m, hm, e⟩ := hX j hj
  rw [e]; exact nI_nn (by omega)
/-- the text read to its end or its fault, by both -/
theorem rp_loop {A T : NV} {z : Nat} (hz : z ≤ 200) (hX : ltO (T 0) z) : ∀ (f g k n C : Nat) (σ : PS) (M : NV), RR A (T 0) z n C σ M → (k = 0 → n = 0) → (¬ σ.2.1 0 2 = 257 → z - σ.1 < f ∧ z - σ.1 < g) → k + f ≤ 500 →
    (∃ s, s ≤ 200 ∧ (rdL T z f k σ).1 = -10 - nI s ∧ (rpL z g M k).1 0 6 = nI s ∧ fMo A (rpL z g M k).1) ∨
    (∃ i n' C', i < 1000 ∧ (rdL T z f k σ).1 = nI i ∧ (rpL z g M k).2 = i ∧ RR A (T 0) z n' C' (rdL T z f k σ).2 (rpL z g M k).1)
  | 0, g, k, n, C, σ, M, h, hk, hf, hb => by
    right
    have h0 : σ.2.1 0 2 = 257 := by
      by_cases q : σ.2.1 0 2 = 257
      · exact q
      · have := (hf q).1; omega
    have m0 : M 0 3 = 0 := by
      rcases h.1.2.2 with ⟨a, b⟩ | ⟨a, b, c⟩ | ⟨a, b⟩ | ⟨a, b, -⟩ | ⟨⟨a, -⟩, b⟩
      · exact b
      · rw [h0] at a; exact absurd a (by decide)
      · rw [h0] at a; exact absurd a (by decide)
      · rw [h0] at a; exact absurd a (by decide)
      · exact absurd h0 a
    have e : rpL z g M k = (M, k) := by
      cases g with
      | zero => rfl
      | succ g => exact rpL_of2 m0
    rw [e]
    exact ⟨k, n, C, by omega, rfl, rfl, h⟩
  | f + 1, g, k, n, C, σ, M, h, hk, hf, hb => by
    by_cases h0 : σ.2.1 0 2 = 257
    · right
      have m0 : M 0 3 = 0 := by
        rcases h.1.2.2 with ⟨a, b⟩ | ⟨a, b, c⟩ | ⟨a, b⟩ | ⟨a, b, -⟩ | ⟨⟨a, -⟩, b⟩
        · exact b
        · rw [h0] at a; exact absurd a (by decide)
        · rw [h0] at a; exact absurd a (by decide)
        · rw [h0] at a; exact absurd a (by decide)
        · exact absurd h0 a
      have e : rpL z g M k = (M, k) := by
        cases g with
        | zero => rfl
        | succ g => exact rpL_of2 m0
      rw [e, rdL_end h0]
      exact ⟨k, n, C, by omega, rfl, rfl, h⟩
    · obtain ⟨hf1, hf2⟩ := hf h0
      have m0 : ¬ M 0 3 = 0 := by
        rcases h.1.2.2 with ⟨a, b⟩ | ⟨a, b, c⟩ | ⟨a, b⟩ | ⟨a, b, -⟩ | ⟨⟨a, -⟩, b⟩
        · exact absurd a h0
        · rw [b]; decide
        · rw [b]; decide
        · rw [b]; decide
        · rw [b]; decide
      obtain ⟨g', rfl⟩ : ∃ g', g = g' + 1 := ⟨g - 1, by omega⟩
      rw [rdL, if_neg h0, rpL_on (m1_lt h.1.1.2.2.2.2.1) m0]
      rcases rp_step hz hX h h0 hk (by omega) with ⟨r0, hF⟩ | ⟨r0, n', C', hR⟩
      · left
        rw [if_pos r0]
        obtain ⟨s, hs, es, es2⟩ := hF.1
        have e : rpL z g' (rpB z M k) (k + 1) = (rpB z M k, k + 1) := by
          cases g' with
          | zero => rfl
          | succ g => exact rpL_of1 hF.2.1
        rw [e]
        exact ⟨s, hs, by rw [es], es2, hF.2.2⟩
      · rw [if_neg r0]
        obtain ⟨k1, k2⟩ := h.ok hz hX
        obtain ⟨k3, k4⟩ := hR.ok hz hX
        have hlt := (rpB_go (t := k) hz k1).2 (m1_lt hR.1.1.2.2.2.2.1)
        rw [k2, k4] at hlt
        have hle := hR.1.1.2.2.2.1
        exact rp_loop hz hX f g' (k + 1) n' C' _ _ hR (fun q => by omega) (fun _ => by omega) (by omega)
