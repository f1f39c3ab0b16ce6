/-! the pure layer: apart, the search with leaving out against the search through all ways -/
def dg (C n x p : Nat) : Nat := x / C ^ (n - 1 - p) % C
theorem dg_pre {C P d pre t p : Nat} (hC : 0 < C) (hp : p < P) (ht : t < C ^ d) : dg C (P + d) (pre * C ^ d + t) p = dg C P pre p := by
  unfold dg
  have hd : 0 < C ^ d := Nat.pow_pos hC
  rw [show P + d - 1 - p = d + (P - 1 - p) from by omega, Nat.pow_add, ← Nat.div_div_eq_div_mul, Nat.add_comm, Nat.add_mul_div_right _ _ hd, Nat.div_eq_of_lt ht, Nat.zero_add]
theorem dg_last {C P pre k : Nat} (hk : k < C) : dg C (P + 1) (pre * C + k) P = k := by
  unfold dg
  rw [show P + 1 - 1 - P = 0 from by omega, Nat.pow_zero, Nat.div_one, Nat.mul_comm, Nat.mul_add_mod, Nat.mod_eq_of_lt hk]
theorem dg_lt {C n x p : Nat} (hC : 0 < C) : dg C n x p < C := Nat.mod_lt _ hC
def okQ (fo : Nat → Int32) (a : Nat → Nat) (P : Nat) : Nat → Bool
  | 0 => true
  | q + 1 => okQ fo a P q && !(bt (fo P) q && decide (a P = a q))
def okW (fo : Nat → Int32) (a : Nat → Nat) : Nat → Bool
  | 0 => true
  | P + 1 => okW fo a P && okQ fo a P P
def rnN (nm : Nat → Int32) (a : Nat → Nat) : Nat → Nat
  | 0 => 0
  | n + 1 => rnN nm a n + (if nI (a n) = nm n then 0 else 1)
theorem okQ_cong {fo : Nat → Int32} {a b : Nat → Nat} {P : Nat} (hP : a P = b P) : ∀ {n : Nat}, (∀ q, q < n → a q = b q) → okQ fo a P n = okQ fo b P n
  | 0, _ => rfl
  | n + 1, h => by rw [okQ, okQ, okQ_cong hP (fun q hq => h q (by omega)), hP, h n (by omega)]
theorem okW_cong {fo : Nat → Int32} {a b : Nat → Nat} : ∀ {n : Nat}, (∀ q, q < n → a q = b q) → okW fo a n = okW fo b n
  | 0, _ => rfl
  | n + 1, h => by rw [okW, okW, okW_cong (fun q hq => h q (by omega)), okQ_cong (h n (by omega)) (fun q hq => h q (by omega))]
theorem rnN_cong {nm : Nat → Int32} {a b : Nat → Nat} : ∀ {n : Nat}, (∀ q, q < n → a q = b q) → rnN nm a n = rnN nm b n
  | 0, _ => rfl
  | n + 1, h => by rw [rnN, rnN, rnN_cong (fun q hq => h q (by omega)), h n (by omega)]
theorem okW_no {fo : Nat → Int32} {a : Nat → Nat} {n : Nat} (h : okW fo a n = false) : ∀ m, okW fo a (n + m) = false
  | 0 => h
  | m + 1 => by rw [← Nat.add_assoc, okW, okW_no h m, Bool.false_and]
theorem rnN_mono {nm : Nat → Int32} {a : Nat → Nat} {n : Nat} : ∀ m, rnN nm a n ≤ rnN nm a (n + m)
  | 0 => Nat.le_refl _
  | m + 1 => by
    have := rnN_mono (nm := nm) (a := a) (n := n) m
    rw [← Nat.add_assoc, rnN]
    omega
theorem rnN_le {nm : Nat → Int32} {a : Nat → Nat} : ∀ n, rnN nm a n ≤ n
  | 0 => Nat.le_refl _
  | n + 1 => by
    have := rnN_le (nm := nm) (a := a) n
    rw [rnN]
    split <;> omega
section AP
variable (fo nm : Nat → Int32) (C N : Nat)
def vl : Option Nat → Nat
  | none => 8
  | some j => rnN nm (dg C N j) N
def stp (o : Option Nat) (i : Nat) : Option Nat := if okW fo (dg C N i) N = true ∧ rnN nm (dg C N i) N < vl nm C N o then some i else o
def fdR (a : Nat) : Nat → Option Nat → Option Nat
  | 0, o => o
  | n + 1, o => stp fo nm C N (fdR a n o) (a + n)
theorem fdR_add (a n : Nat) (o : Option Nat) : ∀ m, fdR fo nm C N a (n + m) o = fdR fo nm C N (a + n) m (fdR fo nm C N a n o)
  | 0 => rfl
  | m + 1 => by rw [← Nat.add_assoc, fdR, fdR, fdR_add a n o m, Nat.add_assoc]
theorem fdR_stay {a : Nat} {o : Option Nat} : ∀ n, (∀ i, i < n → okW fo (dg C N (a + i)) N = false ∨ vl nm C N o ≤ rnN nm (dg C N (a + i)) N) → fdR fo nm C N a n o = o
  | 0, _ => rfl
  | n + 1, h => by
    rw [fdR, fdR_stay n (fun i hi => h i (by omega)), stp, if_neg]
    rintro ⟨h1, h2⟩
    rcases h n (by omega) with q | q
    · rw [q] at h1; cases h1
    · omega
/-- the class's row and the best way so far -/
def RS (S : NV) (o : Option Nat) : Prop := S 2 0 = nI (vl nm C N o) ∧ ∀ j, o = some j → ∀ p, p < N → S 1 p = nI (dg C N j p)
end AP
theorem vl_le {nm : Nat → Int32} {C N : Nat} (hN : N ≤ 7) (o : Option Nat) : vl nm C N o ≤ 8 := by
  cases o with
  | none => exact Nat.le_refl _
  | some j => exact Nat.le_trans (rnN_le N) (by omega)
/-- the class's test of one name -/
theorem fr_ok {w fo : Nat → Int32} {a : Nat → Nat} {P k : Nat} (hk : k < 1000) (ha : a P = k) (hP : P ≤ 31) : ∀ n, n ≤ P → (∀ q, q < n → w q = nI (a q) ∧ a q < 1000) → (frI w fo P (nI k) n = 0 ↔ okQ fo a P n = false)
  | 0, _, _ => by rw [frI, okQ]; decide
  | n + 1, hn, h => by
    have ih := fr_ok (fo := fo) hk ha hP n (by omega) (fun q hq => h q (by omega))
    obtain ⟨h1, h2⟩ := h n (by omega)
    rw [frI, okQ]
    by_cases h0 : frI w fo P (nI k) n = 0
    · rw [if_pos h0, ih.mp h0]; simp
    · rw [if_neg h0]
      have hT : okQ fo a P n = true := by
        cases hq : okQ fo a P n
        · exact absurd (ih.mpr hq) h0
        · rfl
      rw [hT, Bool.true_and, h1, ha]
      by_cases e : a n = k
      · rw [e, if_pos rfl]
        by_cases hb : bt (fo P) n = true
        · rw [if_pos ((bi_1 (by omega)).mpr hb), hb]; simp
        · rw [if_neg (fun q => hb ((bi_1 (by omega)).mp q)), Bool.eq_false_iff.mpr hb]; simp
      · rw [if_neg (fun q => e ((nI_eq (by omega) (by omega)).mp q)), decide_eq_false (fun q => e q.symm)]; simp
theorem upA_0 (S : NV) (f : Nat → Int32) : upA S 0 f 0 = f ∧ upA S 0 f 1 = S 1 ∧ upA S 0 f 2 = S 2 := ⟨rfl, rfl, rfl⟩
/-- the class's search below a prefix is the search through all its ways -/
theorem nf_all {fo nm : Nat → Int32} {C N : Nat} (hC : 0 < C) (hC4 : C ≤ 4) (hN : N ≤ 7) : ∀ (d P pre : Nat) (r : Int32) (S : NV) (o : Option Nat), P + d = N → r = nI (rnN nm (dg C P pre) P) → okW fo (dg C P pre) P = true → (∀ p, p < P → S 0 p = nI (dg C P pre p)) → RS nm C N S o →
    RS nm C N (nfr C nm fo d P r S) (fdR fo nm C N (pre * C ^ d) (C ^ d) o) ∧ ∀ p, p < P → nfr C nm fo d P r S 0 p = S 0 p
  | 0, P, pre, r, S, o, hP, hr, hok, hw, hS => by
    have hPN : P = N := by omega
    subst hPN
    have hv := vl_le (nm := nm) (C := C) hN o
    have hl := rnN_le (nm := nm) (a := dg C P pre) P
    rw [nfr, Nat.pow_zero, Nat.mul_one]
    show RS nm C P _ (stp fo nm C P o (pre + 0)) ∧ _
    rw [Nat.add_zero, stp, hS.1, hr]
    by_cases h : rnN nm (dg C P pre) P < vl nm C P o
    · rw [if_pos ((nI_ltI (by omega) (by omega)).mpr h), if_pos ⟨hok, h⟩]
      refine ⟨⟨rfl, fun j hj p hp => ?_⟩, fun p hp => rfl⟩
      cases hj
      show va_cpy (S 0) (S 1) 0 0 7 p = _
      rw [pk_cpy_in (by omega) (by omega), Nat.zero_add, Nat.sub_zero]
      exact hw p hp
    · rw [if_neg (fun q => h ((nI_ltI (by omega) (by omega)).mp q)), if_neg (fun q => h q.2)]
      exact ⟨hS, fun p hp => rfl⟩
  | d + 1, P, pre, r, S, o, hP, hr, hok, hw, hS => by
    have hv := vl_le (nm := nm) (C := C) hN o
    have hl := rnN_le (nm := nm) (a := dg C P pre) P
    have hd : 0 < C ^ d := Nat.pow_pos hC
    have hpre : ∀ k t, k < C → t < C ^ d → ∀ p, p < P → dg C N (pre * C ^ (d + 1) + k * C ^ d + t) p = dg C P pre p := by
      intro k t hk ht p hp
      have hlt : k * C ^ d + t < C ^ (d + 1) := by
        rw [Nat.pow_succ]
        have h1 : (k + 1) * C ^ d ≤ C * C ^ d := Nat.mul_le_mul_right _ hk
        rw [Nat.succ_mul] at h1
        rw [Nat.mul_comm (C ^ d) C]
        omega
      rw [Nat.add_assoc, ← hP]
      exact dg_pre hC hp hlt
    rw [nfr, hS.1]
    by_cases h : r < nI (vl nm C N o)
    · rw [if_pos h]
      have loop : ∀ k, k ≤ C → RS nm C N (nfK (nfr C nm fo d (P + 1)) nm fo P r S k) (fdR fo nm C N (pre * C ^ (d + 1)) (k * C ^ d) o) ∧ ∀ p, p < P → nfK (nfr C nm fo d (P + 1)) nm fo P r S k 0 p = S 0 p := by
        intro k
        induction k with
        | zero => intro _; rw [Nat.zero_mul]; exact ⟨hS, fun p hp => rfl⟩
        | succ k ih =>
          intro hk
          obtain ⟨ih1, ih2⟩ := ih (by omega)
          have ha : dg C (P + 1) (pre * C + k) P = k := dg_last (by omega)
          have hq : ∀ q, q < P → dg C (P + 1) (pre * C + k) q = dg C P pre q := fun q hq => by
            have := dg_pre (C := C) (P := P) (d := 1) (pre := pre) (t := k) hC hq (by rw [Nat.pow_one]; omega)
            rw [Nat.pow_one] at this
            exact this
          have hfr := fr_ok (w := nfK (nfr C nm fo d (P + 1)) nm fo P r S k 0) (fo := fo) (a := dg C (P + 1) (pre * C + k)) (P := P) (k := k) (by omega) ha (by omega) P (Nat.le_refl _) (fun q hq2 => by
            have hlt := dg_lt (C := C) (n := P) (x := pre) (p := q) hC
            rw [hq q hq2, ih2 q hq2, hw q hq2]
            exact ⟨rfl, by omega⟩)
          rw [nfK, Nat.succ_mul, fdR_add]
          obtain ⟨o2, ho2⟩ : ∃ o2, o2 = fdR fo nm C N (pre * C ^ (d + 1)) (k * C ^ d) o := ⟨_, rfl⟩
          obtain ⟨S2, hS2⟩ : ∃ S2, S2 = nfK (nfr C nm fo d (P + 1)) nm fo P r S k := ⟨_, rfl⟩
          rw [← ho2, ← hS2] at ih1
          rw [← hS2] at ih2 hfr
          rw [← ho2, ← hS2]
          by_cases h0 : frI (S2 0) fo P (nI k) P = 0
          · rw [if_pos h0, fdR_stay]
            · exact ⟨ih1, ih2⟩
            · intro i hi
              left
              have h1 := hfr.mp h0
              have h2 : okW fo (dg C N (pre * C ^ (d + 1) + k * C ^ d + i)) (P + 1) = false := by
                have e2 : dg C N (pre * C ^ (d + 1) + k * C ^ d + i) P = k := by
                  have := dg_pre (C := C) (P := P + 1) (d := d) (pre := pre * C + k) (t := i) hC (show P < P + 1 by omega) hi
                  rw [ha] at this
                  have hxx : pre * C ^ (d + 1) + k * C ^ d = (pre * C + k) * C ^ d := by rw [Nat.add_mul, Nat.pow_succ, Nat.mul_assoc, Nat.mul_comm C (C ^ d)]
                  rw [hxx, ← hP, show P + (d + 1) = P + 1 + d from by omega]
                  exact this
                rw [okW]
                rw [okQ_cong (b := dg C (P + 1) (pre * C + k)) (by rw [e2, ha]) (fun q hq2 => by rw [hpre k i (by omega) hi q hq2, hq q hq2]), h1, Bool.and_false]
              have h3 := okW_no h2 (N - (P + 1))
              rw [show P + 1 + (N - (P + 1)) = N from by omega] at h3
              exact h3
          · rw [if_neg h0]
            have hokq : okQ fo (dg C (P + 1) (pre * C + k)) P P = true := by
              cases hx : okQ fo (dg C (P + 1) (pre * C + k)) P P
              · exact absurd (hfr.mpr hx) h0
              · rfl
            have hrn : (if nI k = nm P then r else r + 1) = nI (rnN nm (dg C (P + 1) (pre * C + k)) (P + 1)) := by
              rw [rnN, ha, rnN_cong hq, hr]
              split
              · rfl
              · exact nI_add _ 1
            obtain ⟨r1, r2⟩ := nf_all hC hC4 hN d (P + 1) (pre * C + k) _ (upA S2 0 (upd (S2 0) P (nI k))) o2 (by omega) hrn (by rw [okW, okW_cong hq, hok, hokq]; rfl) (fun p hp => by
              show upd (S2 0) P (nI k) p = _
              by_cases e : p = P
              · subst e; rw [pk_us, ha]
              · rw [pk_un e, ih2 p (by omega), hq p (by omega), hw p (by omega)]) ih1
            rw [show (pre * C + k) * C ^ d = pre * C ^ (d + 1) + k * C ^ d from by rw [Nat.add_mul, Nat.pow_succ, Nat.mul_assoc, Nat.mul_comm C (C ^ d)]] at r1
            refine ⟨r1, fun p hp => ?_⟩
            rw [r2 p (by omega)]
            show upd (S2 0) P (nI k) p = _
            rw [pk_un (by omega), ih2 p hp]
      obtain ⟨l1, l2⟩ := loop C (Nat.le_refl _)
      rw [Nat.mul_comm C (C ^ d), ← Nat.pow_succ] at l1
      exact ⟨l1, l2⟩
    · rw [if_neg h]
      rw [hr] at h
      have h1 : vl nm C N o ≤ rnN nm (dg C P pre) P := Nat.not_lt.mp (fun q => h ((nI_ltI (by omega) (by omega)).mpr q))
      rw [fdR_stay]
      · exact ⟨hS, fun p hp => rfl⟩
      · intro i hi
        right
        have h2 : rnN nm (dg C N (pre * C ^ (d + 1) + i)) P = rnN nm (dg C P pre) P := rnN_cong (fun q hq => by
          rw [← hP]; exact dg_pre hC hq hi)
        have h3 := rnN_mono (nm := nm) (a := dg C N (pre * C ^ (d + 1) + i)) (n := P) (N - P)
        rw [show P + (N - P) = N from by omega] at h3
        omega
theorem rn_all {fo nm : Nat → Int32} {C N : Nat} (S : NV) (hC : 0 < C) (hC4 : C ≤ 4) (hN : N ≤ 7) : RS nm C N (rnS S N C nm fo) (fdR fo nm C N 0 (C ^ N) none) := by
  have h := (nf_all (fo := fo) (nm := nm) hC hC4 hN N 0 0 0 (upA S 2 (upd (S 2) 0 8)) none (by omega) rfl rfl (fun p hp => absurd hp (Nat.not_lt_zero p)) ⟨rfl, fun j hj => by cases hj⟩).1
  rw [Nat.zero_mul] at h
  exact h
/-- the reference's way -/
theorem rb_1 (s w : Nat → Int32) (C N Wy : Nat) : ∀ j, (rbT s w C N Wy j).1 = Wy / C ^ j
  | 0 => by rw [Nat.pow_zero, Nat.div_one]; rfl
  | j + 1 => by
    show (rbT s w C N Wy j).1 / C = _
    rw [rb_1 s w C N Wy j, Nat.div_div_eq_div_mul, ← Nat.pow_succ]
theorem rb_dg (s w : Nat → Int32) {C N Wy j : Nat} (hj : j < N) : (rbT s w C N Wy j).1 % C = dg C N Wy (N - 1 - j) := by
  rw [rb_1, dg, show N - 1 - (N - 1 - j) = j from by omega]
theorem rb_w (s w : Nat → Int32) (C N Wy : Nat) : ∀ j, j ≤ N → ∀ p, N - j ≤ p → p < N → (rbT s w C N Wy j).2.2 p = nI (dg C N Wy p)
  | 0, _, p, h1, h2 => by omega
  | j + 1, hj, p, h1, h2 => by
    show upd (rbT s w C N Wy j).2.2 (N - 1 - j) (nI ((rbT s w C N Wy j).1 % C)) p = _
    by_cases e : p = N - 1 - j
    · rw [e, pk_us, rb_dg s w (by omega)]
    · rw [pk_un e]; exact rb_w s w C N Wy j (by omega) p (by omega) h2
theorem rb_n (s w : Nat → Int32) (C N Wy : Nat) : ∀ j, j ≤ N → nI (rnN s (dg C N Wy) (N - j)) + (rbT s w C N Wy j).2.1 = nI (rnN s (dg C N Wy) N)
  | 0, _ => by show _ + (0 : Int32) = _; rw [Int32.add_zero, Nat.sub_zero]
  | j + 1, hj => by
    have ih := rb_n s w C N Wy j (by omega)
    show _ + ((rbT s w C N Wy j).2.1 + (if nI ((rbT s w C N Wy j).1 % C) = s (N - 1 - j) then 0 else 1)) = _
    rw [rb_dg s w (show j < N by omega), ← ih, show N - j = (N - (j + 1)) + 1 from by omega, rnN, ← nI_add, show N - 1 - j = N - (j + 1) from by omega]
    split
    · rw [Int32.add_zero, show nI 0 = 0 from rfl, Int32.add_zero]
    · rw [show nI 1 = 1 from rfl, Int32.add_assoc, Int32.add_comm 1]
theorem cfQ_ok {w qu fo : Nat → Int32} {a : Nat → Nat} {P : Nat} (hP : P ≤ 31) (hq : qu P = fo P) (hw : w P = nI (a P)) (hb : a P < 1000) : ∀ n, n ≤ P → (∀ q, q < n → w q = nI (a q) ∧ a q < 1000) → (cfQ w qu P n = 0 ↔ okQ fo a P n = true)
  | 0, _, _ => by rw [cfQ, okQ]; decide
  | n + 1, hn, h => by
    have ih := cfQ_ok hP hq hw hb n (by omega) (fun q hq => h q (by omega))
    obtain ⟨h1, h2⟩ := h n (by omega)
    rw [cfQ, okQ]
    by_cases h0 : cfQ w qu P n = 0
    · rw [if_pos h0, ih.mp h0, Bool.true_and]
      show (if bitI (qu P) (nI n) = 1 then _ else _) = 0 ↔ _
      rw [hq, hw, h1]
      by_cases hbt : bt (fo P) n = true
      · rw [if_pos ((bi_1 (by omega)).mpr hbt), hbt]
        by_cases e : a P = a n
        · rw [e, if_pos rfl]; simp
        · rw [if_neg (fun q => e ((nI_eq (by omega) (by omega)).mp q)), decide_eq_false e]; simp
      · rw [if_neg (fun q => hbt ((bi_1 (by omega)).mp q)), Bool.eq_false_iff.mpr hbt]; simp
    · rw [if_neg h0]
      have hT : okQ fo a P n = false := by
        cases hx : okQ fo a P n
        · rfl
        · exact absurd (ih.mpr hx) h0
      rw [hT]; simp
theorem cfP_ok {w qu fo : Nat → Int32} {a : Nat → Nat} : ∀ n, n ≤ 31 → (∀ q, q < n → w q = nI (a q) ∧ a q < 1000 ∧ qu q = fo q) → (cfP w qu n = 0 ↔ okW fo a n = true)
  | 0, _, _ => by rw [cfP, okW]; decide
  | n + 1, hn, h => by
    have ih := cfP_ok (w := w) (qu := qu) (fo := fo) (a := a) n (by omega) (fun q hq => h q (by omega))
    obtain ⟨h1, h2, h3⟩ := h n (by omega)
    have hq := cfQ_ok (w := w) (qu := qu) (fo := fo) (a := a) (P := n) (by omega) h3 h1 h2 n (Nat.le_refl _) (fun q hq => ⟨(h q (by omega)).1, (h q (by omega)).2.1⟩)
    rw [cfP, okW]
    by_cases h0 : cfP w qu n = 0
    · rw [if_pos h0, ih.mp h0, Bool.true_and]; exact hq
    · rw [if_neg h0]
      have hT : okW fo a n = false := by
        cases hx : okW fo a n
        · rfl
        · exact absurd (ih.mpr hx) h0
      rw [hT]; simp
def apv (nm : Nat → Int32) (C N : Nat) : Option Nat → Int32
  | none => 1000000
  | some j => nI (vl nm C N (some j))
theorem ap_all {s b qu fo nm : Nat → Int32} {C N : Nat} (w : Nat → Int32) (hC : 0 < C) (hC4 : C ≤ 4) (hN : N ≤ 7) (hs : ∀ i, i < N → s i = nm i) (hq : ∀ i, i < N → qu i = fo i) : ∀ i,
    (apF s w b qu C N i).1 = apv nm C N (fdR fo nm C N 0 i none) ∧ ∀ j, fdR fo nm C N 0 i none = some j → ∀ p, p < N → (apF s w b qu C N i).2.1 p = nI (dg C N j p)
  | 0 => ⟨rfl, fun j hj => by cases hj⟩
  | i + 1 => by
    obtain ⟨ih1, ih2⟩ := ap_all (b := b) w hC hC4 hN hs hq i
    obtain ⟨w2, hw2⟩ : ∃ w2, w2 = (apF s w b qu C N i).2.2 := ⟨_, rfl⟩
    have hrn : rnN s (dg C N i) N = rnN nm (dg C N i) N := by
      have : ∀ n, n ≤ N → rnN s (dg C N i) n = rnN nm (dg C N i) n := by
        intro n
        induction n with
        | zero => intro _; rfl
        | succ n ih => intro hn; rw [rnN, rnN, ih (by omega), hs n (by omega)]
      exact this N (Nat.le_refl _)
    have hn : (rbT s w2 C N i N).2.1 = nI (rnN nm (dg C N i) N) := by
      have := rb_n s w2 C N i N (Nat.le_refl _)
      rw [Nat.sub_self, show rnN s (dg C N i) 0 = 0 from rfl, show nI 0 = 0 from rfl, Int32.zero_add, hrn] at this
      exact this
    have hww : ∀ p, p < N → (rbT s w2 C N i N).2.2 p = nI (dg C N i p) := fun p hp => rb_w s w2 C N i N (Nat.le_refl _) p (by omega) hp
    have hcf := cfP_ok (w := (rbT s w2 C N i N).2.2) (qu := qu) (fo := fo) (a := dg C N i) N (by omega) (fun q hq2 => ⟨hww q hq2, by have := dg_lt (C := C) (n := N) (x := i) (p := q) hC; omega, hq q hq2⟩)
    have hl := rnN_le (nm := nm) (a := dg C N i) N
    rw [apF, ← hw2, show fdR fo nm C N 0 (i + 1) none = stp fo nm C N (fdR fo nm C N 0 i none) (0 + i) from rfl, Nat.zero_add]
    obtain ⟨o, ho⟩ : ∃ o, o = fdR fo nm C N 0 i none := ⟨_, rfl⟩
    rw [← ho] at ih1 ih2 ⊢
    obtain ⟨x, hx⟩ : ∃ x, x = rbR s w2 qu C N i := ⟨_, rfl⟩
    rw [← hx]
    obtain ⟨A, hA⟩ : ∃ A, A = apF s w b qu C N i := ⟨_, rfl⟩
    rw [← hA] at ih1 ih2 ⊢
    by_cases hok : okW fo (dg C N i) N = true
    · have hx2 : x = nI (rnN nm (dg C N i) N) := by rw [hx, rbR, if_pos (hcf.mpr hok), hn]
      have h9 : ¬ x = -9 := by rw [hx2]; exact nm_ne9 (by omega)
      rw [if_neg h9]
      by_cases hlt : rnN nm (dg C N i) N < vl nm C N o
      · have e1 : stp fo nm C N o i = some i := if_pos ⟨hok, hlt⟩
        have e2 : ¬ A.1 ≤ x := by
          rw [ih1, hx2]
          intro q
          cases o with
          | none =>
            have := (nI_leI (a := 1000000) (b := rnN nm (dg C N i) N) (by decide) (by omega)).mp q
            omega
          | some j0 =>
            have hv := vl_le (nm := nm) (C := C) hN (some j0)
            have := (nI_leI (a := vl nm C N (some j0)) (b := rnN nm (dg C N i) N) (by omega) (by omega)).mp q
            omega
        rw [if_neg e2, e1]
        refine ⟨hx2, fun j hj p hp => ?_⟩
        cases hj
        show cpA _ _ N p = _
        rw [cpA_in _ _ N p hp, hww p hp]
      · have e1 : stp fo nm C N o i = o := if_neg (fun q => hlt q.2)
        have e2 : A.1 ≤ x := by
          rw [ih1, hx2]
          cases o with
          | none => exact absurd (show rnN nm (dg C N i) N < 8 by omega) hlt
          | some j0 =>
            have hv := vl_le (nm := nm) (C := C) hN (some j0)
            exact (nI_leI (a := vl nm C N (some j0)) (b := rnN nm (dg C N i) N) (by omega) (by omega)).mpr (by omega)
        rw [if_pos e2, e1]
        exact ⟨ih1, ih2⟩
    · have hx2 : x = -9 := by rw [hx, rbR, if_neg (fun q => hok (hcf.mp q))]
      have e1 : stp fo nm C N o i = o := if_neg (fun q => hok q.1)
      rw [if_pos hx2, e1]
      exact ⟨ih1, ih2⟩
theorem apart_eq {N C : Nat} {V L Rn : NV} {r w b qu : Nat → Int32} (hN : N ≤ 7) (hC : C ≤ 4) (hC1 : 1 ≤ C) (hr : ∀ i, i < N → V 0 i = r i) (hq : ∀ i, i < N → L 1 i = qu i) (p : Int32) : apR N C V L Rn p = (if p = -1 ∨ ¬ inI p 0 (nI N - 1) = 0 then apX r w b qu C N p else -1) := by
  obtain ⟨c1, c2⟩ := rn_all (fo := L 1) (nm := V 0) Rn hC1 hC hN
  obtain ⟨m1, m2⟩ := ap_all (s := r) (b := b) (qu := qu) (fo := L 1) (nm := V 0) w hC1 hC hN (fun i hi => (hr i hi).symm) (fun i hi => (hq i hi).symm) (C ^ N)
  obtain ⟨o, ho⟩ : ∃ o, o = fdR (L 1) (V 0) C N 0 (C ^ N) none := ⟨_, rfl⟩
  rw [← ho] at c1 c2 m1 m2
  unfold apR apX
  rw [c1, m1]
  cases o with
  | none =>
    have h7 : (7 : Int32) < nI (vl (V 0) C N none) := by show (7 : Int32) < nI 8; decide
    rw [if_pos h7, if_pos h7, show apv (V 0) C N none = 1000000 from rfl, if_pos rfl]
    by_cases hp : p = -1
    · rw [if_pos hp, if_pos (Or.inl hp)]
    · rw [if_neg hp]
      by_cases h0 : inI p 0 (nI N - 1) = 0
      · rw [if_pos h0, if_neg (fun q => q.elim hp (fun q => q h0))]
      · rw [if_neg h0, if_pos (Or.inr h0)]
  | some j =>
    have hl := rnN_le (nm := V 0) (a := dg C N j) N
    have h7 : ¬ (7 : Int32) < nI (vl (V 0) C N (some j)) := fun q => by
      have := (nI_ltI (a := 7) (b := rnN (V 0) (dg C N j) N) (by decide) (by omega)).mp q
      omega
    have hne : ¬ nI (vl (V 0) C N (some j)) = 1000000 := fun q => by
      have := (nI_eq (a := rnN (V 0) (dg C N j) N) (b := 1000000) (by omega) (by decide)).mp q
      omega
    rw [if_neg h7, if_neg h7]
    rw [show apv (V 0) C N (some j) = nI (vl (V 0) C N (some j)) from rfl, if_neg hne]
    by_cases hp : p = -1
    · rw [if_pos hp, if_pos (Or.inl hp), if_pos hp]
    · rw [if_neg hp]
      by_cases h0 : inI p 0 (nI N - 1) = 0
      · rw [if_pos h0, if_neg (fun q => q.elim hp (fun q => q h0))]
      · rw [if_neg h0, if_pos (Or.inr h0), if_neg hp]
        obtain ⟨h1, -⟩ := in_tn hN h0
        show rnS Rn N C (V 0) (L 1) 1 (tn p) = (apF r w b qu C N (C ^ N)).2.1 (tn p)
        rw [c2 j rfl _ h1, m2 j rfl _ h1]
