/-! numbers of OneJohn; Renaming; Wedding -/
def cdL : Nat → Int32 → Int32 → Int32
  | 0, a, _ => a
  | n + 1, a, b => if b = 0 then a else cdL n b (a - a / b * b)
def ilI (x y : Int32) : Int32 := if 1 ≤ cdL 64 x y then x / cdL 64 x y else x
def pwI (b : Int32) : Nat → Int32
  | 0 => 1
  | i + 1 => pwI b i * b
def chI (n k : Int32) : Nat → Int32
  | 0 => 1
  | j + 1 => chI n k j * (n - k + nI (j + 1)) / nI (j + 1)
def crI (C E B : Nat) : Nat → Int32
  | 0 => 0
  | j + 1 => crI C E B j + chI (nI E) (nI (B + j)) (B + j) * pwI (nI C - 1) (E - (B + j))
theorem cdL_0 (n : Nat) (a : Int32) : cdL n a 0 = a := by cases n <;> simp [cdL]
theorem le1_ne {x : Int32} (h : 1 ≤ x) : ¬ x = 0 := by intro e; subst e; revert h; decide
def frI (w fo : Nat → Int32) (P : Nat) (k : Int32) : Nat → Int32
  | 0 => 1
  | q + 1 => if frI w fo P k q = 0 then 0 else if w q = k then (if bitI (fo P) (nI q) = 1 then 0 else 1) else 1
theorem frI_01 (w fo : Nat → Int32) (P : Nat) (k : Int32) : ∀ n, frI w fo P k n = 0 ∨ frI w fo P k n = 1
  | 0 => Or.inr rfl
  | n + 1 => by rw [frI]; split; exact Or.inl rfl; split; split; exact Or.inl rfl; exact Or.inr rfl; exact Or.inr rfl
theorem frI_mono (w fo : Nat → Int32) (P : Nat) (k : Int32) (i : Nat) (h : frI w fo P k i = 0) : ∀ j, frI w fo P k (i + j) = 0
  | 0 => h
  | j + 1 => by rw [← Nat.add_assoc, frI, if_pos (frI_mono w fo P k i h j)]
def nfK (g : Int32 → NV → NV) (nm fo : Nat → Int32) (P : Nat) (r : Int32) (S : NV) : Nat → NV
  | 0 => S
  | k + 1 => if frI (nfK g nm fo P r S k 0) fo P (nI k) P = 0 then nfK g nm fo P r S k else g (if nI k = nm P then r else r + 1) (upA (nfK g nm fo P r S k) 0 (upd (nfK g nm fo P r S k 0) P (nI k)))
def nfr (C : Nat) (nm fo : Nat → Int32) : Nat → Nat → Int32 → NV → NV
  | 0, _, r, S => if r < S 2 0 then upA (upA S 1 (va_cpy (S 0) (S 1) 0 0 7)) 2 (upd (S 2) 0 r) else S
  | d + 1, P, r, S => if r < S 2 0 then nfK (nfr C nm fo d (P + 1)) nm fo P r S C else S
def rnS (S : NV) (N C : Nat) (nm fo : Nat → Int32) : NV := nfr C nm fo N 0 0 (upA S 2 (upd (S 2) 0 8))
def mmI (nm fo : Nat → Int32) (P Q : Nat) : Int32 := if nm P = nm Q then 0 else if bitI (fo P) (nI Q) = 1 then 0 else 1
def pfK (g : NV → NV) (nm fo : Nat → Int32) (P : Nat) (S : NV) : Nat → NV
  | 0 => S
  | j + 1 => if pfK g nm fo P S j 0 (P + 1 + j) = -9 then (if mmI nm fo P (P + 1 + j) = 0 then pfK g nm fo P S j else
      upA (g (upA (pfK g nm fo P S j) 0 (upd (upd (pfK g nm fo P S j 0) P (nI (P + 1 + j))) (P + 1 + j) (nI P)))) 0 (upd (upd (g (upA (pfK g nm fo P S j) 0 (upd (upd (pfK g nm fo P S j 0) P (nI (P + 1 + j))) (P + 1 + j) (nI P))) 0) P (-9)) (P + 1 + j) (-9)))
    else pfK g nm fo P S j
def pfr (nm fo : Nat → Int32) : Nat → Nat → Int32 → NV → NV
  | 0, _, t, S => if S 2 0 < t + nI 0 / 2 then upA (upA S 1 (va_cpy (S 0) (S 1) 0 0 7)) 2 (upd (S 2) 0 t) else S
  | d + 1, P, t, S => if S 2 0 < t + nI (d + 1) / 2 then (if S 0 P = -9 then pfr nm fo d (P + 1) t (pfK (pfr nm fo d (P + 1) (t + 1)) nm fo P S d) else pfr nm fo d (P + 1) t S) else S
def fil (f : Nat → Int32) (x : Int32) : Nat → (Nat → Int32)
  | 0 => f
  | i + 1 => upd (fil f x i) i x
def wdS (S : NV) (N : Nat) (nm fo : Nat → Int32) : NV := pfr nm fo N 0 0 (upA (upA S 0 (fil (S 0) (-9) 7)) 2 (upd (S 2) 0 (-1)))

set_option maxHeartbeats 4000000 in
set_option maxRecDepth 100000 in
theorem c_X8_commonDivisor (l : Launch) (D : va_G) (cI cZ cN : ClassId) (x y : Int32) : CtI l yX8_commonDivisor cX8_commonDivisor 6 (some .int) 0 D (tyG cI cZ cN) [.int x, .int y] [] (fun r w => r = cdL 64 x y ∧ w = []) := by
  refine CtI.of rfl (Nat.le_of_ble_eq_true rfl) ?_
  intro pg ev sx mx ax bx mt cx ls Qx Ax Sx hret hW hl
  have hx := Sx.1
  have hb := Sx.2.1
  have hl : lv_has ls 6 [(0, .int x), (1, .int y)] := hl
  refine lv_iload_n hx hb dX8_commonDivisor_0 rfl (lv_at hl 0 rfl) ?_
  refine lv_istore_n (lv' := [(2, .int x), (0, .int x), (1, .int y)]) hx hb dX8_commonDivisor_1 rfl hl (by decide) rfl (fun ls hl => ?_)
  refine lv_iload_n hx hb dX8_commonDivisor_2 rfl (lv_at hl 2 rfl) ?_
  refine lv_istore_n (lv' := [(3, .int y), (2, .int x), (0, .int x), (1, .int y)]) hx hb dX8_commonDivisor_3 rfl hl (by decide) rfl (fun ls hl => ?_)
  refine lv_iconst (v := (0 : Int32)) hx hb dX8_commonDivisor_4 rfl ?_
  refine lv_istore (lv' := [(4, .int (0 : Int32)), (3, .int y), (2, .int x), (0, .int x), (1, .int y)]) hx hb dX8_commonDivisor_5 hl (by decide) rfl (fun ls hl => ?_)
  have lp_7 : ∀ (n : Nat) (i : Nat) (ga : Int32) (gb : Int32), ((cdL (64 - i) ga gb = cdL 64 x y)) → ((i ≤ 64)) → ((64 + 1 ≤ i + n)) → ∀ (H : Heap) (locs : List Loc) (ls : Array Slot), AtC D (tyG cI cZ cN) Ax [] sx H locs → lv_has ls 6 [(0, .int x), (1, .int y), (2, .int ga), (3, .int gb), (4, .int (nI i))] → W pg l ev (rmN 0) sx mx ax bx mt cx H locs 0 0 Qx (F0 mx 7 ls []) := by
    intro n
    induction n with
    | zero =>
      intro i ga gb hg hi hn H locs ls hW hl
      exact absurd hn (by omega)
    | succ n ih7 =>
      intro i ga gb hg hi hn H locs ls hW hl
      refine lv_iload hx hb dX8_commonDivisor_7 (lv_at hl 4 rfl) ?_
      refine lv_bipush (v := (64 : Int32)) hx hb dX8_commonDivisor_9 rfl ?_
      refine lv_icmp_ge (tgt := 34) hx hb dX8_commonDivisor_11 rfl (fun c_11 => ?_) (fun c_11 => ?_)
      · have ge_11 : 64 ≤ i := (nI_leI (a := 64) (b := i) (by omega) (by omega)).mp c_11
        have ee_11 : 64 - i = 0 := by omega
        rw [ee_11] at hg
        refine lv_iload_n hx hb dX8_commonDivisor_34 rfl (lv_at hl 2 rfl) ?_
        exact hret _ _ _ _ _ _ hW rfl rfl dX8_commonDivisor_35 (⟨hg, rfl⟩)
      · have lt_11 : i < 64 := Nat.not_le.mp (fun h => c_11 ((nI_leI (a := 64) (b := i) (by omega) (by omega)).mpr h))
        refine lv_iload_n hx hb dX8_commonDivisor_14 rfl (lv_at hl 3 rfl) ?_
        refine lv_if_eq (tgt := 34) hx hb dX8_commonDivisor_15 rfl (fun c_15 => ?_) (fun c_15 => ?_)
        · refine lv_iload_n hx hb dX8_commonDivisor_34 rfl (lv_at hl 2 rfl) ?_
          exact hret _ _ _ _ _ _ hW rfl rfl dX8_commonDivisor_35 (⟨by rw [← hg, c_15, cdL_0], rfl⟩)
        · refine lv_iload_n hx hb dX8_commonDivisor_18 rfl (lv_at hl 2 rfl) ?_
          refine lv_iload_n hx hb dX8_commonDivisor_19 rfl (lv_at hl 3 rfl) ?_
          refine lv_irem hx hb dX8_commonDivisor_20 c_15 ?_
          refine lv_istore (lv' := [(5, .int (ga - ga / gb * gb)), (0, .int x), (1, .int y), (2, .int ga), (3, .int gb), (4, .int (nI i))]) hx hb dX8_commonDivisor_21 hl (by decide) rfl (fun ls hl => ?_)
          refine lv_iload_n hx hb dX8_commonDivisor_23 rfl (lv_at hl 4 rfl) ?_
          refine lv_istore_n (lv' := [(2, .int gb), (5, .int (ga - ga / gb * gb)), (0, .int x), (1, .int y), (3, .int gb), (4, .int (nI i))]) hx hb dX8_commonDivisor_24 rfl hl (by decide) rfl (fun ls hl => ?_)
          refine lv_iload hx hb dX8_commonDivisor_25 (lv_at hl 1 rfl) ?_
          refine lv_istore_n (lv' := [(3, .int (ga - ga / gb * gb)), (2, .int gb), (5, .int (ga - ga / gb * gb)), (0, .int x), (1, .int y), (4, .int (nI i))]) hx hb dX8_commonDivisor_27 rfl hl (by decide) rfl (fun ls hl => ?_)
          refine lv_iinc (v := (nI (i + 1))) (lv' := [(4, .int (nI (i + 1))), (3, .int (ga - ga / gb * gb)), (2, .int gb), (5, .int (ga - ga / gb * gb)), (0, .int x), (1, .int y)]) hx hb dX8_commonDivisor_28 hl (k := 5) rfl (inc_n i 1) (by decide) rfl (fun ls hl => ?_)
          refine lv_goto (tgt := 7) hx hb dX8_commonDivisor_31 rfl ?_
          exact ih7 (i + 1) gb (ga - ga / gb * gb) (by rw [← hg, show 64 - i = (64 - (i + 1)) + 1 from by omega, cdL, if_neg c_15]) (by omega) (by omega) _ _ _ hW (lv_sub hl [4, 5, 2, 1, 0] rfl)
  exact lp_7 65 0 x y rfl (by omega) (by omega) _ _ _ hW (lv_sub hl [3, 4, 2, 1, 0] rfl)

set_option maxHeartbeats 4000000 in
set_option maxRecDepth 100000 in
theorem c_X8_inLeastTerms (l : Launch) (D : va_G) (cI cZ cN : ClassId) (x y : Int32) : CtI l yX8_inLeastTerms cX8_inLeastTerms 3 (some .int) 1 D (tyG cI cZ cN) [.int x, .int y] [] (fun r w => r = ilI x y ∧ w = []) := by
  refine CtI.of rfl (Nat.le_of_ble_eq_true rfl) ?_
  intro pg ev sx mx ax bx mt cx ls Qx Ax Sx hret hW hl
  have hx := Sx.1
  have hb := Sx.2.1
  have hl : lv_has ls 3 [(0, .int x), (1, .int y)] := hl
  refine lv_iload_n hx hb dX8_inLeastTerms_0 rfl (lv_at hl 0 rfl) ?_
  refine lv_iload_n hx hb dX8_inLeastTerms_1 rfl (lv_at hl 1 rfl) ?_
  refine callSI Sx hW (c_X8_commonDivisor l D cI cZ cN x y) smX8_commonDivisor mw401 (As := [.int x, .int y]) (rest := []) rfl rfl hl.1 (Nat.le_of_ble_eq_true rfl) ⟨Nat.le_of_ble_eq_true rfl, Nat.le_of_ble_eq_true rfl⟩ ⟨Nat.le_refl _, Nat.le_refl _⟩ dX8_inLeastTerms_2 (fun rx H locs hqx hW => ?_)
  obtain ⟨hrx, -⟩ := hqx
  refine r_eq (y := (cdL 64 x y)) hrx ?_
  refine lv_istore_n (lv' := [(2, .int (cdL 64 x y)), (0, .int x), (1, .int y)]) hx hb dX8_inLeastTerms_5 rfl hl (by decide) rfl (fun ls hl => ?_)
  refine lv_iload_n hx hb dX8_inLeastTerms_6 rfl (lv_at hl 0 rfl) ?_
  refine lv_iconst (v := (1 : Int32)) hx hb dX8_inLeastTerms_7 rfl ?_
  refine lv_icmp_ge (tgt := 15) hx hb dX8_inLeastTerms_8 rfl (fun c_8 => ?_) (fun c_8 => ?_)
  · refine lv_iload_n hx hb dX8_inLeastTerms_15 rfl (lv_at hl 1 rfl) ?_
    refine lv_iload_n hx hb dX8_inLeastTerms_16 rfl (lv_at hl 0 rfl) ?_
    refine lv_idiv hx hb dX8_inLeastTerms_17 (le1_ne c_8) ?_
    exact hret _ _ _ _ _ _ hW rfl rfl dX8_inLeastTerms_18 (⟨by simp [ilI, c_8], rfl⟩)
  · refine lv_iload_n hx hb dX8_inLeastTerms_11 rfl (lv_at hl 1 rfl) ?_
    refine lv_goto (tgt := 18) hx hb dX8_inLeastTerms_12 rfl ?_
    exact hret _ _ _ _ _ _ hW rfl rfl dX8_inLeastTerms_18 (⟨by simp [ilI, c_8], rfl⟩)

set_option maxHeartbeats 4000000 in
set_option maxRecDepth 100000 in
theorem c_X8_power (l : Launch) (D : va_G) (cI cZ cN : ClassId) (x : Int32) (E : Nat) (hE : E < 1000) : CtI l yX8_power cX8_power 4 (some .int) 0 D (tyG cI cZ cN) [.int x, .int (nI E)] [] (fun r w => r = pwI x E ∧ w = []) := by
  refine CtI.of rfl (Nat.le_of_ble_eq_true rfl) ?_
  intro pg ev sx mx ax bx mt cx ls Qx Ax Sx hret hW hl
  have hx := Sx.1
  have hb := Sx.2.1
  have hl : lv_has ls 4 [(0, .int x), (1, .int (nI E))] := hl
  refine lv_iconst (v := (1 : Int32)) hx hb dX8_power_0 rfl ?_
  refine lv_istore_n (lv' := [(2, .int (1 : Int32)), (0, .int x), (1, .int (nI E))]) hx hb dX8_power_1 rfl hl (by decide) rfl (fun ls hl => ?_)
  refine lv_iconst (v := (0 : Int32)) hx hb dX8_power_2 rfl ?_
  refine lv_istore_n (lv' := [(3, .int (0 : Int32)), (2, .int (1 : Int32)), (0, .int x), (1, .int (nI E))]) hx hb dX8_power_3 rfl hl (by decide) rfl (fun ls hl => ?_)
  have lp_4 : ∀ (n : Nat) (i : Nat), ((i ≤ E)) → ((E + 1 ≤ i + n)) → ∀ (H : Heap) (locs : List Loc) (ls : Array Slot), AtC D (tyG cI cZ cN) Ax [] sx H locs → lv_has ls 4 [(0, .int x), (1, .int (nI E)), (2, .int (pwI x i)), (3, .int (nI i))] → W pg l ev (rmN 0) sx mx ax bx mt cx H locs 0 0 Qx (F0 mx 4 ls []) := by
    intro n
    induction n with
    | zero =>
      intro i hi_4 hn_4 H locs ls hW hl
      exact absurd hn_4 (by omega)
    | succ n ih4 =>
      intro i hi_4 hn_4 H locs ls hW hl
      refine lv_iload_n hx hb dX8_power_4 rfl (lv_at hl 3 rfl) ?_
      refine lv_iload_n hx hb dX8_power_5 rfl (lv_at hl 1 rfl) ?_
      refine lv_icmp_ge (tgt := 19) hx hb dX8_power_6 rfl (fun c_6 => ?_) (fun c_6 => ?_)
      · have ge_6 : E ≤ i := (nI_leI (a := E) (b := i) (by omega) (by omega)).mp c_6
        have ee_6 : E = i := by omega
        subst ee_6
        refine lv_iload_n hx hb dX8_power_19 rfl (lv_at hl 2 rfl) ?_
        exact hret _ _ _ _ _ _ hW rfl rfl dX8_power_20 (⟨rfl, rfl⟩)
      · have lt_6 : i < E := Nat.not_le.mp (fun h => c_6 ((nI_leI (a := E) (b := i) (by omega) (by omega)).mpr h))
        refine lv_iload_n hx hb dX8_power_9 rfl (lv_at hl 2 rfl) ?_
        refine lv_iload_n hx hb dX8_power_10 rfl (lv_at hl 0 rfl) ?_
        refine lv_imul hx hb dX8_power_11 ?_
        refine lv_istore_n (lv' := [(2, .int ((pwI x i) * x)), (0, .int x), (1, .int (nI E)), (3, .int (nI i))]) hx hb dX8_power_12 rfl hl (by decide) rfl (fun ls hl => ?_)
        refine lv_iinc (v := (nI (i + 1))) (lv' := [(3, .int (nI (i + 1))), (2, .int ((pwI x i) * x)), (0, .int x), (1, .int (nI E))]) hx hb dX8_power_13 hl (k := 3) rfl (inc_n i 1) (by decide) rfl (fun ls hl => ?_)
        refine lv_goto (tgt := 4) hx hb dX8_power_16 rfl ?_
        exact ih4 (i + 1) (by omega) (by omega) _ _ _ hW (lv_sub hl [2, 3, 1, 0] rfl)
  exact lp_4 (E + 1) 0 (by omega) (by omega) _ _ _ hW (lv_sub hl [2, 3, 1, 0] rfl)

set_option maxHeartbeats 4000000 in
set_option maxRecDepth 100000 in
theorem c_X8_choices (l : Launch) (D : va_G) (cI cZ cN : ClassId) (x : Int32) (K : Nat) (hK : K < 1000) : CtI l yX8_choices cX8_choices 4 (some .int) 0 D (tyG cI cZ cN) [.int x, .int (nI K)] [] (fun r w => r = chI x (nI K) K ∧ w = []) := by
  refine CtI.of rfl (Nat.le_of_ble_eq_true rfl) ?_
  intro pg ev sx mx ax bx mt cx ls Qx Ax Sx hret hW hl
  have hx := Sx.1
  have hb := Sx.2.1
  have hl : lv_has ls 4 [(0, .int x), (1, .int (nI K))] := hl
  refine lv_iconst (v := (1 : Int32)) hx hb dX8_choices_0 rfl ?_
  refine lv_istore_n (lv' := [(2, .int (1 : Int32)), (0, .int x), (1, .int (nI K))]) hx hb dX8_choices_1 rfl hl (by decide) rfl (fun ls hl => ?_)
  refine lv_iconst (v := (1 : Int32)) hx hb dX8_choices_2 rfl ?_
  refine lv_istore_n (lv' := [(3, .int (1 : Int32)), (2, .int (1 : Int32)), (0, .int x), (1, .int (nI K))]) hx hb dX8_choices_3 rfl hl (by decide) rfl (fun ls hl => ?_)
  have lp_4 : ∀ (n : Nat) (j : Nat), ((j + 1 ≤ K + 1)) → ((K + 1 + 1 ≤ j + 1 + n)) → ∀ (H : Heap) (locs : List Loc) (ls : Array Slot), AtC D (tyG cI cZ cN) Ax [] sx H locs → lv_has ls 4 [(0, .int x), (1, .int (nI K)), (2, .int (chI x (nI K) j)), (3, .int (nI (j + 1)))] → W pg l ev (rmN 0) sx mx ax bx mt cx H locs 0 0 Qx (F0 mx 4 ls []) := by
    intro n
    induction n with
    | zero =>
      intro j hj_4 hn_4 H locs ls hW hl
      exact absurd hn_4 (by omega)
    | succ n ih4 =>
      intro j hj_4 hn_4 H locs ls hW hl
      refine lv_iload_n hx hb dX8_choices_4 rfl (lv_at hl 3 rfl) ?_
      refine lv_iload_n hx hb dX8_choices_5 rfl (lv_at hl 1 rfl) ?_
      refine lv_icmp_gt (tgt := 25) hx hb dX8_choices_6 rfl (fun c_6 => ?_) (fun c_6 => ?_)
      · have ge_6 : K < j + 1 := (nI_ltI (a := K) (b := j + 1) (by omega) (by omega)).mp c_6
        have ee_6 : K = j := by omega
        subst ee_6
        refine lv_iload_n hx hb dX8_choices_25 rfl (lv_at hl 2 rfl) ?_
        exact hret _ _ _ _ _ _ hW rfl rfl dX8_choices_26 (⟨rfl, rfl⟩)
      · have le_6 : j + 1 ≤ K := Nat.not_lt.mp (fun h => c_6 ((nI_ltI (a := K) (b := j + 1) (by omega) (by omega)).mpr h))
        refine lv_iload_n hx hb dX8_choices_9 rfl (lv_at hl 2 rfl) ?_
        refine lv_iload_n hx hb dX8_choices_10 rfl (lv_at hl 0 rfl) ?_
        refine lv_iload_n hx hb dX8_choices_11 rfl (lv_at hl 1 rfl) ?_
        refine lv_isub hx hb dX8_choices_12 ?_
        refine lv_iload_n hx hb dX8_choices_13 rfl (lv_at hl 3 rfl) ?_
        refine lv_iadd hx hb dX8_choices_14 ?_
        refine lv_imul hx hb dX8_choices_15 ?_
        refine lv_iload_n hx hb dX8_choices_16 rfl (lv_at hl 3 rfl) ?_
        refine lv_idiv hx hb dX8_choices_17 (nI_ne0 (n := j + 1) (by omega) (by omega)) ?_
        refine lv_istore_n (lv' := [(2, .int (((chI x (nI K) j) * ((x - (nI K)) + (nI (j + 1)))) / (nI (j + 1)))), (0, .int x), (1, .int (nI K)), (3, .int (nI (j + 1)))]) hx hb dX8_choices_18 rfl hl (by decide) rfl (fun ls hl => ?_)
        refine lv_iinc (v := (nI ((j + 1) + 1))) (lv' := [(3, .int (nI ((j + 1) + 1))), (2, .int (((chI x (nI K) j) * ((x - (nI K)) + (nI (j + 1)))) / (nI (j + 1)))), (0, .int x), (1, .int (nI K))]) hx hb dX8_choices_19 hl (k := 3) rfl (inc_n (j + 1) 1) (by decide) rfl (fun ls hl => ?_)
        refine lv_goto (tgt := 4) hx hb dX8_choices_22 rfl ?_
        exact ih4 (j + 1) (by omega) (by omega) _ _ _ hW (lv_sub hl [2, 3, 1, 0] rfl)
  exact lp_4 (K + 1 + 1) 0 (by omega) (by omega) _ _ _ hW (lv_sub hl [2, 3, 1, 0] rfl)

set_option maxHeartbeats 4000000 in
set_option maxRecDepth 100000 in
theorem c_X5_isFree (l : Launch) (D : va_G) (cI cZ cN : ClassId) (a b : Nat → Nat) (S L V : NV) (P : Nat) (k : Int32) (N C : Nat) (hN : L 3 1 = nI N) (hN7 : N ≤ 7) (hC : L 3 0 = nI C) (hC4 : C ≤ 4) (hC1 : 1 ≤ C) (hP : P < N) : CtI l yX5_isFree cX5_isFree 5 (some .boolean) 2 D (tyG cI cZ cN) [.ref (a 0), .ref (b 0), .int (nI P), .int k] ((pRen cI a S) ++ (pLand cI b L V)) (fun r w => r = frI (S 0) (L 1) P k P ∧ w = pRen cI a S ++ pLand cI b L V) := by
  refine CtI.of rfl (Nat.le_of_ble_eq_true rfl) ?_
  intro pg ev sx mx ax bx mt cx ls Qx Ax Sx hret hW hl
  have hx := Sx.1
  have hb := Sx.2.1
  have hl : lv_has ls 5 [(0, .ref (a 0)), (1, .ref (b 0)), (2, .int (nI P)), (3, .int k)] := hl
  refine lv_iconst (v := (0 : Int32)) hx hb dX5_isFree_0 rfl ?_
  refine lv_istore (lv' := [(4, .int (0 : Int32)), (0, .ref (a 0)), (1, .ref (b 0)), (2, .int (nI P)), (3, .int k)]) hx hb dX5_isFree_1 hl (by decide) rfl (fun ls hl => ?_)
  have lp_3 : ∀ (n : Nat) (i : Nat), ((frI (S 0) (L 1) P k i = 1)) → ((i ≤ P)) → ((P + 1 ≤ i + n)) → ∀ (H : Heap) (locs : List Loc) (ls : Array Slot), AtC D (tyG cI cZ cN) Ax ((pRen cI a S) ++ (pLand cI b L V)) sx H locs → lv_has ls 5 [(0, .ref (a 0)), (1, .ref (b 0)), (2, .int (nI P)), (3, .int k), (4, .int (nI i))] → W pg l ev (rmN 2) sx mx ax bx mt cx H locs 0 0 Qx (F0 mx 3 ls []) := by
    intro n
    induction n with
    | zero =>
      intro i ag hi_3 hn_3 H locs ls hW hl
      exact absurd hn_3 (by omega)
    | succ n ih3 =>
      intro i ag hi_3 hn_3 H locs ls hW hl
      refine lv_iload hx hb dX5_isFree_3 (lv_at hl 4 rfl) ?_
      refine lv_iload_n hx hb dX5_isFree_5 rfl (lv_at hl 2 rfl) ?_
      refine lv_icmp_ge (tgt := 38) hx hb dX5_isFree_6 rfl (fun c_6 => ?_) (fun c_6 => ?_)
      · have ge_6 : P ≤ i := (nI_leI (a := P) (b := i) (by omega) (by omega)).mp c_6
        have ee_6 : P = i := by omega
        subst ee_6
        refine lv_iconst (v := (1 : Int32)) hx hb dX5_isFree_38 rfl ?_
        exact hret _ _ _ _ _ _ hW rfl rfl dX5_isFree_39 (⟨ag.symm, rfl⟩)
      · have lt_6 : i < P := Nat.not_le.mp (fun h => c_6 ((nI_leI (a := P) (b := i) (by omega) (by omega)).mpr h))
        refine lv_aload_n hx hb dX5_isFree_9 rfl (lv_at hl 0 rfl) ?_
        refine r_get Sx hW 0 rfl rfl bw_wsX50 0 (by decide) (v := .ref (a 1)) rfl mw101 dX5_isFree_10 ?_
        refine lv_iload hx hb dX5_isFree_13 (lv_at hl 4 rfl) ?_
        refine r_iald Sx hW 1 0 rfl rfl (j := i) rfl (by omega) (by decide) dX5_isFree_15 ?_
        refine lv_iload_n hx hb dX5_isFree_16 rfl (lv_at hl 3 rfl) ?_
        refine lv_icmp_ne (tgt := 32) hx hb dX5_isFree_17 rfl (fun c_17 => ?_) (fun c_17 => ?_)
        · refine lv_iinc (v := (nI (i + 1))) (lv' := [(4, .int (nI (i + 1))), (0, .ref (a 0)), (1, .ref (b 0)), (2, .int (nI P)), (3, .int k)]) hx hb dX5_isFree_32 hl (k := 4) rfl (inc_n i 1) (by decide) rfl (fun ls hl => ?_)
          refine lv_goto (tgt := 3) hx hb dX5_isFree_35 rfl ?_
          exact ih3 (i + 1) (by simp [frI, ag, c_6, c_17]) (by omega) (by omega) _ _ _ hW (lv_sub hl [1, 2, 3, 4, 0] rfl)
        · refine lv_aload_n hx hb dX5_isFree_20 rfl (lv_at hl 1 rfl) ?_
          refine lv_iload_n hx hb dX5_isFree_21 rfl (lv_at hl 2 rfl) ?_
          refine lv_iload hx hb dX5_isFree_22 (lv_at hl 4 rfl) ?_
          refine callVI Sx hW (c_X1_quarrel l D cI cZ cN b L V P (nI i) N C hN hN7 hC hC4 hC1 (by omega)) vmX1_quarrel mw636 [3, 4, 5, 6, 7, 8, 9, 10] rfl (by decide) 0 rfl rfl (As := [.int (nI P), .int (nI i)]) (rest := []) rfl rfl hl.1 (Nat.le_of_ble_eq_true rfl) ⟨Nat.le_of_ble_eq_true rfl, Nat.le_of_ble_eq_true rfl⟩ ⟨Nat.le_refl _, Nat.le_refl _⟩ dX5_isFree_24 (fun rx wx H locs hqx hW => ?_)
          obtain ⟨hrx, rfl⟩ := hqx
          have hW : AtC D (tyG cI cZ cN) Ax ((pRen cI a S) ++ (pLand cI b L V)) sx H locs := hW
          refine r_eq (y := (qrI (L 1) (P) ((nI i)))) hrx ?_
          refine lv_if_eq (tgt := 32) hx hb dX5_isFree_27 rfl (fun c_27 => ?_) (fun c_27 => ?_)
          · have c_27 := qrI_0 c_27
            refine lv_iinc (v := (nI (i + 1))) (lv' := [(4, .int (nI (i + 1))), (0, .ref (a 0)), (1, .ref (b 0)), (2, .int (nI P)), (3, .int k)]) hx hb dX5_isFree_32 hl (k := 4) rfl (inc_n i 1) (by decide) rfl (fun ls hl => ?_)
            refine lv_goto (tgt := 3) hx hb dX5_isFree_35 rfl ?_
            exact ih3 (i + 1) (by simp [frI, ag, c_6, c_17, c_27]) (by omega) (by omega) _ _ _ hW (lv_sub hl [1, 2, 3, 4, 0] rfl)
          · have c_27 := qrI_1 c_27
            refine lv_iconst (v := (0 : Int32)) hx hb dX5_isFree_30 rfl ?_
            exact hret _ _ _ _ _ _ hW rfl rfl dX5_isFree_31 (⟨by have h := frI_mono (S 0) (L 1) P k (i + 1) (by simp [frI, ag, c_6, c_17, c_27]) (P - (i + 1)); rw [show i + 1 + (P - (i + 1)) = P from by omega] at h; exact h.symm, rfl⟩)
  exact lp_3 (P + 1) 0 rfl (by omega) (by omega) _ _ _ hW (lv_sub hl [1, 2, 3, 4, 0] rfl)

set_option maxHeartbeats 4000000 in
set_option maxRecDepth 100000 in
theorem c_X5_nameFrom_0 (l : Launch) (D : va_G) (cI cZ cN : ClassId) (a b : Nat → Nat) (S L V : NV) (r : Int32) (N C : Nat) (hN : L 3 1 = nI N) (hN7 : N ≤ 7) (hC : L 3 0 = nI C) (hC4 : C ≤ 4) (hC1 : 1 ≤ C) : CtV l yX5_nameFrom cX5_nameFrom 5 3 D (tyG cI cZ cN) [.ref (a 0), .ref (b 0), .int (nI N), .int r] ((pRen cI a S) ++ (pLand cI b L V)) (fun w => w = pRen cI a (nfr C (V 0) (L 1) 0 N r S) ++ pLand cI b L V) := by
  refine CtV.of rfl (Nat.le_of_ble_eq_true rfl) ?_
  intro pg ev sx mx ax bx mt cx ls Qx Ax Sx hret hW hl
  have hx := Sx.1
  have hb := Sx.2.1
  have hl : lv_has ls 5 [(0, .ref (a 0)), (1, .ref (b 0)), (2, .int (nI N)), (3, .int r)] := hl
  refine lv_iload_n hx hb dX5_nameFrom_0 rfl (lv_at hl 3 rfl) ?_
  refine lv_aload_n hx hb dX5_nameFrom_1 rfl (lv_at hl 0 rfl) ?_
  refine r_get Sx hW 0 rfl rfl bw_wsX50 2 (by decide) (v := .int (S 2 0)) rfl mw103 dX5_nameFrom_2 ?_
  refine lv_icmp_lt (tgt := 9) hx hb dX5_nameFrom_5 rfl (fun c_5 => ?_) (fun c_5 => ?_)
  · refine lv_iload_n hx hb dX5_nameFrom_9 rfl (lv_at hl 2 rfl) ?_
    refine lv_aload_n hx hb dX5_nameFrom_10 rfl (lv_at hl 1 rfl) ?_
    refine r_get Sx hW 3 rfl rfl bw_wsX10 5 (by decide) (v := .int (L 3 1)) rfl mw627 dX5_nameFrom_11 ?_
    refine r_eq (y := (nI N)) hN ?_
    refine lv_icmp_lt (tgt := 38) hx hb dX5_nameFrom_14 rfl (fun c_14 => ?_) (fun c_14 => ?_)
    · exact absurd c_14 (nI_nlt (Nat.le_refl N) (by omega))
    · refine lv_aload_n hx hb dX5_nameFrom_17 rfl (lv_at hl 0 rfl) ?_
      refine lv_iload_n hx hb dX5_nameFrom_18 rfl (lv_at hl 3 rfl) ?_
      refine r_put Sx hW 0 rfl rfl bw_wsX50 tyX5_ok nmX5 2 (by decide) mw103 rfl rfl rfl (Nat.le_of_ble_eq_true rfl) dX5_nameFrom_19 (ws' := ((pRen cI a (upA S 2 (upd (S 2) 0 r))) ++ (pLand cI b L V))) rfl (fun H locs hW => ?_)
      refine lv_aload_n hx hb dX5_nameFrom_22 rfl (lv_at hl 0 rfl) ?_
      refine r_get Sx hW 0 rfl rfl bw_wsX50 0 (by decide) (v := .ref (a 1)) rfl mw101 dX5_nameFrom_23 ?_
      refine lv_iconst (v := (0 : Int32)) hx hb dX5_nameFrom_26 rfl ?_
      refine lv_aload_n hx hb dX5_nameFrom_27 rfl (lv_at hl 0 rfl) ?_
      refine r_get Sx hW 0 rfl rfl bw_wsX50 1 (by decide) (v := .ref (a 2)) rfl mw102 dX5_nameFrom_28 ?_
      refine lv_iconst (v := (0 : Int32)) hx hb dX5_nameFrom_31 rfl ?_
      refine lv_bipush (v := (7 : Int32)) hx hb dX5_nameFrom_32 rfl ?_
      refine r_copy Sx hW 1 2 rfl rfl 0 rfl mw628 mw234 mw235 mw236 7 (by decide) (by decide) (by decide) hl.1 (by decide) (Nat.le_of_ble_eq_true rfl) dX5_nameFrom_34 (ws' := ((pRen cI a (upA (upA S 1 (va_cpy (S 0) (S 1) 0 0 7)) 2 (upd (S 2) 0 r))) ++ (pLand cI b L V))) rfl (fun H locs hW => ?_)
      exact hret _ _ _ _ _ hW rfl dX5_nameFrom_37 (by simp [nfr, c_5, c_14])
  · exact hret _ _ _ _ _ hW rfl dX5_nameFrom_8 (by simp [nfr, c_5])

set_option maxHeartbeats 4000000 in
set_option maxRecDepth 100000 in
theorem c_X5_nameFrom_s (l : Launch) (D : va_G) (cI cZ cN : ClassId) (a b : Nat → Nat) (S L V : NV) (P d : Nat) (r : Int32) (N C : Nat) (hN : L 3 1 = nI N) (hN7 : N ≤ 7) (hC : L 3 0 = nI C) (hC4 : C ≤ 4) (hC1 : 1 ≤ C) (hPd : P + (d + 1) = N) (ih : ∀ (r : Int32) (S : NV), CtV l yX5_nameFrom cX5_nameFrom 5 (3 + d) D (tyG cI cZ cN) [.ref (a 0), .ref (b 0), .int (nI (P + 1)), .int r] (pRen cI a S ++ pLand cI b L V) (fun w => w = pRen cI a (nfr C (V 0) (L 1) d (P + 1) r S) ++ pLand cI b L V)) : CtV l yX5_nameFrom cX5_nameFrom 5 (3 + (d + 1)) D (tyG cI cZ cN) [.ref (a 0), .ref (b 0), .int (nI P), .int r] ((pRen cI a S) ++ (pLand cI b L V)) (fun w => w = pRen cI a (nfr C (V 0) (L 1) (d + 1) P r S) ++ pLand cI b L V) := by
  refine CtV.of rfl (Nat.le_of_ble_eq_true rfl) ?_
  intro pg ev sx mx ax bx mt cx ls Qx Ax Sx hret hW hl
  have hx := Sx.1
  have hb := Sx.2.1
  have hl : lv_has ls 5 [(0, .ref (a 0)), (1, .ref (b 0)), (2, .int (nI P)), (3, .int r)] := hl
  refine lv_iload_n hx hb dX5_nameFrom_0 rfl (lv_at hl 3 rfl) ?_
  refine lv_aload_n hx hb dX5_nameFrom_1 rfl (lv_at hl 0 rfl) ?_
  refine r_get Sx hW 0 rfl rfl bw_wsX50 2 (by decide) (v := .int (S 2 0)) rfl mw103 dX5_nameFrom_2 ?_
  refine lv_icmp_lt (tgt := 9) hx hb dX5_nameFrom_5 rfl (fun c_5 => ?_) (fun c_5 => ?_)
  · refine lv_iload_n hx hb dX5_nameFrom_9 rfl (lv_at hl 2 rfl) ?_
    refine lv_aload_n hx hb dX5_nameFrom_10 rfl (lv_at hl 1 rfl) ?_
    refine r_get Sx hW 3 rfl rfl bw_wsX10 5 (by decide) (v := .int (L 3 1)) rfl mw627 dX5_nameFrom_11 ?_
    refine r_eq (y := (nI N)) hN ?_
    refine lv_icmp_lt (tgt := 38) hx hb dX5_nameFrom_14 rfl (fun c_14 => ?_) (fun c_14 => ?_)
    · refine lv_iconst (v := (0 : Int32)) hx hb dX5_nameFrom_38 rfl ?_
      refine lv_istore (lv' := [(4, .int (0 : Int32)), (0, .ref (a 0)), (1, .ref (b 0)), (2, .int (nI P)), (3, .int r)]) hx hb dX5_nameFrom_39 hl (by decide) rfl (fun ls hl => ?_)
      have lp_41 : ∀ (n : Nat) (j : Nat), ((j ≤ C)) → ((C + 1 ≤ j + n)) → ∀ (H : Heap) (locs : List Loc) (ls : Array Slot), AtC D (tyG cI cZ cN) Ax ((pRen cI a (nfK (nfr C (V 0) (L 1) d (P + 1)) (V 0) (L 1) P r S j)) ++ (pLand cI b L V)) sx H locs → lv_has ls 5 [(0, .ref (a 0)), (1, .ref (b 0)), (2, .int (nI P)), (3, .int r), (4, .int (nI j))] → W pg l ev (rmN (3 + (d + 1))) sx mx ax bx mt cx H locs 0 0 Qx (F0 mx 41 ls []) := by
        intro n
        induction n with
        | zero =>
          intro j hj_41 hn_41 H locs ls hW hl
          exact absurd hn_41 (by omega)
        | succ n ih41 =>
          intro j hj_41 hn_41 H locs ls hW hl
          refine lv_iload hx hb dX5_nameFrom_41 (lv_at hl 4 rfl) ?_
          refine lv_aload_n hx hb dX5_nameFrom_43 rfl (lv_at hl 1 rfl) ?_
          refine r_get Sx hW 3 rfl rfl bw_wsX10 4 (by decide) (v := .int (L 3 0)) rfl mw629 dX5_nameFrom_44 ?_
          refine r_eq (y := (nI C)) hC ?_
          refine lv_icmp_ge (tgt := 104) hx hb dX5_nameFrom_47 rfl (fun c_47 => ?_) (fun c_47 => ?_)
          · have ge_47 : C ≤ j := (nI_leI (a := C) (b := j) (by omega) (by omega)).mp c_47
            have ee_47 : C = j := by omega
            subst ee_47
            exact hret _ _ _ _ _ hW rfl dX5_nameFrom_104 (by simp [nfr, c_5, c_14, c_47])
          · have lt_47 : j < C := Nat.not_le.mp (fun h => c_47 ((nI_leI (a := C) (b := j) (by omega) (by omega)).mpr h))
            refine lv_aload_n hx hb dX5_nameFrom_50 rfl (lv_at hl 0 rfl) ?_
            refine lv_aload_n hx hb dX5_nameFrom_51 rfl (lv_at hl 1 rfl) ?_
            refine lv_iload_n hx hb dX5_nameFrom_52 rfl (lv_at hl 2 rfl) ?_
            refine lv_iload hx hb dX5_nameFrom_53 (lv_at hl 4 rfl) ?_
            refine callVI Sx hW (c_X5_isFree l D cI cZ cN a b (nfK (nfr C (V 0) (L 1) d (P + 1)) (V 0) (L 1) P r S j) L V P (nI j) N C hN hN7 hC hC4 hC1 (by omega)) vmX5_isFree mw632 [0, 1, 2, 3, 4, 5, 6, 7, 8, 9, 10] rfl (by decide) 0 rfl rfl (As := [.ref (b 0), .int (nI P), .int (nI j)]) (rest := []) rfl rfl hl.1 (Nat.le_of_ble_eq_true rfl) ⟨(show 2 + 1 ≤ 3 + (d + 1) by omega), (show 8 + (5 + 11) + 40 * (2) ≤ 40 * (3 + (d + 1)) by omega)⟩ ⟨Nat.le_refl _, Nat.le_refl _⟩ dX5_nameFrom_55 (fun rx wx H locs hqx hW => ?_)
            obtain ⟨hrx, rfl⟩ := hqx
            have hW : AtC D (tyG cI cZ cN) Ax ((pRen cI a (nfK (nfr C (V 0) (L 1) d (P + 1)) (V 0) (L 1) P r S j)) ++ (pLand cI b L V)) sx H locs := hW
            refine r_eq (y := (frI ((nfK (nfr C (V 0) (L 1) d (P + 1)) (V 0) (L 1) P r S j) 0) (L 1) P (nI j) P)) hrx ?_
            refine lv_if_eq (tgt := 98) hx hb dX5_nameFrom_58 rfl (fun c_58 => ?_) (fun c_58 => ?_)
            · refine lv_iinc (v := (nI (j + 1))) (lv' := [(4, .int (nI (j + 1))), (0, .ref (a 0)), (1, .ref (b 0)), (2, .int (nI P)), (3, .int r)]) hx hb dX5_nameFrom_98 hl (k := 4) rfl (inc_n j 1) (by decide) rfl (fun ls hl => ?_)
              refine lv_goto (tgt := 41) hx hb dX5_nameFrom_101 rfl ?_
              have hW_1 := hW.cong (ws' := ((pRen cI a (nfK (nfr C (V 0) (L 1) d (P + 1)) (V 0) (L 1) P r S (j + 1))) ++ (pLand cI b L V))) (by first | (rw [show (nfK (nfr C (V 0) (L 1) d (P + 1)) (V 0) (L 1) P r S (j + 1)) = (nfK (nfr C (V 0) (L 1) d (P + 1)) (V 0) (L 1) P r S j) from by rw [nfK, if_pos c_58]]; done) | (rw [show (nfK (nfr C (V 0) (L 1) d (P + 1)) (V 0) (L 1) P r S (j + 1)) = (nfK (nfr C (V 0) (L 1) d (P + 1)) (V 0) (L 1) P r S j) from by rw [nfK, if_pos c_58]]; rfl))
              exact ih41 (j + 1) (by omega) (by omega) _ _ _ hW_1 (lv_sub hl [1, 2, 3, 4, 0] rfl)
            · refine lv_aload_n hx hb dX5_nameFrom_61 rfl (lv_at hl 0 rfl) ?_
              refine r_get Sx hW 0 rfl rfl bw_wsX50 0 (by decide) (v := .ref (a 1)) rfl mw101 dX5_nameFrom_62 ?_
              refine lv_iload_n hx hb dX5_nameFrom_65 rfl (lv_at hl 2 rfl) ?_
              refine lv_iload hx hb dX5_nameFrom_66 (lv_at hl 4 rfl) ?_
              refine r_iast Sx hW 1 0 rfl rfl (j := P) rfl (by omega) (by decide) dX5_nameFrom_68 (ws' := ((pRen cI a (upA (nfK (nfr C (V 0) (L 1) d (P + 1)) (V 0) (L 1) P r S j) 0 (upd ((nfK (nfr C (V 0) (L 1) d (P + 1)) (V 0) (L 1) P r S j) 0) P (nI j)))) ++ (pLand cI b L V))) rfl (fun H locs hW => ?_)
              refine lv_aload_n hx hb dX5_nameFrom_69 rfl (lv_at hl 0 rfl) ?_
              refine lv_aload_n hx hb dX5_nameFrom_70 rfl (lv_at hl 1 rfl) ?_
              refine lv_iload_n hx hb dX5_nameFrom_71 rfl (lv_at hl 2 rfl) ?_
              refine lv_iconst (v := (1 : Int32)) hx hb dX5_nameFrom_72 rfl ?_
              refine lv_iadd hx hb dX5_nameFrom_73 ?_
              refine r_eq (y := (nI (P + 1))) (nI_add P 1) ?_
              refine lv_iload hx hb dX5_nameFrom_74 (lv_at hl 4 rfl) ?_
              refine lv_aload_n hx hb dX5_nameFrom_76 rfl (lv_at hl 1 rfl) ?_
              refine r_get Sx hW 3 rfl rfl bw_wsX10 3 (by decide) (v := .ref (b 4)) rfl mw630 dX5_nameFrom_77 ?_
              refine r_get Sx hW 7 rfl rfl bw_wsX20 0 (by decide) (v := .ref (b 5)) rfl mw631 dX5_nameFrom_80 ?_
              refine lv_iload_n hx hb dX5_nameFrom_83 rfl (lv_at hl 2 rfl) ?_
              refine r_iald Sx hW 8 0 rfl rfl (j := P) rfl (by omega) (by decide) dX5_nameFrom_84 ?_
              refine lv_icmp_ne (tgt := 92) hx hb dX5_nameFrom_85 rfl (fun c_85 => ?_) (fun c_85 => ?_)
              · refine lv_iload_n hx hb dX5_nameFrom_92 rfl (lv_at hl 3 rfl) ?_
                refine lv_iconst (v := (1 : Int32)) hx hb dX5_nameFrom_93 rfl ?_
                refine lv_iadd hx hb dX5_nameFrom_94 ?_
                refine callVV Sx hW (ih (r + (1 : Int32)) (upA (nfK (nfr C (V 0) (L 1) d (P + 1)) (V 0) (L 1) P r S j) 0 (upd ((nfK (nfr C (V 0) (L 1) d (P + 1)) (V 0) (L 1) P r S j) 0) P (nI j)))) vmX5_nameFrom mw623 [0, 1, 2, 3, 4, 5, 6, 7, 8, 9, 10] rfl (by decide) 0 rfl rfl (As := [.ref (b 0), .int (nI (P + 1)), .int (r + (1 : Int32))]) (rest := []) rfl rfl hl.1 (Nat.le_of_ble_eq_true rfl) ⟨(show 3 + d + 1 ≤ 3 + (d + 1) by omega), (show 8 + (5 + 11) + 40 * (3 + d) ≤ 40 * (3 + (d + 1)) by omega)⟩ ⟨Nat.le_refl _, Nat.le_refl _⟩ dX5_nameFrom_95 (fun wx H locs hqx hW => ?_)
                obtain rfl := hqx
                have hW : AtC D (tyG cI cZ cN) Ax ((pRen cI a (nfr C (V 0) (L 1) d (P + 1) (r + (1 : Int32)) (upA (nfK (nfr C (V 0) (L 1) d (P + 1)) (V 0) (L 1) P r S j) 0 (upd ((nfK (nfr C (V 0) (L 1) d (P + 1)) (V 0) (L 1) P r S j) 0) P (nI j))))) ++ (pLand cI b L V)) sx H locs := hW
                refine lv_iinc (v := (nI (j + 1))) (lv' := [(4, .int (nI (j + 1))), (0, .ref (a 0)), (1, .ref (b 0)), (2, .int (nI P)), (3, .int r)]) hx hb dX5_nameFrom_98 hl (k := 4) rfl (inc_n j 1) (by decide) rfl (fun ls hl => ?_)
                refine lv_goto (tgt := 41) hx hb dX5_nameFrom_101 rfl ?_
                have hW_2 := hW.cong (ws' := ((pRen cI a (nfK (nfr C (V 0) (L 1) d (P + 1)) (V 0) (L 1) P r S (j + 1))) ++ (pLand cI b L V))) (by first | (rw [show (nfK (nfr C (V 0) (L 1) d (P + 1)) (V 0) (L 1) P r S (j + 1)) = (nfr C (V 0) (L 1) d (P + 1) (r + (1 : Int32)) (upA (nfK (nfr C (V 0) (L 1) d (P + 1)) (V 0) (L 1) P r S j) 0 (upd ((nfK (nfr C (V 0) (L 1) d (P + 1)) (V 0) (L 1) P r S j) 0) P (nI j)))) from by rw [nfK, if_neg c_58, if_neg c_85]]; done) | (rw [show (nfK (nfr C (V 0) (L 1) d (P + 1)) (V 0) (L 1) P r S (j + 1)) = (nfr C (V 0) (L 1) d (P + 1) (r + (1 : Int32)) (upA (nfK (nfr C (V 0) (L 1) d (P + 1)) (V 0) (L 1) P r S j) 0 (upd ((nfK (nfr C (V 0) (L 1) d (P + 1)) (V 0) (L 1) P r S j) 0) P (nI j)))) from by rw [nfK, if_neg c_58, if_neg c_85]]; rfl))
                exact ih41 (j + 1) (by omega) (by omega) _ _ _ hW_2 (lv_sub hl [1, 2, 3, 4, 0] rfl)
              · refine lv_iload_n hx hb dX5_nameFrom_88 rfl (lv_at hl 3 rfl) ?_
                refine lv_goto (tgt := 95) hx hb dX5_nameFrom_89 rfl ?_
                refine callVV Sx hW (ih r (upA (nfK (nfr C (V 0) (L 1) d (P + 1)) (V 0) (L 1) P r S j) 0 (upd ((nfK (nfr C (V 0) (L 1) d (P + 1)) (V 0) (L 1) P r S j) 0) P (nI j)))) vmX5_nameFrom mw623 [0, 1, 2, 3, 4, 5, 6, 7, 8, 9, 10] rfl (by decide) 0 rfl rfl (As := [.ref (b 0), .int (nI (P + 1)), .int r]) (rest := []) rfl rfl hl.1 (Nat.le_of_ble_eq_true rfl) ⟨(show 3 + d + 1 ≤ 3 + (d + 1) by omega), (show 8 + (5 + 11) + 40 * (3 + d) ≤ 40 * (3 + (d + 1)) by omega)⟩ ⟨Nat.le_refl _, Nat.le_refl _⟩ dX5_nameFrom_95 (fun wx H locs hqx hW => ?_)
                obtain rfl := hqx
                have hW : AtC D (tyG cI cZ cN) Ax ((pRen cI a (nfr C (V 0) (L 1) d (P + 1) r (upA (nfK (nfr C (V 0) (L 1) d (P + 1)) (V 0) (L 1) P r S j) 0 (upd ((nfK (nfr C (V 0) (L 1) d (P + 1)) (V 0) (L 1) P r S j) 0) P (nI j))))) ++ (pLand cI b L V)) sx H locs := hW
                refine lv_iinc (v := (nI (j + 1))) (lv' := [(4, .int (nI (j + 1))), (0, .ref (a 0)), (1, .ref (b 0)), (2, .int (nI P)), (3, .int r)]) hx hb dX5_nameFrom_98 hl (k := 4) rfl (inc_n j 1) (by decide) rfl (fun ls hl => ?_)
                refine lv_goto (tgt := 41) hx hb dX5_nameFrom_101 rfl ?_
                have hW_3 := hW.cong (ws' := ((pRen cI a (nfK (nfr C (V 0) (L 1) d (P + 1)) (V 0) (L 1) P r S (j + 1))) ++ (pLand cI b L V))) (by first | (rw [show (nfK (nfr C (V 0) (L 1) d (P + 1)) (V 0) (L 1) P r S (j + 1)) = (nfr C (V 0) (L 1) d (P + 1) r (upA (nfK (nfr C (V 0) (L 1) d (P + 1)) (V 0) (L 1) P r S j) 0 (upd ((nfK (nfr C (V 0) (L 1) d (P + 1)) (V 0) (L 1) P r S j) 0) P (nI j)))) from by rw [nfK, if_neg c_58, if_pos c_85]]; done) | (rw [show (nfK (nfr C (V 0) (L 1) d (P + 1)) (V 0) (L 1) P r S (j + 1)) = (nfr C (V 0) (L 1) d (P + 1) r (upA (nfK (nfr C (V 0) (L 1) d (P + 1)) (V 0) (L 1) P r S j) 0 (upd ((nfK (nfr C (V 0) (L 1) d (P + 1)) (V 0) (L 1) P r S j) 0) P (nI j)))) from by rw [nfK, if_neg c_58, if_pos c_85]]; rfl))
                exact ih41 (j + 1) (by omega) (by omega) _ _ _ hW_3 (lv_sub hl [1, 2, 3, 4, 0] rfl)
      exact lp_41 (C + 1) 0 (by omega) (by omega) _ _ _ hW (lv_sub hl [1, 2, 3, 4, 0] rfl)
    · exact absurd (nI_lt (show P < N by omega) (by omega)) c_14
  · exact hret _ _ _ _ _ hW rfl dX5_nameFrom_8 (by simp [nfr, c_5])

theorem c_X5_nameFrom (l : Launch) (D : va_G) (cI cZ cN : ClassId) (a b : Nat → Nat) (L V : NV) (N C : Nat) (hN : L 3 1 = nI N) (hN7 : N ≤ 7) (hC : L 3 0 = nI C) (hC4 : C ≤ 4) (hC1 : 1 ≤ C) : ∀ (d P : Nat) (r : Int32) (S : NV), P + d = N → CtV l yX5_nameFrom cX5_nameFrom 5 (3 + d) D (tyG cI cZ cN) [.ref (a 0), .ref (b 0), .int (nI P), .int r] (pRen cI a S ++ pLand cI b L V) (fun w => w = pRen cI a (nfr C (V 0) (L 1) d P r S) ++ pLand cI b L V)
  | 0, P, r, S, h => by
    obtain rfl : P = N := by omega
    exact c_X5_nameFrom_0 l D cI cZ cN a b S L V r P C hN hN7 hC hC4 hC1
  | d + 1, P, r, S, h => c_X5_nameFrom_s l D cI cZ cN a b S L V P d r N C hN hN7 hC hC4 hC1 h (fun r S => c_X5_nameFrom l D cI cZ cN a b L V N C hN hN7 hC hC4 hC1 d (P + 1) r S (by omega))

theorem Met.wider {l : Launch} {y : MethodName} {ws : List Cond} {rm rm' : Room} {Pc : Array Value → State → Prop} {Qc : Array Value → State → Outcome → State → Prop} {mc ms : Nat} {free : Addr → Prop} (h : Met l y ws rm Pc Qc mc ms free) (hr : rm = rm') : Met l y ws rm' Pc Qc mc ms free := hr ▸ h

set_option maxHeartbeats 4000000 in
set_option maxRecDepth 100000 in
theorem c_X5_search (l : Launch) (D : va_G) (cI cZ cN : ClassId) (a b : Nat → Nat) (S L V : NV) (N C : Nat) (hN : L 3 1 = nI N) (hN7 : N ≤ 7) (hC : L 3 0 = nI C) (hC4 : C ≤ 4) (hC1 : 1 ≤ C) : CtV l yX5_search cX5_search 2 (4 + N) D (tyG cI cZ cN) [.ref (a 0), .ref (b 0)] ((pRen cI a S) ++ (pLand cI b L V)) (fun w => w = pRen cI a (rnS S N C (V 0) (L 1)) ++ pLand cI b L V) := by
  refine CtV.of rfl (Nat.le_of_ble_eq_true rfl) ?_
  intro pg ev sx mx ax bx mt cx ls Qx Ax Sx hret hW hl
  have hx := Sx.1
  have hb := Sx.2.1
  have hl : lv_has ls 2 [(0, .ref (a 0)), (1, .ref (b 0))] := hl
  refine lv_aload_n hx hb dX5_search_0 rfl (lv_at hl 0 rfl) ?_
  refine lv_bipush (v := (8 : Int32)) hx hb dX5_search_1 rfl ?_
  refine r_put Sx hW 0 rfl rfl bw_wsX50 tyX5_ok nmX5 2 (by decide) mw103 rfl rfl rfl (Nat.le_of_ble_eq_true rfl) dX5_search_3 (ws' := ((pRen cI a (upA S 2 (upd (S 2) 0 (8 : Int32)))) ++ (pLand cI b L V))) rfl (fun H locs hW => ?_)
  refine lv_aload_n hx hb dX5_search_6 rfl (lv_at hl 0 rfl) ?_
  refine lv_aload_n hx hb dX5_search_7 rfl (lv_at hl 1 rfl) ?_
  refine lv_iconst (v := (0 : Int32)) hx hb dX5_search_8 rfl ?_
  refine lv_iconst (v := (0 : Int32)) hx hb dX5_search_9 rfl ?_
  refine callVV Sx hW (c_X5_nameFrom l D cI cZ cN a b L V N C hN hN7 hC hC4 hC1 N 0 (0 : Int32) (upA S 2 (upd (S 2) 0 (8 : Int32))) (by omega)) vmX5_nameFrom mw623 [0, 1, 2, 3, 4, 5, 6, 7, 8, 9, 10] rfl (by decide) 0 rfl rfl (As := [.ref (b 0), .int (0 : Int32), .int (0 : Int32)]) (rest := []) rfl rfl hl.1 (Nat.le_of_ble_eq_true rfl) ⟨(show 3 + N + 1 ≤ 4 + N by omega), (show 8 + (5 + 11) + 40 * (3 + N) ≤ 40 * (4 + N) by omega)⟩ ⟨Nat.le_refl _, Nat.le_refl _⟩ dX5_search_10 (fun wx H locs hqx hW => ?_)
  obtain rfl := hqx
  have hW : AtC D (tyG cI cZ cN) Ax ((pRen cI a (nfr C (V 0) (L 1) N 0 (0 : Int32) (upA S 2 (upd (S 2) 0 (8 : Int32))))) ++ (pLand cI b L V)) sx H locs := hW
  exact hret _ _ _ _ _ hW rfl dX5_search_13 rfl

set_option maxHeartbeats 4000000 in
set_option maxRecDepth 100000 in
theorem c_X5_found (l : Launch) (D : va_G) (cI cZ cN : ClassId) (a : Nat → Nat) (S : NV) : CtI l yX5_found cX5_found 1 (some .boolean) 0 D (tyG cI cZ cN) [.ref (a 0)] (pRen cI a S) (fun r w => r = (if 7 < S 2 0 then 0 else 1) ∧ w = pRen cI a S) := by
  refine CtI.of rfl (Nat.le_of_ble_eq_true rfl) ?_
  intro pg ev sx mx ax bx mt cx ls Qx Ax Sx hret hW hl
  have hx := Sx.1
  have hb := Sx.2.1
  have hl : lv_has ls 1 [(0, .ref (a 0))] := hl
  refine lv_aload_n hx hb dX5_found_0 rfl (lv_at hl 0 rfl) ?_
  refine r_get Sx hW 0 rfl rfl bw_wsX50 2 (by decide) (v := .int (S 2 0)) rfl mw103 dX5_found_1 ?_
  refine lv_bipush (v := (7 : Int32)) hx hb dX5_found_4 rfl ?_
  refine lv_icmp_gt (tgt := 13) hx hb dX5_found_6 rfl (fun c_6 => ?_) (fun c_6 => ?_)
  · refine lv_iconst (v := (0 : Int32)) hx hb dX5_found_13 rfl ?_
    exact hret _ _ _ _ _ _ hW rfl rfl dX5_found_14 (⟨by simp [c_6], rfl⟩)
  · refine lv_iconst (v := (1 : Int32)) hx hb dX5_found_9 rfl ?_
    refine lv_goto (tgt := 14) hx hb dX5_found_10 rfl ?_
    exact hret _ _ _ _ _ _ hW rfl rfl dX5_found_14 (⟨by simp [c_6], rfl⟩)

set_option maxHeartbeats 4000000 in
set_option maxRecDepth 100000 in
theorem c_X7_mayMarry (l : Launch) (D : va_G) (cI cZ cN : ClassId) (b : Nat → Nat) (L V : NV) (P Qq : Nat) (N C : Nat) (hN : L 3 1 = nI N) (hN7 : N ≤ 7) (hC : L 3 0 = nI C) (hC4 : C ≤ 4) (hC1 : 1 ≤ C) (hP : P < N) (hQ : Qq < N) : CtI l yX7_mayMarry cX7_mayMarry 3 (some .boolean) 2 D (tyG cI cZ cN) [.ref (b 0), .int (nI P), .int (nI Qq)] (pLand cI b L V) (fun r w => r = mmI (V 0) (L 1) P Qq ∧ w = pLand cI b L V) := by
  refine CtI.of rfl (Nat.le_of_ble_eq_true rfl) ?_
  intro pg ev sx mx ax bx mt cx ls Qx Ax Sx hret hW hl
  have hx := Sx.1
  have hb := Sx.2.1
  have hl : lv_has ls 3 [(0, .ref (b 0)), (1, .int (nI P)), (2, .int (nI Qq))] := hl
  refine lv_aload_n hx hb dX7_mayMarry_0 rfl (lv_at hl 0 rfl) ?_
  refine r_get Sx hW 0 rfl rfl bw_wsX10 3 (by decide) (v := .ref (b 4)) rfl mw744 dX7_mayMarry_1 ?_
  refine r_get Sx hW 4 rfl rfl bw_wsX20 0 (by decide) (v := .ref (b 5)) rfl mw745 dX7_mayMarry_4 ?_
  refine lv_iload_n hx hb dX7_mayMarry_7 rfl (lv_at hl 1 rfl) ?_
  refine r_iald Sx hW 5 0 rfl rfl (j := P) rfl (by omega) (by decide) dX7_mayMarry_8 ?_
  refine lv_aload_n hx hb dX7_mayMarry_9 rfl (lv_at hl 0 rfl) ?_
  refine r_get Sx hW 0 rfl rfl bw_wsX10 3 (by decide) (v := .ref (b 4)) rfl mw744 dX7_mayMarry_10 ?_
  refine r_get Sx hW 4 rfl rfl bw_wsX20 0 (by decide) (v := .ref (b 5)) rfl mw745 dX7_mayMarry_13 ?_
  refine lv_iload_n hx hb dX7_mayMarry_16 rfl (lv_at hl 2 rfl) ?_
  refine r_iald Sx hW 5 0 rfl rfl (j := Qq) rfl (by omega) (by decide) dX7_mayMarry_17 ?_
  refine lv_icmp_eq (tgt := 34) hx hb dX7_mayMarry_18 rfl (fun c_18 => ?_) (fun c_18 => ?_)
  · refine lv_iconst (v := (0 : Int32)) hx hb dX7_mayMarry_34 rfl ?_
    exact hret _ _ _ _ _ _ hW rfl rfl dX7_mayMarry_35 (⟨by simp [mmI, c_18], rfl⟩)
  · refine lv_aload_n hx hb dX7_mayMarry_21 rfl (lv_at hl 0 rfl) ?_
    refine lv_iload_n hx hb dX7_mayMarry_22 rfl (lv_at hl 1 rfl) ?_
    refine lv_iload_n hx hb dX7_mayMarry_23 rfl (lv_at hl 2 rfl) ?_
    refine callVI Sx hW (c_X1_quarrel l D cI cZ cN b L V P (nI Qq) N C hN hN7 hC hC4 hC1 (by omega)) vmX1_quarrel mw746 [0, 1, 2, 3, 4, 5, 6, 7] rfl (by decide) 0 rfl rfl (As := [.int (nI P), .int (nI Qq)]) (rest := []) rfl rfl hl.1 (Nat.le_of_ble_eq_true rfl) ⟨Nat.le_of_ble_eq_true rfl, Nat.le_of_ble_eq_true rfl⟩ ⟨Nat.le_refl _, Nat.le_refl _⟩ dX7_mayMarry_24 (fun rx wx H locs hqx hW => ?_)
    obtain ⟨hrx, rfl⟩ := hqx
    have hW : AtC D (tyG cI cZ cN) Ax (pLand cI b L V) sx H locs := hW
    refine r_eq (y := (qrI (L 1) (P) ((nI Qq)))) hrx ?_
    refine lv_if_ne (tgt := 34) hx hb dX7_mayMarry_27 rfl (fun c_27 => ?_) (fun c_27 => ?_)
    · have c_27 := qrI_1 c_27
      refine lv_iconst (v := (0 : Int32)) hx hb dX7_mayMarry_34 rfl ?_
      exact hret _ _ _ _ _ _ hW rfl rfl dX7_mayMarry_35 (⟨by simp [mmI, c_18, c_27], rfl⟩)
    · have c_27 := qrI_0 c_27
      refine lv_iconst (v := (1 : Int32)) hx hb dX7_mayMarry_30 rfl ?_
      refine lv_goto (tgt := 35) hx hb dX7_mayMarry_31 rfl ?_
      exact hret _ _ _ _ _ _ hW rfl rfl dX7_mayMarry_35 (⟨by simp [mmI, c_18, c_27], rfl⟩)

set_option maxHeartbeats 4000000 in
set_option maxRecDepth 100000 in
theorem c_X7_pairFrom_0 (l : Launch) (D : va_G) (cI cZ cN : ClassId) (a b : Nat → Nat) (S L V : NV) (r : Int32) (N C : Nat) (hN : L 3 1 = nI N) (hN7 : N ≤ 7) (hC : L 3 0 = nI C) (hC4 : C ≤ 4) (hC1 : 1 ≤ C) : CtV l yX7_pairFrom cX7_pairFrom 5 3 D (tyG cI cZ cN) [.ref (a 0), .ref (b 0), .int (nI N), .int r] ((pWed cI a S) ++ (pLand cI b L V)) (fun w => w = pWed cI a (pfr (V 0) (L 1) 0 N r S) ++ pLand cI b L V) := by
  refine CtV.of rfl (Nat.le_of_ble_eq_true rfl) ?_
  intro pg ev sx mx ax bx mt cx ls Qx Ax Sx hret hW hl
  have hx := Sx.1
  have hb := Sx.2.1
  have hl : lv_has ls 5 [(0, .ref (a 0)), (1, .ref (b 0)), (2, .int (nI N)), (3, .int r)] := hl
  refine lv_iload_n hx hb dX7_pairFrom_0 rfl (lv_at hl 3 rfl) ?_
  refine lv_aload_n hx hb dX7_pairFrom_1 rfl (lv_at hl 1 rfl) ?_
  refine r_get Sx hW 3 rfl rfl bw_wsX10 5 (by decide) (v := .int (L 3 1)) rfl mw739 dX7_pairFrom_2 ?_
  refine r_eq (y := (nI N)) hN ?_
  refine lv_iload_n hx hb dX7_pairFrom_5 rfl (lv_at hl 2 rfl) ?_
  refine lv_isub hx hb dX7_pairFrom_6 ?_
  refine r_eq (y := (nI 0)) (by rw [pk_sub (Nat.le_refl N), Nat.sub_self]) ?_
  refine lv_iconst (v := (2 : Int32)) hx hb dX7_pairFrom_7 rfl ?_
  refine lv_idiv hx hb dX7_pairFrom_8 (by decide) ?_
  refine lv_iadd hx hb dX7_pairFrom_9 ?_
  refine lv_aload_n hx hb dX7_pairFrom_10 rfl (lv_at hl 0 rfl) ?_
  refine r_get Sx hW 0 rfl rfl bw_wsX70 2 (by decide) (v := .int (S 2 0)) rfl mw109 dX7_pairFrom_11 ?_
  refine lv_icmp_gt (tgt := 18) hx hb dX7_pairFrom_14 rfl (fun c_14 => ?_) (fun c_14 => ?_)
  · refine lv_iload_n hx hb dX7_pairFrom_18 rfl (lv_at hl 2 rfl) ?_
    refine lv_aload_n hx hb dX7_pairFrom_19 rfl (lv_at hl 1 rfl) ?_
    refine r_get Sx hW 3 rfl rfl bw_wsX10 5 (by decide) (v := .int (L 3 1)) rfl mw739 dX7_pairFrom_20 ?_
    refine r_eq (y := (nI N)) hN ?_
    refine lv_icmp_lt (tgt := 47) hx hb dX7_pairFrom_23 rfl (fun c_23 => ?_) (fun c_23 => ?_)
    · exact absurd c_23 (nI_nlt (Nat.le_refl N) (by omega))
    · refine lv_aload_n hx hb dX7_pairFrom_26 rfl (lv_at hl 0 rfl) ?_
      refine lv_iload_n hx hb dX7_pairFrom_27 rfl (lv_at hl 3 rfl) ?_
      refine r_put Sx hW 0 rfl rfl bw_wsX70 tyX7_ok nmX7 2 (by decide) mw109 rfl rfl rfl (Nat.le_of_ble_eq_true rfl) dX7_pairFrom_28 (ws' := ((pWed cI a (upA S 2 (upd (S 2) 0 r))) ++ (pLand cI b L V))) rfl (fun H locs hW => ?_)
      refine lv_aload_n hx hb dX7_pairFrom_31 rfl (lv_at hl 0 rfl) ?_
      refine r_get Sx hW 0 rfl rfl bw_wsX70 0 (by decide) (v := .ref (a 1)) rfl mw107 dX7_pairFrom_32 ?_
      refine lv_iconst (v := (0 : Int32)) hx hb dX7_pairFrom_35 rfl ?_
      refine lv_aload_n hx hb dX7_pairFrom_36 rfl (lv_at hl 0 rfl) ?_
      refine r_get Sx hW 0 rfl rfl bw_wsX70 1 (by decide) (v := .ref (a 2)) rfl mw108 dX7_pairFrom_37 ?_
      refine lv_iconst (v := (0 : Int32)) hx hb dX7_pairFrom_40 rfl ?_
      refine lv_bipush (v := (7 : Int32)) hx hb dX7_pairFrom_41 rfl ?_
      refine r_copy Sx hW 1 2 rfl rfl 0 rfl mw740 mw234 mw235 mw236 7 (by decide) (by decide) (by decide) hl.1 (by decide) (Nat.le_of_ble_eq_true rfl) dX7_pairFrom_43 (ws' := ((pWed cI a (upA (upA S 1 (va_cpy (S 0) (S 1) 0 0 7)) 2 (upd (S 2) 0 r))) ++ (pLand cI b L V))) rfl (fun H locs hW => ?_)
      exact hret _ _ _ _ _ hW rfl dX7_pairFrom_46 (by simp [pfr, c_14, c_23])
  · exact hret _ _ _ _ _ hW rfl dX7_pairFrom_17 (by simp [pfr, c_14])

set_option maxHeartbeats 4000000 in
set_option maxRecDepth 100000 in
theorem c_X7_pairFrom_s (l : Launch) (D : va_G) (cI cZ cN : ClassId) (a b : Nat → Nat) (S L V : NV) (P d : Nat) (r : Int32) (N C : Nat) (hN : L 3 1 = nI N) (hN7 : N ≤ 7) (hC : L 3 0 = nI C) (hC4 : C ≤ 4) (hC1 : 1 ≤ C) (hPd : P + (d + 1) = N) (ih : ∀ (r : Int32) (S : NV), CtV l yX7_pairFrom cX7_pairFrom 5 (3 + d) D (tyG cI cZ cN) [.ref (a 0), .ref (b 0), .int (nI (P + 1)), .int r] (pWed cI a S ++ pLand cI b L V) (fun w => w = pWed cI a (pfr (V 0) (L 1) d (P + 1) r S) ++ pLand cI b L V)) : CtV l yX7_pairFrom cX7_pairFrom 5 (3 + (d + 1)) D (tyG cI cZ cN) [.ref (a 0), .ref (b 0), .int (nI P), .int r] ((pWed cI a S) ++ (pLand cI b L V)) (fun w => w = pWed cI a (pfr (V 0) (L 1) (d + 1) P r S) ++ pLand cI b L V) := by
  refine CtV.of rfl (Nat.le_of_ble_eq_true rfl) ?_
  intro pg ev sx mx ax bx mt cx ls Qx Ax Sx hret hW hl
  have hx := Sx.1
  have hb := Sx.2.1
  have hl : lv_has ls 5 [(0, .ref (a 0)), (1, .ref (b 0)), (2, .int (nI P)), (3, .int r)] := hl
  refine lv_iload_n hx hb dX7_pairFrom_0 rfl (lv_at hl 3 rfl) ?_
  refine lv_aload_n hx hb dX7_pairFrom_1 rfl (lv_at hl 1 rfl) ?_
  refine r_get Sx hW 3 rfl rfl bw_wsX10 5 (by decide) (v := .int (L 3 1)) rfl mw739 dX7_pairFrom_2 ?_
  refine r_eq (y := (nI N)) hN ?_
  refine lv_iload_n hx hb dX7_pairFrom_5 rfl (lv_at hl 2 rfl) ?_
  refine lv_isub hx hb dX7_pairFrom_6 ?_
  refine r_eq (y := (nI (d + 1))) (by rw [pk_sub (show P ≤ N by omega), show N - P = d + 1 from by omega]) ?_
  refine lv_iconst (v := (2 : Int32)) hx hb dX7_pairFrom_7 rfl ?_
  refine lv_idiv hx hb dX7_pairFrom_8 (by decide) ?_
  refine lv_iadd hx hb dX7_pairFrom_9 ?_
  refine lv_aload_n hx hb dX7_pairFrom_10 rfl (lv_at hl 0 rfl) ?_
  refine r_get Sx hW 0 rfl rfl bw_wsX70 2 (by decide) (v := .int (S 2 0)) rfl mw109 dX7_pairFrom_11 ?_
  refine lv_icmp_gt (tgt := 18) hx hb dX7_pairFrom_14 rfl (fun c_14 => ?_) (fun c_14 => ?_)
  · refine lv_iload_n hx hb dX7_pairFrom_18 rfl (lv_at hl 2 rfl) ?_
    refine lv_aload_n hx hb dX7_pairFrom_19 rfl (lv_at hl 1 rfl) ?_
    refine r_get Sx hW 3 rfl rfl bw_wsX10 5 (by decide) (v := .int (L 3 1)) rfl mw739 dX7_pairFrom_20 ?_
    refine r_eq (y := (nI N)) hN ?_
    refine lv_icmp_lt (tgt := 47) hx hb dX7_pairFrom_23 rfl (fun c_23 => ?_) (fun c_23 => ?_)
    · refine lv_aload_n hx hb dX7_pairFrom_47 rfl (lv_at hl 0 rfl) ?_
      refine r_get Sx hW 0 rfl rfl bw_wsX70 0 (by decide) (v := .ref (a 1)) rfl mw107 dX7_pairFrom_48 ?_
      refine lv_iload_n hx hb dX7_pairFrom_51 rfl (lv_at hl 2 rfl) ?_
      refine r_iald Sx hW 1 0 rfl rfl (j := P) rfl (by omega) (by decide) dX7_pairFrom_52 ?_
      refine lv_bipush (v := (-9 : Int32)) hx hb dX7_pairFrom_53 rfl ?_
      refine lv_icmp_eq (tgt := 68) hx hb dX7_pairFrom_55 rfl (fun c_55 => ?_) (fun c_55 => ?_)
      · refine lv_iload_n hx hb dX7_pairFrom_68 rfl (lv_at hl 2 rfl) ?_
        refine lv_iconst (v := (1 : Int32)) hx hb dX7_pairFrom_69 rfl ?_
        refine lv_iadd hx hb dX7_pairFrom_70 ?_
        refine r_eq (y := (nI (P + 1))) (nI_add P 1) ?_
        refine lv_istore (lv' := [(4, .int (nI (P + 1))), (0, .ref (a 0)), (1, .ref (b 0)), (2, .int (nI P)), (3, .int r)]) hx hb dX7_pairFrom_71 hl (by decide) rfl (fun ls hl => ?_)
        have lp_73 : ∀ (n : Nat) (j : Nat), ((P + 1 + j ≤ N)) → ((N + 1 ≤ P + 1 + j + n)) → ∀ (H : Heap) (locs : List Loc) (ls : Array Slot), AtC D (tyG cI cZ cN) Ax ((pWed cI a (pfK (pfr (V 0) (L 1) d (P + 1) (r + 1)) (V 0) (L 1) P S j)) ++ (pLand cI b L V)) sx H locs → lv_has ls 5 [(0, .ref (a 0)), (1, .ref (b 0)), (2, .int (nI P)), (3, .int r), (4, .int (nI (P + 1 + j)))] → W pg l ev (rmN (3 + (d + 1))) sx mx ax bx mt cx H locs 0 0 Qx (F0 mx 73 ls []) := by
          intro n
          induction n with
          | zero =>
            intro j hj_73 hn_73 H locs ls hW hl
            exact absurd hn_73 (by omega)
          | succ n ih73 =>
            intro j hj_73 hn_73 H locs ls hW hl
            refine lv_iload hx hb dX7_pairFrom_73 (lv_at hl 4 rfl) ?_
            refine lv_aload_n hx hb dX7_pairFrom_75 rfl (lv_at hl 1 rfl) ?_
            refine r_get Sx hW 3 rfl rfl bw_wsX10 5 (by decide) (v := .int (L 3 1)) rfl mw739 dX7_pairFrom_76 ?_
            refine r_eq (y := (nI N)) hN ?_
            refine lv_icmp_ge (tgt := 154) hx hb dX7_pairFrom_79 rfl (fun c_79 => ?_) (fun c_79 => ?_)
            · have ge_79 : N ≤ P + 1 + j := (nI_leI (a := N) (b := P + 1 + j) (by omega) (by omega)).mp c_79
              have ee_79 : d = j := by omega
              subst ee_79
              refine lv_aload_n hx hb dX7_pairFrom_154 rfl (lv_at hl 0 rfl) ?_
              refine lv_aload_n hx hb dX7_pairFrom_155 rfl (lv_at hl 1 rfl) ?_
              refine lv_iload_n hx hb dX7_pairFrom_156 rfl (lv_at hl 2 rfl) ?_
              refine lv_iconst (v := (1 : Int32)) hx hb dX7_pairFrom_157 rfl ?_
              refine lv_iadd hx hb dX7_pairFrom_158 ?_
              refine r_eq (y := (nI (P + 1))) (nI_add P 1) ?_
              refine lv_iload_n hx hb dX7_pairFrom_159 rfl (lv_at hl 3 rfl) ?_
              refine callVV Sx hW (ih r (pfK (pfr (V 0) (L 1) d (P + 1) (r + 1)) (V 0) (L 1) P S d)) vmX7_pairFrom mw735 [0, 1, 2, 3, 4, 5, 6, 7, 8, 9, 10] rfl (by decide) 0 rfl rfl (As := [.ref (b 0), .int (nI (P + 1)), .int r]) (rest := []) rfl rfl hl.1 (Nat.le_of_ble_eq_true rfl) ⟨(show 3 + d + 1 ≤ 3 + (d + 1) by omega), (show 8 + (5 + 11) + 40 * (3 + d) ≤ 40 * (3 + (d + 1)) by omega)⟩ ⟨Nat.le_refl _, Nat.le_refl _⟩ dX7_pairFrom_160 (fun wx H locs hqx hW => ?_)
              obtain rfl := hqx
              have hW : AtC D (tyG cI cZ cN) Ax ((pWed cI a (pfr (V 0) (L 1) d (P + 1) r (pfK (pfr (V 0) (L 1) d (P + 1) (r + 1)) (V 0) (L 1) P S d))) ++ (pLand cI b L V)) sx H locs := hW
              exact hret _ _ _ _ _ hW rfl dX7_pairFrom_163 (by simp [pfr, c_14, c_23, c_55, c_79])
            · have lt_79 : P + 1 + j < N := Nat.not_le.mp (fun h => c_79 ((nI_leI (a := N) (b := P + 1 + j) (by omega) (by omega)).mpr h))
              refine lv_aload_n hx hb dX7_pairFrom_82 rfl (lv_at hl 0 rfl) ?_
              refine r_get Sx hW 0 rfl rfl bw_wsX70 0 (by decide) (v := .ref (a 1)) rfl mw107 dX7_pairFrom_83 ?_
              refine lv_iload hx hb dX7_pairFrom_86 (lv_at hl 4 rfl) ?_
              refine r_iald Sx hW 1 0 rfl rfl (j := P + 1 + j) rfl (by omega) (by decide) dX7_pairFrom_88 ?_
              refine lv_bipush (v := (-9 : Int32)) hx hb dX7_pairFrom_89 rfl ?_
              refine lv_icmp_ne (tgt := 148) hx hb dX7_pairFrom_91 rfl (fun c_91 => ?_) (fun c_91 => ?_)
              · refine lv_iinc (v := (nI ((P + 1 + j) + 1))) (lv' := [(4, .int (nI ((P + 1 + j) + 1))), (0, .ref (a 0)), (1, .ref (b 0)), (2, .int (nI P)), (3, .int r)]) hx hb dX7_pairFrom_148 hl (k := 4) rfl (inc_n (P + 1 + j) 1) (by decide) rfl (fun ls hl => ?_)
                refine lv_goto (tgt := 73) hx hb dX7_pairFrom_151 rfl ?_
                have hW_1 := hW.cong (ws' := ((pWed cI a (pfK (pfr (V 0) (L 1) d (P + 1) (r + 1)) (V 0) (L 1) P S (j + 1))) ++ (pLand cI b L V))) (by first | (rw [show (pfK (pfr (V 0) (L 1) d (P + 1) (r + 1)) (V 0) (L 1) P S (j + 1)) = (pfK (pfr (V 0) (L 1) d (P + 1) (r + 1)) (V 0) (L 1) P S j) from by simp [pfK, c_14, c_23, c_55, c_79, c_91]]; done) | (rw [show (pfK (pfr (V 0) (L 1) d (P + 1) (r + 1)) (V 0) (L 1) P S (j + 1)) = (pfK (pfr (V 0) (L 1) d (P + 1) (r + 1)) (V 0) (L 1) P S j) from by simp [pfK, c_14, c_23, c_55, c_79, c_91]]; rfl))
                exact ih73 (j + 1) (by omega) (by omega) _ _ _ hW_1 (lv_sub hl [1, 2, 3, 4, 0] rfl)
              · refine lv_aload_n hx hb dX7_pairFrom_94 rfl (lv_at hl 1 rfl) ?_
                refine lv_iload_n hx hb dX7_pairFrom_95 rfl (lv_at hl 2 rfl) ?_
                refine lv_iload hx hb dX7_pairFrom_96 (lv_at hl 4 rfl) ?_
                refine callSC Sx hW (c_X7_mayMarry l D cI cZ cN b L V P (P + 1 + j) N C hN hN7 hC hC4 hC1 (by omega) (by omega)) smX7_mayMarry mw741 [3, 4, 5, 6, 7, 8, 9, 10] rfl (by decide) (As := [.ref (b 0), .int (nI P), .int (nI (P + 1 + j))]) (rest := []) rfl rfl hl.1 (Nat.le_of_ble_eq_true rfl) ⟨(show 2 + 1 ≤ 3 + (d + 1) by omega), (show 8 + (3 + 11) + 40 * (2) ≤ 40 * (3 + (d + 1)) by omega)⟩ ⟨Nat.le_refl _, Nat.le_refl _⟩ dX7_pairFrom_98 (fun rx wx H locs hqx hW => ?_)
                obtain ⟨hrx, rfl⟩ := hqx
                have hW : AtC D (tyG cI cZ cN) Ax ((pWed cI a (pfK (pfr (V 0) (L 1) d (P + 1) (r + 1)) (V 0) (L 1) P S j)) ++ (pLand cI b L V)) sx H locs := hW
                refine r_eq (y := (mmI (V 0) (L 1) P (P + 1 + j))) hrx ?_
                refine lv_if_eq (tgt := 148) hx hb dX7_pairFrom_101 rfl (fun c_101 => ?_) (fun c_101 => ?_)
                · refine lv_iinc (v := (nI ((P + 1 + j) + 1))) (lv' := [(4, .int (nI ((P + 1 + j) + 1))), (0, .ref (a 0)), (1, .ref (b 0)), (2, .int (nI P)), (3, .int r)]) hx hb dX7_pairFrom_148 hl (k := 4) rfl (inc_n (P + 1 + j) 1) (by decide) rfl (fun ls hl => ?_)
                  refine lv_goto (tgt := 73) hx hb dX7_pairFrom_151 rfl ?_
                  have hW_2 := hW.cong (ws' := ((pWed cI a (pfK (pfr (V 0) (L 1) d (P + 1) (r + 1)) (V 0) (L 1) P S (j + 1))) ++ (pLand cI b L V))) (by first | (rw [show (pfK (pfr (V 0) (L 1) d (P + 1) (r + 1)) (V 0) (L 1) P S (j + 1)) = (pfK (pfr (V 0) (L 1) d (P + 1) (r + 1)) (V 0) (L 1) P S j) from by simp [pfK, c_14, c_23, c_55, c_79, c_91, c_101]]; done) | (rw [show (pfK (pfr (V 0) (L 1) d (P + 1) (r + 1)) (V 0) (L 1) P S (j + 1)) = (pfK (pfr (V 0) (L 1) d (P + 1) (r + 1)) (V 0) (L 1) P S j) from by simp [pfK, c_14, c_23, c_55, c_79, c_91, c_101]]; rfl))
                  exact ih73 (j + 1) (by omega) (by omega) _ _ _ hW_2 (lv_sub hl [1, 2, 3, 4, 0] rfl)
                · refine lv_aload_n hx hb dX7_pairFrom_104 rfl (lv_at hl 0 rfl) ?_
                  refine r_get Sx hW 0 rfl rfl bw_wsX70 0 (by decide) (v := .ref (a 1)) rfl mw107 dX7_pairFrom_105 ?_
                  refine lv_iload_n hx hb dX7_pairFrom_108 rfl (lv_at hl 2 rfl) ?_
                  refine lv_iload hx hb dX7_pairFrom_109 (lv_at hl 4 rfl) ?_
                  refine r_iast Sx hW 1 0 rfl rfl (j := P) rfl (by omega) (by decide) dX7_pairFrom_111 (ws' := ((pWed cI a (upA (pfK (pfr (V 0) (L 1) d (P + 1) (r + 1)) (V 0) (L 1) P S j) 0 (upd ((pfK (pfr (V 0) (L 1) d (P + 1) (r + 1)) (V 0) (L 1) P S j) 0) P (nI (P + 1 + j))))) ++ (pLand cI b L V))) rfl (fun H locs hW => ?_)
                  refine lv_aload_n hx hb dX7_pairFrom_112 rfl (lv_at hl 0 rfl) ?_
                  refine r_get Sx hW 0 rfl rfl bw_wsX70 0 (by decide) (v := .ref (a 1)) rfl mw107 dX7_pairFrom_113 ?_
                  refine lv_iload hx hb dX7_pairFrom_116 (lv_at hl 4 rfl) ?_
                  refine lv_iload_n hx hb dX7_pairFrom_118 rfl (lv_at hl 2 rfl) ?_
                  refine r_iast Sx hW 1 0 rfl rfl (j := P + 1 + j) rfl (by omega) (by decide) dX7_pairFrom_119 (ws' := ((pWed cI a (upA (pfK (pfr (V 0) (L 1) d (P + 1) (r + 1)) (V 0) (L 1) P S j) 0 (upd (upd ((pfK (pfr (V 0) (L 1) d (P + 1) (r + 1)) (V 0) (L 1) P S j) 0) P (nI (P + 1 + j))) (P + 1 + j) (nI P)))) ++ (pLand cI b L V))) rfl (fun H locs hW => ?_)
                  refine lv_aload_n hx hb dX7_pairFrom_120 rfl (lv_at hl 0 rfl) ?_
                  refine lv_aload_n hx hb dX7_pairFrom_121 rfl (lv_at hl 1 rfl) ?_
                  refine lv_iload_n hx hb dX7_pairFrom_122 rfl (lv_at hl 2 rfl) ?_
                  refine lv_iconst (v := (1 : Int32)) hx hb dX7_pairFrom_123 rfl ?_
                  refine lv_iadd hx hb dX7_pairFrom_124 ?_
                  refine r_eq (y := (nI (P + 1))) (nI_add P 1) ?_
                  refine lv_iload_n hx hb dX7_pairFrom_125 rfl (lv_at hl 3 rfl) ?_
                  refine lv_iconst (v := (1 : Int32)) hx hb dX7_pairFrom_126 rfl ?_
                  refine lv_iadd hx hb dX7_pairFrom_127 ?_
                  refine callVV Sx hW (ih (r + (1 : Int32)) (upA (pfK (pfr (V 0) (L 1) d (P + 1) (r + 1)) (V 0) (L 1) P S j) 0 (upd (upd ((pfK (pfr (V 0) (L 1) d (P + 1) (r + 1)) (V 0) (L 1) P S j) 0) P (nI (P + 1 + j))) (P + 1 + j) (nI P)))) vmX7_pairFrom mw735 [0, 1, 2, 3, 4, 5, 6, 7, 8, 9, 10] rfl (by decide) 0 rfl rfl (As := [.ref (b 0), .int (nI (P + 1)), .int (r + (1 : Int32))]) (rest := []) rfl rfl hl.1 (Nat.le_of_ble_eq_true rfl) ⟨(show 3 + d + 1 ≤ 3 + (d + 1) by omega), (show 8 + (5 + 11) + 40 * (3 + d) ≤ 40 * (3 + (d + 1)) by omega)⟩ ⟨Nat.le_refl _, Nat.le_refl _⟩ dX7_pairFrom_128 (fun wx H locs hqx hW => ?_)
                  obtain rfl := hqx
                  have hW : AtC D (tyG cI cZ cN) Ax ((pWed cI a (pfr (V 0) (L 1) d (P + 1) (r + (1 : Int32)) (upA (pfK (pfr (V 0) (L 1) d (P + 1) (r + 1)) (V 0) (L 1) P S j) 0 (upd (upd ((pfK (pfr (V 0) (L 1) d (P + 1) (r + 1)) (V 0) (L 1) P S j) 0) P (nI (P + 1 + j))) (P + 1 + j) (nI P))))) ++ (pLand cI b L V)) sx H locs := hW
                  refine lv_aload_n hx hb dX7_pairFrom_131 rfl (lv_at hl 0 rfl) ?_
                  refine r_get Sx hW 0 rfl rfl bw_wsX70 0 (by decide) (v := .ref (a 1)) rfl mw107 dX7_pairFrom_132 ?_
                  refine lv_iload_n hx hb dX7_pairFrom_135 rfl (lv_at hl 2 rfl) ?_
                  refine lv_bipush (v := (-9 : Int32)) hx hb dX7_pairFrom_136 rfl ?_
                  refine r_iast Sx hW 1 0 rfl rfl (j := P) rfl (by omega) (by decide) dX7_pairFrom_138 (ws' := ((pWed cI a (upA (pfr (V 0) (L 1) d (P + 1) (r + (1 : Int32)) (upA (pfK (pfr (V 0) (L 1) d (P + 1) (r + 1)) (V 0) (L 1) P S j) 0 (upd (upd ((pfK (pfr (V 0) (L 1) d (P + 1) (r + 1)) (V 0) (L 1) P S j) 0) P (nI (P + 1 + j))) (P + 1 + j) (nI P)))) 0 (upd ((pfr (V 0) (L 1) d (P + 1) (r + (1 : Int32)) (upA (pfK (pfr (V 0) (L 1) d (P + 1) (r + 1)) (V 0) (L 1) P S j) 0 (upd (upd ((pfK (pfr (V 0) (L 1) d (P + 1) (r + 1)) (V 0) (L 1) P S j) 0) P (nI (P + 1 + j))) (P + 1 + j) (nI P)))) 0) P (-9 : Int32)))) ++ (pLand cI b L V))) rfl (fun H locs hW => ?_)
                  refine lv_aload_n hx hb dX7_pairFrom_139 rfl (lv_at hl 0 rfl) ?_
                  refine r_get Sx hW 0 rfl rfl bw_wsX70 0 (by decide) (v := .ref (a 1)) rfl mw107 dX7_pairFrom_140 ?_
                  refine lv_iload hx hb dX7_pairFrom_143 (lv_at hl 4 rfl) ?_
                  refine lv_bipush (v := (-9 : Int32)) hx hb dX7_pairFrom_145 rfl ?_
                  refine r_iast Sx hW 1 0 rfl rfl (j := P + 1 + j) rfl (by omega) (by decide) dX7_pairFrom_147 (ws' := ((pWed cI a (upA (pfr (V 0) (L 1) d (P + 1) (r + (1 : Int32)) (upA (pfK (pfr (V 0) (L 1) d (P + 1) (r + 1)) (V 0) (L 1) P S j) 0 (upd (upd ((pfK (pfr (V 0) (L 1) d (P + 1) (r + 1)) (V 0) (L 1) P S j) 0) P (nI (P + 1 + j))) (P + 1 + j) (nI P)))) 0 (upd (upd ((pfr (V 0) (L 1) d (P + 1) (r + (1 : Int32)) (upA (pfK (pfr (V 0) (L 1) d (P + 1) (r + 1)) (V 0) (L 1) P S j) 0 (upd (upd ((pfK (pfr (V 0) (L 1) d (P + 1) (r + 1)) (V 0) (L 1) P S j) 0) P (nI (P + 1 + j))) (P + 1 + j) (nI P)))) 0) P (-9 : Int32)) (P + 1 + j) (-9 : Int32)))) ++ (pLand cI b L V))) rfl (fun H locs hW => ?_)
                  refine lv_iinc (v := (nI ((P + 1 + j) + 1))) (lv' := [(4, .int (nI ((P + 1 + j) + 1))), (0, .ref (a 0)), (1, .ref (b 0)), (2, .int (nI P)), (3, .int r)]) hx hb dX7_pairFrom_148 hl (k := 4) rfl (inc_n (P + 1 + j) 1) (by decide) rfl (fun ls hl => ?_)
                  refine lv_goto (tgt := 73) hx hb dX7_pairFrom_151 rfl ?_
                  have hW_3 := hW.cong (ws' := ((pWed cI a (pfK (pfr (V 0) (L 1) d (P + 1) (r + 1)) (V 0) (L 1) P S (j + 1))) ++ (pLand cI b L V))) (by first | (rw [show (pfK (pfr (V 0) (L 1) d (P + 1) (r + 1)) (V 0) (L 1) P S (j + 1)) = (upA (pfr (V 0) (L 1) d (P + 1) (r + (1 : Int32)) (upA (pfK (pfr (V 0) (L 1) d (P + 1) (r + 1)) (V 0) (L 1) P S j) 0 (upd (upd ((pfK (pfr (V 0) (L 1) d (P + 1) (r + 1)) (V 0) (L 1) P S j) 0) P (nI (P + 1 + j))) (P + 1 + j) (nI P)))) 0 (upd (upd ((pfr (V 0) (L 1) d (P + 1) (r + (1 : Int32)) (upA (pfK (pfr (V 0) (L 1) d (P + 1) (r + 1)) (V 0) (L 1) P S j) 0 (upd (upd ((pfK (pfr (V 0) (L 1) d (P + 1) (r + 1)) (V 0) (L 1) P S j) 0) P (nI (P + 1 + j))) (P + 1 + j) (nI P)))) 0) P (-9 : Int32)) (P + 1 + j) (-9 : Int32))) from by simp [pfK, c_14, c_23, c_55, c_79, c_91, c_101]]; done) | (rw [show (pfK (pfr (V 0) (L 1) d (P + 1) (r + 1)) (V 0) (L 1) P S (j + 1)) = (upA (pfr (V 0) (L 1) d (P + 1) (r + (1 : Int32)) (upA (pfK (pfr (V 0) (L 1) d (P + 1) (r + 1)) (V 0) (L 1) P S j) 0 (upd (upd ((pfK (pfr (V 0) (L 1) d (P + 1) (r + 1)) (V 0) (L 1) P S j) 0) P (nI (P + 1 + j))) (P + 1 + j) (nI P)))) 0 (upd (upd ((pfr (V 0) (L 1) d (P + 1) (r + (1 : Int32)) (upA (pfK (pfr (V 0) (L 1) d (P + 1) (r + 1)) (V 0) (L 1) P S j) 0 (upd (upd ((pfK (pfr (V 0) (L 1) d (P + 1) (r + 1)) (V 0) (L 1) P S j) 0) P (nI (P + 1 + j))) (P + 1 + j) (nI P)))) 0) P (-9 : Int32)) (P + 1 + j) (-9 : Int32))) from by simp [pfK, c_14, c_23, c_55, c_79, c_91, c_101]]; rfl))
                  exact ih73 (j + 1) (by omega) (by omega) _ _ _ hW_3 (lv_sub hl [1, 2, 3, 4, 0] rfl)
        exact lp_73 (N + 1) 0 (by omega) (by omega) _ _ _ hW (lv_sub hl [1, 2, 3, 4, 0] rfl)
      · refine lv_aload_n hx hb dX7_pairFrom_58 rfl (lv_at hl 0 rfl) ?_
        refine lv_aload_n hx hb dX7_pairFrom_59 rfl (lv_at hl 1 rfl) ?_
        refine lv_iload_n hx hb dX7_pairFrom_60 rfl (lv_at hl 2 rfl) ?_
        refine lv_iconst (v := (1 : Int32)) hx hb dX7_pairFrom_61 rfl ?_
        refine lv_iadd hx hb dX7_pairFrom_62 ?_
        refine r_eq (y := (nI (P + 1))) (nI_add P 1) ?_
        refine lv_iload_n hx hb dX7_pairFrom_63 rfl (lv_at hl 3 rfl) ?_
        refine callVV Sx hW (ih r S) vmX7_pairFrom mw735 [0, 1, 2, 3, 4, 5, 6, 7, 8, 9, 10] rfl (by decide) 0 rfl rfl (As := [.ref (b 0), .int (nI (P + 1)), .int r]) (rest := []) rfl rfl hl.1 (Nat.le_of_ble_eq_true rfl) ⟨(show 3 + d + 1 ≤ 3 + (d + 1) by omega), (show 8 + (5 + 11) + 40 * (3 + d) ≤ 40 * (3 + (d + 1)) by omega)⟩ ⟨Nat.le_refl _, Nat.le_refl _⟩ dX7_pairFrom_64 (fun wx H locs hqx hW => ?_)
        obtain rfl := hqx
        have hW : AtC D (tyG cI cZ cN) Ax ((pWed cI a (pfr (V 0) (L 1) d (P + 1) r S)) ++ (pLand cI b L V)) sx H locs := hW
        exact hret _ _ _ _ _ hW rfl dX7_pairFrom_67 (by simp [pfr, c_14, c_23, c_55])
    · exact absurd (nI_lt (show P < N by omega) (by omega)) c_23
  · exact hret _ _ _ _ _ hW rfl dX7_pairFrom_17 (by simp [pfr, c_14])

theorem c_X7_pairFrom (l : Launch) (D : va_G) (cI cZ cN : ClassId) (a b : Nat → Nat) (L V : NV) (N C : Nat) (hN : L 3 1 = nI N) (hN7 : N ≤ 7) (hC : L 3 0 = nI C) (hC4 : C ≤ 4) (hC1 : 1 ≤ C) : ∀ (d P : Nat) (r : Int32) (S : NV), P + d = N → CtV l yX7_pairFrom cX7_pairFrom 5 (3 + d) D (tyG cI cZ cN) [.ref (a 0), .ref (b 0), .int (nI P), .int r] (pWed cI a S ++ pLand cI b L V) (fun w => w = pWed cI a (pfr (V 0) (L 1) d P r S) ++ pLand cI b L V)
  | 0, P, r, S, h => by
    obtain rfl : P = N := by omega
    exact c_X7_pairFrom_0 l D cI cZ cN a b S L V r P C hN hN7 hC hC4 hC1
  | d + 1, P, r, S, h => c_X7_pairFrom_s l D cI cZ cN a b S L V P d r N C hN hN7 hC hC4 hC1 h (fun r S => c_X7_pairFrom l D cI cZ cN a b L V N C hN hN7 hC hC4 hC1 d (P + 1) r S (by omega))

set_option maxHeartbeats 4000000 in
set_option maxRecDepth 100000 in
theorem c_X7_search (l : Launch) (D : va_G) (cI cZ cN : ClassId) (a b : Nat → Nat) (S L V : NV) (N C : Nat) (hN : L 3 1 = nI N) (hN7 : N ≤ 7) (hC : L 3 0 = nI C) (hC4 : C ≤ 4) (hC1 : 1 ≤ C) : CtV l yX7_search cX7_search 3 (4 + N) D (tyG cI cZ cN) [.ref (a 0), .ref (b 0)] ((pWed cI a S) ++ (pLand cI b L V)) (fun w => w = pWed cI a (wdS S N (V 0) (L 1)) ++ pLand cI b L V) := by
  refine CtV.of rfl (Nat.le_of_ble_eq_true rfl) ?_
  intro pg ev sx mx ax bx mt cx ls Qx Ax Sx hret hW hl
  have hx := Sx.1
  have hb := Sx.2.1
  have hl : lv_has ls 3 [(0, .ref (a 0)), (1, .ref (b 0))] := hl
  refine lv_iconst (v := (0 : Int32)) hx hb dX7_search_0 rfl ?_
  refine lv_istore_n (lv' := [(2, .int (0 : Int32)), (0, .ref (a 0)), (1, .ref (b 0))]) hx hb dX7_search_1 rfl hl (by decide) rfl (fun ls hl => ?_)
  have lp_2 : ∀ (n : Nat) (i : Nat), ((i ≤ 7)) → ((7 + 1 ≤ i + n)) → ∀ (H : Heap) (locs : List Loc) (ls : Array Slot), AtC D (tyG cI cZ cN) Ax ((pWed cI a (upA S 0 (fil (S 0) (-9) i))) ++ (pLand cI b L V)) sx H locs → lv_has ls 3 [(0, .ref (a 0)), (1, .ref (b 0)), (2, .int (nI i))] → W pg l ev (rmN (4 + N)) sx mx ax bx mt cx H locs 0 0 Qx (F0 mx 2 ls []) := by
    intro n
    induction n with
    | zero =>
      intro i hi_2 hn_2 H locs ls hW hl
      exact absurd hn_2 (by omega)
    | succ n ih2 =>
      intro i hi_2 hn_2 H locs ls hW hl
      refine lv_iload_n hx hb dX7_search_2 rfl (lv_at hl 2 rfl) ?_
      refine lv_bipush (v := (7 : Int32)) hx hb dX7_search_3 rfl ?_
      refine lv_icmp_ge (tgt := 22) hx hb dX7_search_5 rfl (fun c_5 => ?_) (fun c_5 => ?_)
      · have ge_5 : 7 ≤ i := (nI_leI (a := 7) (b := i) (by omega) (by omega)).mp c_5
        have ee_5 : 7 = i := by omega
        subst ee_5
        refine lv_aload_n hx hb dX7_search_22 rfl (lv_at hl 0 rfl) ?_
        refine lv_iconst (v := (-1 : Int32)) hx hb dX7_search_23 rfl ?_
        refine r_put Sx hW 0 rfl rfl bw_wsX70 tyX7_ok nmX7 2 (by decide) mw109 rfl rfl rfl (Nat.le_of_ble_eq_true rfl) dX7_search_24 (ws' := ((pWed cI a (upA (upA S 0 (fil (S 0) (-9) 7)) 2 (upd (S 2) 0 (-1 : Int32)))) ++ (pLand cI b L V))) rfl (fun H locs hW => ?_)
        refine lv_aload_n hx hb dX7_search_27 rfl (lv_at hl 0 rfl) ?_
        refine lv_aload_n hx hb dX7_search_28 rfl (lv_at hl 1 rfl) ?_
        refine lv_iconst (v := (0 : Int32)) hx hb dX7_search_29 rfl ?_
        refine lv_iconst (v := (0 : Int32)) hx hb dX7_search_30 rfl ?_
        refine callVV Sx hW (c_X7_pairFrom l D cI cZ cN a b L V N C hN hN7 hC hC4 hC1 N 0 (0 : Int32) (upA (upA S 0 (fil (S 0) (-9) 7)) 2 (upd (S 2) 0 (-1 : Int32))) (by omega)) vmX7_pairFrom mw735 [0, 1, 2, 3, 4, 5, 6, 7, 8, 9, 10] rfl (by decide) 0 rfl rfl (As := [.ref (b 0), .int (0 : Int32), .int (0 : Int32)]) (rest := []) rfl rfl hl.1 (Nat.le_of_ble_eq_true rfl) ⟨(show 3 + N + 1 ≤ 4 + N by omega), (show 8 + (5 + 11) + 40 * (3 + N) ≤ 40 * (4 + N) by omega)⟩ ⟨Nat.le_refl _, Nat.le_refl _⟩ dX7_search_31 (fun wx H locs hqx hW => ?_)
        obtain rfl := hqx
        have hW : AtC D (tyG cI cZ cN) Ax ((pWed cI a (pfr (V 0) (L 1) N 0 (0 : Int32) (upA (upA S 0 (fil (S 0) (-9) 7)) 2 (upd (S 2) 0 (-1 : Int32))))) ++ (pLand cI b L V)) sx H locs := hW
        exact hret _ _ _ _ _ hW rfl dX7_search_34 rfl
      · have lt_5 : i < 7 := Nat.not_le.mp (fun h => c_5 ((nI_leI (a := 7) (b := i) (by omega) (by omega)).mpr h))
        refine lv_aload_n hx hb dX7_search_8 rfl (lv_at hl 0 rfl) ?_
        refine r_get Sx hW 0 rfl rfl bw_wsX70 0 (by decide) (v := .ref (a 1)) rfl mw107 dX7_search_9 ?_
        refine lv_iload_n hx hb dX7_search_12 rfl (lv_at hl 2 rfl) ?_
        refine lv_bipush (v := (-9 : Int32)) hx hb dX7_search_13 rfl ?_
        refine r_iast Sx hW 1 0 rfl rfl (j := i) rfl (by omega) (by decide) dX7_search_15 (ws' := ((pWed cI a (upA S 0 (upd (fil (S 0) (-9) i) i (-9 : Int32)))) ++ (pLand cI b L V))) rfl (fun H locs hW => ?_)
        refine lv_iinc (v := (nI (i + 1))) (lv' := [(2, .int (nI (i + 1))), (0, .ref (a 0)), (1, .ref (b 0))]) hx hb dX7_search_16 hl (k := 2) rfl (inc_n i 1) (by decide) rfl (fun ls hl => ?_)
        refine lv_goto (tgt := 2) hx hb dX7_search_19 rfl ?_
        exact ih2 (i + 1) (by omega) (by omega) _ _ _ hW (lv_sub hl [1, 2, 0] rfl)
  exact lp_2 (7 + 1) 0 (by omega) (by omega) _ _ _ hW (lv_sub hl [1, 2, 0] rfl)
