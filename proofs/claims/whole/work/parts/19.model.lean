/-! OneJohnModel: marriages -/
theorem bt_nat : ∀ S, S < 128 → ∀ p, p < 7 → ((nI S >>> (nI p &&& 31)) &&& (1 : Int32)) = nI (S / 2 ^ p % 2) := by decide +kernel
theorem mk_nat : ∀ S, S < 128 → ∀ p, p < 7 → S / 2 ^ p % 2 = 1 → (nI S &&& (((1 : Int32) <<< (nI p &&& 31)) ^^^ (-1))) = nI (S - 2 ^ p) := by decide +kernel
def lbN (S : Nat) : Nat := if S % 2 = 1 then 0 else if S / 2 % 2 = 1 then 1 else if S / 4 % 2 = 1 then 2 else if S / 8 % 2 = 1 then 3 else if S / 16 % 2 = 1 then 4 else if S / 32 % 2 = 1 then 5 else 6
theorem lw_step0 : ∀ S, S < 128 → ∀ p, p < 7 → (S = 0 ∨ ¬ S % 2 ^ p = 0 ∨ ¬ S / 2 ^ p % 2 = 0 ∨ (p + 1 < 7 ∧ S % 2 ^ (p + 1) = 0)) := by decide +kernel
theorem lw_step (S : Nat) (hS : S < 128) (p : Nat) (hp : p < 7) (h0 : S ≠ 0) (h1 : S % 2 ^ p = 0) (h2 : S / 2 ^ p % 2 = 0) : p + 1 < 7 ∧ S % 2 ^ (p + 1) = 0 := by
  rcases lw_step0 S hS p hp with h | h | h | h
  · exact absurd h h0
  · exact absurd h1 h
  · exact absurd h2 h
  · exact h
theorem lw_exit : ∀ S, S < 128 → ∀ p, p < 7 → S % 2 ^ p = 0 → S / 2 ^ p % 2 = 1 → lbN S = p := by decide +kernel
theorem ev_nat {N : Nat} (h : N ≤ 7) : evM N = nI (2 ^ N - 1) := by
  rcases (show N = 0 ∨ N = 1 ∨ N = 2 ∨ N = 3 ∨ N = 4 ∨ N = 5 ∨ N = 6 ∨ N = 7 by omega) with rfl | rfl | rfl | rfl | rfl | rfl | rfl | rfl <;> decide +kernel
theorem p2_128 {N : Nat} (h : N ≤ 7) : 2 ^ N ≤ 128 := by
  have := Nat.pow_le_pow_right (n := 2) (by decide) h; simpa using this
theorem bit_lt {S p N : Nat} (hS : S < 2 ^ N) (h : S / 2 ^ p % 2 = 1) : p < N := by
  rcases Nat.lt_or_ge p N with q | q
  · exact q
  · rw [Nat.div_eq_of_lt (Nat.lt_of_lt_of_le hS (Nat.pow_le_pow_right (by decide) q))] at h
    simp at h
def itI (s qu t : Nat → Int32) (S p q : Nat) : Int32 := if nI ((S - 2 ^ p) / 2 ^ q % 2) = 1 then (if mmM s qu p q = 0 then 0 else 1 + t (S - 2 ^ p - 2 ^ q)) else 0
def prI (s qu tw : Nat → Int32) (S p : Nat) : Nat → (Nat → Int32)
  | 0 => upd tw S (tw (S - 2 ^ p))
  | j + 1 => upd (prI s qu tw S p j) S (if itI s qu (prI s qu tw S p j) S p (p + 1 + j) ≤ prI s qu tw S p j S then prI s qu tw S p j S else itI s qu (prI s qu tw S p j) S p (p + 1 + j))
def prS (s qu tw : Nat → Int32) (N : Nat) : Nat → (Nat → Int32)
  | 0 => upd tw 0 0
  | k + 1 => prI s qu (prS s qu tw N k) (k + 1) (lbN (k + 1)) (N - (lbN (k + 1) + 1))
def mbI (s qu tw : Nat → Int32) (lf a q : Nat) : Int32 := if nI ((lf - 2 ^ a) / 2 ^ q % 2) = 1 then (if mmM s qu a q = 0 then 0 else if 1 + tw (lf - 2 ^ a - 2 ^ q) = tw lf then 1 else 0) else 0
def mtF (s qu tw : Nat → Int32) (lf a N : Nat) : Nat → Option Nat
  | 0 => none
  | j + 1 => if mbI s qu tw lf a (N - 1 - j) = 0 then mtF s qu tw lf a N j else some (N - 1 - j)
def mI (o : Option Nat) : Int32 := match o with
  | none => -9
  | some q => nI q
def maF (s qu tw : Nat → Int32) (N Ev : Nat) (b : Nat → Int32) : Nat → Nat × (Nat → Int32)
  | 0 => (Ev, b)
  | a + 1 => if nI ((maF s qu tw N Ev b a).1 / 2 ^ a % 2) = 1 then (match mtF s qu tw (maF s qu tw N Ev b a).1 a N (N - 1 - a) with
      | none => ((maF s qu tw N Ev b a).1 - 2 ^ a, upd (maF s qu tw N Ev b a).2 a (-9))
      | some q => ((maF s qu tw N Ev b a).1 - 2 ^ a - 2 ^ q, upd (upd (maF s qu tw N Ev b a).2 a (nI q)) q (nI a))) else maF s qu tw N Ev b a
theorem mt_prop {s qu tw : Nat → Int32} {lf a N : Nat} (hN : N ≤ 7) : ∀ j, j ≤ N - 1 - a → a < N → ∀ q, mtF s qu tw lf a N j = some q → q < N ∧ a < q ∧ (lf - 2 ^ a) / 2 ^ q % 2 = 1
  | 0, _, _, q, h => by cases h
  | j + 1, hj, ha, q, h => by
    rw [mtF] at h
    split at h
    · exact mt_prop hN j (by omega) ha q h
    · rename_i h2
      cases h
      refine ⟨by omega, by omega, ?_⟩
      unfold mbI at h2
      split at h2
      · rename_i h3
        exact (nI_eq (a := (lf - 2 ^ a) / 2 ^ (N - 1 - j) % 2) (b := 1) (by omega) (by decide)).mp h3
      · exact absurd rfl h2
theorem ma_le (s qu tw : Nat → Int32) (N Ev : Nat) (b : Nat → Int32) : ∀ a, (maF s qu tw N Ev b a).1 ≤ Ev
  | 0 => Nat.le_refl _
  | a + 1 => by
    have h := ma_le s qu tw N Ev b a
    rw [maF]
    split
    · split
      · exact Nat.le_trans (Nat.sub_le _ _) h
      · exact Nat.le_trans (Nat.sub_le _ _) (Nat.le_trans (Nat.sub_le _ _) h)
    · exact h
theorem dec_1 {x : Nat} (h : 1 ≤ x) : nI x + Int32.ofInt (-1) = nI (x - 1) := by rw [dec_n]; exact pk_sub (a := x) (b := 1) h

set_option maxHeartbeats 4000000 in
set_option maxRecDepth 100000 in
theorem c_X9_pairs (l : Launch) (D : va_G) (cI cZ cN : ClassId) (b : Nat → Nat) (M : NV) (tr : Int64) (N C : Nat) (hN : M 2 1 = nI N) (hN7 : N ≤ 7) (hC : M 2 0 = nI C) (hC4 : C ≤ 4) (hC1 : 1 ≤ C) : CtV l yX9_pairs cX9_pairs 6 1 D (tyG cI cZ cN) [.ref (b 0)] (pMod cI cZ b M tr) (fun w => w = (pMod cI cZ b (upA M 17 (prS (M 7) (M 6) (M 17) N (2 ^ N - 1))) tr)) := by
  refine CtV.of rfl (Nat.le_of_ble_eq_true rfl) ?_
  intro pg ev sx mx ax bx mt cx ls Qx Ax Sx hret hW hl
  have hx := Sx.1
  have hb := Sx.2.1
  have hl : lv_has ls 6 [(0, .ref (b 0))] := hl
  obtain ⟨Ev, hEv⟩ : ∃ q, q = 2 ^ N - 1 := ⟨_, rfl⟩
  have hEv2 : Ev < 128 := by have := p2_128 hN7; omega
  have hevm : evM N = nI Ev := by rw [hEv]; exact ev_nat hN7
  refine lv_aload_n hx hb dX9_pairs_0 rfl (lv_at hl 0 rfl) ?_
  refine r_get Sx hW 0 rfl rfl bw_wsX90 28 (by decide) (v := .ref (b 17)) rfl mw130 dX9_pairs_1 ?_
  refine lv_iconst (v := (0 : Int32)) hx hb dX9_pairs_4 rfl ?_
  refine lv_iconst (v := (0 : Int32)) hx hb dX9_pairs_5 rfl ?_
  refine r_iast Sx hW 17 0 rfl rfl (j := 0) rfl (by decide) (by decide) dX9_pairs_6 (ws' := (pMod cI cZ b (upA M 17 (upd (M 17) 0 (0 : Int32))) tr)) rfl (fun H locs hW => ?_)
  refine lv_iconst (v := (1 : Int32)) hx hb dX9_pairs_7 rfl ?_
  refine lv_istore_n (lv' := [(1, .int (1 : Int32)), (0, .ref (b 0))]) hx hb dX9_pairs_8 rfl hl (by decide) rfl (fun ls hl => ?_)
  have lp_9 : ∀ (n : Nat) (k : Nat), ((k ≤ Ev)) → ((Ev + 1 ≤ k + n)) → ∀ (H : Heap) (locs : List Loc) (ls : Array Slot), AtC D (tyG cI cZ cN) Ax (pMod cI cZ b (upA M 17 (prS (M 7) (M 6) (M 17) N k)) tr) sx H locs → lv_has ls 6 [(0, .ref (b 0)), (1, .int (nI (k + 1)))] → W pg l ev (rmN 1) sx mx ax bx mt cx H locs 0 0 Qx (F0 mx 9 ls []) := by
    intro n
    induction n with
    | zero =>
      intro k hk hn H locs ls hW hl
      exact absurd hn (by omega)
    | succ n ih9 =>
      intro k hk hn H locs ls hW hl
      refine lv_iload_n hx hb dX9_pairs_9 rfl (lv_at hl 1 rfl) ?_
      refine lv_aload_n hx hb dX9_pairs_10 rfl (lv_at hl 0 rfl) ?_
      refine callVI Sx hW (c_X9_everybody l D cI cZ cN b (upA M 17 (prS (M 7) (M 6) (M 17) N k)) tr N C hN hN7 hC hC4 hC1 ) vmX9_everybody mw454 [0, 1, 2, 3, 4, 5, 6, 7, 8, 9, 10, 11, 12, 13, 14, 15, 16, 17] rfl (by decide) 0 rfl rfl (As := []) (rest := [.int (nI (k + 1))]) rfl rfl hl.1 (Nat.le_of_ble_eq_true rfl) ⟨Nat.le_of_ble_eq_true rfl, Nat.le_of_ble_eq_true rfl⟩ ⟨Nat.le_refl _, Nat.le_refl _⟩ dX9_pairs_11 (fun rx wx H locs hqx hW => ?_)
      obtain ⟨hrx, rfl⟩ := hqx
      have hW : AtC D (tyG cI cZ cN) Ax (pMod cI cZ b (upA M 17 (prS (M 7) (M 6) (M 17) N k)) tr) sx H locs := hW.re [] 18 (by decide) rfl rfl trivial (by decide +kernel) rfl rfl
      refine r_eq (y := (evM N)) hrx ?_
      refine r_eq (y := (nI Ev)) hevm ?_
      refine lv_icmp_gt (tgt := 150) hx hb dX9_pairs_14 rfl (fun c_14 => ?_) (fun c_14 => ?_)
      · have ge_14 : Ev < k + 1 := (nI_ltI (a := Ev) (b := k + 1) (by omega) (by omega)).mp c_14
        have ee_14 : Ev = k := by omega
        subst ee_14
        exact hret _ _ _ _ _ hW rfl dX9_pairs_150 (by rw [← hEv])
      · have le_14 : k + 1 ≤ Ev := Nat.not_lt.mp (fun h => c_14 ((nI_ltI (a := Ev) (b := k + 1) (by omega) (by omega)).mpr h))
        refine lv_iconst (v := (0 : Int32)) hx hb dX9_pairs_17 rfl ?_
        refine lv_istore_n (lv' := [(2, .int (0 : Int32)), (0, .ref (b 0)), (1, .int (nI (k + 1)))]) hx hb dX9_pairs_18 rfl hl (by decide) rfl (fun ls hl => ?_)
        have lp_19 : ∀ (n : Nat) (p : Nat), ((p < 7)) → (((k + 1) % 2 ^ p = 0)) → ((7 ≤ p + n)) → ∀ (H : Heap) (locs : List Loc) (ls : Array Slot), AtC D (tyG cI cZ cN) Ax (pMod cI cZ b (upA M 17 (prS (M 7) (M 6) (M 17) N k)) tr) sx H locs → lv_has ls 6 [(0, .ref (b 0)), (1, .int (nI (k + 1))), (2, .int (nI p))] → W pg l ev (rmN 1) sx mx ax bx mt cx H locs 0 0 Qx (F0 mx 19 ls []) := by
          intro n
          induction n with
          | zero =>
            intro p hp7 hm hn2 H locs ls hW hl
            exact absurd hn2 (by omega)
          | succ n ih19 =>
            intro p hp7 hm hn2 H locs ls hW hl
            refine lv_iload_n hx hb dX9_pairs_19 rfl (lv_at hl 1 rfl) ?_
            refine lv_iload_n hx hb dX9_pairs_20 rfl (lv_at hl 2 rfl) ?_
            refine lv_ishr hx hb dX9_pairs_21 ?_
            refine lv_iconst (v := (1 : Int32)) hx hb dX9_pairs_22 rfl ?_
            refine lv_iand hx hb dX9_pairs_23 ?_
            refine r_eq (y := (nI ((k + 1) / 2 ^ p % 2))) (bt_nat (k + 1) (by omega) p hp7) ?_
            refine lv_if_ne (tgt := 33) hx hb dX9_pairs_24 rfl (fun c_24 => ?_) (fun c_24 => ?_)
            · have hb24 : (k + 1) / 2 ^ p % 2 = 1 := by have h2 : ¬ (k + 1) / 2 ^ p % 2 = 0 := fun h => c_24 (by rw [h]; rfl); omega
              have hlb := lw_exit (k + 1) (by omega) p hp7 hm hb24
              have hpN : p < N := bit_lt (S := k + 1) (by have := Nat.two_pow_pos N; omega) hb24
              refine lv_iload_n hx hb dX9_pairs_33 rfl (lv_at hl 1 rfl) ?_
              refine lv_iconst (v := (1 : Int32)) hx hb dX9_pairs_34 rfl ?_
              refine lv_iload_n hx hb dX9_pairs_35 rfl (lv_at hl 2 rfl) ?_
              refine lv_ishl hx hb dX9_pairs_36 ?_
              refine lv_iconst (v := (-1 : Int32)) hx hb dX9_pairs_37 rfl ?_
              refine lv_ixor hx hb dX9_pairs_38 ?_
              refine lv_iand hx hb dX9_pairs_39 ?_
              refine r_eq (y := (nI (k + 1 - 2 ^ p))) (mk_nat (k + 1) (by omega) p hp7 hb24) ?_
              refine lv_istore_n (lv' := [(3, .int (nI (k + 1 - 2 ^ p))), (0, .ref (b 0)), (1, .int (nI (k + 1))), (2, .int (nI p))]) hx hb dX9_pairs_40 rfl hl (by decide) rfl (fun ls hl => ?_)
              refine lv_aload_n hx hb dX9_pairs_41 rfl (lv_at hl 1 rfl) ?_
              refine r_get Sx hW 0 rfl rfl bw_wsX90 28 (by decide) (v := .ref (b 17)) rfl mw130 dX9_pairs_42 ?_
              refine lv_iload_n hx hb dX9_pairs_45 rfl (lv_at hl 2 rfl) ?_
              refine lv_aload_n hx hb dX9_pairs_46 rfl (lv_at hl 1 rfl) ?_
              refine r_get Sx hW 0 rfl rfl bw_wsX90 28 (by decide) (v := .ref (b 17)) rfl mw130 dX9_pairs_47 ?_
              refine lv_iload_n hx hb dX9_pairs_50 rfl (lv_at hl 0 rfl) ?_
              refine r_iald Sx hW 17 0 (f := (prS (M 7) (M 6) (M 17) N k)) rfl rfl (j := k + 1 - 2 ^ p) rfl (Nat.lt_of_le_of_lt (Nat.sub_le _ _) (show k + 1 < 128 by omega)) (by decide) dX9_pairs_51 ?_
              refine r_iast Sx hW 17 0 rfl rfl (j := k + 1) rfl (by omega) (by decide) dX9_pairs_52 (ws' := (pMod cI cZ b (upA M 17 (upd (prS (M 7) (M 6) (M 17) N k) (k + 1) ((prS (M 7) (M 6) (M 17) N k) (k + 1 - 2 ^ p)))) tr)) rfl (fun H locs hW => ?_)
              refine lv_iload_n hx hb dX9_pairs_53 rfl (lv_at hl 3 rfl) ?_
              refine lv_iconst (v := (1 : Int32)) hx hb dX9_pairs_54 rfl ?_
              refine lv_iadd hx hb dX9_pairs_55 ?_
              refine r_eq (y := (nI (p + 1))) (nI_add p 1) ?_
              refine lv_istore (lv' := [(4, .int (nI (p + 1))), (3, .int (nI (k + 1 - 2 ^ p))), (0, .ref (b 0)), (1, .int (nI (k + 1))), (2, .int (nI p))]) hx hb dX9_pairs_56 hl (by decide) rfl (fun ls hl => ?_)
              have lp_58 : ∀ (n : Nat) (j : Nat), ((p + 1 + j ≤ N)) → ((N + 1 ≤ p + 1 + j + n)) → ∀ (H : Heap) (locs : List Loc) (ls : Array Slot), AtC D (tyG cI cZ cN) Ax (pMod cI cZ b (upA M 17 (prI (M 7) (M 6) (prS (M 7) (M 6) (M 17) N k) (k + 1) p j)) tr) sx H locs → lv_has ls 6 [(0, .ref (b 0)), (1, .int (nI (k + 1))), (2, .int (nI p)), (3, .int (nI (k + 1 - 2 ^ p))), (4, .int (nI (p + 1 + j)))] → W pg l ev (rmN 1) sx mx ax bx mt cx H locs 0 0 Qx (F0 mx 58 ls []) := by
                intro n
                induction n with
                | zero =>
                  intro j hj_58 hn_58 H locs ls hW hl
                  exact absurd hn_58 (by omega)
                | succ n ih58 =>
                  intro j hj_58 hn_58 H locs ls hW hl
                  refine lv_iload hx hb dX9_pairs_58 (lv_at hl 4 rfl) ?_
                  refine lv_aload_n hx hb dX9_pairs_60 rfl (lv_at hl 0 rfl) ?_
                  refine r_get Sx hW 0 rfl rfl bw_wsX90 9 (by decide) (v := .ref (b 2)) rfl mw115 dX9_pairs_61 ?_
                  refine lv_iconst (v := (1 : Int32)) hx hb dX9_pairs_64 rfl ?_
                  refine r_iald Sx hW 2 0 (f := (M 2)) rfl rfl (j := 1) rfl (by decide) (by decide) dX9_pairs_65 ?_
                  refine r_eq (y := (nI N)) hN ?_
                  refine lv_icmp_ge (tgt := 144) hx hb dX9_pairs_66 rfl (fun c_66 => ?_) (fun c_66 => ?_)
                  · have ge_66 : N ≤ p + 1 + j := (nI_leI (a := N) (b := p + 1 + j) (by omega) (by omega)).mp c_66
                    have ee_66 : N - (p + 1) = j := by omega
                    subst ee_66
                    refine lv_iinc (v := (nI ((k + 1) + 1))) (lv' := [(1, .int (nI ((k + 1) + 1))), (0, .ref (b 0)), (2, .int (nI p)), (3, .int (nI (k + 1 - 2 ^ p))), (4, .int (nI (p + 1 + (N - (p + 1)))))]) hx hb dX9_pairs_144 hl (k := 1) rfl (inc_n (k + 1) 1) (by decide) rfl (fun ls hl => ?_)
                    refine lv_goto (tgt := 9) hx hb dX9_pairs_147 rfl ?_
                    have hW_1 := hW.cong (ws' := (pMod cI cZ b (upA M 17 (prS (M 7) (M 6) (M 17) N (k + 1))) tr)) (by first | (rw [show (upA M 17 (prS (M 7) (M 6) (M 17) N (k + 1))) = (upA M 17 (prI (M 7) (M 6) (prS (M 7) (M 6) (M 17) N k) (k + 1) p (N - (p + 1)))) from by rw [prS, hlb]]; done) | (rw [show (upA M 17 (prS (M 7) (M 6) (M 17) N (k + 1))) = (upA M 17 (prI (M 7) (M 6) (prS (M 7) (M 6) (M 17) N k) (k + 1) p (N - (p + 1)))) from by rw [prS, hlb]]; rfl))
                    exact ih9 (k + 1) (by omega) (by omega) _ _ _ hW_1 (lv_sub hl [1, 0] rfl)
                  · have lt_66 : p + 1 + j < N := Nat.not_le.mp (fun h => c_66 ((nI_leI (a := N) (b := p + 1 + j) (by omega) (by omega)).mpr h))
                    refine lv_iload_n hx hb dX9_pairs_69 rfl (lv_at hl 3 rfl) ?_
                    refine lv_iload hx hb dX9_pairs_70 (lv_at hl 4 rfl) ?_
                    refine lv_ishr hx hb dX9_pairs_72 ?_
                    refine lv_iconst (v := (1 : Int32)) hx hb dX9_pairs_73 rfl ?_
                    refine lv_iand hx hb dX9_pairs_74 ?_
                    refine r_eq (y := (nI ((k + 1 - 2 ^ p) / 2 ^ (p + 1 + j) % 2))) (bt_nat (k + 1 - 2 ^ p) (Nat.lt_of_le_of_lt (Nat.sub_le _ _) (show k + 1 < 128 by omega)) (p + 1 + j) (by omega)) ?_
                    refine lv_iconst (v := (1 : Int32)) hx hb dX9_pairs_75 rfl ?_
                    refine lv_icmp_ne (tgt := 107) hx hb dX9_pairs_76 rfl (fun c_76 => ?_) (fun c_76 => ?_)
                    · refine lv_iconst (v := (0 : Int32)) hx hb dX9_pairs_107 rfl ?_
                      refine lv_istore (lv' := [(5, .int (0 : Int32)), (0, .ref (b 0)), (1, .int (nI (k + 1))), (2, .int (nI p)), (3, .int (nI (k + 1 - 2 ^ p))), (4, .int (nI (p + 1 + j)))]) hx hb dX9_pairs_108 hl (by decide) rfl (fun ls hl => ?_)
                      refine lv_aload_n hx hb dX9_pairs_110 rfl (lv_at hl 1 rfl) ?_
                      refine r_get Sx hW 0 rfl rfl bw_wsX90 28 (by decide) (v := .ref (b 17)) rfl mw130 dX9_pairs_111 ?_
                      refine lv_iload_n hx hb dX9_pairs_114 rfl (lv_at hl 2 rfl) ?_
                      refine lv_iload hx hb dX9_pairs_115 (lv_at hl 0 rfl) ?_
                      refine lv_aload_n hx hb dX9_pairs_117 rfl (lv_at hl 1 rfl) ?_
                      refine r_get Sx hW 0 rfl rfl bw_wsX90 28 (by decide) (v := .ref (b 17)) rfl mw130 dX9_pairs_118 ?_
                      refine lv_iload_n hx hb dX9_pairs_121 rfl (lv_at hl 2 rfl) ?_
                      refine r_iald Sx hW 17 0 (f := (prI (M 7) (M 6) (prS (M 7) (M 6) (M 17) N k) (k + 1) p j)) rfl rfl (j := k + 1) rfl (by omega) (by decide) dX9_pairs_122 ?_
                      refine lv_icmp_le (tgt := 131) hx hb dX9_pairs_123 rfl (fun c_123 => ?_) (fun c_123 => ?_)
                      · refine lv_aload_n hx hb dX9_pairs_131 rfl (lv_at hl 1 rfl) ?_
                        refine r_get Sx hW 0 rfl rfl bw_wsX90 28 (by decide) (v := .ref (b 17)) rfl mw130 dX9_pairs_132 ?_
                        refine lv_iload_n hx hb dX9_pairs_135 rfl (lv_at hl 2 rfl) ?_
                        refine r_iald Sx hW 17 0 (f := (prI (M 7) (M 6) (prS (M 7) (M 6) (M 17) N k) (k + 1) p j)) rfl rfl (j := k + 1) rfl (by omega) (by decide) dX9_pairs_136 ?_
                        refine r_iast Sx hW 17 0 rfl rfl (j := k + 1) rfl (by omega) (by decide) dX9_pairs_137 (ws' := (pMod cI cZ b (upA M 17 (upd (prI (M 7) (M 6) (prS (M 7) (M 6) (M 17) N k) (k + 1) p j) (k + 1) ((prI (M 7) (M 6) (prS (M 7) (M 6) (M 17) N k) (k + 1) p j) (k + 1)))) tr)) rfl (fun H locs hW => ?_)
                        refine lv_iinc (v := (nI ((p + 1 + j) + 1))) (lv' := [(4, .int (nI ((p + 1 + j) + 1))), (5, .int (0 : Int32)), (0, .ref (b 0)), (1, .int (nI (k + 1))), (2, .int (nI p)), (3, .int (nI (k + 1 - 2 ^ p)))]) hx hb dX9_pairs_138 hl (k := 5) rfl (inc_n (p + 1 + j) 1) (by decide) rfl (fun ls hl => ?_)
                        refine lv_goto (tgt := 58) hx hb dX9_pairs_141 rfl ?_
                        have hW_2 := hW.cong (ws' := (pMod cI cZ b (upA M 17 (prI (M 7) (M 6) (prS (M 7) (M 6) (M 17) N k) (k + 1) p (j + 1))) tr)) (by first | (rw [show (upA M 17 (prI (M 7) (M 6) (prS (M 7) (M 6) (M 17) N k) (k + 1) p (j + 1))) = (upA M 17 (upd (prI (M 7) (M 6) (prS (M 7) (M 6) (M 17) N k) (k + 1) p j) (k + 1) ((prI (M 7) (M 6) (prS (M 7) (M 6) (M 17) N k) (k + 1) p j) (k + 1)))) from by rw [prI, itI, if_neg c_76, if_pos c_123]]; done) | (rw [show (upA M 17 (prI (M 7) (M 6) (prS (M 7) (M 6) (M 17) N k) (k + 1) p (j + 1))) = (upA M 17 (upd (prI (M 7) (M 6) (prS (M 7) (M 6) (M 17) N k) (k + 1) p j) (k + 1) ((prI (M 7) (M 6) (prS (M 7) (M 6) (M 17) N k) (k + 1) p j) (k + 1)))) from by rw [prI, itI, if_neg c_76, if_pos c_123]]; rfl))
                        exact ih58 (j + 1) (by omega) (by omega) _ _ _ hW_2 (lv_sub hl [2, 3, 4, 5, 0] rfl)
                      · refine lv_iload hx hb dX9_pairs_126 (lv_at hl 0 rfl) ?_
                        refine lv_goto (tgt := 137) hx hb dX9_pairs_128 rfl ?_
                        refine r_iast Sx hW 17 0 rfl rfl (j := k + 1) rfl (by omega) (by decide) dX9_pairs_137 (ws' := (pMod cI cZ b (upA M 17 (upd (prI (M 7) (M 6) (prS (M 7) (M 6) (M 17) N k) (k + 1) p j) (k + 1) (0 : Int32))) tr)) rfl (fun H locs hW => ?_)
                        refine lv_iinc (v := (nI ((p + 1 + j) + 1))) (lv' := [(4, .int (nI ((p + 1 + j) + 1))), (5, .int (0 : Int32)), (0, .ref (b 0)), (1, .int (nI (k + 1))), (2, .int (nI p)), (3, .int (nI (k + 1 - 2 ^ p)))]) hx hb dX9_pairs_138 hl (k := 5) rfl (inc_n (p + 1 + j) 1) (by decide) rfl (fun ls hl => ?_)
                        refine lv_goto (tgt := 58) hx hb dX9_pairs_141 rfl ?_
                        have hW_3 := hW.cong (ws' := (pMod cI cZ b (upA M 17 (prI (M 7) (M 6) (prS (M 7) (M 6) (M 17) N k) (k + 1) p (j + 1))) tr)) (by first | (rw [show (upA M 17 (prI (M 7) (M 6) (prS (M 7) (M 6) (M 17) N k) (k + 1) p (j + 1))) = (upA M 17 (upd (prI (M 7) (M 6) (prS (M 7) (M 6) (M 17) N k) (k + 1) p j) (k + 1) (0 : Int32))) from by rw [prI, itI, if_neg c_76, if_neg c_123]]; done) | (rw [show (upA M 17 (prI (M 7) (M 6) (prS (M 7) (M 6) (M 17) N k) (k + 1) p (j + 1))) = (upA M 17 (upd (prI (M 7) (M 6) (prS (M 7) (M 6) (M 17) N k) (k + 1) p j) (k + 1) (0 : Int32))) from by rw [prI, itI, if_neg c_76, if_neg c_123]]; rfl))
                        exact ih58 (j + 1) (by omega) (by omega) _ _ _ hW_3 (lv_sub hl [2, 3, 4, 5, 0] rfl)
                    · have hb2 : (k + 1 - 2 ^ p) / 2 ^ (p + 1 + j) % 2 = 1 := (nI_eq (a := (k + 1 - 2 ^ p) / 2 ^ (p + 1 + j) % 2) (b := 1) (by omega) (by decide)).mp c_76
                      refine lv_aload_n hx hb dX9_pairs_79 rfl (lv_at hl 0 rfl) ?_
                      refine lv_iload_n hx hb dX9_pairs_80 rfl (lv_at hl 2 rfl) ?_
                      refine lv_iload hx hb dX9_pairs_81 (lv_at hl 4 rfl) ?_
                      refine callVI Sx hW (c_X9_mayMarry l D cI cZ cN b (upA M 17 (prI (M 7) (M 6) (prS (M 7) (M 6) (M 17) N k) (k + 1) p j)) tr N C hN hN7 hC hC4 hC1 p (p + 1 + j) (by omega) (by omega) ) vmX9_mayMarry mw755 [0, 1, 2, 3, 4, 5, 6, 7, 8, 9, 10, 11, 12, 13, 14, 15, 16, 17] rfl (by decide) 0 rfl rfl (As := [.int (nI p), .int (nI (p + 1 + j))]) (rest := []) rfl rfl hl.1 (Nat.le_of_ble_eq_true rfl) ⟨Nat.le_of_ble_eq_true rfl, Nat.le_of_ble_eq_true rfl⟩ ⟨Nat.le_refl _, Nat.le_refl _⟩ dX9_pairs_83 (fun rx wx H locs hqx hW => ?_)
                      obtain ⟨hrx, rfl⟩ := hqx
                      have hW : AtC D (tyG cI cZ cN) Ax (pMod cI cZ b (upA M 17 (prI (M 7) (M 6) (prS (M 7) (M 6) (M 17) N k) (k + 1) p j)) tr) sx H locs := hW.re [] 18 (by decide) rfl rfl trivial (by decide +kernel) rfl rfl
                      refine r_eq (y := (mmM (M 7) (M 6) p (p + 1 + j))) hrx ?_
                      refine lv_if_eq (tgt := 107) hx hb dX9_pairs_86 rfl (fun c_86 => ?_) (fun c_86 => ?_)
                      · refine lv_iconst (v := (0 : Int32)) hx hb dX9_pairs_107 rfl ?_
                        refine lv_istore (lv' := [(5, .int (0 : Int32)), (0, .ref (b 0)), (1, .int (nI (k + 1))), (2, .int (nI p)), (3, .int (nI (k + 1 - 2 ^ p))), (4, .int (nI (p + 1 + j)))]) hx hb dX9_pairs_108 hl (by decide) rfl (fun ls hl => ?_)
                        refine lv_aload_n hx hb dX9_pairs_110 rfl (lv_at hl 1 rfl) ?_
                        refine r_get Sx hW 0 rfl rfl bw_wsX90 28 (by decide) (v := .ref (b 17)) rfl mw130 dX9_pairs_111 ?_
                        refine lv_iload_n hx hb dX9_pairs_114 rfl (lv_at hl 2 rfl) ?_
                        refine lv_iload hx hb dX9_pairs_115 (lv_at hl 0 rfl) ?_
                        refine lv_aload_n hx hb dX9_pairs_117 rfl (lv_at hl 1 rfl) ?_
                        refine r_get Sx hW 0 rfl rfl bw_wsX90 28 (by decide) (v := .ref (b 17)) rfl mw130 dX9_pairs_118 ?_
                        refine lv_iload_n hx hb dX9_pairs_121 rfl (lv_at hl 2 rfl) ?_
                        refine r_iald Sx hW 17 0 (f := (prI (M 7) (M 6) (prS (M 7) (M 6) (M 17) N k) (k + 1) p j)) rfl rfl (j := k + 1) rfl (by omega) (by decide) dX9_pairs_122 ?_
                        refine lv_icmp_le (tgt := 131) hx hb dX9_pairs_123 rfl (fun c_123 => ?_) (fun c_123 => ?_)
                        · refine lv_aload_n hx hb dX9_pairs_131 rfl (lv_at hl 1 rfl) ?_
                          refine r_get Sx hW 0 rfl rfl bw_wsX90 28 (by decide) (v := .ref (b 17)) rfl mw130 dX9_pairs_132 ?_
                          refine lv_iload_n hx hb dX9_pairs_135 rfl (lv_at hl 2 rfl) ?_
                          refine r_iald Sx hW 17 0 (f := (prI (M 7) (M 6) (prS (M 7) (M 6) (M 17) N k) (k + 1) p j)) rfl rfl (j := k + 1) rfl (by omega) (by decide) dX9_pairs_136 ?_
                          refine r_iast Sx hW 17 0 rfl rfl (j := k + 1) rfl (by omega) (by decide) dX9_pairs_137 (ws' := (pMod cI cZ b (upA M 17 (upd (prI (M 7) (M 6) (prS (M 7) (M 6) (M 17) N k) (k + 1) p j) (k + 1) ((prI (M 7) (M 6) (prS (M 7) (M 6) (M 17) N k) (k + 1) p j) (k + 1)))) tr)) rfl (fun H locs hW => ?_)
                          refine lv_iinc (v := (nI ((p + 1 + j) + 1))) (lv' := [(4, .int (nI ((p + 1 + j) + 1))), (5, .int (0 : Int32)), (0, .ref (b 0)), (1, .int (nI (k + 1))), (2, .int (nI p)), (3, .int (nI (k + 1 - 2 ^ p)))]) hx hb dX9_pairs_138 hl (k := 5) rfl (inc_n (p + 1 + j) 1) (by decide) rfl (fun ls hl => ?_)
                          refine lv_goto (tgt := 58) hx hb dX9_pairs_141 rfl ?_
                          have hW_4 := hW.cong (ws' := (pMod cI cZ b (upA M 17 (prI (M 7) (M 6) (prS (M 7) (M 6) (M 17) N k) (k + 1) p (j + 1))) tr)) (by first | (rw [show (upA M 17 (prI (M 7) (M 6) (prS (M 7) (M 6) (M 17) N k) (k + 1) p (j + 1))) = (upA M 17 (upd (prI (M 7) (M 6) (prS (M 7) (M 6) (M 17) N k) (k + 1) p j) (k + 1) ((prI (M 7) (M 6) (prS (M 7) (M 6) (M 17) N k) (k + 1) p j) (k + 1)))) from by rw [prI, itI, if_pos c_76, if_pos c_86, if_pos c_123]]; done) | (rw [show (upA M 17 (prI (M 7) (M 6) (prS (M 7) (M 6) (M 17) N k) (k + 1) p (j + 1))) = (upA M 17 (upd (prI (M 7) (M 6) (prS (M 7) (M 6) (M 17) N k) (k + 1) p j) (k + 1) ((prI (M 7) (M 6) (prS (M 7) (M 6) (M 17) N k) (k + 1) p j) (k + 1)))) from by rw [prI, itI, if_pos c_76, if_pos c_86, if_pos c_123]]; rfl))
                          exact ih58 (j + 1) (by omega) (by omega) _ _ _ hW_4 (lv_sub hl [2, 3, 4, 5, 0] rfl)
                        · refine lv_iload hx hb dX9_pairs_126 (lv_at hl 0 rfl) ?_
                          refine lv_goto (tgt := 137) hx hb dX9_pairs_128 rfl ?_
                          refine r_iast Sx hW 17 0 rfl rfl (j := k + 1) rfl (by omega) (by decide) dX9_pairs_137 (ws' := (pMod cI cZ b (upA M 17 (upd (prI (M 7) (M 6) (prS (M 7) (M 6) (M 17) N k) (k + 1) p j) (k + 1) (0 : Int32))) tr)) rfl (fun H locs hW => ?_)
                          refine lv_iinc (v := (nI ((p + 1 + j) + 1))) (lv' := [(4, .int (nI ((p + 1 + j) + 1))), (5, .int (0 : Int32)), (0, .ref (b 0)), (1, .int (nI (k + 1))), (2, .int (nI p)), (3, .int (nI (k + 1 - 2 ^ p)))]) hx hb dX9_pairs_138 hl (k := 5) rfl (inc_n (p + 1 + j) 1) (by decide) rfl (fun ls hl => ?_)
                          refine lv_goto (tgt := 58) hx hb dX9_pairs_141 rfl ?_
                          have hW_5 := hW.cong (ws' := (pMod cI cZ b (upA M 17 (prI (M 7) (M 6) (prS (M 7) (M 6) (M 17) N k) (k + 1) p (j + 1))) tr)) (by first | (rw [show (upA M 17 (prI (M 7) (M 6) (prS (M 7) (M 6) (M 17) N k) (k + 1) p (j + 1))) = (upA M 17 (upd (prI (M 7) (M 6) (prS (M 7) (M 6) (M 17) N k) (k + 1) p j) (k + 1) (0 : Int32))) from by rw [prI, itI, if_pos c_76, if_pos c_86, if_neg c_123]]; done) | (rw [show (upA M 17 (prI (M 7) (M 6) (prS (M 7) (M 6) (M 17) N k) (k + 1) p (j + 1))) = (upA M 17 (upd (prI (M 7) (M 6) (prS (M 7) (M 6) (M 17) N k) (k + 1) p j) (k + 1) (0 : Int32))) from by rw [prI, itI, if_pos c_76, if_pos c_86, if_neg c_123]]; rfl))
                          exact ih58 (j + 1) (by omega) (by omega) _ _ _ hW_5 (lv_sub hl [2, 3, 4, 5, 0] rfl)
                      · refine lv_iconst (v := (1 : Int32)) hx hb dX9_pairs_89 rfl ?_
                        refine lv_aload_n hx hb dX9_pairs_90 rfl (lv_at hl 0 rfl) ?_
                        refine r_get Sx hW 0 rfl rfl bw_wsX90 28 (by decide) (v := .ref (b 17)) rfl mw130 dX9_pairs_91 ?_
                        refine lv_iload_n hx hb dX9_pairs_94 rfl (lv_at hl 3 rfl) ?_
                        refine lv_iconst (v := (1 : Int32)) hx hb dX9_pairs_95 rfl ?_
                        refine lv_iload hx hb dX9_pairs_96 (lv_at hl 4 rfl) ?_
                        refine lv_ishl hx hb dX9_pairs_98 ?_
                        refine lv_iconst (v := (-1 : Int32)) hx hb dX9_pairs_99 rfl ?_
                        refine lv_ixor hx hb dX9_pairs_100 ?_
                        refine lv_iand hx hb dX9_pairs_101 ?_
                        refine r_eq (y := (nI (k + 1 - 2 ^ p - 2 ^ (p + 1 + j)))) (mk_nat (k + 1 - 2 ^ p) (Nat.lt_of_le_of_lt (Nat.sub_le _ _) (show k + 1 < 128 by omega)) (p + 1 + j) (by omega) hb2) ?_
                        refine r_iald Sx hW 17 0 (f := (prI (M 7) (M 6) (prS (M 7) (M 6) (M 17) N k) (k + 1) p j)) rfl rfl (j := k + 1 - 2 ^ p - 2 ^ (p + 1 + j)) rfl (Nat.lt_of_le_of_lt (Nat.sub_le _ _) (Nat.lt_of_le_of_lt (Nat.sub_le _ _) (show k + 1 < 128 by omega))) (by decide) dX9_pairs_102 ?_
                        refine lv_iadd hx hb dX9_pairs_103 ?_
                        refine lv_goto (tgt := 108) hx hb dX9_pairs_104 rfl ?_
                        refine lv_istore (lv' := [(5, .int ((1 : Int32) + ((prI (M 7) (M 6) (prS (M 7) (M 6) (M 17) N k) (k + 1) p j) (k + 1 - 2 ^ p - 2 ^ (p + 1 + j))))), (0, .ref (b 0)), (1, .int (nI (k + 1))), (2, .int (nI p)), (3, .int (nI (k + 1 - 2 ^ p))), (4, .int (nI (p + 1 + j)))]) hx hb dX9_pairs_108 hl (by decide) rfl (fun ls hl => ?_)
                        refine lv_aload_n hx hb dX9_pairs_110 rfl (lv_at hl 1 rfl) ?_
                        refine r_get Sx hW 0 rfl rfl bw_wsX90 28 (by decide) (v := .ref (b 17)) rfl mw130 dX9_pairs_111 ?_
                        refine lv_iload_n hx hb dX9_pairs_114 rfl (lv_at hl 2 rfl) ?_
                        refine lv_iload hx hb dX9_pairs_115 (lv_at hl 0 rfl) ?_
                        refine lv_aload_n hx hb dX9_pairs_117 rfl (lv_at hl 1 rfl) ?_
                        refine r_get Sx hW 0 rfl rfl bw_wsX90 28 (by decide) (v := .ref (b 17)) rfl mw130 dX9_pairs_118 ?_
                        refine lv_iload_n hx hb dX9_pairs_121 rfl (lv_at hl 2 rfl) ?_
                        refine r_iald Sx hW 17 0 (f := (prI (M 7) (M 6) (prS (M 7) (M 6) (M 17) N k) (k + 1) p j)) rfl rfl (j := k + 1) rfl (by omega) (by decide) dX9_pairs_122 ?_
                        refine lv_icmp_le (tgt := 131) hx hb dX9_pairs_123 rfl (fun c_123 => ?_) (fun c_123 => ?_)
                        · refine lv_aload_n hx hb dX9_pairs_131 rfl (lv_at hl 1 rfl) ?_
                          refine r_get Sx hW 0 rfl rfl bw_wsX90 28 (by decide) (v := .ref (b 17)) rfl mw130 dX9_pairs_132 ?_
                          refine lv_iload_n hx hb dX9_pairs_135 rfl (lv_at hl 2 rfl) ?_
                          refine r_iald Sx hW 17 0 (f := (prI (M 7) (M 6) (prS (M 7) (M 6) (M 17) N k) (k + 1) p j)) rfl rfl (j := k + 1) rfl (by omega) (by decide) dX9_pairs_136 ?_
                          refine r_iast Sx hW 17 0 rfl rfl (j := k + 1) rfl (by omega) (by decide) dX9_pairs_137 (ws' := (pMod cI cZ b (upA M 17 (upd (prI (M 7) (M 6) (prS (M 7) (M 6) (M 17) N k) (k + 1) p j) (k + 1) ((prI (M 7) (M 6) (prS (M 7) (M 6) (M 17) N k) (k + 1) p j) (k + 1)))) tr)) rfl (fun H locs hW => ?_)
                          refine lv_iinc (v := (nI ((p + 1 + j) + 1))) (lv' := [(4, .int (nI ((p + 1 + j) + 1))), (5, .int ((1 : Int32) + ((prI (M 7) (M 6) (prS (M 7) (M 6) (M 17) N k) (k + 1) p j) (k + 1 - 2 ^ p - 2 ^ (p + 1 + j))))), (0, .ref (b 0)), (1, .int (nI (k + 1))), (2, .int (nI p)), (3, .int (nI (k + 1 - 2 ^ p)))]) hx hb dX9_pairs_138 hl (k := 5) rfl (inc_n (p + 1 + j) 1) (by decide) rfl (fun ls hl => ?_)
                          refine lv_goto (tgt := 58) hx hb dX9_pairs_141 rfl ?_
                          have hW_6 := hW.cong (ws' := (pMod cI cZ b (upA M 17 (prI (M 7) (M 6) (prS (M 7) (M 6) (M 17) N k) (k + 1) p (j + 1))) tr)) (by first | (rw [show (upA M 17 (prI (M 7) (M 6) (prS (M 7) (M 6) (M 17) N k) (k + 1) p (j + 1))) = (upA M 17 (upd (prI (M 7) (M 6) (prS (M 7) (M 6) (M 17) N k) (k + 1) p j) (k + 1) ((prI (M 7) (M 6) (prS (M 7) (M 6) (M 17) N k) (k + 1) p j) (k + 1)))) from by rw [prI, itI, if_pos c_76, if_neg c_86, if_pos c_123]]; done) | (rw [show (upA M 17 (prI (M 7) (M 6) (prS (M 7) (M 6) (M 17) N k) (k + 1) p (j + 1))) = (upA M 17 (upd (prI (M 7) (M 6) (prS (M 7) (M 6) (M 17) N k) (k + 1) p j) (k + 1) ((prI (M 7) (M 6) (prS (M 7) (M 6) (M 17) N k) (k + 1) p j) (k + 1)))) from by rw [prI, itI, if_pos c_76, if_neg c_86, if_pos c_123]]; rfl))
                          exact ih58 (j + 1) (by omega) (by omega) _ _ _ hW_6 (lv_sub hl [2, 3, 4, 5, 0] rfl)
                        · refine lv_iload hx hb dX9_pairs_126 (lv_at hl 0 rfl) ?_
                          refine lv_goto (tgt := 137) hx hb dX9_pairs_128 rfl ?_
                          refine r_iast Sx hW 17 0 rfl rfl (j := k + 1) rfl (by omega) (by decide) dX9_pairs_137 (ws' := (pMod cI cZ b (upA M 17 (upd (prI (M 7) (M 6) (prS (M 7) (M 6) (M 17) N k) (k + 1) p j) (k + 1) ((1 : Int32) + ((prI (M 7) (M 6) (prS (M 7) (M 6) (M 17) N k) (k + 1) p j) (k + 1 - 2 ^ p - 2 ^ (p + 1 + j)))))) tr)) rfl (fun H locs hW => ?_)
                          refine lv_iinc (v := (nI ((p + 1 + j) + 1))) (lv' := [(4, .int (nI ((p + 1 + j) + 1))), (5, .int ((1 : Int32) + ((prI (M 7) (M 6) (prS (M 7) (M 6) (M 17) N k) (k + 1) p j) (k + 1 - 2 ^ p - 2 ^ (p + 1 + j))))), (0, .ref (b 0)), (1, .int (nI (k + 1))), (2, .int (nI p)), (3, .int (nI (k + 1 - 2 ^ p)))]) hx hb dX9_pairs_138 hl (k := 5) rfl (inc_n (p + 1 + j) 1) (by decide) rfl (fun ls hl => ?_)
                          refine lv_goto (tgt := 58) hx hb dX9_pairs_141 rfl ?_
                          have hW_7 := hW.cong (ws' := (pMod cI cZ b (upA M 17 (prI (M 7) (M 6) (prS (M 7) (M 6) (M 17) N k) (k + 1) p (j + 1))) tr)) (by first | (rw [show (upA M 17 (prI (M 7) (M 6) (prS (M 7) (M 6) (M 17) N k) (k + 1) p (j + 1))) = (upA M 17 (upd (prI (M 7) (M 6) (prS (M 7) (M 6) (M 17) N k) (k + 1) p j) (k + 1) ((1 : Int32) + ((prI (M 7) (M 6) (prS (M 7) (M 6) (M 17) N k) (k + 1) p j) (k + 1 - 2 ^ p - 2 ^ (p + 1 + j)))))) from by rw [prI, itI, if_pos c_76, if_neg c_86, if_neg c_123]]; done) | (rw [show (upA M 17 (prI (M 7) (M 6) (prS (M 7) (M 6) (M 17) N k) (k + 1) p (j + 1))) = (upA M 17 (upd (prI (M 7) (M 6) (prS (M 7) (M 6) (M 17) N k) (k + 1) p j) (k + 1) ((1 : Int32) + ((prI (M 7) (M 6) (prS (M 7) (M 6) (M 17) N k) (k + 1) p j) (k + 1 - 2 ^ p - 2 ^ (p + 1 + j)))))) from by rw [prI, itI, if_pos c_76, if_neg c_86, if_neg c_123]]; rfl))
                          exact ih58 (j + 1) (by omega) (by omega) _ _ _ hW_7 (lv_sub hl [2, 3, 4, 5, 0] rfl)
              exact lp_58 (N + 1) 0 (by omega) (by omega) _ _ _ hW (lv_sub hl [2, 3, 4, 1, 0] rfl)
            · have hb0 : (k + 1) / 2 ^ p % 2 = 0 := (nI_eq (a := (k + 1) / 2 ^ p % 2) (b := 0) (by omega) (by decide)).mp c_24
              refine lv_iinc (v := (nI (p + 1))) (lv' := [(2, .int (nI (p + 1))), (0, .ref (b 0)), (1, .int (nI (k + 1)))]) hx hb dX9_pairs_27 hl (k := 2) rfl (inc_n p 1) (by decide) rfl (fun ls hl => ?_)
              refine lv_goto (tgt := 19) hx hb dX9_pairs_30 rfl ?_
              exact ih19 (p + 1) ((lw_step (k + 1) (by omega) p hp7 (by omega) hm hb0).1) ((lw_step (k + 1) (by omega) p hp7 (by omega) hm hb0).2) (by omega) _ _ _ hW (lv_sub hl [1, 2, 0] rfl)
        exact lp_19 7 0 (by decide) (Nat.mod_one _) (by omega) _ _ _ hW (lv_sub hl [1, 2, 0] rfl)
  exact lp_9 (Ev + 1) 0 (by omega) (by omega) _ _ _ hW (lv_sub hl [1, 0] rfl)

theorem nI_ne9 {q : Nat} (h : q < 7) : ¬ nI q = -9 := by
  rcases (show q = 0 ∨ q = 1 ∨ q = 2 ∨ q = 3 ∨ q = 4 ∨ q = 5 ∨ q = 6 by omega) with rfl | rfl | rfl | rfl | rfl | rfl | rfl <;> decide +kernel

set_option maxHeartbeats 4000000 in
set_option maxRecDepth 100000 in
theorem c_X9_married (l : Launch) (D : va_G) (cI cZ cN : ClassId) (b : Nat → Nat) (M : NV) (tr : Int64) (N C : Nat) (hN : M 2 1 = nI N) (hN7 : N ≤ 7) (hC : M 2 0 = nI C) (hC4 : C ≤ 4) (hC1 : 1 ≤ C) (p0 : Int32) : CtI l yX9_married cX9_married 8 (some .int) 2 D (tyG cI cZ cN) [.ref (b 0), .int p0] (pMod cI cZ b M tr) (fun r w => r = (if p0 = -1 ∨ ¬ inI p0 0 (nI N - 1) = 0 then (if p0 = -1 then (prS (M 7) (M 6) (M 17) N (2 ^ N - 1)) (2 ^ N - 1) else (maF (M 7) (M 6) (prS (M 7) (M 6) (M 17) N (2 ^ N - 1)) N (2 ^ N - 1) (M 16) N).2 p0.toNatClampNeg) else -1) ∧ w = if p0 = -1 ∨ ¬ inI p0 0 (nI N - 1) = 0 then (pMod cI cZ b (upA (upA (upA M 16 ((maF (M 7) (M 6) (prS (M 7) (M 6) (M 17) N (2 ^ N - 1)) N (2 ^ N - 1) (M 16) N).2)) 17 (prS (M 7) (M 6) (M 17) N (2 ^ N - 1))) 0 (upd (M 0) 0 (0 : Int32))) tr) else (pMod cI cZ b (upA M 0 (upd (M 0) 0 (0 : Int32))) tr)) := by
  refine CtI.of rfl (Nat.le_of_ble_eq_true rfl) ?_
  intro pg ev sx mx ax bx mt cx ls Qx Ax Sx hret hW hl
  have hx := Sx.1
  have hb := Sx.2.1
  have hl : lv_has ls 8 [(0, .ref (b 0)), (1, .int p0)] := hl
  obtain ⟨Ev, hEv⟩ : ∃ q, q = 2 ^ N - 1 := ⟨_, rfl⟩
  have hEv2 : Ev < 128 := by have := p2_128 hN7; omega
  have hevm : evM N = nI Ev := by rw [hEv]; exact ev_nat hN7
  refine lv_aload_n hx hb dX9_married_0 rfl (lv_at hl 0 rfl) ?_
  refine lv_iconst (v := (0 : Int32)) hx hb dX9_married_1 rfl ?_
  refine r_put Sx hW 0 rfl rfl bw_wsX90 tyX9_ok nmX9 0 (by decide) mw144 rfl rfl rfl (Nat.le_of_ble_eq_true rfl) dX9_married_2 (ws' := (pMod cI cZ b (upA M 0 (upd (M 0) 0 (0 : Int32))) tr)) rfl (fun H locs hW => ?_)
  refine lv_iload_n hx hb dX9_married_5 rfl (lv_at hl 1 rfl) ?_
  refine lv_iconst (v := (-1 : Int32)) hx hb dX9_married_6 rfl ?_
  refine lv_icmp_eq (tgt := 20) hx hb dX9_married_7 rfl (fun c_7 => ?_) (fun c_7 => ?_)
  · refine lv_aload_n hx hb dX9_married_20 rfl (lv_at hl 0 rfl) ?_
    refine callVV Sx hW (c_X9_pairs l D cI cZ cN b (upA M 0 (upd (M 0) 0 (0 : Int32))) tr N C hN hN7 hC hC4 hC1 ) vmX9_pairs mw751 [0, 1, 2, 3, 4, 5, 6, 7, 8, 9, 10, 11, 12, 13, 14, 15, 16, 17] rfl (by decide) 0 rfl rfl (As := []) (rest := []) rfl rfl hl.1 (Nat.le_of_ble_eq_true rfl) ⟨Nat.le_of_ble_eq_true rfl, Nat.le_of_ble_eq_true rfl⟩ ⟨Nat.le_refl _, Nat.le_refl _⟩ dX9_married_21 (fun wx H locs hqx hW => ?_)
    obtain rfl := hqx
    rw [← hEv] at hW
    have hW : AtC D (tyG cI cZ cN) Ax (pMod cI cZ b (upA (upA M 17 (prS (M 7) (M 6) (M 17) N Ev)) 0 (upd (M 0) 0 (0 : Int32))) tr) sx H locs := hW.re [] 18 (by decide) rfl rfl trivial (by decide +kernel) rfl rfl
    refine lv_aload_n hx hb dX9_married_24 rfl (lv_at hl 0 rfl) ?_
    refine callVI Sx hW (c_X9_everybody l D cI cZ cN b (upA (upA M 17 (prS (M 7) (M 6) (M 17) N Ev)) 0 (upd (M 0) 0 (0 : Int32))) tr N C hN hN7 hC hC4 hC1 ) vmX9_everybody mw454 [0, 1, 2, 3, 4, 5, 6, 7, 8, 9, 10, 11, 12, 13, 14, 15, 16, 17] rfl (by decide) 0 rfl rfl (As := []) (rest := []) rfl rfl hl.1 (Nat.le_of_ble_eq_true rfl) ⟨Nat.le_of_ble_eq_true rfl, Nat.le_of_ble_eq_true rfl⟩ ⟨Nat.le_refl _, Nat.le_refl _⟩ dX9_married_25 (fun rx wx H locs hqx hW => ?_)
    obtain ⟨hrx, rfl⟩ := hqx
    have hW : AtC D (tyG cI cZ cN) Ax (pMod cI cZ b (upA (upA M 17 (prS (M 7) (M 6) (M 17) N Ev)) 0 (upd (M 0) 0 (0 : Int32))) tr) sx H locs := hW.re [] 18 (by decide) rfl rfl trivial (by decide +kernel) rfl rfl
    refine r_eq (y := (evM N)) hrx ?_
    refine r_eq (y := (nI Ev)) hevm ?_
    refine lv_istore_n (lv' := [(2, .int (nI Ev)), (0, .ref (b 0)), (1, .int p0)]) hx hb dX9_married_28 rfl hl (by decide) rfl (fun ls hl => ?_)
    refine lv_iconst (v := (0 : Int32)) hx hb dX9_married_29 rfl ?_
    refine lv_istore_n (lv' := [(3, .int (0 : Int32)), (2, .int (nI Ev)), (0, .ref (b 0)), (1, .int p0)]) hx hb dX9_married_30 rfl hl (by decide) rfl (fun ls hl => ?_)
    have lp_31 : ∀ (n : Nat) (a : Nat), ((a ≤ N)) → ((N + 1 ≤ a + n)) → ∀ (H : Heap) (locs : List Loc) (ls : Array Slot), AtC D (tyG cI cZ cN) Ax (pMod cI cZ b (upA (upA (upA M 16 ((maF (M 7) (M 6) (prS (M 7) (M 6) (M 17) N Ev) N Ev (M 16) a).2)) 17 (prS (M 7) (M 6) (M 17) N Ev)) 0 (upd (M 0) 0 (0 : Int32))) tr) sx H locs → lv_has ls 8 [(0, .ref (b 0)), (1, .int p0), (2, .int (nI ((maF (M 7) (M 6) (prS (M 7) (M 6) (M 17) N Ev) N Ev (M 16) a).1))), (3, .int (nI a))] → W pg l ev (rmN 2) sx mx ax bx mt cx H locs 0 0 Qx (F0 mx 31 ls []) := by
      intro n
      induction n with
      | zero =>
        intro a ha_31 hn_31 H locs ls hW hl
        exact absurd hn_31 (by omega)
      | succ n ih31 =>
        intro a ha_31 hn_31 H locs ls hW hl
        refine lv_iload_n hx hb dX9_married_31 rfl (lv_at hl 3 rfl) ?_
        refine lv_aload_n hx hb dX9_married_32 rfl (lv_at hl 0 rfl) ?_
        refine r_get Sx hW 0 rfl rfl bw_wsX90 9 (by decide) (v := .ref (b 2)) rfl mw115 dX9_married_33 ?_
        refine lv_iconst (v := (1 : Int32)) hx hb dX9_married_36 rfl ?_
        refine r_iald Sx hW 2 0 (f := (M 2)) rfl rfl (j := 1) rfl (by decide) (by decide) dX9_married_37 ?_
        refine r_eq (y := (nI N)) hN ?_
        refine lv_icmp_ge (tgt := 194) hx hb dX9_married_38 rfl (fun c_38 => ?_) (fun c_38 => ?_)
        · have ge_38 : N ≤ a := (nI_leI (a := N) (b := a) (by omega) (by omega)).mp c_38
          have ee_38 : N = a := by omega
          subst ee_38
          refine lv_iload_n hx hb dX9_married_194 rfl (lv_at hl 1 rfl) ?_
          refine lv_iconst (v := (-1 : Int32)) hx hb dX9_married_195 rfl ?_
          refine lv_icmp_ne (tgt := 211) hx hb dX9_married_196 rfl (fun c_196 => ?_) (fun c_196 => ?_)
          · exact absurd c_7 c_196
          · refine lv_aload_n hx hb dX9_married_199 rfl (lv_at hl 0 rfl) ?_
            refine r_get Sx hW 0 rfl rfl bw_wsX90 28 (by decide) (v := .ref (b 17)) rfl mw130 dX9_married_200 ?_
            refine lv_aload_n hx hb dX9_married_203 rfl (lv_at hl 0 rfl) ?_
            refine callVI Sx hW (c_X9_everybody l D cI cZ cN b (upA (upA (upA M 16 ((maF (M 7) (M 6) (prS (M 7) (M 6) (M 17) N Ev) N Ev (M 16) N).2)) 17 (prS (M 7) (M 6) (M 17) N Ev)) 0 (upd (M 0) 0 (0 : Int32))) tr N C hN hN7 hC hC4 hC1 ) vmX9_everybody mw454 [0, 1, 2, 3, 4, 5, 6, 7, 8, 9, 10, 11, 12, 13, 14, 15, 16, 17] rfl (by decide) 0 rfl rfl (As := []) (rest := [.ref (b 17)]) rfl rfl hl.1 (Nat.le_of_ble_eq_true rfl) ⟨Nat.le_of_ble_eq_true rfl, Nat.le_of_ble_eq_true rfl⟩ ⟨Nat.le_refl _, Nat.le_refl _⟩ dX9_married_204 (fun rx wx H locs hqx hW => ?_)
            obtain ⟨hrx, rfl⟩ := hqx
            have hW : AtC D (tyG cI cZ cN) Ax (pMod cI cZ b (upA (upA (upA M 16 ((maF (M 7) (M 6) (prS (M 7) (M 6) (M 17) N Ev) N Ev (M 16) N).2)) 17 (prS (M 7) (M 6) (M 17) N Ev)) 0 (upd (M 0) 0 (0 : Int32))) tr) sx H locs := hW.re [] 18 (by decide) rfl rfl trivial (by decide +kernel) rfl rfl
            refine r_eq (y := (evM N)) hrx ?_
            refine r_eq (y := (nI Ev)) hevm ?_
            refine r_iald Sx hW 17 0 (f := (prS (M 7) (M 6) (M 17) N Ev)) rfl rfl (j := Ev) rfl (by omega) (by decide) dX9_married_207 ?_
            refine lv_goto (tgt := 217) hx hb dX9_married_208 rfl ?_
            exact hret _ _ _ _ _ _ hW rfl rfl dX9_married_217 (⟨by rw [if_pos (Or.inl c_7), if_pos c_196, ← hEv], by rw [if_pos (Or.inl c_7), ← hEv]⟩)
        · have lt_38 : a < N := Nat.not_le.mp (fun h => c_38 ((nI_leI (a := N) (b := a) (by omega) (by omega)).mpr h))
          obtain ⟨lf, hlf⟩ : ∃ q, q = (maF (M 7) (M 6) (prS (M 7) (M 6) (M 17) N Ev) N Ev (M 16) a).1 := ⟨_, rfl⟩
          have hlf2 : lf < 128 := by rw [hlf]; have := ma_le (M 7) (M 6) (prS (M 7) (M 6) (M 17) N Ev) N Ev (M 16) a; omega
          rw [← hlf] at hl
          refine lv_iload_n hx hb dX9_married_41 rfl (lv_at hl 2 rfl) ?_
          refine lv_iload_n hx hb dX9_married_42 rfl (lv_at hl 3 rfl) ?_
          refine lv_ishr hx hb dX9_married_43 ?_
          refine lv_iconst (v := (1 : Int32)) hx hb dX9_married_44 rfl ?_
          refine lv_iand hx hb dX9_married_45 ?_
          refine r_eq (y := (nI (lf / 2 ^ a % 2))) (bt_nat lf hlf2 a (by omega)) ?_
          refine lv_iconst (v := (1 : Int32)) hx hb dX9_married_46 rfl ?_
          refine lv_icmp_ne (tgt := 188) hx hb dX9_married_47 rfl (fun c_47 => ?_) (fun c_47 => ?_)
          · refine lv_iinc (v := (nI (a + 1))) (lv' := [(3, .int (nI (a + 1))), (0, .ref (b 0)), (1, .int p0), (2, .int (nI lf))]) hx hb dX9_married_188 hl (k := 3) rfl (inc_n a 1) (by decide) rfl (fun ls hl => ?_)
            refine lv_goto (tgt := 31) hx hb dX9_married_191 rfl ?_
            have hl_1 : lv_has ls 8 [(0, .ref (b 0)), (1, .int p0), (2, .int (nI ((maF (M 7) (M 6) (prS (M 7) (M 6) (M 17) N Ev) N Ev (M 16) (a + 1)).1))), (3, .int (nI (a + 1)))] := by
              rw [show (nI ((maF (M 7) (M 6) (prS (M 7) (M 6) (M 17) N Ev) N Ev (M 16) (a + 1)).1)) = (nI lf) from by rw [maF, if_neg (by rw [← hlf]; exact c_47), hlf]]
              exact lv_sub hl [1, 2, 3, 0] rfl
            have hW_2 := hW.cong (ws' := (pMod cI cZ b (upA (upA (upA M 16 ((maF (M 7) (M 6) (prS (M 7) (M 6) (M 17) N Ev) N Ev (M 16) (a + 1)).2)) 17 (prS (M 7) (M 6) (M 17) N Ev)) 0 (upd (M 0) 0 (0 : Int32))) tr)) (by first | (rw [show (upA (upA (upA M 16 ((maF (M 7) (M 6) (prS (M 7) (M 6) (M 17) N Ev) N Ev (M 16) (a + 1)).2)) 17 (prS (M 7) (M 6) (M 17) N Ev)) 0 (upd (M 0) 0 (0 : Int32))) = (upA (upA (upA M 16 ((maF (M 7) (M 6) (prS (M 7) (M 6) (M 17) N Ev) N Ev (M 16) a).2)) 17 (prS (M 7) (M 6) (M 17) N Ev)) 0 (upd (M 0) 0 (0 : Int32))) from by rw [maF, if_neg (by rw [← hlf]; exact c_47)]]; done) | (rw [show (upA (upA (upA M 16 ((maF (M 7) (M 6) (prS (M 7) (M 6) (M 17) N Ev) N Ev (M 16) (a + 1)).2)) 17 (prS (M 7) (M 6) (M 17) N Ev)) 0 (upd (M 0) 0 (0 : Int32))) = (upA (upA (upA M 16 ((maF (M 7) (M 6) (prS (M 7) (M 6) (M 17) N Ev) N Ev (M 16) a).2)) 17 (prS (M 7) (M 6) (M 17) N Ev)) 0 (upd (M 0) 0 (0 : Int32))) from by rw [maF, if_neg (by rw [← hlf]; exact c_47)]]; rfl))
            exact ih31 (a + 1) (by omega) (by omega) _ _ _ hW_2 hl_1
          · have hb47 : lf / 2 ^ a % 2 = 1 := (nI_eq (a := lf / 2 ^ a % 2) (b := 1) (by omega) (by decide)).mp c_47
            refine lv_iload_n hx hb dX9_married_50 rfl (lv_at hl 2 rfl) ?_
            refine lv_iconst (v := (1 : Int32)) hx hb dX9_married_51 rfl ?_
            refine lv_iload_n hx hb dX9_married_52 rfl (lv_at hl 3 rfl) ?_
            refine lv_ishl hx hb dX9_married_53 ?_
            refine lv_iconst (v := (-1 : Int32)) hx hb dX9_married_54 rfl ?_
            refine lv_ixor hx hb dX9_married_55 ?_
            refine lv_iand hx hb dX9_married_56 ?_
            refine r_eq (y := (nI (lf - 2 ^ a))) (mk_nat lf hlf2 a (by omega) hb47) ?_
            refine lv_istore (lv' := [(4, .int (nI (lf - 2 ^ a))), (0, .ref (b 0)), (1, .int p0), (2, .int (nI lf)), (3, .int (nI a))]) hx hb dX9_married_57 hl (by decide) rfl (fun ls hl => ?_)
            refine lv_bipush (v := (-9 : Int32)) hx hb dX9_married_59 rfl ?_
            refine lv_istore (lv' := [(5, .int (-9 : Int32)), (4, .int (nI (lf - 2 ^ a))), (0, .ref (b 0)), (1, .int p0), (2, .int (nI lf)), (3, .int (nI a))]) hx hb dX9_married_61 hl (by decide) rfl (fun ls hl => ?_)
            refine lv_aload_n hx hb dX9_married_63 rfl (lv_at hl 2 rfl) ?_
            refine r_get Sx hW 0 rfl rfl bw_wsX90 9 (by decide) (v := .ref (b 2)) rfl mw115 dX9_married_64 ?_
            refine lv_iconst (v := (1 : Int32)) hx hb dX9_married_67 rfl ?_
            refine r_iald Sx hW 2 0 (f := (M 2)) rfl rfl (j := 1) rfl (by decide) (by decide) dX9_married_68 ?_
            refine r_eq (y := (nI N)) hN ?_
            refine lv_iconst (v := (1 : Int32)) hx hb dX9_married_69 rfl ?_
            refine lv_isub hx hb dX9_married_70 ?_
            refine r_eq (y := (nI (N - 1))) (pk_sub (a := N) (b := 1) (by omega)) ?_
            refine lv_istore (lv' := [(6, .int (nI (N - 1))), (5, .int (-9 : Int32)), (4, .int (nI (lf - 2 ^ a))), (0, .ref (b 0)), (1, .int p0), (2, .int (nI lf)), (3, .int (nI a))]) hx hb dX9_married_71 hl (by decide) rfl (fun ls hl => ?_)
            have lp_73 : ∀ (n : Nat) (j : Nat), ((j ≤ N - 1 - a)) → (((N - 1 - a) + 1 ≤ j + n)) → ∀ (H : Heap) (locs : List Loc) (ls : Array Slot), AtC D (tyG cI cZ cN) Ax (pMod cI cZ b (upA (upA (upA M 16 ((maF (M 7) (M 6) (prS (M 7) (M 6) (M 17) N Ev) N Ev (M 16) a).2)) 17 (prS (M 7) (M 6) (M 17) N Ev)) 0 (upd (M 0) 0 (0 : Int32))) tr) sx H locs → lv_has ls 8 [(0, .ref (b 0)), (1, .int p0), (2, .int (nI lf)), (3, .int (nI a)), (4, .int (nI (lf - 2 ^ a))), (5, .int (mI (mtF (M 7) (M 6) (prS (M 7) (M 6) (M 17) N Ev) lf a N j))), (6, .int (nI (N - 1 - j)))] → W pg l ev (rmN 2) sx mx ax bx mt cx H locs 0 0 Qx (F0 mx 73 ls []) := by
              intro n
              induction n with
              | zero =>
                intro j hj hn3 H locs ls hW hl
                exact absurd hn3 (by omega)
              | succ n ih73 =>
                intro j hj hn3 H locs ls hW hl
                refine lv_iload hx hb dX9_married_73 (lv_at hl 6 rfl) ?_
                refine lv_iload_n hx hb dX9_married_75 rfl (lv_at hl 3 rfl) ?_
                refine lv_icmp_le (tgt := 152) hx hb dX9_married_76 rfl (fun c_76 => ?_) (fun c_76 => ?_)
                · have le_76 : N - 1 - j ≤ a := (nI_leI (a := N - 1 - j) (b := a) (by omega) (by omega)).mp c_76
                  have ee_76 : N - 1 - a = j := by omega
                  subst ee_76
                  rcases hmt : (mtF (M 7) (M 6) (prS (M 7) (M 6) (M 17) N Ev) lf a N (N - 1 - a)) with _ | mq
                  · rw [hmt] at hl
                    have hl : lv_has ls 8 [(0, .ref (b 0)), (1, .int p0), (2, .int (nI lf)), (3, .int (nI a)), (4, .int (nI (lf - 2 ^ a))), (5, .int (-9 : Int32)), (6, .int (nI (N - 1 - (N - 1 - a))))] := hl
                    refine lv_aload_n hx hb dX9_married_152 rfl (lv_at hl 0 rfl) ?_
                    refine r_get Sx hW 0 rfl rfl bw_wsX90 27 (by decide) (v := .ref (b 16)) rfl mw129 dX9_married_153 ?_
                    refine lv_iload_n hx hb dX9_married_156 rfl (lv_at hl 3 rfl) ?_
                    refine lv_iload hx hb dX9_married_157 (lv_at hl 5 rfl) ?_
                    refine r_iast Sx hW 16 0 rfl rfl (j := a) rfl (by omega) (by decide) dX9_married_159 (ws' := (pMod cI cZ b (upA (upA (upA M 16 (upd ((maF (M 7) (M 6) (prS (M 7) (M 6) (M 17) N Ev) N Ev (M 16) a).2) a (-9 : Int32))) 17 (prS (M 7) (M 6) (M 17) N Ev)) 0 (upd (M 0) 0 (0 : Int32))) tr)) rfl (fun H locs hW => ?_)
                    refine lv_iload hx hb dX9_married_160 (lv_at hl 4 rfl) ?_
                    refine lv_istore_n (lv' := [(2, .int (nI (lf - 2 ^ a))), (0, .ref (b 0)), (1, .int p0), (3, .int (nI a)), (4, .int (nI (lf - 2 ^ a))), (5, .int (-9 : Int32)), (6, .int (nI (N - 1 - (N - 1 - a))))]) hx hb dX9_married_162 rfl hl (by decide) rfl (fun ls hl => ?_)
                    refine lv_iload hx hb dX9_married_163 (lv_at hl 5 rfl) ?_
                    refine lv_bipush (v := (-9 : Int32)) hx hb dX9_married_165 rfl ?_
                    refine lv_icmp_eq (tgt := 188) hx hb dX9_married_167 rfl (fun c_167 => ?_) (fun c_167 => ?_)
                    · refine lv_iinc (v := (nI (a + 1))) (lv' := [(3, .int (nI (a + 1))), (2, .int (nI (lf - 2 ^ a))), (0, .ref (b 0)), (1, .int p0), (4, .int (nI (lf - 2 ^ a))), (5, .int (-9 : Int32)), (6, .int (nI (N - 1 - (N - 1 - a))))]) hx hb dX9_married_188 hl (k := 3) rfl (inc_n a 1) (by decide) rfl (fun ls hl => ?_)
                      refine lv_goto (tgt := 31) hx hb dX9_married_191 rfl ?_
                      have hl_3 : lv_has ls 8 [(0, .ref (b 0)), (1, .int p0), (2, .int (nI ((maF (M 7) (M 6) (prS (M 7) (M 6) (M 17) N Ev) N Ev (M 16) (a + 1)).1))), (3, .int (nI (a + 1)))] := by
                        rw [show (nI ((maF (M 7) (M 6) (prS (M 7) (M 6) (M 17) N Ev) N Ev (M 16) (a + 1)).1)) = (nI (lf - 2 ^ a)) from by rw [maF, if_pos (by rw [← hlf]; exact c_47), ← hlf, hmt]]
                        exact lv_sub hl [2, 3, 1, 0] rfl
                      have hW_4 := hW.cong (ws' := (pMod cI cZ b (upA (upA (upA M 16 ((maF (M 7) (M 6) (prS (M 7) (M 6) (M 17) N Ev) N Ev (M 16) (a + 1)).2)) 17 (prS (M 7) (M 6) (M 17) N Ev)) 0 (upd (M 0) 0 (0 : Int32))) tr)) (by first | (rw [show (upA (upA (upA M 16 ((maF (M 7) (M 6) (prS (M 7) (M 6) (M 17) N Ev) N Ev (M 16) (a + 1)).2)) 17 (prS (M 7) (M 6) (M 17) N Ev)) 0 (upd (M 0) 0 (0 : Int32))) = (upA (upA (upA M 16 (upd ((maF (M 7) (M 6) (prS (M 7) (M 6) (M 17) N Ev) N Ev (M 16) a).2) a (-9 : Int32))) 17 (prS (M 7) (M 6) (M 17) N Ev)) 0 (upd (M 0) 0 (0 : Int32))) from by rw [maF, if_pos (by rw [← hlf]; exact c_47), ← hlf, hmt]]; done) | (rw [show (upA (upA (upA M 16 ((maF (M 7) (M 6) (prS (M 7) (M 6) (M 17) N Ev) N Ev (M 16) (a + 1)).2)) 17 (prS (M 7) (M 6) (M 17) N Ev)) 0 (upd (M 0) 0 (0 : Int32))) = (upA (upA (upA M 16 (upd ((maF (M 7) (M 6) (prS (M 7) (M 6) (M 17) N Ev) N Ev (M 16) a).2) a (-9 : Int32))) 17 (prS (M 7) (M 6) (M 17) N Ev)) 0 (upd (M 0) 0 (0 : Int32))) from by rw [maF, if_pos (by rw [← hlf]; exact c_47), ← hlf, hmt]]; rfl))
                      exact ih31 (a + 1) (by omega) (by omega) _ _ _ hW_4 hl_3
                    · exact absurd c_167 (by decide)
                  · rw [hmt] at hl
                    have hl : lv_has ls 8 [(0, .ref (b 0)), (1, .int p0), (2, .int (nI lf)), (3, .int (nI a)), (4, .int (nI (lf - 2 ^ a))), (5, .int (nI mq)), (6, .int (nI (N - 1 - (N - 1 - a))))] := hl
                    obtain ⟨hmq, hamq, hbq⟩ := mt_prop hN7 (N - 1 - a) (Nat.le_refl _) lt_38 mq hmt
                    refine lv_aload_n hx hb dX9_married_152 rfl (lv_at hl 0 rfl) ?_
                    refine r_get Sx hW 0 rfl rfl bw_wsX90 27 (by decide) (v := .ref (b 16)) rfl mw129 dX9_married_153 ?_
                    refine lv_iload_n hx hb dX9_married_156 rfl (lv_at hl 3 rfl) ?_
                    refine lv_iload hx hb dX9_married_157 (lv_at hl 5 rfl) ?_
                    refine r_iast Sx hW 16 0 rfl rfl (j := a) rfl (by omega) (by decide) dX9_married_159 (ws' := (pMod cI cZ b (upA (upA (upA M 16 (upd ((maF (M 7) (M 6) (prS (M 7) (M 6) (M 17) N Ev) N Ev (M 16) a).2) a (nI mq))) 17 (prS (M 7) (M 6) (M 17) N Ev)) 0 (upd (M 0) 0 (0 : Int32))) tr)) rfl (fun H locs hW => ?_)
                    refine lv_iload hx hb dX9_married_160 (lv_at hl 4 rfl) ?_
                    refine lv_istore_n (lv' := [(2, .int (nI (lf - 2 ^ a))), (0, .ref (b 0)), (1, .int p0), (3, .int (nI a)), (4, .int (nI (lf - 2 ^ a))), (5, .int (nI mq)), (6, .int (nI (N - 1 - (N - 1 - a))))]) hx hb dX9_married_162 rfl hl (by decide) rfl (fun ls hl => ?_)
                    refine lv_iload hx hb dX9_married_163 (lv_at hl 5 rfl) ?_
                    refine lv_bipush (v := (-9 : Int32)) hx hb dX9_married_165 rfl ?_
                    refine lv_icmp_eq (tgt := 188) hx hb dX9_married_167 rfl (fun c_167 => ?_) (fun c_167 => ?_)
                    · exact absurd c_167 (nI_ne9 (by omega))
                    · refine lv_aload_n hx hb dX9_married_170 rfl (lv_at hl 1 rfl) ?_
                      refine r_get Sx hW 0 rfl rfl bw_wsX90 27 (by decide) (v := .ref (b 16)) rfl mw129 dX9_married_171 ?_
                      refine lv_iload hx hb dX9_married_174 (lv_at hl 5 rfl) ?_
                      refine lv_iload_n hx hb dX9_married_176 rfl (lv_at hl 3 rfl) ?_
                      refine r_iast Sx hW 16 0 rfl rfl (j := mq) rfl (by omega) (by decide) dX9_married_177 (ws' := (pMod cI cZ b (upA (upA (upA M 16 (upd (upd ((maF (M 7) (M 6) (prS (M 7) (M 6) (M 17) N Ev) N Ev (M 16) a).2) a (nI mq)) mq (nI a))) 17 (prS (M 7) (M 6) (M 17) N Ev)) 0 (upd (M 0) 0 (0 : Int32))) tr)) rfl (fun H locs hW => ?_)
                      refine lv_iload hx hb dX9_married_178 (lv_at hl 4 rfl) ?_
                      refine lv_iconst (v := (1 : Int32)) hx hb dX9_married_180 rfl ?_
                      refine lv_iload hx hb dX9_married_181 (lv_at hl 5 rfl) ?_
                      refine lv_ishl hx hb dX9_married_183 ?_
                      refine lv_iconst (v := (-1 : Int32)) hx hb dX9_married_184 rfl ?_
                      refine lv_ixor hx hb dX9_married_185 ?_
                      refine lv_iand hx hb dX9_married_186 ?_
                      refine r_eq (y := (nI (lf - 2 ^ a - 2 ^ mq))) (mk_nat (lf - 2 ^ a) (Nat.lt_of_le_of_lt (Nat.sub_le _ _) hlf2) mq (by omega) hbq) ?_
                      refine lv_istore_n (lv' := [(2, .int (nI (lf - 2 ^ a - 2 ^ mq))), (0, .ref (b 0)), (1, .int p0), (3, .int (nI a)), (4, .int (nI (lf - 2 ^ a))), (5, .int (nI mq)), (6, .int (nI (N - 1 - (N - 1 - a))))]) hx hb dX9_married_187 rfl hl (by decide) rfl (fun ls hl => ?_)
                      refine lv_iinc (v := (nI (a + 1))) (lv' := [(3, .int (nI (a + 1))), (2, .int (nI (lf - 2 ^ a - 2 ^ mq))), (0, .ref (b 0)), (1, .int p0), (4, .int (nI (lf - 2 ^ a))), (5, .int (nI mq)), (6, .int (nI (N - 1 - (N - 1 - a))))]) hx hb dX9_married_188 hl (k := 3) rfl (inc_n a 1) (by decide) rfl (fun ls hl => ?_)
                      refine lv_goto (tgt := 31) hx hb dX9_married_191 rfl ?_
                      have hl_5 : lv_has ls 8 [(0, .ref (b 0)), (1, .int p0), (2, .int (nI ((maF (M 7) (M 6) (prS (M 7) (M 6) (M 17) N Ev) N Ev (M 16) (a + 1)).1))), (3, .int (nI (a + 1)))] := by
                        rw [show (nI ((maF (M 7) (M 6) (prS (M 7) (M 6) (M 17) N Ev) N Ev (M 16) (a + 1)).1)) = (nI (lf - 2 ^ a - 2 ^ mq)) from by rw [maF, if_pos (by rw [← hlf]; exact c_47), ← hlf, hmt]]
                        exact lv_sub hl [2, 3, 1, 0] rfl
                      have hW_6 := hW.cong (ws' := (pMod cI cZ b (upA (upA (upA M 16 ((maF (M 7) (M 6) (prS (M 7) (M 6) (M 17) N Ev) N Ev (M 16) (a + 1)).2)) 17 (prS (M 7) (M 6) (M 17) N Ev)) 0 (upd (M 0) 0 (0 : Int32))) tr)) (by first | (rw [show (upA (upA (upA M 16 ((maF (M 7) (M 6) (prS (M 7) (M 6) (M 17) N Ev) N Ev (M 16) (a + 1)).2)) 17 (prS (M 7) (M 6) (M 17) N Ev)) 0 (upd (M 0) 0 (0 : Int32))) = (upA (upA (upA M 16 (upd (upd ((maF (M 7) (M 6) (prS (M 7) (M 6) (M 17) N Ev) N Ev (M 16) a).2) a (nI mq)) mq (nI a))) 17 (prS (M 7) (M 6) (M 17) N Ev)) 0 (upd (M 0) 0 (0 : Int32))) from by rw [maF, if_pos (by rw [← hlf]; exact c_47), ← hlf, hmt]]; done) | (rw [show (upA (upA (upA M 16 ((maF (M 7) (M 6) (prS (M 7) (M 6) (M 17) N Ev) N Ev (M 16) (a + 1)).2)) 17 (prS (M 7) (M 6) (M 17) N Ev)) 0 (upd (M 0) 0 (0 : Int32))) = (upA (upA (upA M 16 (upd (upd ((maF (M 7) (M 6) (prS (M 7) (M 6) (M 17) N Ev) N Ev (M 16) a).2) a (nI mq)) mq (nI a))) 17 (prS (M 7) (M 6) (M 17) N Ev)) 0 (upd (M 0) 0 (0 : Int32))) from by rw [maF, if_pos (by rw [← hlf]; exact c_47), ← hlf, hmt]]; rfl))
                      exact ih31 (a + 1) (by omega) (by omega) _ _ _ hW_6 hl_5
                · have gt_76 : a < N - 1 - j := Nat.not_le.mp (fun h => c_76 ((nI_leI (a := N - 1 - j) (b := a) (by omega) (by omega)).mpr h))
                  refine lv_iload hx hb dX9_married_79 (lv_at hl 4 rfl) ?_
                  refine lv_iload hx hb dX9_married_81 (lv_at hl 6 rfl) ?_
                  refine lv_ishr hx hb dX9_married_83 ?_
                  refine lv_iconst (v := (1 : Int32)) hx hb dX9_married_84 rfl ?_
                  refine lv_iand hx hb dX9_married_85 ?_
                  refine r_eq (y := (nI ((lf - 2 ^ a) / 2 ^ (N - 1 - j) % 2))) (bt_nat (lf - 2 ^ a) (Nat.lt_of_le_of_lt (Nat.sub_le _ _) hlf2) (N - 1 - j) (by omega)) ?_
                  refine lv_iconst (v := (1 : Int32)) hx hb dX9_married_86 rfl ?_
                  refine lv_icmp_ne (tgt := 129) hx hb dX9_married_87 rfl (fun c_87 => ?_) (fun c_87 => ?_)
                  · refine lv_iconst (v := (0 : Int32)) hx hb dX9_married_129 rfl ?_
                    refine lv_istore (lv' := [(7, .int (0 : Int32)), (0, .ref (b 0)), (1, .int p0), (2, .int (nI lf)), (3, .int (nI a)), (4, .int (nI (lf - 2 ^ a))), (5, .int (mI (mtF (M 7) (M 6) (prS (M 7) (M 6) (M 17) N Ev) lf a N j))), (6, .int (nI (N - 1 - j)))]) hx hb dX9_married_130 hl (by decide) rfl (fun ls hl => ?_)
                    refine lv_iload hx hb dX9_married_132 (lv_at hl 0 rfl) ?_
                    refine lv_if_eq (tgt := 142) hx hb dX9_married_134 rfl (fun c_134 => ?_) (fun c_134 => ?_)
                    · refine lv_iload hx hb dX9_married_142 (lv_at hl 6 rfl) ?_
                      refine lv_istore (lv' := [(5, .int (mI (mtF (M 7) (M 6) (prS (M 7) (M 6) (M 17) N Ev) lf a N j))), (7, .int (0 : Int32)), (0, .ref (b 0)), (1, .int p0), (2, .int (nI lf)), (3, .int (nI a)), (4, .int (nI (lf - 2 ^ a))), (6, .int (nI (N - 1 - j)))]) hx hb dX9_married_144 hl (by decide) rfl (fun ls hl => ?_)
                      refine lv_iinc (v := (nI (N - 1 - (j + 1)))) (lv' := [(6, .int (nI (N - 1 - (j + 1)))), (5, .int (mI (mtF (M 7) (M 6) (prS (M 7) (M 6) (M 17) N Ev) lf a N j))), (7, .int (0 : Int32)), (0, .ref (b 0)), (1, .int p0), (2, .int (nI lf)), (3, .int (nI a)), (4, .int (nI (lf - 2 ^ a)))]) hx hb dX9_married_146 hl (k := 7) rfl (by rw [dec_1 (by omega), show N - 1 - j - 1 = N - 1 - (j + 1) from by omega]) (by decide) rfl (fun ls hl => ?_)
                      refine lv_goto (tgt := 73) hx hb dX9_married_149 rfl ?_
                      have hl_7 : lv_has ls 8 [(0, .ref (b 0)), (1, .int p0), (2, .int (nI lf)), (3, .int (nI a)), (4, .int (nI (lf - 2 ^ a))), (5, .int (mI (mtF (M 7) (M 6) (prS (M 7) (M 6) (M 17) N Ev) lf a N (j + 1)))), (6, .int (nI (N - 1 - (j + 1))))] := by
                        rw [show (mI (mtF (M 7) (M 6) (prS (M 7) (M 6) (M 17) N Ev) lf a N (j + 1))) = (mI (mtF (M 7) (M 6) (prS (M 7) (M 6) (M 17) N Ev) lf a N j)) from by rw [mtF, mbI, if_neg c_87, if_pos rfl] <;> rfl]
                        exact lv_sub hl [3, 4, 5, 6, 7, 1, 0] rfl
                      exact ih73 (j + 1) (by omega) (by omega) _ _ _ hW hl_7
                    · exact absurd c_134 (by decide)
                  · have hb87 : (lf - 2 ^ a) / 2 ^ (N - 1 - j) % 2 = 1 := (nI_eq (a := (lf - 2 ^ a) / 2 ^ (N - 1 - j) % 2) (b := 1) (by omega) (by decide)).mp c_87
                    refine lv_aload_n hx hb dX9_married_90 rfl (lv_at hl 0 rfl) ?_
                    refine lv_iload_n hx hb dX9_married_91 rfl (lv_at hl 3 rfl) ?_
                    refine lv_iload hx hb dX9_married_92 (lv_at hl 6 rfl) ?_
                    refine callVI Sx hW (c_X9_mayMarry l D cI cZ cN b (upA (upA (upA M 16 ((maF (M 7) (M 6) (prS (M 7) (M 6) (M 17) N Ev) N Ev (M 16) a).2)) 17 (prS (M 7) (M 6) (M 17) N Ev)) 0 (upd (M 0) 0 (0 : Int32))) tr N C hN hN7 hC hC4 hC1 a (N - 1 - j) (by omega) (by omega) ) vmX9_mayMarry mw755 [0, 1, 2, 3, 4, 5, 6, 7, 8, 9, 10, 11, 12, 13, 14, 15, 16, 17] rfl (by decide) 0 rfl rfl (As := [.int (nI a), .int (nI (N - 1 - j))]) (rest := []) rfl rfl hl.1 (Nat.le_of_ble_eq_true rfl) ⟨Nat.le_of_ble_eq_true rfl, Nat.le_of_ble_eq_true rfl⟩ ⟨Nat.le_refl _, Nat.le_refl _⟩ dX9_married_94 (fun rx wx H locs hqx hW => ?_)
                    obtain ⟨hrx, rfl⟩ := hqx
                    have hW : AtC D (tyG cI cZ cN) Ax (pMod cI cZ b (upA (upA (upA M 16 ((maF (M 7) (M 6) (prS (M 7) (M 6) (M 17) N Ev) N Ev (M 16) a).2)) 17 (prS (M 7) (M 6) (M 17) N Ev)) 0 (upd (M 0) 0 (0 : Int32))) tr) sx H locs := hW.re [] 18 (by decide) rfl rfl trivial (by decide +kernel) rfl rfl
                    refine r_eq (y := (mmM (M 7) (M 6) a (N - 1 - j))) hrx ?_
                    refine lv_if_eq (tgt := 129) hx hb dX9_married_97 rfl (fun c_97 => ?_) (fun c_97 => ?_)
                    · refine lv_iconst (v := (0 : Int32)) hx hb dX9_married_129 rfl ?_
                      refine lv_istore (lv' := [(7, .int (0 : Int32)), (0, .ref (b 0)), (1, .int p0), (2, .int (nI lf)), (3, .int (nI a)), (4, .int (nI (lf - 2 ^ a))), (5, .int (mI (mtF (M 7) (M 6) (prS (M 7) (M 6) (M 17) N Ev) lf a N j))), (6, .int (nI (N - 1 - j)))]) hx hb dX9_married_130 hl (by decide) rfl (fun ls hl => ?_)
                      refine lv_iload hx hb dX9_married_132 (lv_at hl 0 rfl) ?_
                      refine lv_if_eq (tgt := 142) hx hb dX9_married_134 rfl (fun c_134 => ?_) (fun c_134 => ?_)
                      · refine lv_iload hx hb dX9_married_142 (lv_at hl 6 rfl) ?_
                        refine lv_istore (lv' := [(5, .int (mI (mtF (M 7) (M 6) (prS (M 7) (M 6) (M 17) N Ev) lf a N j))), (7, .int (0 : Int32)), (0, .ref (b 0)), (1, .int p0), (2, .int (nI lf)), (3, .int (nI a)), (4, .int (nI (lf - 2 ^ a))), (6, .int (nI (N - 1 - j)))]) hx hb dX9_married_144 hl (by decide) rfl (fun ls hl => ?_)
                        refine lv_iinc (v := (nI (N - 1 - (j + 1)))) (lv' := [(6, .int (nI (N - 1 - (j + 1)))), (5, .int (mI (mtF (M 7) (M 6) (prS (M 7) (M 6) (M 17) N Ev) lf a N j))), (7, .int (0 : Int32)), (0, .ref (b 0)), (1, .int p0), (2, .int (nI lf)), (3, .int (nI a)), (4, .int (nI (lf - 2 ^ a)))]) hx hb dX9_married_146 hl (k := 7) rfl (by rw [dec_1 (by omega), show N - 1 - j - 1 = N - 1 - (j + 1) from by omega]) (by decide) rfl (fun ls hl => ?_)
                        refine lv_goto (tgt := 73) hx hb dX9_married_149 rfl ?_
                        have hl_8 : lv_has ls 8 [(0, .ref (b 0)), (1, .int p0), (2, .int (nI lf)), (3, .int (nI a)), (4, .int (nI (lf - 2 ^ a))), (5, .int (mI (mtF (M 7) (M 6) (prS (M 7) (M 6) (M 17) N Ev) lf a N (j + 1)))), (6, .int (nI (N - 1 - (j + 1))))] := by
                          rw [show (mI (mtF (M 7) (M 6) (prS (M 7) (M 6) (M 17) N Ev) lf a N (j + 1))) = (mI (mtF (M 7) (M 6) (prS (M 7) (M 6) (M 17) N Ev) lf a N j)) from by rw [mtF, mbI, if_pos c_87, if_pos c_97, if_pos rfl] <;> rfl]
                          exact lv_sub hl [3, 4, 5, 6, 7, 1, 0] rfl
                        exact ih73 (j + 1) (by omega) (by omega) _ _ _ hW hl_8
                      · exact absurd c_134 (by decide)
                    · refine lv_iconst (v := (1 : Int32)) hx hb dX9_married_100 rfl ?_
                      refine lv_aload_n hx hb dX9_married_101 rfl (lv_at hl 0 rfl) ?_
                      refine r_get Sx hW 0 rfl rfl bw_wsX90 28 (by decide) (v := .ref (b 17)) rfl mw130 dX9_married_102 ?_
                      refine lv_iload hx hb dX9_married_105 (lv_at hl 4 rfl) ?_
                      refine lv_iconst (v := (1 : Int32)) hx hb dX9_married_107 rfl ?_
                      refine lv_iload hx hb dX9_married_108 (lv_at hl 6 rfl) ?_
                      refine lv_ishl hx hb dX9_married_110 ?_
                      refine lv_iconst (v := (-1 : Int32)) hx hb dX9_married_111 rfl ?_
                      refine lv_ixor hx hb dX9_married_112 ?_
                      refine lv_iand hx hb dX9_married_113 ?_
                      refine r_eq (y := (nI (lf - 2 ^ a - 2 ^ (N - 1 - j)))) (mk_nat (lf - 2 ^ a) (Nat.lt_of_le_of_lt (Nat.sub_le _ _) hlf2) (N - 1 - j) (by omega) hb87) ?_
                      refine r_iald Sx hW 17 0 (f := (prS (M 7) (M 6) (M 17) N Ev)) rfl rfl (j := lf - 2 ^ a - 2 ^ (N - 1 - j)) rfl (Nat.lt_of_le_of_lt (Nat.sub_le _ _) (Nat.lt_of_le_of_lt (Nat.sub_le _ _) hlf2)) (by decide) dX9_married_114 ?_
                      refine lv_iadd hx hb dX9_married_115 ?_
                      refine lv_aload_n hx hb dX9_married_116 rfl (lv_at hl 0 rfl) ?_
                      refine r_get Sx hW 0 rfl rfl bw_wsX90 28 (by decide) (v := .ref (b 17)) rfl mw130 dX9_married_117 ?_
                      refine lv_iload_n hx hb dX9_married_120 rfl (lv_at hl 2 rfl) ?_
                      refine r_iald Sx hW 17 0 (f := (prS (M 7) (M 6) (M 17) N Ev)) rfl rfl (j := lf) rfl (by omega) (by decide) dX9_married_121 ?_
                      refine lv_icmp_ne (tgt := 129) hx hb dX9_married_122 rfl (fun c_122 => ?_) (fun c_122 => ?_)
                      · refine lv_iconst (v := (0 : Int32)) hx hb dX9_married_129 rfl ?_
                        refine lv_istore (lv' := [(7, .int (0 : Int32)), (0, .ref (b 0)), (1, .int p0), (2, .int (nI lf)), (3, .int (nI a)), (4, .int (nI (lf - 2 ^ a))), (5, .int (mI (mtF (M 7) (M 6) (prS (M 7) (M 6) (M 17) N Ev) lf a N j))), (6, .int (nI (N - 1 - j)))]) hx hb dX9_married_130 hl (by decide) rfl (fun ls hl => ?_)
                        refine lv_iload hx hb dX9_married_132 (lv_at hl 0 rfl) ?_
                        refine lv_if_eq (tgt := 142) hx hb dX9_married_134 rfl (fun c_134 => ?_) (fun c_134 => ?_)
                        · refine lv_iload hx hb dX9_married_142 (lv_at hl 6 rfl) ?_
                          refine lv_istore (lv' := [(5, .int (mI (mtF (M 7) (M 6) (prS (M 7) (M 6) (M 17) N Ev) lf a N j))), (7, .int (0 : Int32)), (0, .ref (b 0)), (1, .int p0), (2, .int (nI lf)), (3, .int (nI a)), (4, .int (nI (lf - 2 ^ a))), (6, .int (nI (N - 1 - j)))]) hx hb dX9_married_144 hl (by decide) rfl (fun ls hl => ?_)
                          refine lv_iinc (v := (nI (N - 1 - (j + 1)))) (lv' := [(6, .int (nI (N - 1 - (j + 1)))), (5, .int (mI (mtF (M 7) (M 6) (prS (M 7) (M 6) (M 17) N Ev) lf a N j))), (7, .int (0 : Int32)), (0, .ref (b 0)), (1, .int p0), (2, .int (nI lf)), (3, .int (nI a)), (4, .int (nI (lf - 2 ^ a)))]) hx hb dX9_married_146 hl (k := 7) rfl (by rw [dec_1 (by omega), show N - 1 - j - 1 = N - 1 - (j + 1) from by omega]) (by decide) rfl (fun ls hl => ?_)
                          refine lv_goto (tgt := 73) hx hb dX9_married_149 rfl ?_
                          have hl_9 : lv_has ls 8 [(0, .ref (b 0)), (1, .int p0), (2, .int (nI lf)), (3, .int (nI a)), (4, .int (nI (lf - 2 ^ a))), (5, .int (mI (mtF (M 7) (M 6) (prS (M 7) (M 6) (M 17) N Ev) lf a N (j + 1)))), (6, .int (nI (N - 1 - (j + 1))))] := by
                            rw [show (mI (mtF (M 7) (M 6) (prS (M 7) (M 6) (M 17) N Ev) lf a N (j + 1))) = (mI (mtF (M 7) (M 6) (prS (M 7) (M 6) (M 17) N Ev) lf a N j)) from by rw [mtF, mbI, if_pos c_87, if_neg c_97, if_neg c_122, if_pos rfl] <;> rfl]
                            exact lv_sub hl [3, 4, 5, 6, 7, 1, 0] rfl
                          exact ih73 (j + 1) (by omega) (by omega) _ _ _ hW hl_9
                        · exact absurd c_134 (by decide)
                      · refine lv_iconst (v := (1 : Int32)) hx hb dX9_married_125 rfl ?_
                        refine lv_goto (tgt := 130) hx hb dX9_married_126 rfl ?_
                        refine lv_istore (lv' := [(7, .int (1 : Int32)), (0, .ref (b 0)), (1, .int p0), (2, .int (nI lf)), (3, .int (nI a)), (4, .int (nI (lf - 2 ^ a))), (5, .int (mI (mtF (M 7) (M 6) (prS (M 7) (M 6) (M 17) N Ev) lf a N j))), (6, .int (nI (N - 1 - j)))]) hx hb dX9_married_130 hl (by decide) rfl (fun ls hl => ?_)
                        refine lv_iload hx hb dX9_married_132 (lv_at hl 0 rfl) ?_
                        refine lv_if_eq (tgt := 142) hx hb dX9_married_134 rfl (fun c_134 => ?_) (fun c_134 => ?_)
                        · exact absurd c_134 (by decide)
                        · refine lv_iload hx hb dX9_married_137 (lv_at hl 7 rfl) ?_
                          refine lv_goto (tgt := 144) hx hb dX9_married_139 rfl ?_
                          refine lv_istore (lv' := [(5, .int (nI (N - 1 - j))), (7, .int (1 : Int32)), (0, .ref (b 0)), (1, .int p0), (2, .int (nI lf)), (3, .int (nI a)), (4, .int (nI (lf - 2 ^ a))), (6, .int (nI (N - 1 - j)))]) hx hb dX9_married_144 hl (by decide) rfl (fun ls hl => ?_)
                          refine lv_iinc (v := (nI (N - 1 - (j + 1)))) (lv' := [(6, .int (nI (N - 1 - (j + 1)))), (5, .int (nI (N - 1 - j))), (7, .int (1 : Int32)), (0, .ref (b 0)), (1, .int p0), (2, .int (nI lf)), (3, .int (nI a)), (4, .int (nI (lf - 2 ^ a)))]) hx hb dX9_married_146 hl (k := 7) rfl (by rw [dec_1 (by omega), show N - 1 - j - 1 = N - 1 - (j + 1) from by omega]) (by decide) rfl (fun ls hl => ?_)
                          refine lv_goto (tgt := 73) hx hb dX9_married_149 rfl ?_
                          have hl_10 : lv_has ls 8 [(0, .ref (b 0)), (1, .int p0), (2, .int (nI lf)), (3, .int (nI a)), (4, .int (nI (lf - 2 ^ a))), (5, .int (mI (mtF (M 7) (M 6) (prS (M 7) (M 6) (M 17) N Ev) lf a N (j + 1)))), (6, .int (nI (N - 1 - (j + 1))))] := by
                            rw [show (mI (mtF (M 7) (M 6) (prS (M 7) (M 6) (M 17) N Ev) lf a N (j + 1))) = (nI (N - 1 - j)) from by rw [mtF, mbI, if_pos c_87, if_neg c_97, if_pos c_122, if_neg (by decide)] <;> rfl]
                            exact lv_sub hl [3, 4, 5, 6, 7, 1, 0] rfl
                          exact ih73 (j + 1) (by omega) (by omega) _ _ _ hW hl_10
            exact lp_73 (N - 1 - a + 1) 0 (by omega) (by omega) _ _ _ hW (lv_sub hl [3, 4, 5, 6, 2, 1, 0] rfl)
    exact lp_31 (N + 1) 0 (by omega) (by omega) _ _ _ hW (lv_sub hl [2, 3, 1, 0] rfl)
  · refine lv_aload_n hx hb dX9_married_10 rfl (lv_at hl 0 rfl) ?_
    refine lv_iload_n hx hb dX9_married_11 rfl (lv_at hl 1 rfl) ?_
    refine callVI Sx hW (c_X9_isPerson l D cI cZ cN b (upA M 0 (upd (M 0) 0 (0 : Int32))) tr N C hN hN7 hC hC4 hC1 p0 ) vmX9_isPerson mw347 [0, 1, 2, 3, 4, 5, 6, 7, 8, 9, 10, 11, 12, 13, 14, 15, 16, 17] rfl (by decide) 0 rfl rfl (As := [.int p0]) (rest := []) rfl rfl hl.1 (Nat.le_of_ble_eq_true rfl) ⟨Nat.le_of_ble_eq_true rfl, Nat.le_of_ble_eq_true rfl⟩ ⟨Nat.le_refl _, Nat.le_refl _⟩ dX9_married_12 (fun rx wx H locs hqx hW => ?_)
    obtain ⟨hrx, rfl⟩ := hqx
    have hW : AtC D (tyG cI cZ cN) Ax (pMod cI cZ b (upA M 0 (upd (M 0) 0 (0 : Int32))) tr) sx H locs := hW.re [] 18 (by decide) rfl rfl trivial (by decide +kernel) rfl rfl
    refine r_eq (y := (inI p0 0 (nI N - 1))) hrx ?_
    refine lv_if_ne (tgt := 20) hx hb dX9_married_15 rfl (fun c_15 => ?_) (fun c_15 => ?_)
    · obtain ⟨P, hP, rfl⟩ := inI_nat (nI_m1 (show N < 1000 by omega)) c_15
      have clP : (nI P).toNatClampNeg = P := nI_clamp (by omega)
      refine lv_aload_n hx hb dX9_married_20 rfl (lv_at hl 0 rfl) ?_
      refine callVV Sx hW (c_X9_pairs l D cI cZ cN b (upA M 0 (upd (M 0) 0 (0 : Int32))) tr N C hN hN7 hC hC4 hC1 ) vmX9_pairs mw751 [0, 1, 2, 3, 4, 5, 6, 7, 8, 9, 10, 11, 12, 13, 14, 15, 16, 17] rfl (by decide) 0 rfl rfl (As := []) (rest := []) rfl rfl hl.1 (Nat.le_of_ble_eq_true rfl) ⟨Nat.le_of_ble_eq_true rfl, Nat.le_of_ble_eq_true rfl⟩ ⟨Nat.le_refl _, Nat.le_refl _⟩ dX9_married_21 (fun wx H locs hqx hW => ?_)
      obtain rfl := hqx
      rw [← hEv] at hW
      have hW : AtC D (tyG cI cZ cN) Ax (pMod cI cZ b (upA (upA M 17 (prS (M 7) (M 6) (M 17) N Ev)) 0 (upd (M 0) 0 (0 : Int32))) tr) sx H locs := hW.re [] 18 (by decide) rfl rfl trivial (by decide +kernel) rfl rfl
      refine lv_aload_n hx hb dX9_married_24 rfl (lv_at hl 0 rfl) ?_
      refine callVI Sx hW (c_X9_everybody l D cI cZ cN b (upA (upA M 17 (prS (M 7) (M 6) (M 17) N Ev)) 0 (upd (M 0) 0 (0 : Int32))) tr N C hN hN7 hC hC4 hC1 ) vmX9_everybody mw454 [0, 1, 2, 3, 4, 5, 6, 7, 8, 9, 10, 11, 12, 13, 14, 15, 16, 17] rfl (by decide) 0 rfl rfl (As := []) (rest := []) rfl rfl hl.1 (Nat.le_of_ble_eq_true rfl) ⟨Nat.le_of_ble_eq_true rfl, Nat.le_of_ble_eq_true rfl⟩ ⟨Nat.le_refl _, Nat.le_refl _⟩ dX9_married_25 (fun rx wx H locs hqx hW => ?_)
      obtain ⟨hrx, rfl⟩ := hqx
      have hW : AtC D (tyG cI cZ cN) Ax (pMod cI cZ b (upA (upA M 17 (prS (M 7) (M 6) (M 17) N Ev)) 0 (upd (M 0) 0 (0 : Int32))) tr) sx H locs := hW.re [] 18 (by decide) rfl rfl trivial (by decide +kernel) rfl rfl
      refine r_eq (y := (evM N)) hrx ?_
      refine r_eq (y := (nI Ev)) hevm ?_
      refine lv_istore_n (lv' := [(2, .int (nI Ev)), (0, .ref (b 0)), (1, .int (nI P))]) hx hb dX9_married_28 rfl hl (by decide) rfl (fun ls hl => ?_)
      refine lv_iconst (v := (0 : Int32)) hx hb dX9_married_29 rfl ?_
      refine lv_istore_n (lv' := [(3, .int (0 : Int32)), (2, .int (nI Ev)), (0, .ref (b 0)), (1, .int (nI P))]) hx hb dX9_married_30 rfl hl (by decide) rfl (fun ls hl => ?_)
      have lp_31 : ∀ (n : Nat) (a : Nat), ((a ≤ N)) → ((N + 1 ≤ a + n)) → ∀ (H : Heap) (locs : List Loc) (ls : Array Slot), AtC D (tyG cI cZ cN) Ax (pMod cI cZ b (upA (upA (upA M 16 ((maF (M 7) (M 6) (prS (M 7) (M 6) (M 17) N Ev) N Ev (M 16) a).2)) 17 (prS (M 7) (M 6) (M 17) N Ev)) 0 (upd (M 0) 0 (0 : Int32))) tr) sx H locs → lv_has ls 8 [(0, .ref (b 0)), (1, .int (nI P)), (2, .int (nI ((maF (M 7) (M 6) (prS (M 7) (M 6) (M 17) N Ev) N Ev (M 16) a).1))), (3, .int (nI a))] → W pg l ev (rmN 2) sx mx ax bx mt cx H locs 0 0 Qx (F0 mx 31 ls []) := by
        intro n
        induction n with
        | zero =>
          intro a ha_31 hn_31 H locs ls hW hl
          exact absurd hn_31 (by omega)
        | succ n ih31 =>
          intro a ha_31 hn_31 H locs ls hW hl
          refine lv_iload_n hx hb dX9_married_31 rfl (lv_at hl 3 rfl) ?_
          refine lv_aload_n hx hb dX9_married_32 rfl (lv_at hl 0 rfl) ?_
          refine r_get Sx hW 0 rfl rfl bw_wsX90 9 (by decide) (v := .ref (b 2)) rfl mw115 dX9_married_33 ?_
          refine lv_iconst (v := (1 : Int32)) hx hb dX9_married_36 rfl ?_
          refine r_iald Sx hW 2 0 (f := (M 2)) rfl rfl (j := 1) rfl (by decide) (by decide) dX9_married_37 ?_
          refine r_eq (y := (nI N)) hN ?_
          refine lv_icmp_ge (tgt := 194) hx hb dX9_married_38 rfl (fun c_38 => ?_) (fun c_38 => ?_)
          · have ge_38 : N ≤ a := (nI_leI (a := N) (b := a) (by omega) (by omega)).mp c_38
            have ee_38 : N = a := by omega
            subst ee_38
            refine lv_iload_n hx hb dX9_married_194 rfl (lv_at hl 1 rfl) ?_
            refine lv_iconst (v := (-1 : Int32)) hx hb dX9_married_195 rfl ?_
            refine lv_icmp_ne (tgt := 211) hx hb dX9_married_196 rfl (fun c_196 => ?_) (fun c_196 => ?_)
            · refine lv_aload_n hx hb dX9_married_211 rfl (lv_at hl 0 rfl) ?_
              refine r_get Sx hW 0 rfl rfl bw_wsX90 27 (by decide) (v := .ref (b 16)) rfl mw129 dX9_married_212 ?_
              refine lv_iload_n hx hb dX9_married_215 rfl (lv_at hl 1 rfl) ?_
              refine r_iald Sx hW 16 0 (f := (maF (M 7) (M 6) (prS (M 7) (M 6) (M 17) N Ev) N Ev (M 16) N).2) rfl rfl (j := P) rfl (by omega) (by decide) dX9_married_216 ?_
              exact hret _ _ _ _ _ _ hW rfl rfl dX9_married_217 (⟨by rw [if_pos (Or.inr c_15), if_neg c_196, ← hEv, clP], by rw [if_pos (Or.inr c_15), ← hEv]⟩)
            · exact absurd c_196 c_7
          · have lt_38 : a < N := Nat.not_le.mp (fun h => c_38 ((nI_leI (a := N) (b := a) (by omega) (by omega)).mpr h))
            obtain ⟨lf, hlf⟩ : ∃ q, q = (maF (M 7) (M 6) (prS (M 7) (M 6) (M 17) N Ev) N Ev (M 16) a).1 := ⟨_, rfl⟩
            have hlf2 : lf < 128 := by rw [hlf]; have := ma_le (M 7) (M 6) (prS (M 7) (M 6) (M 17) N Ev) N Ev (M 16) a; omega
            rw [← hlf] at hl
            refine lv_iload_n hx hb dX9_married_41 rfl (lv_at hl 2 rfl) ?_
            refine lv_iload_n hx hb dX9_married_42 rfl (lv_at hl 3 rfl) ?_
            refine lv_ishr hx hb dX9_married_43 ?_
            refine lv_iconst (v := (1 : Int32)) hx hb dX9_married_44 rfl ?_
            refine lv_iand hx hb dX9_married_45 ?_
            refine r_eq (y := (nI (lf / 2 ^ a % 2))) (bt_nat lf hlf2 a (by omega)) ?_
            refine lv_iconst (v := (1 : Int32)) hx hb dX9_married_46 rfl ?_
            refine lv_icmp_ne (tgt := 188) hx hb dX9_married_47 rfl (fun c_47 => ?_) (fun c_47 => ?_)
            · refine lv_iinc (v := (nI (a + 1))) (lv' := [(3, .int (nI (a + 1))), (0, .ref (b 0)), (1, .int (nI P)), (2, .int (nI lf))]) hx hb dX9_married_188 hl (k := 3) rfl (inc_n a 1) (by decide) rfl (fun ls hl => ?_)
              refine lv_goto (tgt := 31) hx hb dX9_married_191 rfl ?_
              have hl_11 : lv_has ls 8 [(0, .ref (b 0)), (1, .int (nI P)), (2, .int (nI ((maF (M 7) (M 6) (prS (M 7) (M 6) (M 17) N Ev) N Ev (M 16) (a + 1)).1))), (3, .int (nI (a + 1)))] := by
                rw [show (nI ((maF (M 7) (M 6) (prS (M 7) (M 6) (M 17) N Ev) N Ev (M 16) (a + 1)).1)) = (nI lf) from by rw [maF, if_neg (by rw [← hlf]; exact c_47), hlf]]
                exact lv_sub hl [1, 2, 3, 0] rfl
              have hW_12 := hW.cong (ws' := (pMod cI cZ b (upA (upA (upA M 16 ((maF (M 7) (M 6) (prS (M 7) (M 6) (M 17) N Ev) N Ev (M 16) (a + 1)).2)) 17 (prS (M 7) (M 6) (M 17) N Ev)) 0 (upd (M 0) 0 (0 : Int32))) tr)) (by first | (rw [show (upA (upA (upA M 16 ((maF (M 7) (M 6) (prS (M 7) (M 6) (M 17) N Ev) N Ev (M 16) (a + 1)).2)) 17 (prS (M 7) (M 6) (M 17) N Ev)) 0 (upd (M 0) 0 (0 : Int32))) = (upA (upA (upA M 16 ((maF (M 7) (M 6) (prS (M 7) (M 6) (M 17) N Ev) N Ev (M 16) a).2)) 17 (prS (M 7) (M 6) (M 17) N Ev)) 0 (upd (M 0) 0 (0 : Int32))) from by rw [maF, if_neg (by rw [← hlf]; exact c_47)]]; done) | (rw [show (upA (upA (upA M 16 ((maF (M 7) (M 6) (prS (M 7) (M 6) (M 17) N Ev) N Ev (M 16) (a + 1)).2)) 17 (prS (M 7) (M 6) (M 17) N Ev)) 0 (upd (M 0) 0 (0 : Int32))) = (upA (upA (upA M 16 ((maF (M 7) (M 6) (prS (M 7) (M 6) (M 17) N Ev) N Ev (M 16) a).2)) 17 (prS (M 7) (M 6) (M 17) N Ev)) 0 (upd (M 0) 0 (0 : Int32))) from by rw [maF, if_neg (by rw [← hlf]; exact c_47)]]; rfl))
              exact ih31 (a + 1) (by omega) (by omega) _ _ _ hW_12 hl_11
            · have hb47 : lf / 2 ^ a % 2 = 1 := (nI_eq (a := lf / 2 ^ a % 2) (b := 1) (by omega) (by decide)).mp c_47
              refine lv_iload_n hx hb dX9_married_50 rfl (lv_at hl 2 rfl) ?_
              refine lv_iconst (v := (1 : Int32)) hx hb dX9_married_51 rfl ?_
              refine lv_iload_n hx hb dX9_married_52 rfl (lv_at hl 3 rfl) ?_
              refine lv_ishl hx hb dX9_married_53 ?_
              refine lv_iconst (v := (-1 : Int32)) hx hb dX9_married_54 rfl ?_
              refine lv_ixor hx hb dX9_married_55 ?_
              refine lv_iand hx hb dX9_married_56 ?_
              refine r_eq (y := (nI (lf - 2 ^ a))) (mk_nat lf hlf2 a (by omega) hb47) ?_
              refine lv_istore (lv' := [(4, .int (nI (lf - 2 ^ a))), (0, .ref (b 0)), (1, .int (nI P)), (2, .int (nI lf)), (3, .int (nI a))]) hx hb dX9_married_57 hl (by decide) rfl (fun ls hl => ?_)
              refine lv_bipush (v := (-9 : Int32)) hx hb dX9_married_59 rfl ?_
              refine lv_istore (lv' := [(5, .int (-9 : Int32)), (4, .int (nI (lf - 2 ^ a))), (0, .ref (b 0)), (1, .int (nI P)), (2, .int (nI lf)), (3, .int (nI a))]) hx hb dX9_married_61 hl (by decide) rfl (fun ls hl => ?_)
              refine lv_aload_n hx hb dX9_married_63 rfl (lv_at hl 2 rfl) ?_
              refine r_get Sx hW 0 rfl rfl bw_wsX90 9 (by decide) (v := .ref (b 2)) rfl mw115 dX9_married_64 ?_
              refine lv_iconst (v := (1 : Int32)) hx hb dX9_married_67 rfl ?_
              refine r_iald Sx hW 2 0 (f := (M 2)) rfl rfl (j := 1) rfl (by decide) (by decide) dX9_married_68 ?_
              refine r_eq (y := (nI N)) hN ?_
              refine lv_iconst (v := (1 : Int32)) hx hb dX9_married_69 rfl ?_
              refine lv_isub hx hb dX9_married_70 ?_
              refine r_eq (y := (nI (N - 1))) (pk_sub (a := N) (b := 1) (by omega)) ?_
              refine lv_istore (lv' := [(6, .int (nI (N - 1))), (5, .int (-9 : Int32)), (4, .int (nI (lf - 2 ^ a))), (0, .ref (b 0)), (1, .int (nI P)), (2, .int (nI lf)), (3, .int (nI a))]) hx hb dX9_married_71 hl (by decide) rfl (fun ls hl => ?_)
              have lp_73 : ∀ (n : Nat) (j : Nat), ((j ≤ N - 1 - a)) → (((N - 1 - a) + 1 ≤ j + n)) → ∀ (H : Heap) (locs : List Loc) (ls : Array Slot), AtC D (tyG cI cZ cN) Ax (pMod cI cZ b (upA (upA (upA M 16 ((maF (M 7) (M 6) (prS (M 7) (M 6) (M 17) N Ev) N Ev (M 16) a).2)) 17 (prS (M 7) (M 6) (M 17) N Ev)) 0 (upd (M 0) 0 (0 : Int32))) tr) sx H locs → lv_has ls 8 [(0, .ref (b 0)), (1, .int (nI P)), (2, .int (nI lf)), (3, .int (nI a)), (4, .int (nI (lf - 2 ^ a))), (5, .int (mI (mtF (M 7) (M 6) (prS (M 7) (M 6) (M 17) N Ev) lf a N j))), (6, .int (nI (N - 1 - j)))] → W pg l ev (rmN 2) sx mx ax bx mt cx H locs 0 0 Qx (F0 mx 73 ls []) := by
                intro n
                induction n with
                | zero =>
                  intro j hj hn3 H locs ls hW hl
                  exact absurd hn3 (by omega)
                | succ n ih73 =>
                  intro j hj hn3 H locs ls hW hl
                  refine lv_iload hx hb dX9_married_73 (lv_at hl 6 rfl) ?_
                  refine lv_iload_n hx hb dX9_married_75 rfl (lv_at hl 3 rfl) ?_
                  refine lv_icmp_le (tgt := 152) hx hb dX9_married_76 rfl (fun c_76 => ?_) (fun c_76 => ?_)
                  · have le_76 : N - 1 - j ≤ a := (nI_leI (a := N - 1 - j) (b := a) (by omega) (by omega)).mp c_76
                    have ee_76 : N - 1 - a = j := by omega
                    subst ee_76
                    rcases hmt : (mtF (M 7) (M 6) (prS (M 7) (M 6) (M 17) N Ev) lf a N (N - 1 - a)) with _ | mq
                    · rw [hmt] at hl
                      have hl : lv_has ls 8 [(0, .ref (b 0)), (1, .int (nI P)), (2, .int (nI lf)), (3, .int (nI a)), (4, .int (nI (lf - 2 ^ a))), (5, .int (-9 : Int32)), (6, .int (nI (N - 1 - (N - 1 - a))))] := hl
                      refine lv_aload_n hx hb dX9_married_152 rfl (lv_at hl 0 rfl) ?_
                      refine r_get Sx hW 0 rfl rfl bw_wsX90 27 (by decide) (v := .ref (b 16)) rfl mw129 dX9_married_153 ?_
                      refine lv_iload_n hx hb dX9_married_156 rfl (lv_at hl 3 rfl) ?_
                      refine lv_iload hx hb dX9_married_157 (lv_at hl 5 rfl) ?_
                      refine r_iast Sx hW 16 0 rfl rfl (j := a) rfl (by omega) (by decide) dX9_married_159 (ws' := (pMod cI cZ b (upA (upA (upA M 16 (upd ((maF (M 7) (M 6) (prS (M 7) (M 6) (M 17) N Ev) N Ev (M 16) a).2) a (-9 : Int32))) 17 (prS (M 7) (M 6) (M 17) N Ev)) 0 (upd (M 0) 0 (0 : Int32))) tr)) rfl (fun H locs hW => ?_)
                      refine lv_iload hx hb dX9_married_160 (lv_at hl 4 rfl) ?_
                      refine lv_istore_n (lv' := [(2, .int (nI (lf - 2 ^ a))), (0, .ref (b 0)), (1, .int (nI P)), (3, .int (nI a)), (4, .int (nI (lf - 2 ^ a))), (5, .int (-9 : Int32)), (6, .int (nI (N - 1 - (N - 1 - a))))]) hx hb dX9_married_162 rfl hl (by decide) rfl (fun ls hl => ?_)
                      refine lv_iload hx hb dX9_married_163 (lv_at hl 5 rfl) ?_
                      refine lv_bipush (v := (-9 : Int32)) hx hb dX9_married_165 rfl ?_
                      refine lv_icmp_eq (tgt := 188) hx hb dX9_married_167 rfl (fun c_167 => ?_) (fun c_167 => ?_)
                      · refine lv_iinc (v := (nI (a + 1))) (lv' := [(3, .int (nI (a + 1))), (2, .int (nI (lf - 2 ^ a))), (0, .ref (b 0)), (1, .int (nI P)), (4, .int (nI (lf - 2 ^ a))), (5, .int (-9 : Int32)), (6, .int (nI (N - 1 - (N - 1 - a))))]) hx hb dX9_married_188 hl (k := 3) rfl (inc_n a 1) (by decide) rfl (fun ls hl => ?_)
                        refine lv_goto (tgt := 31) hx hb dX9_married_191 rfl ?_
                        have hl_13 : lv_has ls 8 [(0, .ref (b 0)), (1, .int (nI P)), (2, .int (nI ((maF (M 7) (M 6) (prS (M 7) (M 6) (M 17) N Ev) N Ev (M 16) (a + 1)).1))), (3, .int (nI (a + 1)))] := by
                          rw [show (nI ((maF (M 7) (M 6) (prS (M 7) (M 6) (M 17) N Ev) N Ev (M 16) (a + 1)).1)) = (nI (lf - 2 ^ a)) from by rw [maF, if_pos (by rw [← hlf]; exact c_47), ← hlf, hmt]]
                          exact lv_sub hl [2, 3, 1, 0] rfl
                        have hW_14 := hW.cong (ws' := (pMod cI cZ b (upA (upA (upA M 16 ((maF (M 7) (M 6) (prS (M 7) (M 6) (M 17) N Ev) N Ev (M 16) (a + 1)).2)) 17 (prS (M 7) (M 6) (M 17) N Ev)) 0 (upd (M 0) 0 (0 : Int32))) tr)) (by first | (rw [show (upA (upA (upA M 16 ((maF (M 7) (M 6) (prS (M 7) (M 6) (M 17) N Ev) N Ev (M 16) (a + 1)).2)) 17 (prS (M 7) (M 6) (M 17) N Ev)) 0 (upd (M 0) 0 (0 : Int32))) = (upA (upA (upA M 16 (upd ((maF (M 7) (M 6) (prS (M 7) (M 6) (M 17) N Ev) N Ev (M 16) a).2) a (-9 : Int32))) 17 (prS (M 7) (M 6) (M 17) N Ev)) 0 (upd (M 0) 0 (0 : Int32))) from by rw [maF, if_pos (by rw [← hlf]; exact c_47), ← hlf, hmt]]; done) | (rw [show (upA (upA (upA M 16 ((maF (M 7) (M 6) (prS (M 7) (M 6) (M 17) N Ev) N Ev (M 16) (a + 1)).2)) 17 (prS (M 7) (M 6) (M 17) N Ev)) 0 (upd (M 0) 0 (0 : Int32))) = (upA (upA (upA M 16 (upd ((maF (M 7) (M 6) (prS (M 7) (M 6) (M 17) N Ev) N Ev (M 16) a).2) a (-9 : Int32))) 17 (prS (M 7) (M 6) (M 17) N Ev)) 0 (upd (M 0) 0 (0 : Int32))) from by rw [maF, if_pos (by rw [← hlf]; exact c_47), ← hlf, hmt]]; rfl))
                        exact ih31 (a + 1) (by omega) (by omega) _ _ _ hW_14 hl_13
                      · exact absurd c_167 (by decide)
                    · rw [hmt] at hl
                      have hl : lv_has ls 8 [(0, .ref (b 0)), (1, .int (nI P)), (2, .int (nI lf)), (3, .int (nI a)), (4, .int (nI (lf - 2 ^ a))), (5, .int (nI mq)), (6, .int (nI (N - 1 - (N - 1 - a))))] := hl
                      obtain ⟨hmq, hamq, hbq⟩ := mt_prop hN7 (N - 1 - a) (Nat.le_refl _) lt_38 mq hmt
                      refine lv_aload_n hx hb dX9_married_152 rfl (lv_at hl 0 rfl) ?_
                      refine r_get Sx hW 0 rfl rfl bw_wsX90 27 (by decide) (v := .ref (b 16)) rfl mw129 dX9_married_153 ?_
                      refine lv_iload_n hx hb dX9_married_156 rfl (lv_at hl 3 rfl) ?_
                      refine lv_iload hx hb dX9_married_157 (lv_at hl 5 rfl) ?_
                      refine r_iast Sx hW 16 0 rfl rfl (j := a) rfl (by omega) (by decide) dX9_married_159 (ws' := (pMod cI cZ b (upA (upA (upA M 16 (upd ((maF (M 7) (M 6) (prS (M 7) (M 6) (M 17) N Ev) N Ev (M 16) a).2) a (nI mq))) 17 (prS (M 7) (M 6) (M 17) N Ev)) 0 (upd (M 0) 0 (0 : Int32))) tr)) rfl (fun H locs hW => ?_)
                      refine lv_iload hx hb dX9_married_160 (lv_at hl 4 rfl) ?_
                      refine lv_istore_n (lv' := [(2, .int (nI (lf - 2 ^ a))), (0, .ref (b 0)), (1, .int (nI P)), (3, .int (nI a)), (4, .int (nI (lf - 2 ^ a))), (5, .int (nI mq)), (6, .int (nI (N - 1 - (N - 1 - a))))]) hx hb dX9_married_162 rfl hl (by decide) rfl (fun ls hl => ?_)
                      refine lv_iload hx hb dX9_married_163 (lv_at hl 5 rfl) ?_
                      refine lv_bipush (v := (-9 : Int32)) hx hb dX9_married_165 rfl ?_
                      refine lv_icmp_eq (tgt := 188) hx hb dX9_married_167 rfl (fun c_167 => ?_) (fun c_167 => ?_)
                      · exact absurd c_167 (nI_ne9 (by omega))
                      · refine lv_aload_n hx hb dX9_married_170 rfl (lv_at hl 1 rfl) ?_
                        refine r_get Sx hW 0 rfl rfl bw_wsX90 27 (by decide) (v := .ref (b 16)) rfl mw129 dX9_married_171 ?_
                        refine lv_iload hx hb dX9_married_174 (lv_at hl 5 rfl) ?_
                        refine lv_iload_n hx hb dX9_married_176 rfl (lv_at hl 3 rfl) ?_
                        refine r_iast Sx hW 16 0 rfl rfl (j := mq) rfl (by omega) (by decide) dX9_married_177 (ws' := (pMod cI cZ b (upA (upA (upA M 16 (upd (upd ((maF (M 7) (M 6) (prS (M 7) (M 6) (M 17) N Ev) N Ev (M 16) a).2) a (nI mq)) mq (nI a))) 17 (prS (M 7) (M 6) (M 17) N Ev)) 0 (upd (M 0) 0 (0 : Int32))) tr)) rfl (fun H locs hW => ?_)
                        refine lv_iload hx hb dX9_married_178 (lv_at hl 4 rfl) ?_
                        refine lv_iconst (v := (1 : Int32)) hx hb dX9_married_180 rfl ?_
                        refine lv_iload hx hb dX9_married_181 (lv_at hl 5 rfl) ?_
                        refine lv_ishl hx hb dX9_married_183 ?_
                        refine lv_iconst (v := (-1 : Int32)) hx hb dX9_married_184 rfl ?_
                        refine lv_ixor hx hb dX9_married_185 ?_
                        refine lv_iand hx hb dX9_married_186 ?_
                        refine r_eq (y := (nI (lf - 2 ^ a - 2 ^ mq))) (mk_nat (lf - 2 ^ a) (Nat.lt_of_le_of_lt (Nat.sub_le _ _) hlf2) mq (by omega) hbq) ?_
                        refine lv_istore_n (lv' := [(2, .int (nI (lf - 2 ^ a - 2 ^ mq))), (0, .ref (b 0)), (1, .int (nI P)), (3, .int (nI a)), (4, .int (nI (lf - 2 ^ a))), (5, .int (nI mq)), (6, .int (nI (N - 1 - (N - 1 - a))))]) hx hb dX9_married_187 rfl hl (by decide) rfl (fun ls hl => ?_)
                        refine lv_iinc (v := (nI (a + 1))) (lv' := [(3, .int (nI (a + 1))), (2, .int (nI (lf - 2 ^ a - 2 ^ mq))), (0, .ref (b 0)), (1, .int (nI P)), (4, .int (nI (lf - 2 ^ a))), (5, .int (nI mq)), (6, .int (nI (N - 1 - (N - 1 - a))))]) hx hb dX9_married_188 hl (k := 3) rfl (inc_n a 1) (by decide) rfl (fun ls hl => ?_)
                        refine lv_goto (tgt := 31) hx hb dX9_married_191 rfl ?_
                        have hl_15 : lv_has ls 8 [(0, .ref (b 0)), (1, .int (nI P)), (2, .int (nI ((maF (M 7) (M 6) (prS (M 7) (M 6) (M 17) N Ev) N Ev (M 16) (a + 1)).1))), (3, .int (nI (a + 1)))] := by
                          rw [show (nI ((maF (M 7) (M 6) (prS (M 7) (M 6) (M 17) N Ev) N Ev (M 16) (a + 1)).1)) = (nI (lf - 2 ^ a - 2 ^ mq)) from by rw [maF, if_pos (by rw [← hlf]; exact c_47), ← hlf, hmt]]
                          exact lv_sub hl [2, 3, 1, 0] rfl
                        have hW_16 := hW.cong (ws' := (pMod cI cZ b (upA (upA (upA M 16 ((maF (M 7) (M 6) (prS (M 7) (M 6) (M 17) N Ev) N Ev (M 16) (a + 1)).2)) 17 (prS (M 7) (M 6) (M 17) N Ev)) 0 (upd (M 0) 0 (0 : Int32))) tr)) (by first | (rw [show (upA (upA (upA M 16 ((maF (M 7) (M 6) (prS (M 7) (M 6) (M 17) N Ev) N Ev (M 16) (a + 1)).2)) 17 (prS (M 7) (M 6) (M 17) N Ev)) 0 (upd (M 0) 0 (0 : Int32))) = (upA (upA (upA M 16 (upd (upd ((maF (M 7) (M 6) (prS (M 7) (M 6) (M 17) N Ev) N Ev (M 16) a).2) a (nI mq)) mq (nI a))) 17 (prS (M 7) (M 6) (M 17) N Ev)) 0 (upd (M 0) 0 (0 : Int32))) from by rw [maF, if_pos (by rw [← hlf]; exact c_47), ← hlf, hmt]]; done) | (rw [show (upA (upA (upA M 16 ((maF (M 7) (M 6) (prS (M 7) (M 6) (M 17) N Ev) N Ev (M 16) (a + 1)).2)) 17 (prS (M 7) (M 6) (M 17) N Ev)) 0 (upd (M 0) 0 (0 : Int32))) = (upA (upA (upA M 16 (upd (upd ((maF (M 7) (M 6) (prS (M 7) (M 6) (M 17) N Ev) N Ev (M 16) a).2) a (nI mq)) mq (nI a))) 17 (prS (M 7) (M 6) (M 17) N Ev)) 0 (upd (M 0) 0 (0 : Int32))) from by rw [maF, if_pos (by rw [← hlf]; exact c_47), ← hlf, hmt]]; rfl))
                        exact ih31 (a + 1) (by omega) (by omega) _ _ _ hW_16 hl_15
                  · have gt_76 : a < N - 1 - j := Nat.not_le.mp (fun h => c_76 ((nI_leI (a := N - 1 - j) (b := a) (by omega) (by omega)).mpr h))
                    refine lv_iload hx hb dX9_married_79 (lv_at hl 4 rfl) ?_
                    refine lv_iload hx hb dX9_married_81 (lv_at hl 6 rfl) ?_
                    refine lv_ishr hx hb dX9_married_83 ?_
                    refine lv_iconst (v := (1 : Int32)) hx hb dX9_married_84 rfl ?_
                    refine lv_iand hx hb dX9_married_85 ?_
                    refine r_eq (y := (nI ((lf - 2 ^ a) / 2 ^ (N - 1 - j) % 2))) (bt_nat (lf - 2 ^ a) (Nat.lt_of_le_of_lt (Nat.sub_le _ _) hlf2) (N - 1 - j) (by omega)) ?_
                    refine lv_iconst (v := (1 : Int32)) hx hb dX9_married_86 rfl ?_
                    refine lv_icmp_ne (tgt := 129) hx hb dX9_married_87 rfl (fun c_87 => ?_) (fun c_87 => ?_)
                    · refine lv_iconst (v := (0 : Int32)) hx hb dX9_married_129 rfl ?_
                      refine lv_istore (lv' := [(7, .int (0 : Int32)), (0, .ref (b 0)), (1, .int (nI P)), (2, .int (nI lf)), (3, .int (nI a)), (4, .int (nI (lf - 2 ^ a))), (5, .int (mI (mtF (M 7) (M 6) (prS (M 7) (M 6) (M 17) N Ev) lf a N j))), (6, .int (nI (N - 1 - j)))]) hx hb dX9_married_130 hl (by decide) rfl (fun ls hl => ?_)
                      refine lv_iload hx hb dX9_married_132 (lv_at hl 0 rfl) ?_
                      refine lv_if_eq (tgt := 142) hx hb dX9_married_134 rfl (fun c_134 => ?_) (fun c_134 => ?_)
                      · refine lv_iload hx hb dX9_married_142 (lv_at hl 6 rfl) ?_
                        refine lv_istore (lv' := [(5, .int (mI (mtF (M 7) (M 6) (prS (M 7) (M 6) (M 17) N Ev) lf a N j))), (7, .int (0 : Int32)), (0, .ref (b 0)), (1, .int (nI P)), (2, .int (nI lf)), (3, .int (nI a)), (4, .int (nI (lf - 2 ^ a))), (6, .int (nI (N - 1 - j)))]) hx hb dX9_married_144 hl (by decide) rfl (fun ls hl => ?_)
                        refine lv_iinc (v := (nI (N - 1 - (j + 1)))) (lv' := [(6, .int (nI (N - 1 - (j + 1)))), (5, .int (mI (mtF (M 7) (M 6) (prS (M 7) (M 6) (M 17) N Ev) lf a N j))), (7, .int (0 : Int32)), (0, .ref (b 0)), (1, .int (nI P)), (2, .int (nI lf)), (3, .int (nI a)), (4, .int (nI (lf - 2 ^ a)))]) hx hb dX9_married_146 hl (k := 7) rfl (by rw [dec_1 (by omega), show N - 1 - j - 1 = N - 1 - (j + 1) from by omega]) (by decide) rfl (fun ls hl => ?_)
                        refine lv_goto (tgt := 73) hx hb dX9_married_149 rfl ?_
                        have hl_17 : lv_has ls 8 [(0, .ref (b 0)), (1, .int (nI P)), (2, .int (nI lf)), (3, .int (nI a)), (4, .int (nI (lf - 2 ^ a))), (5, .int (mI (mtF (M 7) (M 6) (prS (M 7) (M 6) (M 17) N Ev) lf a N (j + 1)))), (6, .int (nI (N - 1 - (j + 1))))] := by
                          rw [show (mI (mtF (M 7) (M 6) (prS (M 7) (M 6) (M 17) N Ev) lf a N (j + 1))) = (mI (mtF (M 7) (M 6) (prS (M 7) (M 6) (M 17) N Ev) lf a N j)) from by rw [mtF, mbI, if_neg c_87, if_pos rfl] <;> rfl]
                          exact lv_sub hl [3, 4, 5, 6, 7, 1, 0] rfl
                        exact ih73 (j + 1) (by omega) (by omega) _ _ _ hW hl_17
                      · exact absurd c_134 (by decide)
                    · have hb87 : (lf - 2 ^ a) / 2 ^ (N - 1 - j) % 2 = 1 := (nI_eq (a := (lf - 2 ^ a) / 2 ^ (N - 1 - j) % 2) (b := 1) (by omega) (by decide)).mp c_87
                      refine lv_aload_n hx hb dX9_married_90 rfl (lv_at hl 0 rfl) ?_
                      refine lv_iload_n hx hb dX9_married_91 rfl (lv_at hl 3 rfl) ?_
                      refine lv_iload hx hb dX9_married_92 (lv_at hl 6 rfl) ?_
                      refine callVI Sx hW (c_X9_mayMarry l D cI cZ cN b (upA (upA (upA M 16 ((maF (M 7) (M 6) (prS (M 7) (M 6) (M 17) N Ev) N Ev (M 16) a).2)) 17 (prS (M 7) (M 6) (M 17) N Ev)) 0 (upd (M 0) 0 (0 : Int32))) tr N C hN hN7 hC hC4 hC1 a (N - 1 - j) (by omega) (by omega) ) vmX9_mayMarry mw755 [0, 1, 2, 3, 4, 5, 6, 7, 8, 9, 10, 11, 12, 13, 14, 15, 16, 17] rfl (by decide) 0 rfl rfl (As := [.int (nI a), .int (nI (N - 1 - j))]) (rest := []) rfl rfl hl.1 (Nat.le_of_ble_eq_true rfl) ⟨Nat.le_of_ble_eq_true rfl, Nat.le_of_ble_eq_true rfl⟩ ⟨Nat.le_refl _, Nat.le_refl _⟩ dX9_married_94 (fun rx wx H locs hqx hW => ?_)
                      obtain ⟨hrx, rfl⟩ := hqx
                      have hW : AtC D (tyG cI cZ cN) Ax (pMod cI cZ b (upA (upA (upA M 16 ((maF (M 7) (M 6) (prS (M 7) (M 6) (M 17) N Ev) N Ev (M 16) a).2)) 17 (prS (M 7) (M 6) (M 17) N Ev)) 0 (upd (M 0) 0 (0 : Int32))) tr) sx H locs := hW.re [] 18 (by decide) rfl rfl trivial (by decide +kernel) rfl rfl
                      refine r_eq (y := (mmM (M 7) (M 6) a (N - 1 - j))) hrx ?_
                      refine lv_if_eq (tgt := 129) hx hb dX9_married_97 rfl (fun c_97 => ?_) (fun c_97 => ?_)
                      · refine lv_iconst (v := (0 : Int32)) hx hb dX9_married_129 rfl ?_
                        refine lv_istore (lv' := [(7, .int (0 : Int32)), (0, .ref (b 0)), (1, .int (nI P)), (2, .int (nI lf)), (3, .int (nI a)), (4, .int (nI (lf - 2 ^ a))), (5, .int (mI (mtF (M 7) (M 6) (prS (M 7) (M 6) (M 17) N Ev) lf a N j))), (6, .int (nI (N - 1 - j)))]) hx hb dX9_married_130 hl (by decide) rfl (fun ls hl => ?_)
                        refine lv_iload hx hb dX9_married_132 (lv_at hl 0 rfl) ?_
                        refine lv_if_eq (tgt := 142) hx hb dX9_married_134 rfl (fun c_134 => ?_) (fun c_134 => ?_)
                        · refine lv_iload hx hb dX9_married_142 (lv_at hl 6 rfl) ?_
                          refine lv_istore (lv' := [(5, .int (mI (mtF (M 7) (M 6) (prS (M 7) (M 6) (M 17) N Ev) lf a N j))), (7, .int (0 : Int32)), (0, .ref (b 0)), (1, .int (nI P)), (2, .int (nI lf)), (3, .int (nI a)), (4, .int (nI (lf - 2 ^ a))), (6, .int (nI (N - 1 - j)))]) hx hb dX9_married_144 hl (by decide) rfl (fun ls hl => ?_)
                          refine lv_iinc (v := (nI (N - 1 - (j + 1)))) (lv' := [(6, .int (nI (N - 1 - (j + 1)))), (5, .int (mI (mtF (M 7) (M 6) (prS (M 7) (M 6) (M 17) N Ev) lf a N j))), (7, .int (0 : Int32)), (0, .ref (b 0)), (1, .int (nI P)), (2, .int (nI lf)), (3, .int (nI a)), (4, .int (nI (lf - 2 ^ a)))]) hx hb dX9_married_146 hl (k := 7) rfl (by rw [dec_1 (by omega), show N - 1 - j - 1 = N - 1 - (j + 1) from by omega]) (by decide) rfl (fun ls hl => ?_)
                          refine lv_goto (tgt := 73) hx hb dX9_married_149 rfl ?_
                          have hl_18 : lv_has ls 8 [(0, .ref (b 0)), (1, .int (nI P)), (2, .int (nI lf)), (3, .int (nI a)), (4, .int (nI (lf - 2 ^ a))), (5, .int (mI (mtF (M 7) (M 6) (prS (M 7) (M 6) (M 17) N Ev) lf a N (j + 1)))), (6, .int (nI (N - 1 - (j + 1))))] := by
                            rw [show (mI (mtF (M 7) (M 6) (prS (M 7) (M 6) (M 17) N Ev) lf a N (j + 1))) = (mI (mtF (M 7) (M 6) (prS (M 7) (M 6) (M 17) N Ev) lf a N j)) from by rw [mtF, mbI, if_pos c_87, if_pos c_97, if_pos rfl] <;> rfl]
                            exact lv_sub hl [3, 4, 5, 6, 7, 1, 0] rfl
                          exact ih73 (j + 1) (by omega) (by omega) _ _ _ hW hl_18
                        · exact absurd c_134 (by decide)
                      · refine lv_iconst (v := (1 : Int32)) hx hb dX9_married_100 rfl ?_
                        refine lv_aload_n hx hb dX9_married_101 rfl (lv_at hl 0 rfl) ?_
                        refine r_get Sx hW 0 rfl rfl bw_wsX90 28 (by decide) (v := .ref (b 17)) rfl mw130 dX9_married_102 ?_
                        refine lv_iload hx hb dX9_married_105 (lv_at hl 4 rfl) ?_
                        refine lv_iconst (v := (1 : Int32)) hx hb dX9_married_107 rfl ?_
                        refine lv_iload hx hb dX9_married_108 (lv_at hl 6 rfl) ?_
                        refine lv_ishl hx hb dX9_married_110 ?_
                        refine lv_iconst (v := (-1 : Int32)) hx hb dX9_married_111 rfl ?_
                        refine lv_ixor hx hb dX9_married_112 ?_
                        refine lv_iand hx hb dX9_married_113 ?_
                        refine r_eq (y := (nI (lf - 2 ^ a - 2 ^ (N - 1 - j)))) (mk_nat (lf - 2 ^ a) (Nat.lt_of_le_of_lt (Nat.sub_le _ _) hlf2) (N - 1 - j) (by omega) hb87) ?_
                        refine r_iald Sx hW 17 0 (f := (prS (M 7) (M 6) (M 17) N Ev)) rfl rfl (j := lf - 2 ^ a - 2 ^ (N - 1 - j)) rfl (Nat.lt_of_le_of_lt (Nat.sub_le _ _) (Nat.lt_of_le_of_lt (Nat.sub_le _ _) hlf2)) (by decide) dX9_married_114 ?_
                        refine lv_iadd hx hb dX9_married_115 ?_
                        refine lv_aload_n hx hb dX9_married_116 rfl (lv_at hl 0 rfl) ?_
                        refine r_get Sx hW 0 rfl rfl bw_wsX90 28 (by decide) (v := .ref (b 17)) rfl mw130 dX9_married_117 ?_
                        refine lv_iload_n hx hb dX9_married_120 rfl (lv_at hl 2 rfl) ?_
                        refine r_iald Sx hW 17 0 (f := (prS (M 7) (M 6) (M 17) N Ev)) rfl rfl (j := lf) rfl (by omega) (by decide) dX9_married_121 ?_
                        refine lv_icmp_ne (tgt := 129) hx hb dX9_married_122 rfl (fun c_122 => ?_) (fun c_122 => ?_)
                        · refine lv_iconst (v := (0 : Int32)) hx hb dX9_married_129 rfl ?_
                          refine lv_istore (lv' := [(7, .int (0 : Int32)), (0, .ref (b 0)), (1, .int (nI P)), (2, .int (nI lf)), (3, .int (nI a)), (4, .int (nI (lf - 2 ^ a))), (5, .int (mI (mtF (M 7) (M 6) (prS (M 7) (M 6) (M 17) N Ev) lf a N j))), (6, .int (nI (N - 1 - j)))]) hx hb dX9_married_130 hl (by decide) rfl (fun ls hl => ?_)
                          refine lv_iload hx hb dX9_married_132 (lv_at hl 0 rfl) ?_
                          refine lv_if_eq (tgt := 142) hx hb dX9_married_134 rfl (fun c_134 => ?_) (fun c_134 => ?_)
                          · refine lv_iload hx hb dX9_married_142 (lv_at hl 6 rfl) ?_
                            refine lv_istore (lv' := [(5, .int (mI (mtF (M 7) (M 6) (prS (M 7) (M 6) (M 17) N Ev) lf a N j))), (7, .int (0 : Int32)), (0, .ref (b 0)), (1, .int (nI P)), (2, .int (nI lf)), (3, .int (nI a)), (4, .int (nI (lf - 2 ^ a))), (6, .int (nI (N - 1 - j)))]) hx hb dX9_married_144 hl (by decide) rfl (fun ls hl => ?_)
                            refine lv_iinc (v := (nI (N - 1 - (j + 1)))) (lv' := [(6, .int (nI (N - 1 - (j + 1)))), (5, .int (mI (mtF (M 7) (M 6) (prS (M 7) (M 6) (M 17) N Ev) lf a N j))), (7, .int (0 : Int32)), (0, .ref (b 0)), (1, .int (nI P)), (2, .int (nI lf)), (3, .int (nI a)), (4, .int (nI (lf - 2 ^ a)))]) hx hb dX9_married_146 hl (k := 7) rfl (by rw [dec_1 (by omega), show N - 1 - j - 1 = N - 1 - (j + 1) from by omega]) (by decide) rfl (fun ls hl => ?_)
                            refine lv_goto (tgt := 73) hx hb dX9_married_149 rfl ?_
                            have hl_19 : lv_has ls 8 [(0, .ref (b 0)), (1, .int (nI P)), (2, .int (nI lf)), (3, .int (nI a)), (4, .int (nI (lf - 2 ^ a))), (5, .int (mI (mtF (M 7) (M 6) (prS (M 7) (M 6) (M 17) N Ev) lf a N (j + 1)))), (6, .int (nI (N - 1 - (j + 1))))] := by
                              rw [show (mI (mtF (M 7) (M 6) (prS (M 7) (M 6) (M 17) N Ev) lf a N (j + 1))) = (mI (mtF (M 7) (M 6) (prS (M 7) (M 6) (M 17) N Ev) lf a N j)) from by rw [mtF, mbI, if_pos c_87, if_neg c_97, if_neg c_122, if_pos rfl] <;> rfl]
                              exact lv_sub hl [3, 4, 5, 6, 7, 1, 0] rfl
                            exact ih73 (j + 1) (by omega) (by omega) _ _ _ hW hl_19
                          · exact absurd c_134 (by decide)
                        · refine lv_iconst (v := (1 : Int32)) hx hb dX9_married_125 rfl ?_
                          refine lv_goto (tgt := 130) hx hb dX9_married_126 rfl ?_
                          refine lv_istore (lv' := [(7, .int (1 : Int32)), (0, .ref (b 0)), (1, .int (nI P)), (2, .int (nI lf)), (3, .int (nI a)), (4, .int (nI (lf - 2 ^ a))), (5, .int (mI (mtF (M 7) (M 6) (prS (M 7) (M 6) (M 17) N Ev) lf a N j))), (6, .int (nI (N - 1 - j)))]) hx hb dX9_married_130 hl (by decide) rfl (fun ls hl => ?_)
                          refine lv_iload hx hb dX9_married_132 (lv_at hl 0 rfl) ?_
                          refine lv_if_eq (tgt := 142) hx hb dX9_married_134 rfl (fun c_134 => ?_) (fun c_134 => ?_)
                          · exact absurd c_134 (by decide)
                          · refine lv_iload hx hb dX9_married_137 (lv_at hl 7 rfl) ?_
                            refine lv_goto (tgt := 144) hx hb dX9_married_139 rfl ?_
                            refine lv_istore (lv' := [(5, .int (nI (N - 1 - j))), (7, .int (1 : Int32)), (0, .ref (b 0)), (1, .int (nI P)), (2, .int (nI lf)), (3, .int (nI a)), (4, .int (nI (lf - 2 ^ a))), (6, .int (nI (N - 1 - j)))]) hx hb dX9_married_144 hl (by decide) rfl (fun ls hl => ?_)
                            refine lv_iinc (v := (nI (N - 1 - (j + 1)))) (lv' := [(6, .int (nI (N - 1 - (j + 1)))), (5, .int (nI (N - 1 - j))), (7, .int (1 : Int32)), (0, .ref (b 0)), (1, .int (nI P)), (2, .int (nI lf)), (3, .int (nI a)), (4, .int (nI (lf - 2 ^ a)))]) hx hb dX9_married_146 hl (k := 7) rfl (by rw [dec_1 (by omega), show N - 1 - j - 1 = N - 1 - (j + 1) from by omega]) (by decide) rfl (fun ls hl => ?_)
                            refine lv_goto (tgt := 73) hx hb dX9_married_149 rfl ?_
                            have hl_20 : lv_has ls 8 [(0, .ref (b 0)), (1, .int (nI P)), (2, .int (nI lf)), (3, .int (nI a)), (4, .int (nI (lf - 2 ^ a))), (5, .int (mI (mtF (M 7) (M 6) (prS (M 7) (M 6) (M 17) N Ev) lf a N (j + 1)))), (6, .int (nI (N - 1 - (j + 1))))] := by
                              rw [show (mI (mtF (M 7) (M 6) (prS (M 7) (M 6) (M 17) N Ev) lf a N (j + 1))) = (nI (N - 1 - j)) from by rw [mtF, mbI, if_pos c_87, if_neg c_97, if_pos c_122, if_neg (by decide)] <;> rfl]
                              exact lv_sub hl [3, 4, 5, 6, 7, 1, 0] rfl
                            exact ih73 (j + 1) (by omega) (by omega) _ _ _ hW hl_20
              exact lp_73 (N - 1 - a + 1) 0 (by omega) (by omega) _ _ _ hW (lv_sub hl [3, 4, 5, 6, 2, 1, 0] rfl)
      exact lp_31 (N + 1) 0 (by omega) (by omega) _ _ _ hW (lv_sub hl [2, 3, 1, 0] rfl)
    · refine lv_iconst (v := (-1 : Int32)) hx hb dX9_married_18 rfl ?_
      exact hret _ _ _ _ _ _ hW rfl rfl dX9_married_19 (⟨by rw [if_neg (fun h => h.elim (fun q => c_7 q) (fun q => q c_15))], by rw [if_neg (fun h => h.elim (fun q => c_7 q) (fun q => q c_15))]⟩)
