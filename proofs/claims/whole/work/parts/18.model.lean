/-! OneJohnModel: ways of naming, marriages -/
def rbT (s w : Nat → Int32) (C N Wy : Nat) : Nat → Nat × Int32 × (Nat → Int32)
  | 0 => (Wy, 0, w)
  | j + 1 => ((rbT s w C N Wy j).1 / C, (rbT s w C N Wy j).2.1 + (if nI ((rbT s w C N Wy j).1 % C) = s (N - 1 - j) then 0 else 1), upd (rbT s w C N Wy j).2.2 (N - 1 - j) (nI ((rbT s w C N Wy j).1 % C)))
def cfQ (w qu : Nat → Int32) (P : Nat) : Nat → Int32
  | 0 => 0
  | q + 1 => if cfQ w qu P q = 0 then (if (qu P >>> (nI q &&& 31)) &&& 1 = 1 then (if w P = w q then 1 else 0) else 0) else 1
def cfP (w qu : Nat → Int32) : Nat → Int32
  | 0 => 0
  | P + 1 => if cfP w qu P = 0 then cfQ w qu P P else 1
theorem cfQ_mono (w qu : Nat → Int32) (P q : Nat) (h : ¬ cfQ w qu P q = 0) : ∀ k, ¬ cfQ w qu P (q + k) = 0
  | 0 => h
  | k + 1 => by rw [← Nat.add_assoc, cfQ, if_neg (cfQ_mono w qu P q h k)]; decide
theorem cfP_mono (w qu : Nat → Int32) (P : Nat) (h : ¬ cfP w qu P = 0) : ∀ k, ¬ cfP w qu (P + k) = 0
  | 0 => h
  | k + 1 => by rw [← Nat.add_assoc, cfP, if_neg (cfP_mono w qu P h k)]; decide
theorem cf_all {w qu : Nat → Int32} {q i N : Nat} (hcf : cfP w qu i = 0) (h1 : ¬ cfQ w qu i (q + 1) = 0) (hq : q < i) (hi : i < N) : ¬ cfP w qu N = 0 := by
  have h2 := cfQ_mono w qu i (q + 1) h1 (i - (q + 1))
  rw [show q + 1 + (i - (q + 1)) = i from by omega] at h2
  have h3 : ¬ cfP w qu (i + 1) = 0 := by rw [cfP, if_pos hcf]; exact h2
  have h4 := cfP_mono w qu (i + 1) h3 (N - (i + 1))
  rw [show i + 1 + (N - (i + 1)) = N from by omega] at h4
  exact h4
def rbR (s w qu : Nat → Int32) (C N Wy : Nat) : Int32 := if cfP (rbT s w C N Wy N).2.2 qu N = 0 then (rbT s w C N Wy N).2.1 else -9
theorem rb_le (s w : Nat → Int32) (C N Wy : Nat) : ∀ j, (rbT s w C N Wy j).1 ≤ Wy
  | 0 => Nat.le_refl _
  | j + 1 => Nat.le_trans (Nat.div_le_self _ _) (rb_le s w C N Wy j)
def apF (s w b qu : Nat → Int32) (C N : Nat) : Nat → Int32 × (Nat → Int32) × (Nat → Int32)
  | 0 => (1000000, b, w)
  | i + 1 => if rbR s (apF s w b qu C N i).2.2 qu C N i = -9 then ((apF s w b qu C N i).1, (apF s w b qu C N i).2.1, (rbT s (apF s w b qu C N i).2.2 C N i N).2.2) else if (apF s w b qu C N i).1 ≤ rbR s (apF s w b qu C N i).2.2 qu C N i then ((apF s w b qu C N i).1, (apF s w b qu C N i).2.1, (rbT s (apF s w b qu C N i).2.2 C N i N).2.2) else (rbR s (apF s w b qu C N i).2.2 qu C N i, cpA (apF s w b qu C N i).2.1 (rbT s (apF s w b qu C N i).2.2 C N i N).2.2 N, (rbT s (apF s w b qu C N i).2.2 C N i N).2.2)
def apX (s w b qu : Nat → Int32) (C N : Nat) (p : Int32) : Int32 := if (apF s w b qu C N (C ^ N)).1 = 1000000 then -9 else if p = -1 then (apF s w b qu C N (C ^ N)).1 else (apF s w b qu C N (C ^ N)).2.1 p.toNatClampNeg
theorem cN7 {C N : Nat} (hC : C ≤ 4) (hN : N ≤ 7) : C ^ N ≤ 16384 := by
  have h1 := Nat.pow_le_pow_left hC N
  have h2 := Nat.pow_le_pow_right (n := 4) (by decide) hN
  omega

set_option maxHeartbeats 4000000 in
set_option maxRecDepth 100000 in
theorem c_X9_renamedBy (l : Launch) (D : va_G) (cI cZ cN : ClassId) (b : Nat → Nat) (M : NV) (tr : Int64) (N C : Nat) (hN : M 2 1 = nI N) (hN7 : N ≤ 7) (hC : M 2 0 = nI C) (hC4 : C ≤ 4) (hC1 : 1 ≤ C) (Wy : Nat) (hWy : Wy < 100000) : CtI l yX9_renamedBy cX9_renamedBy 6 (some .int) 0 D (tyG cI cZ cN) [.ref (b 0), .int (nI Wy)] (pMod cI cZ b M tr) (fun r w => r = rbR (M 7) (M 8) (M 6) C N Wy ∧ w = (pMod cI cZ b (upA M 8 ((rbT (M 7) (M 8) C N Wy N).2.2)) tr)) := by
  refine CtI.of rfl (Nat.le_of_ble_eq_true rfl) ?_
  intro pg ev sx mx ax bx mt cx ls Qx Ax Sx hret hW hl
  have hx := Sx.1
  have hb := Sx.2.1
  have hl : lv_has ls 6 [(0, .ref (b 0)), (1, .int (nI Wy))] := hl
  refine lv_iload_n hx hb dX9_renamedBy_0 rfl (lv_at hl 1 rfl) ?_
  refine lv_istore_n (lv' := [(2, .int (nI Wy)), (0, .ref (b 0)), (1, .int (nI Wy))]) hx hb dX9_renamedBy_1 rfl hl (by decide) rfl (fun ls hl => ?_)
  refine lv_iconst (v := (0 : Int32)) hx hb dX9_renamedBy_2 rfl ?_
  refine lv_istore_n (lv' := [(3, .int (0 : Int32)), (2, .int (nI Wy)), (0, .ref (b 0)), (1, .int (nI Wy))]) hx hb dX9_renamedBy_3 rfl hl (by decide) rfl (fun ls hl => ?_)
  refine lv_aload_n hx hb dX9_renamedBy_4 rfl (lv_at hl 2 rfl) ?_
  refine r_get Sx hW 0 rfl rfl bw_wsX90 9 (by decide) (v := .ref (b 2)) rfl mw115 dX9_renamedBy_5 ?_
  refine lv_iconst (v := (1 : Int32)) hx hb dX9_renamedBy_8 rfl ?_
  refine r_iald Sx hW 2 0 rfl rfl (j := 1) rfl (by decide) (by decide) dX9_renamedBy_9 ?_
  refine r_eq (y := (nI N)) hN ?_
  refine lv_iconst (v := (1 : Int32)) hx hb dX9_renamedBy_10 rfl ?_
  refine lv_isub hx hb dX9_renamedBy_11 ?_
  refine lv_istore (lv' := [(4, .int ((nI N) - (1 : Int32))), (3, .int (0 : Int32)), (2, .int (nI Wy)), (0, .ref (b 0)), (1, .int (nI Wy))]) hx hb dX9_renamedBy_12 hl (by decide) rfl (fun ls hl => ?_)
  have lp_14 : ∀ (n : Nat) (j : Nat), ((j ≤ N)) → ((N + 1 ≤ j + n)) → ∀ (H : Heap) (locs : List Loc) (ls : Array Slot), AtC D (tyG cI cZ cN) Ax (pMod cI cZ b (upA M 8 ((rbT (M 7) (M 8) C N Wy j).2.2)) tr) sx H locs → lv_has ls 6 [(0, .ref (b 0)), (1, .int (nI Wy)), (2, .int (nI ((rbT (M 7) (M 8) C N Wy j).1))), (3, .int (rbT (M 7) (M 8) C N Wy j).2.1), (4, .int (nI (N - j) - 1))] → W pg l ev (rmN 0) sx mx ax bx mt cx H locs 0 0 Qx (F0 mx 14 ls []) := by
    intro n
    induction n with
    | zero =>
      intro j hj hn H locs ls hW hl
      exact absurd hn (by omega)
    | succ n ih14 =>
      intro j hj hn H locs ls hW hl
      refine lv_iload hx hb dX9_renamedBy_14 (lv_at hl 4 rfl) ?_
      refine lv_if_lt (tgt := 80) hx hb dX9_renamedBy_16 rfl (fun c_16 => ?_) (fun c_16 => ?_)
      · have ee_16 : N = j := by
                rcases Nat.lt_or_ge j N with q | q
                · exact absurd c_16 (by rw [show N - j = (N - 1 - j) + 1 from by omega, nI_pred]; exact nI_pos (by omega))
                · omega
        subst ee_16
        refine lv_iconst (v := (0 : Int32)) hx hb dX9_renamedBy_80 rfl ?_
        refine lv_istore (lv' := [(4, .int (0 : Int32)), (0, .ref (b 0)), (1, .int (nI Wy)), (2, .int (nI ((rbT (M 7) (M 8) C N Wy N).1))), (3, .int (rbT (M 7) (M 8) C N Wy N).2.1)]) hx hb dX9_renamedBy_81 hl (by decide) rfl (fun ls hl => ?_)
        have lp_83 : ∀ (n : Nat) (i : Nat), ((cfP (rbT (M 7) (M 8) C N Wy N).2.2 (M 6) i = 0)) → ((i ≤ N)) → ((N + 1 ≤ i + n)) → ∀ (H : Heap) (locs : List Loc) (ls : Array Slot), AtC D (tyG cI cZ cN) Ax (pMod cI cZ b (upA M 8 ((rbT (M 7) (M 8) C N Wy N).2.2)) tr) sx H locs → lv_has ls 6 [(0, .ref (b 0)), (1, .int (nI Wy)), (2, .int (nI ((rbT (M 7) (M 8) C N Wy N).1))), (3, .int (rbT (M 7) (M 8) C N Wy N).2.1), (4, .int (nI i))] → W pg l ev (rmN 0) sx mx ax bx mt cx H locs 0 0 Qx (F0 mx 83 ls []) := by
          intro n
          induction n with
          | zero =>
            intro i hcf hi_83 hn_83 H locs ls hW hl
            exact absurd hn_83 (by omega)
          | succ n ih83 =>
            intro i hcf hi_83 hn_83 H locs ls hW hl
            refine lv_iload hx hb dX9_renamedBy_83 (lv_at hl 4 rfl) ?_
            refine lv_aload_n hx hb dX9_renamedBy_85 rfl (lv_at hl 0 rfl) ?_
            refine r_get Sx hW 0 rfl rfl bw_wsX90 9 (by decide) (v := .ref (b 2)) rfl mw115 dX9_renamedBy_86 ?_
            refine lv_iconst (v := (1 : Int32)) hx hb dX9_renamedBy_89 rfl ?_
            refine r_iald Sx hW 2 0 (f := (M 2)) rfl rfl (j := 1) rfl (by decide) (by decide) dX9_renamedBy_90 ?_
            refine r_eq (y := (nI N)) hN ?_
            refine lv_icmp_ge (tgt := 156) hx hb dX9_renamedBy_91 rfl (fun c_91 => ?_) (fun c_91 => ?_)
            · have ge_91 : N ≤ i := (nI_leI (a := N) (b := i) (by omega) (by omega)).mp c_91
              have ee_91 : N = i := by omega
              subst ee_91
              refine lv_iload_n hx hb dX9_renamedBy_156 rfl (lv_at hl 3 rfl) ?_
              exact hret _ _ _ _ _ _ hW rfl rfl dX9_renamedBy_157 (⟨by rw [rbR, if_pos hcf], rfl⟩)
            · have lt_91 : i < N := Nat.not_le.mp (fun h => c_91 ((nI_leI (a := N) (b := i) (by omega) (by omega)).mpr h))
              refine lv_iconst (v := (0 : Int32)) hx hb dX9_renamedBy_94 rfl ?_
              refine lv_istore (lv' := [(5, .int (0 : Int32)), (0, .ref (b 0)), (1, .int (nI Wy)), (2, .int (nI ((rbT (M 7) (M 8) C N Wy N).1))), (3, .int (rbT (M 7) (M 8) C N Wy N).2.1), (4, .int (nI i))]) hx hb dX9_renamedBy_95 hl (by decide) rfl (fun ls hl => ?_)
              have lp_97 : ∀ (n : Nat) (q : Nat), ((cfQ (rbT (M 7) (M 8) C N Wy N).2.2 (M 6) i q = 0)) → ((q ≤ i)) → ((i + 1 ≤ q + n)) → ∀ (H : Heap) (locs : List Loc) (ls : Array Slot), AtC D (tyG cI cZ cN) Ax (pMod cI cZ b (upA M 8 ((rbT (M 7) (M 8) C N Wy N).2.2)) tr) sx H locs → lv_has ls 6 [(0, .ref (b 0)), (1, .int (nI Wy)), (2, .int (nI ((rbT (M 7) (M 8) C N Wy N).1))), (3, .int (rbT (M 7) (M 8) C N Wy N).2.1), (4, .int (nI i)), (5, .int (nI q))] → W pg l ev (rmN 0) sx mx ax bx mt cx H locs 0 0 Qx (F0 mx 97 ls []) := by
                intro n
                induction n with
                | zero =>
                  intro q hcq hq_97 hn_97 H locs ls hW hl
                  exact absurd hn_97 (by omega)
                | succ n ih97 =>
                  intro q hcq hq_97 hn_97 H locs ls hW hl
                  refine lv_iload hx hb dX9_renamedBy_97 (lv_at hl 5 rfl) ?_
                  refine lv_iload hx hb dX9_renamedBy_99 (lv_at hl 4 rfl) ?_
                  refine lv_icmp_ge (tgt := 150) hx hb dX9_renamedBy_101 rfl (fun c_101 => ?_) (fun c_101 => ?_)
                  · have ge_101 : i ≤ q := (nI_leI (a := i) (b := q) (by omega) (by omega)).mp c_101
                    have ee_101 : i = q := by omega
                    subst ee_101
                    refine lv_iinc (v := (nI (i + 1))) (lv' := [(4, .int (nI (i + 1))), (0, .ref (b 0)), (1, .int (nI Wy)), (2, .int (nI ((rbT (M 7) (M 8) C N Wy N).1))), (3, .int (rbT (M 7) (M 8) C N Wy N).2.1), (5, .int (nI i))]) hx hb dX9_renamedBy_150 hl (k := 4) rfl (inc_n i 1) (by decide) rfl (fun ls hl => ?_)
                    refine lv_goto (tgt := 83) hx hb dX9_renamedBy_153 rfl ?_
                    exact ih83 (i + 1) (by rw [cfP, if_pos hcf]; exact hcq) (by omega) (by omega) _ _ _ hW (lv_sub hl [1, 2, 3, 4, 0] rfl)
                  · have lt_101 : q < i := Nat.not_le.mp (fun h => c_101 ((nI_leI (a := i) (b := q) (by omega) (by omega)).mpr h))
                    refine lv_aload_n hx hb dX9_renamedBy_104 rfl (lv_at hl 0 rfl) ?_
                    refine r_get Sx hW 0 rfl rfl bw_wsX90 13 (by decide) (v := .ref (b 6)) rfl mw119 dX9_renamedBy_105 ?_
                    refine lv_iload hx hb dX9_renamedBy_108 (lv_at hl 4 rfl) ?_
                    refine r_iald Sx hW 6 0 (f := (M 6)) rfl rfl (j := i) rfl (by omega) (by decide) dX9_renamedBy_110 ?_
                    refine lv_iload hx hb dX9_renamedBy_111 (lv_at hl 5 rfl) ?_
                    refine lv_ishr hx hb dX9_renamedBy_113 ?_
                    refine lv_iconst (v := (1 : Int32)) hx hb dX9_renamedBy_114 rfl ?_
                    refine lv_iand hx hb dX9_renamedBy_115 ?_
                    refine lv_iconst (v := (1 : Int32)) hx hb dX9_renamedBy_116 rfl ?_
                    refine lv_icmp_ne (tgt := 144) hx hb dX9_renamedBy_117 rfl (fun c_117 => ?_) (fun c_117 => ?_)
                    · refine lv_iinc (v := (nI (q + 1))) (lv' := [(5, .int (nI (q + 1))), (0, .ref (b 0)), (1, .int (nI Wy)), (2, .int (nI ((rbT (M 7) (M 8) C N Wy N).1))), (3, .int (rbT (M 7) (M 8) C N Wy N).2.1), (4, .int (nI i))]) hx hb dX9_renamedBy_144 hl (k := 5) rfl (inc_n q 1) (by decide) rfl (fun ls hl => ?_)
                      refine lv_goto (tgt := 97) hx hb dX9_renamedBy_147 rfl ?_
                      exact ih97 (q + 1) (by rw [cfQ, if_pos hcq, if_neg c_117]) (by omega) (by omega) _ _ _ hW (lv_sub hl [1, 2, 3, 4, 5, 0] rfl)
                    · refine lv_aload_n hx hb dX9_renamedBy_120 rfl (lv_at hl 0 rfl) ?_
                      refine r_get Sx hW 0 rfl rfl bw_wsX90 16 (by decide) (v := .ref (b 8)) rfl mw121 dX9_renamedBy_121 ?_
                      refine lv_iconst (v := (0 : Int32)) hx hb dX9_renamedBy_124 rfl ?_
                      refine lv_iload hx hb dX9_renamedBy_125 (lv_at hl 4 rfl) ?_
                      refine lv_iadd hx hb dX9_renamedBy_127 ?_
                      refine r_eq (y := (nI i)) ((nI_add 0 i).trans (congrArg nI (Nat.zero_add i))) ?_
                      refine r_iald Sx hW 8 0 (f := (rbT (M 7) (M 8) C N Wy N).2.2) rfl rfl (j := i) rfl (by omega) (by decide) dX9_renamedBy_128 ?_
                      refine lv_aload_n hx hb dX9_renamedBy_129 rfl (lv_at hl 0 rfl) ?_
                      refine r_get Sx hW 0 rfl rfl bw_wsX90 16 (by decide) (v := .ref (b 8)) rfl mw121 dX9_renamedBy_130 ?_
                      refine lv_iconst (v := (0 : Int32)) hx hb dX9_renamedBy_133 rfl ?_
                      refine lv_iload hx hb dX9_renamedBy_134 (lv_at hl 5 rfl) ?_
                      refine lv_iadd hx hb dX9_renamedBy_136 ?_
                      refine r_eq (y := (nI q)) ((nI_add 0 q).trans (congrArg nI (Nat.zero_add q))) ?_
                      refine r_iald Sx hW 8 0 (f := (rbT (M 7) (M 8) C N Wy N).2.2) rfl rfl (j := q) rfl (by omega) (by decide) dX9_renamedBy_137 ?_
                      refine lv_icmp_ne (tgt := 144) hx hb dX9_renamedBy_138 rfl (fun c_138 => ?_) (fun c_138 => ?_)
                      · refine lv_iinc (v := (nI (q + 1))) (lv' := [(5, .int (nI (q + 1))), (0, .ref (b 0)), (1, .int (nI Wy)), (2, .int (nI ((rbT (M 7) (M 8) C N Wy N).1))), (3, .int (rbT (M 7) (M 8) C N Wy N).2.1), (4, .int (nI i))]) hx hb dX9_renamedBy_144 hl (k := 5) rfl (inc_n q 1) (by decide) rfl (fun ls hl => ?_)
                        refine lv_goto (tgt := 97) hx hb dX9_renamedBy_147 rfl ?_
                        exact ih97 (q + 1) (by rw [cfQ, if_pos hcq, if_pos c_117, if_neg c_138]) (by omega) (by omega) _ _ _ hW (lv_sub hl [1, 2, 3, 4, 5, 0] rfl)
                      · refine lv_bipush (v := (-9 : Int32)) hx hb dX9_renamedBy_141 rfl ?_
                        exact hret _ _ _ _ _ _ hW rfl rfl dX9_renamedBy_143 (⟨by rw [rbR, if_neg (cf_all hcf (by rw [cfQ, if_pos hcq, if_pos c_117, if_pos c_138]; decide) lt_101 lt_91)], rfl⟩)
              exact lp_97 (i + 1) 0 rfl (by omega) (by omega) _ _ _ hW (lv_sub hl [1, 2, 3, 4, 5, 0] rfl)
        exact lp_83 (N + 1) 0 rfl (by omega) (by omega) _ _ _ hW (lv_sub hl [1, 2, 3, 4, 0] rfl)
      · have lt_16 : j < N := by
                rcases Nat.lt_or_ge j N with q | q
                · exact q
                · exact absurd (by rw [show N - j = 0 from by omega]; decide) c_16
        rw [show nI (N - j) - 1 = nI (N - 1 - j) from by rw [show N - j = (N - 1 - j) + 1 from by omega]; exact nI_pred _] at hl
        have hR := rb_le (M 7) (M 8) C N Wy j
        refine lv_aload_n hx hb dX9_renamedBy_19 rfl (lv_at hl 0 rfl) ?_
        refine r_get Sx hW 0 rfl rfl bw_wsX90 16 (by decide) (v := .ref (b 8)) rfl mw121 dX9_renamedBy_20 ?_
        refine lv_iconst (v := (0 : Int32)) hx hb dX9_renamedBy_23 rfl ?_
        refine lv_iload hx hb dX9_renamedBy_24 (lv_at hl 4 rfl) ?_
        refine lv_iadd hx hb dX9_renamedBy_26 ?_
        refine r_eq (y := (nI (N - 1 - j))) ((nI_add 0 (N - 1 - j)).trans (congrArg nI (Nat.zero_add (N - 1 - j)))) ?_
        refine lv_iload_n hx hb dX9_renamedBy_27 rfl (lv_at hl 2 rfl) ?_
        refine lv_aload_n hx hb dX9_renamedBy_28 rfl (lv_at hl 0 rfl) ?_
        refine r_get Sx hW 0 rfl rfl bw_wsX90 9 (by decide) (v := .ref (b 2)) rfl mw115 dX9_renamedBy_29 ?_
        refine lv_iconst (v := (0 : Int32)) hx hb dX9_renamedBy_32 rfl ?_
        refine r_iald Sx hW 2 0 (f := (M 2)) rfl rfl (j := 0) rfl (by decide) (by decide) dX9_renamedBy_33 ?_
        refine r_eq (y := (nI C)) hC ?_
        refine lv_irem hx hb dX9_renamedBy_34 (nI_ne0 hC1 (by omega)) ?_
        refine r_eq (y := (nI ((rbT (M 7) (M 8) C N Wy j).1 % C))) (pk_rem (by omega) hC1 (by omega)) ?_
        refine r_iast Sx hW 8 0 rfl rfl (j := N - 1 - j) rfl (by omega) (by decide) dX9_renamedBy_35 (ws' := (pMod cI cZ b (upA M 8 (upd ((rbT (M 7) (M 8) C N Wy j).2.2) (N - 1 - j) (nI ((rbT (M 7) (M 8) C N Wy j).1 % C)))) tr)) rfl (fun H locs hW => ?_)
        refine lv_iload_n hx hb dX9_renamedBy_36 rfl (lv_at hl 2 rfl) ?_
        refine lv_aload_n hx hb dX9_renamedBy_37 rfl (lv_at hl 0 rfl) ?_
        refine r_get Sx hW 0 rfl rfl bw_wsX90 9 (by decide) (v := .ref (b 2)) rfl mw115 dX9_renamedBy_38 ?_
        refine lv_iconst (v := (0 : Int32)) hx hb dX9_renamedBy_41 rfl ?_
        refine r_iald Sx hW 2 0 (f := (M 2)) rfl rfl (j := 0) rfl (by decide) (by decide) dX9_renamedBy_42 ?_
        refine r_eq (y := (nI C)) hC ?_
        refine lv_idiv hx hb dX9_renamedBy_43 (nI_ne0 hC1 (by omega)) ?_
        refine r_eq (y := (nI ((rbT (M 7) (M 8) C N Wy j).1 / C))) (pk_div (by omega) hC1 (by omega)) ?_
        refine lv_istore_n (lv' := [(2, .int (nI ((rbT (M 7) (M 8) C N Wy j).1 / C))), (0, .ref (b 0)), (1, .int (nI Wy)), (3, .int (rbT (M 7) (M 8) C N Wy j).2.1), (4, .int (nI (N - 1 - j)))]) hx hb dX9_renamedBy_44 rfl hl (by decide) rfl (fun ls hl => ?_)
        refine lv_iload_n hx hb dX9_renamedBy_45 rfl (lv_at hl 3 rfl) ?_
        refine lv_aload_n hx hb dX9_renamedBy_46 rfl (lv_at hl 1 rfl) ?_
        refine r_get Sx hW 0 rfl rfl bw_wsX90 16 (by decide) (v := .ref (b 8)) rfl mw121 dX9_renamedBy_47 ?_
        refine lv_iconst (v := (0 : Int32)) hx hb dX9_renamedBy_50 rfl ?_
        refine lv_iload hx hb dX9_renamedBy_51 (lv_at hl 4 rfl) ?_
        refine lv_iadd hx hb dX9_renamedBy_53 ?_
        refine r_eq (y := (nI (N - 1 - j))) ((nI_add 0 (N - 1 - j)).trans (congrArg nI (Nat.zero_add (N - 1 - j)))) ?_
        refine r_iald Sx hW 8 0 (f := (upd ((rbT (M 7) (M 8) C N Wy j).2.2) (N - 1 - j) (nI ((rbT (M 7) (M 8) C N Wy j).1 % C)))) rfl rfl (j := N - 1 - j) rfl (by omega) (by decide) dX9_renamedBy_54 ?_
        refine r_eq (y := (nI ((rbT (M 7) (M 8) C N Wy j).1 % C))) pk_us ?_
        refine lv_aload_n hx hb dX9_renamedBy_55 rfl (lv_at hl 1 rfl) ?_
        refine r_get Sx hW 0 rfl rfl bw_wsX90 15 (by decide) (v := .ref (b 7)) rfl mw120 dX9_renamedBy_56 ?_
        refine lv_iconst (v := (0 : Int32)) hx hb dX9_renamedBy_59 rfl ?_
        refine lv_iload hx hb dX9_renamedBy_60 (lv_at hl 4 rfl) ?_
        refine lv_iadd hx hb dX9_renamedBy_62 ?_
        refine r_eq (y := (nI (N - 1 - j))) ((nI_add 0 (N - 1 - j)).trans (congrArg nI (Nat.zero_add (N - 1 - j)))) ?_
        refine r_iald Sx hW 7 0 (f := (M 7)) rfl rfl (j := N - 1 - j) rfl (by omega) (by decide) dX9_renamedBy_63 ?_
        refine lv_icmp_eq (tgt := 71) hx hb dX9_renamedBy_64 rfl (fun c_64 => ?_) (fun c_64 => ?_)
        · refine lv_iconst (v := (0 : Int32)) hx hb dX9_renamedBy_71 rfl ?_
          refine lv_iadd hx hb dX9_renamedBy_72 ?_
          refine lv_istore_n (lv' := [(3, .int ((rbT (M 7) (M 8) C N Wy j).2.1 + (0 : Int32))), (2, .int (nI ((rbT (M 7) (M 8) C N Wy j).1 / C))), (0, .ref (b 0)), (1, .int (nI Wy)), (4, .int (nI (N - 1 - j)))]) hx hb dX9_renamedBy_73 rfl hl (by decide) rfl (fun ls hl => ?_)
          refine lv_iinc (v := (nI (N - 1 - j) - 1)) (lv' := [(4, .int (nI (N - 1 - j) - 1)), (3, .int ((rbT (M 7) (M 8) C N Wy j).2.1 + (0 : Int32))), (2, .int (nI ((rbT (M 7) (M 8) C N Wy j).1 / C))), (0, .ref (b 0)), (1, .int (nI Wy))]) hx hb dX9_renamedBy_74 hl (k := 4) rfl (dec_n (N - 1 - j)) (by decide) rfl (fun ls hl => ?_)
          refine lv_goto (tgt := 14) hx hb dX9_renamedBy_77 rfl ?_
          have hl_1 : lv_has ls 6 [(0, .ref (b 0)), (1, .int (nI Wy)), (2, .int (nI ((rbT (M 7) (M 8) C N Wy (j + 1)).1))), (3, .int (rbT (M 7) (M 8) C N Wy (j + 1)).2.1), (4, .int (nI (N - (j + 1)) - 1))] := by
            rw [show (rbT (M 7) (M 8) C N Wy (j + 1)).2.1 = ((rbT (M 7) (M 8) C N Wy j).2.1 + (0 : Int32)) from by rw [rbT, if_pos c_64]]
            rw [show (nI (N - (j + 1)) - 1) = (nI (N - 1 - j) - 1) from by rw [show N - (j + 1) = N - 1 - j from by omega]]
            exact lv_sub hl [3, 4, 2, 1, 0] rfl
          exact ih14 (j + 1) (by omega) (by omega) _ _ _ hW hl_1
        · refine lv_iconst (v := (1 : Int32)) hx hb dX9_renamedBy_67 rfl ?_
          refine lv_goto (tgt := 72) hx hb dX9_renamedBy_68 rfl ?_
          refine lv_iadd hx hb dX9_renamedBy_72 ?_
          refine lv_istore_n (lv' := [(3, .int ((rbT (M 7) (M 8) C N Wy j).2.1 + (1 : Int32))), (2, .int (nI ((rbT (M 7) (M 8) C N Wy j).1 / C))), (0, .ref (b 0)), (1, .int (nI Wy)), (4, .int (nI (N - 1 - j)))]) hx hb dX9_renamedBy_73 rfl hl (by decide) rfl (fun ls hl => ?_)
          refine lv_iinc (v := (nI (N - 1 - j) - 1)) (lv' := [(4, .int (nI (N - 1 - j) - 1)), (3, .int ((rbT (M 7) (M 8) C N Wy j).2.1 + (1 : Int32))), (2, .int (nI ((rbT (M 7) (M 8) C N Wy j).1 / C))), (0, .ref (b 0)), (1, .int (nI Wy))]) hx hb dX9_renamedBy_74 hl (k := 4) rfl (dec_n (N - 1 - j)) (by decide) rfl (fun ls hl => ?_)
          refine lv_goto (tgt := 14) hx hb dX9_renamedBy_77 rfl ?_
          have hl_2 : lv_has ls 6 [(0, .ref (b 0)), (1, .int (nI Wy)), (2, .int (nI ((rbT (M 7) (M 8) C N Wy (j + 1)).1))), (3, .int (rbT (M 7) (M 8) C N Wy (j + 1)).2.1), (4, .int (nI (N - (j + 1)) - 1))] := by
            rw [show (rbT (M 7) (M 8) C N Wy (j + 1)).2.1 = ((rbT (M 7) (M 8) C N Wy j).2.1 + (1 : Int32)) from by rw [rbT, if_neg c_64]]
            rw [show (nI (N - (j + 1)) - 1) = (nI (N - 1 - j) - 1) from by rw [show N - (j + 1) = N - 1 - j from by omega]]
            exact lv_sub hl [3, 4, 2, 1, 0] rfl
          exact ih14 (j + 1) (by omega) (by omega) _ _ _ hW hl_2
  exact lp_14 (N + 1) 0 (by omega) (by omega) _ _ _ hW (lv_sub hl [3, 4, 2, 1, 0] rfl)

set_option maxHeartbeats 4000000 in
set_option maxRecDepth 100000 in
theorem c_X9_apart (l : Launch) (D : va_G) (cI cZ cN : ClassId) (b : Nat → Nat) (M : NV) (tr : Int64) (N C : Nat) (hN : M 2 1 = nI N) (hN7 : N ≤ 7) (hC : M 2 0 = nI C) (hC4 : C ≤ 4) (hC1 : 1 ≤ C) (p0 : Int32) : CtI l yX9_apart cX9_apart 7 (some .int) 2 D (tyG cI cZ cN) [.ref (b 0), .int p0] (pMod cI cZ b M tr) (fun r w => r = (if p0 = -1 ∨ ¬ inI p0 0 (nI N - 1) = 0 then apX (M 7) (M 8) (M 16) (M 6) C N p0 else -1) ∧ w = if p0 = -1 ∨ ¬ inI p0 0 (nI N - 1) = 0 then (pMod cI cZ b (upA (upA (upA M 8 ((apF (M 7) (M 8) (M 16) (M 6) C N (C ^ N)).2.2)) 16 ((apF (M 7) (M 8) (M 16) (M 6) C N (C ^ N)).2.1)) 0 (upd (M 0) 0 (0 : Int32))) tr) else (pMod cI cZ b (upA M 0 (upd (M 0) 0 (0 : Int32))) tr)) := by
  refine CtI.of rfl (Nat.le_of_ble_eq_true rfl) ?_
  intro pg ev sx mx ax bx mt cx ls Qx Ax Sx hret hW hl
  have hx := Sx.1
  have hb := Sx.2.1
  have hl : lv_has ls 7 [(0, .ref (b 0)), (1, .int p0)] := hl
  refine lv_aload_n hx hb dX9_apart_0 rfl (lv_at hl 0 rfl) ?_
  refine lv_iconst (v := (0 : Int32)) hx hb dX9_apart_1 rfl ?_
  refine r_put Sx hW 0 rfl rfl bw_wsX90 tyX9_ok nmX9 0 (by decide) mw144 rfl rfl rfl (Nat.le_of_ble_eq_true rfl) dX9_apart_2 (ws' := (pMod cI cZ b (upA M 0 (upd (M 0) 0 (0 : Int32))) tr)) rfl (fun H locs hW => ?_)
  refine lv_iload_n hx hb dX9_apart_5 rfl (lv_at hl 1 rfl) ?_
  refine lv_iconst (v := (-1 : Int32)) hx hb dX9_apart_6 rfl ?_
  refine lv_icmp_eq (tgt := 20) hx hb dX9_apart_7 rfl (fun c_7 => ?_) (fun c_7 => ?_)
  · refine lv_iconst (v := (1 : Int32)) hx hb dX9_apart_20 rfl ?_
    refine lv_istore_n (lv' := [(2, .int (1 : Int32)), (0, .ref (b 0)), (1, .int p0)]) hx hb dX9_apart_21 rfl hl (by decide) rfl (fun ls hl => ?_)
    refine lv_iconst (v := (0 : Int32)) hx hb dX9_apart_22 rfl ?_
    refine lv_istore_n (lv' := [(3, .int (0 : Int32)), (2, .int (1 : Int32)), (0, .ref (b 0)), (1, .int p0)]) hx hb dX9_apart_23 rfl hl (by decide) rfl (fun ls hl => ?_)
    have lp_24 : ∀ (n : Nat) (i : Nat), ((i ≤ N)) → ((N + 1 ≤ i + n)) → ∀ (H : Heap) (locs : List Loc) (ls : Array Slot), AtC D (tyG cI cZ cN) Ax (pMod cI cZ b (upA M 0 (upd (M 0) 0 (0 : Int32))) tr) sx H locs → lv_has ls 7 [(0, .ref (b 0)), (1, .int p0), (2, .int (nI (C ^ i))), (3, .int (nI i))] → W pg l ev (rmN 2) sx mx ax bx mt cx H locs 0 0 Qx (F0 mx 24 ls []) := by
      intro n
      induction n with
      | zero =>
        intro i hi_24 hn_24 H locs ls hW hl
        exact absurd hn_24 (by omega)
      | succ n ih24 =>
        intro i hi_24 hn_24 H locs ls hW hl
        refine lv_iload_n hx hb dX9_apart_24 rfl (lv_at hl 3 rfl) ?_
        refine lv_aload_n hx hb dX9_apart_25 rfl (lv_at hl 0 rfl) ?_
        refine r_get Sx hW 0 rfl rfl bw_wsX90 9 (by decide) (v := .ref (b 2)) rfl mw115 dX9_apart_26 ?_
        refine lv_iconst (v := (1 : Int32)) hx hb dX9_apart_29 rfl ?_
        refine r_iald Sx hW 2 0 (f := (M 2)) rfl rfl (j := 1) rfl (by decide) (by decide) dX9_apart_30 ?_
        refine r_eq (y := (nI N)) hN ?_
        refine lv_icmp_ge (tgt := 49) hx hb dX9_apart_31 rfl (fun c_31 => ?_) (fun c_31 => ?_)
        · have ge_31 : N ≤ i := (nI_leI (a := N) (b := i) (by omega) (by omega)).mp c_31
          have ee_31 : N = i := by omega
          subst ee_31
          obtain ⟨Al, hAl⟩ : ∃ q, q = C ^ N := ⟨_, rfl⟩
          have hAl2 : Al ≤ 16384 := by rw [hAl]; exact cN7 hC4 hN7
          rw [← hAl] at hl
          refine r_ldc Sx (v := (1000000 : Int32)) mw645 dX9_apart_49 ?_
          refine lv_istore_n (lv' := [(3, .int (1000000 : Int32)), (0, .ref (b 0)), (1, .int p0), (2, .int (nI Al))]) hx hb dX9_apart_51 rfl hl (by decide) rfl (fun ls hl => ?_)
          refine lv_iconst (v := (0 : Int32)) hx hb dX9_apart_52 rfl ?_
          refine lv_istore (lv' := [(4, .int (0 : Int32)), (3, .int (1000000 : Int32)), (0, .ref (b 0)), (1, .int p0), (2, .int (nI Al))]) hx hb dX9_apart_53 hl (by decide) rfl (fun ls hl => ?_)
          have lp_55 : ∀ (n : Nat) (i : Nat), ((i ≤ Al)) → ((Al + 1 ≤ i + n)) → ∀ (H : Heap) (locs : List Loc) (ls : Array Slot), AtC D (tyG cI cZ cN) Ax (pMod cI cZ b (upA (upA (upA M 8 ((apF (M 7) (M 8) (M 16) (M 6) C N i).2.2)) 16 ((apF (M 7) (M 8) (M 16) (M 6) C N i).2.1)) 0 (upd (M 0) 0 (0 : Int32))) tr) sx H locs → lv_has ls 7 [(0, .ref (b 0)), (1, .int p0), (2, .int (nI Al)), (3, .int (apF (M 7) (M 8) (M 16) (M 6) C N i).1), (4, .int (nI i))] → W pg l ev (rmN 2) sx mx ax bx mt cx H locs 0 0 Qx (F0 mx 55 ls []) := by
            intro n
            induction n with
            | zero =>
              intro i hi_55 hn_55 H locs ls hW hl
              exact absurd hn_55 (by omega)
            | succ n ih55 =>
              intro i hi_55 hn_55 H locs ls hW hl
              refine lv_iload hx hb dX9_apart_55 (lv_at hl 4 rfl) ?_
              refine lv_iload_n hx hb dX9_apart_57 rfl (lv_at hl 2 rfl) ?_
              refine lv_icmp_ge (tgt := 127) hx hb dX9_apart_58 rfl (fun c_58 => ?_) (fun c_58 => ?_)
              · have ge_58 : Al ≤ i := (nI_leI (a := Al) (b := i) (by omega) (by omega)).mp c_58
                have ee_58 : Al = i := by omega
                subst ee_58
                refine lv_iload_n hx hb dX9_apart_127 rfl (lv_at hl 3 rfl) ?_
                refine r_ldc Sx (v := (1000000 : Int32)) mw645 dX9_apart_128 ?_
                refine lv_icmp_ne (tgt := 138) hx hb dX9_apart_130 rfl (fun c_130 => ?_) (fun c_130 => ?_)
                · refine lv_iload_n hx hb dX9_apart_138 rfl (lv_at hl 1 rfl) ?_
                  refine lv_iconst (v := (-1 : Int32)) hx hb dX9_apart_139 rfl ?_
                  refine lv_icmp_ne (tgt := 147) hx hb dX9_apart_140 rfl (fun c_140 => ?_) (fun c_140 => ?_)
                  · exact absurd c_7 c_140
                  · refine lv_iload_n hx hb dX9_apart_143 rfl (lv_at hl 3 rfl) ?_
                    refine lv_goto (tgt := 153) hx hb dX9_apart_144 rfl ?_
                    exact hret _ _ _ _ _ _ hW rfl rfl dX9_apart_153 (⟨by rw [if_pos (Or.inl c_7), apX, ← hAl, if_neg c_130, if_pos c_140], by rw [if_pos (Or.inl c_7), ← hAl]⟩)
                · refine lv_bipush (v := (-9 : Int32)) hx hb dX9_apart_133 rfl ?_
                  refine lv_goto (tgt := 153) hx hb dX9_apart_135 rfl ?_
                  exact hret _ _ _ _ _ _ hW rfl rfl dX9_apart_153 (⟨by rw [if_pos (Or.inl c_7), apX, ← hAl, if_pos c_130], by rw [if_pos (Or.inl c_7), ← hAl]⟩)
              · have lt_58 : i < Al := Nat.not_le.mp (fun h => c_58 ((nI_leI (a := Al) (b := i) (by omega) (by omega)).mpr h))
                refine lv_aload_n hx hb dX9_apart_61 rfl (lv_at hl 0 rfl) ?_
                refine lv_iload hx hb dX9_apart_62 (lv_at hl 4 rfl) ?_
                refine callVI Sx hW (c_X9_renamedBy l D cI cZ cN b (upA (upA (upA M 8 ((apF (M 7) (M 8) (M 16) (M 6) C N i).2.2)) 16 ((apF (M 7) (M 8) (M 16) (M 6) C N i).2.1)) 0 (upd (M 0) 0 (0 : Int32))) tr N C hN hN7 hC hC4 hC1 i (by omega) ) vmX9_renamedBy mw646 [0, 1, 2, 3, 4, 5, 6, 7, 8, 9, 10, 11, 12, 13, 14, 15, 16, 17] rfl (by decide) 0 rfl rfl (As := [.int (nI i)]) (rest := []) rfl rfl hl.1 (Nat.le_of_ble_eq_true rfl) ⟨Nat.le_of_ble_eq_true rfl, Nat.le_of_ble_eq_true rfl⟩ ⟨Nat.le_refl _, Nat.le_refl _⟩ dX9_apart_64 (fun rx wx H locs hqx hW => ?_)
                obtain ⟨hrx, rfl⟩ := hqx
                have hW : AtC D (tyG cI cZ cN) Ax (pMod cI cZ b (upA (upA (upA M 8 ((rbT (M 7) ((apF (M 7) (M 8) (M 16) (M 6) C N i).2.2) C N i N).2.2)) 16 ((apF (M 7) (M 8) (M 16) (M 6) C N i).2.1)) 0 (upd (M 0) 0 (0 : Int32))) tr) sx H locs := hW.re [] 18 (by decide) rfl rfl trivial (by decide +kernel) rfl rfl
                refine r_eq (y := (rbR (M 7) ((apF (M 7) (M 8) (M 16) (M 6) C N i).2.2) (M 6) C N i)) hrx ?_
                refine lv_istore (lv' := [(5, .int (rbR (M 7) ((apF (M 7) (M 8) (M 16) (M 6) C N i).2.2) (M 6) C N i)), (0, .ref (b 0)), (1, .int p0), (2, .int (nI Al)), (3, .int (apF (M 7) (M 8) (M 16) (M 6) C N i).1), (4, .int (nI i))]) hx hb dX9_apart_67 hl (by decide) rfl (fun ls hl => ?_)
                refine lv_iload hx hb dX9_apart_69 (lv_at hl 0 rfl) ?_
                refine lv_bipush (v := (-9 : Int32)) hx hb dX9_apart_71 rfl ?_
                refine lv_icmp_eq (tgt := 121) hx hb dX9_apart_73 rfl (fun c_73 => ?_) (fun c_73 => ?_)
                · refine lv_iinc (v := (nI (i + 1))) (lv' := [(4, .int (nI (i + 1))), (5, .int (rbR (M 7) ((apF (M 7) (M 8) (M 16) (M 6) C N i).2.2) (M 6) C N i)), (0, .ref (b 0)), (1, .int p0), (2, .int (nI Al)), (3, .int (apF (M 7) (M 8) (M 16) (M 6) C N i).1)]) hx hb dX9_apart_121 hl (k := 5) rfl (inc_n i 1) (by decide) rfl (fun ls hl => ?_)
                  refine lv_goto (tgt := 55) hx hb dX9_apart_124 rfl ?_
                  have hl_1 : lv_has ls 7 [(0, .ref (b 0)), (1, .int p0), (2, .int (nI Al)), (3, .int (apF (M 7) (M 8) (M 16) (M 6) C N (i + 1)).1), (4, .int (nI (i + 1)))] := by
                    rw [show (apF (M 7) (M 8) (M 16) (M 6) C N (i + 1)).1 = (apF (M 7) (M 8) (M 16) (M 6) C N i).1 from by rw [apF, if_pos c_73]]
                    exact lv_sub hl [2, 3, 4, 5, 0] rfl
                  have hW_2 := hW.cong (ws' := (pMod cI cZ b (upA (upA (upA M 8 ((apF (M 7) (M 8) (M 16) (M 6) C N (i + 1)).2.2)) 16 ((apF (M 7) (M 8) (M 16) (M 6) C N (i + 1)).2.1)) 0 (upd (M 0) 0 (0 : Int32))) tr)) (by first | (rw [show (upA (upA (upA M 8 ((apF (M 7) (M 8) (M 16) (M 6) C N (i + 1)).2.2)) 16 ((apF (M 7) (M 8) (M 16) (M 6) C N (i + 1)).2.1)) 0 (upd (M 0) 0 (0 : Int32))) = (upA (upA (upA M 8 ((rbT (M 7) ((apF (M 7) (M 8) (M 16) (M 6) C N i).2.2) C N i N).2.2)) 16 ((apF (M 7) (M 8) (M 16) (M 6) C N i).2.1)) 0 (upd (M 0) 0 (0 : Int32))) from by rw [apF, if_pos c_73]]; done) | (rw [show (upA (upA (upA M 8 ((apF (M 7) (M 8) (M 16) (M 6) C N (i + 1)).2.2)) 16 ((apF (M 7) (M 8) (M 16) (M 6) C N (i + 1)).2.1)) 0 (upd (M 0) 0 (0 : Int32))) = (upA (upA (upA M 8 ((rbT (M 7) ((apF (M 7) (M 8) (M 16) (M 6) C N i).2.2) C N i N).2.2)) 16 ((apF (M 7) (M 8) (M 16) (M 6) C N i).2.1)) 0 (upd (M 0) 0 (0 : Int32))) from by rw [apF, if_pos c_73]]; rfl))
                  exact ih55 (i + 1) (by omega) (by omega) _ _ _ hW_2 hl_1
                · refine lv_iload hx hb dX9_apart_76 (lv_at hl 0 rfl) ?_
                  refine lv_iload_n hx hb dX9_apart_78 rfl (lv_at hl 4 rfl) ?_
                  refine lv_icmp_ge (tgt := 121) hx hb dX9_apart_79 rfl (fun c_79 => ?_) (fun c_79 => ?_)
                  · refine lv_iinc (v := (nI (i + 1))) (lv' := [(4, .int (nI (i + 1))), (5, .int (rbR (M 7) ((apF (M 7) (M 8) (M 16) (M 6) C N i).2.2) (M 6) C N i)), (0, .ref (b 0)), (1, .int p0), (2, .int (nI Al)), (3, .int (apF (M 7) (M 8) (M 16) (M 6) C N i).1)]) hx hb dX9_apart_121 hl (k := 5) rfl (inc_n i 1) (by decide) rfl (fun ls hl => ?_)
                    refine lv_goto (tgt := 55) hx hb dX9_apart_124 rfl ?_
                    have hl_3 : lv_has ls 7 [(0, .ref (b 0)), (1, .int p0), (2, .int (nI Al)), (3, .int (apF (M 7) (M 8) (M 16) (M 6) C N (i + 1)).1), (4, .int (nI (i + 1)))] := by
                      rw [show (apF (M 7) (M 8) (M 16) (M 6) C N (i + 1)).1 = (apF (M 7) (M 8) (M 16) (M 6) C N i).1 from by rw [apF, if_neg c_73, if_pos c_79]]
                      exact lv_sub hl [2, 3, 4, 5, 0] rfl
                    have hW_4 := hW.cong (ws' := (pMod cI cZ b (upA (upA (upA M 8 ((apF (M 7) (M 8) (M 16) (M 6) C N (i + 1)).2.2)) 16 ((apF (M 7) (M 8) (M 16) (M 6) C N (i + 1)).2.1)) 0 (upd (M 0) 0 (0 : Int32))) tr)) (by first | (rw [show (upA (upA (upA M 8 ((apF (M 7) (M 8) (M 16) (M 6) C N (i + 1)).2.2)) 16 ((apF (M 7) (M 8) (M 16) (M 6) C N (i + 1)).2.1)) 0 (upd (M 0) 0 (0 : Int32))) = (upA (upA (upA M 8 ((rbT (M 7) ((apF (M 7) (M 8) (M 16) (M 6) C N i).2.2) C N i N).2.2)) 16 ((apF (M 7) (M 8) (M 16) (M 6) C N i).2.1)) 0 (upd (M 0) 0 (0 : Int32))) from by rw [apF, if_neg c_73, if_pos c_79]]; done) | (rw [show (upA (upA (upA M 8 ((apF (M 7) (M 8) (M 16) (M 6) C N (i + 1)).2.2)) 16 ((apF (M 7) (M 8) (M 16) (M 6) C N (i + 1)).2.1)) 0 (upd (M 0) 0 (0 : Int32))) = (upA (upA (upA M 8 ((rbT (M 7) ((apF (M 7) (M 8) (M 16) (M 6) C N i).2.2) C N i N).2.2)) 16 ((apF (M 7) (M 8) (M 16) (M 6) C N i).2.1)) 0 (upd (M 0) 0 (0 : Int32))) from by rw [apF, if_neg c_73, if_pos c_79]]; rfl))
                    exact ih55 (i + 1) (by omega) (by omega) _ _ _ hW_4 hl_3
                  · refine lv_iload hx hb dX9_apart_82 (lv_at hl 0 rfl) ?_
                    refine lv_istore_n (lv' := [(3, .int (rbR (M 7) ((apF (M 7) (M 8) (M 16) (M 6) C N i).2.2) (M 6) C N i)), (5, .int (rbR (M 7) ((apF (M 7) (M 8) (M 16) (M 6) C N i).2.2) (M 6) C N i)), (0, .ref (b 0)), (1, .int p0), (2, .int (nI Al)), (4, .int (nI i))]) hx hb dX9_apart_84 rfl hl (by decide) rfl (fun ls hl => ?_)
                    refine lv_iconst (v := (0 : Int32)) hx hb dX9_apart_85 rfl ?_
                    refine lv_istore (lv' := [(6, .int (0 : Int32)), (3, .int (rbR (M 7) ((apF (M 7) (M 8) (M 16) (M 6) C N i).2.2) (M 6) C N i)), (5, .int (rbR (M 7) ((apF (M 7) (M 8) (M 16) (M 6) C N i).2.2) (M 6) C N i)), (0, .ref (b 0)), (1, .int p0), (2, .int (nI Al)), (4, .int (nI i))]) hx hb dX9_apart_86 hl (by decide) rfl (fun ls hl => ?_)
                    have lp_88 : ∀ (n : Nat) (k : Nat), ((k ≤ N)) → ((N + 1 ≤ k + n)) → ∀ (H : Heap) (locs : List Loc) (ls : Array Slot), AtC D (tyG cI cZ cN) Ax (pMod cI cZ b (upA (upA (upA M 8 ((rbT (M 7) (apF (M 7) (M 8) (M 16) (M 6) C N i).2.2 C N i N).2.2)) 16 (cpA (apF (M 7) (M 8) (M 16) (M 6) C N i).2.1 (rbT (M 7) (apF (M 7) (M 8) (M 16) (M 6) C N i).2.2 C N i N).2.2 k)) 0 (upd (M 0) 0 (0 : Int32))) tr) sx H locs → lv_has ls 7 [(0, .ref (b 0)), (1, .int p0), (2, .int (nI Al)), (3, .int (rbR (M 7) ((apF (M 7) (M 8) (M 16) (M 6) C N i).2.2) (M 6) C N i)), (4, .int (nI i)), (5, .int (rbR (M 7) ((apF (M 7) (M 8) (M 16) (M 6) C N i).2.2) (M 6) C N i)), (6, .int (nI k))] → W pg l ev (rmN 2) sx mx ax bx mt cx H locs 0 0 Qx (F0 mx 88 ls []) := by
                      intro n
                      induction n with
                      | zero =>
                        intro k hk_88 hn_88 H locs ls hW hl
                        exact absurd hn_88 (by omega)
                      | succ n ih88 =>
                        intro k hk_88 hn_88 H locs ls hW hl
                        refine lv_iload hx hb dX9_apart_88 (lv_at hl 6 rfl) ?_
                        refine lv_aload_n hx hb dX9_apart_90 rfl (lv_at hl 0 rfl) ?_
                        refine r_get Sx hW 0 rfl rfl bw_wsX90 9 (by decide) (v := .ref (b 2)) rfl mw115 dX9_apart_91 ?_
                        refine lv_iconst (v := (1 : Int32)) hx hb dX9_apart_94 rfl ?_
                        refine r_iald Sx hW 2 0 (f := (M 2)) rfl rfl (j := 1) rfl (by decide) (by decide) dX9_apart_95 ?_
                        refine r_eq (y := (nI N)) hN ?_
                        refine lv_icmp_ge (tgt := 121) hx hb dX9_apart_96 rfl (fun c_96 => ?_) (fun c_96 => ?_)
                        · have ge_96 : N ≤ k := (nI_leI (a := N) (b := k) (by omega) (by omega)).mp c_96
                          have ee_96 : N = k := by omega
                          subst ee_96
                          refine lv_iinc (v := (nI (i + 1))) (lv' := [(4, .int (nI (i + 1))), (0, .ref (b 0)), (1, .int p0), (2, .int (nI Al)), (3, .int (rbR (M 7) ((apF (M 7) (M 8) (M 16) (M 6) C N i).2.2) (M 6) C N i)), (5, .int (rbR (M 7) ((apF (M 7) (M 8) (M 16) (M 6) C N i).2.2) (M 6) C N i)), (6, .int (nI N))]) hx hb dX9_apart_121 hl (k := 4) rfl (inc_n i 1) (by decide) rfl (fun ls hl => ?_)
                          refine lv_goto (tgt := 55) hx hb dX9_apart_124 rfl ?_
                          have hl_5 : lv_has ls 7 [(0, .ref (b 0)), (1, .int p0), (2, .int (nI Al)), (3, .int (apF (M 7) (M 8) (M 16) (M 6) C N (i + 1)).1), (4, .int (nI (i + 1)))] := by
                            rw [show (apF (M 7) (M 8) (M 16) (M 6) C N (i + 1)).1 = (rbR (M 7) ((apF (M 7) (M 8) (M 16) (M 6) C N i).2.2) (M 6) C N i) from by rw [apF, if_neg c_73, if_neg c_79]]
                            exact lv_sub hl [1, 2, 3, 4, 0] rfl
                          have hW_6 := hW.cong (ws' := (pMod cI cZ b (upA (upA (upA M 8 ((apF (M 7) (M 8) (M 16) (M 6) C N (i + 1)).2.2)) 16 ((apF (M 7) (M 8) (M 16) (M 6) C N (i + 1)).2.1)) 0 (upd (M 0) 0 (0 : Int32))) tr)) (by first | (rw [show (upA (upA (upA M 8 ((apF (M 7) (M 8) (M 16) (M 6) C N (i + 1)).2.2)) 16 ((apF (M 7) (M 8) (M 16) (M 6) C N (i + 1)).2.1)) 0 (upd (M 0) 0 (0 : Int32))) = (upA (upA (upA M 8 ((rbT (M 7) (apF (M 7) (M 8) (M 16) (M 6) C N i).2.2 C N i N).2.2)) 16 (cpA (apF (M 7) (M 8) (M 16) (M 6) C N i).2.1 (rbT (M 7) (apF (M 7) (M 8) (M 16) (M 6) C N i).2.2 C N i N).2.2 N)) 0 (upd (M 0) 0 (0 : Int32))) from by rw [apF, if_neg c_73, if_neg c_79]]; done) | (rw [show (upA (upA (upA M 8 ((apF (M 7) (M 8) (M 16) (M 6) C N (i + 1)).2.2)) 16 ((apF (M 7) (M 8) (M 16) (M 6) C N (i + 1)).2.1)) 0 (upd (M 0) 0 (0 : Int32))) = (upA (upA (upA M 8 ((rbT (M 7) (apF (M 7) (M 8) (M 16) (M 6) C N i).2.2 C N i N).2.2)) 16 (cpA (apF (M 7) (M 8) (M 16) (M 6) C N i).2.1 (rbT (M 7) (apF (M 7) (M 8) (M 16) (M 6) C N i).2.2 C N i N).2.2 N)) 0 (upd (M 0) 0 (0 : Int32))) from by rw [apF, if_neg c_73, if_neg c_79]]; rfl))
                          exact ih55 (i + 1) (by omega) (by omega) _ _ _ hW_6 hl_5
                        · have lt_96 : k < N := Nat.not_le.mp (fun h => c_96 ((nI_leI (a := N) (b := k) (by omega) (by omega)).mpr h))
                          refine lv_aload_n hx hb dX9_apart_99 rfl (lv_at hl 0 rfl) ?_
                          refine r_get Sx hW 0 rfl rfl bw_wsX90 27 (by decide) (v := .ref (b 16)) rfl mw129 dX9_apart_100 ?_
                          refine lv_iload hx hb dX9_apart_103 (lv_at hl 6 rfl) ?_
                          refine lv_aload_n hx hb dX9_apart_105 rfl (lv_at hl 0 rfl) ?_
                          refine r_get Sx hW 0 rfl rfl bw_wsX90 16 (by decide) (v := .ref (b 8)) rfl mw121 dX9_apart_106 ?_
                          refine lv_iconst (v := (0 : Int32)) hx hb dX9_apart_109 rfl ?_
                          refine lv_iload hx hb dX9_apart_110 (lv_at hl 6 rfl) ?_
                          refine lv_iadd hx hb dX9_apart_112 ?_
                          refine r_eq (y := (nI k)) ((nI_add 0 k).trans (congrArg nI (Nat.zero_add k))) ?_
                          refine r_iald Sx hW 8 0 (f := (rbT (M 7) (apF (M 7) (M 8) (M 16) (M 6) C N i).2.2 C N i N).2.2) rfl rfl (j := k) rfl (by omega) (by decide) dX9_apart_113 ?_
                          refine r_iast Sx hW 16 0 rfl rfl (j := k) rfl (by omega) (by decide) dX9_apart_114 (ws' := (pMod cI cZ b (upA (upA (upA M 8 ((rbT (M 7) (apF (M 7) (M 8) (M 16) (M 6) C N i).2.2 C N i N).2.2)) 16 (upd (cpA (apF (M 7) (M 8) (M 16) (M 6) C N i).2.1 (rbT (M 7) (apF (M 7) (M 8) (M 16) (M 6) C N i).2.2 C N i N).2.2 k) k (((rbT (M 7) (apF (M 7) (M 8) (M 16) (M 6) C N i).2.2 C N i N).2.2) k))) 0 (upd (M 0) 0 (0 : Int32))) tr)) rfl (fun H locs hW => ?_)
                          refine lv_iinc (v := (nI (k + 1))) (lv' := [(6, .int (nI (k + 1))), (0, .ref (b 0)), (1, .int p0), (2, .int (nI Al)), (3, .int (rbR (M 7) ((apF (M 7) (M 8) (M 16) (M 6) C N i).2.2) (M 6) C N i)), (4, .int (nI i)), (5, .int (rbR (M 7) ((apF (M 7) (M 8) (M 16) (M 6) C N i).2.2) (M 6) C N i))]) hx hb dX9_apart_115 hl (k := 6) rfl (inc_n k 1) (by decide) rfl (fun ls hl => ?_)
                          refine lv_goto (tgt := 88) hx hb dX9_apart_118 rfl ?_
                          exact ih88 (k + 1) (by omega) (by omega) _ _ _ hW (lv_sub hl [1, 2, 3, 4, 5, 6, 0] rfl)
                    exact lp_88 (N + 1) 0 (by omega) (by omega) _ _ _ hW (lv_sub hl [3, 4, 5, 1, 6, 2, 0] rfl)
          exact lp_55 (Al + 1) 0 (by omega) (by omega) _ _ _ hW (lv_sub hl [2, 3, 4, 1, 0] rfl)
        · have lt_31 : i < N := Nat.not_le.mp (fun h => c_31 ((nI_leI (a := N) (b := i) (by omega) (by omega)).mpr h))
          refine lv_iload_n hx hb dX9_apart_34 rfl (lv_at hl 2 rfl) ?_
          refine lv_aload_n hx hb dX9_apart_35 rfl (lv_at hl 0 rfl) ?_
          refine r_get Sx hW 0 rfl rfl bw_wsX90 9 (by decide) (v := .ref (b 2)) rfl mw115 dX9_apart_36 ?_
          refine lv_iconst (v := (0 : Int32)) hx hb dX9_apart_39 rfl ?_
          refine r_iald Sx hW 2 0 (f := (M 2)) rfl rfl (j := 0) rfl (by decide) (by decide) dX9_apart_40 ?_
          refine r_eq (y := (nI C)) hC ?_
          refine lv_imul hx hb dX9_apart_41 ?_
          refine r_eq (y := (nI ((C ^ i) * C))) (pk_mul (C ^ i) C) ?_
          refine lv_istore_n (lv' := [(2, .int (nI ((C ^ i) * C))), (0, .ref (b 0)), (1, .int p0), (3, .int (nI i))]) hx hb dX9_apart_42 rfl hl (by decide) rfl (fun ls hl => ?_)
          refine lv_iinc (v := (nI (i + 1))) (lv' := [(3, .int (nI (i + 1))), (2, .int (nI ((C ^ i) * C))), (0, .ref (b 0)), (1, .int p0)]) hx hb dX9_apart_43 hl (k := 3) rfl (inc_n i 1) (by decide) rfl (fun ls hl => ?_)
          refine lv_goto (tgt := 24) hx hb dX9_apart_46 rfl ?_
          exact ih24 (i + 1) (by omega) (by omega) _ _ _ hW (lv_sub hl [2, 3, 1, 0] rfl)
    exact lp_24 (N + 1) 0 (by omega) (by omega) _ _ _ hW (lv_sub hl [2, 3, 1, 0] rfl)
  · refine lv_aload_n hx hb dX9_apart_10 rfl (lv_at hl 0 rfl) ?_
    refine lv_iload_n hx hb dX9_apart_11 rfl (lv_at hl 1 rfl) ?_
    refine callVI Sx hW (c_X9_isPerson l D cI cZ cN b (upA M 0 (upd (M 0) 0 (0 : Int32))) tr N C hN hN7 hC hC4 hC1 p0 ) vmX9_isPerson mw347 [0, 1, 2, 3, 4, 5, 6, 7, 8, 9, 10, 11, 12, 13, 14, 15, 16, 17] rfl (by decide) 0 rfl rfl (As := [.int p0]) (rest := []) rfl rfl hl.1 (Nat.le_of_ble_eq_true rfl) ⟨Nat.le_of_ble_eq_true rfl, Nat.le_of_ble_eq_true rfl⟩ ⟨Nat.le_refl _, Nat.le_refl _⟩ dX9_apart_12 (fun rx wx H locs hqx hW => ?_)
    obtain ⟨hrx, rfl⟩ := hqx
    have hW : AtC D (tyG cI cZ cN) Ax (pMod cI cZ b (upA M 0 (upd (M 0) 0 (0 : Int32))) tr) sx H locs := hW.re [] 18 (by decide) rfl rfl trivial (by decide +kernel) rfl rfl
    refine r_eq (y := (inI p0 0 (nI N - 1))) hrx ?_
    refine lv_if_ne (tgt := 20) hx hb dX9_apart_15 rfl (fun c_15 => ?_) (fun c_15 => ?_)
    · obtain ⟨P, hP, rfl⟩ := inI_nat (nI_m1 (show N < 1000 by omega)) c_15
      have clP : (nI P).toNatClampNeg = P := nI_clamp (by omega)
      refine lv_iconst (v := (1 : Int32)) hx hb dX9_apart_20 rfl ?_
      refine lv_istore_n (lv' := [(2, .int (1 : Int32)), (0, .ref (b 0)), (1, .int (nI P))]) hx hb dX9_apart_21 rfl hl (by decide) rfl (fun ls hl => ?_)
      refine lv_iconst (v := (0 : Int32)) hx hb dX9_apart_22 rfl ?_
      refine lv_istore_n (lv' := [(3, .int (0 : Int32)), (2, .int (1 : Int32)), (0, .ref (b 0)), (1, .int (nI P))]) hx hb dX9_apart_23 rfl hl (by decide) rfl (fun ls hl => ?_)
      have lp_24 : ∀ (n : Nat) (i : Nat), ((i ≤ N)) → ((N + 1 ≤ i + n)) → ∀ (H : Heap) (locs : List Loc) (ls : Array Slot), AtC D (tyG cI cZ cN) Ax (pMod cI cZ b (upA M 0 (upd (M 0) 0 (0 : Int32))) tr) sx H locs → lv_has ls 7 [(0, .ref (b 0)), (1, .int (nI P)), (2, .int (nI (C ^ i))), (3, .int (nI i))] → W pg l ev (rmN 2) sx mx ax bx mt cx H locs 0 0 Qx (F0 mx 24 ls []) := by
        intro n
        induction n with
        | zero =>
          intro i hi_24 hn_24 H locs ls hW hl
          exact absurd hn_24 (by omega)
        | succ n ih24 =>
          intro i hi_24 hn_24 H locs ls hW hl
          refine lv_iload_n hx hb dX9_apart_24 rfl (lv_at hl 3 rfl) ?_
          refine lv_aload_n hx hb dX9_apart_25 rfl (lv_at hl 0 rfl) ?_
          refine r_get Sx hW 0 rfl rfl bw_wsX90 9 (by decide) (v := .ref (b 2)) rfl mw115 dX9_apart_26 ?_
          refine lv_iconst (v := (1 : Int32)) hx hb dX9_apart_29 rfl ?_
          refine r_iald Sx hW 2 0 (f := (M 2)) rfl rfl (j := 1) rfl (by decide) (by decide) dX9_apart_30 ?_
          refine r_eq (y := (nI N)) hN ?_
          refine lv_icmp_ge (tgt := 49) hx hb dX9_apart_31 rfl (fun c_31 => ?_) (fun c_31 => ?_)
          · have ge_31 : N ≤ i := (nI_leI (a := N) (b := i) (by omega) (by omega)).mp c_31
            have ee_31 : N = i := by omega
            subst ee_31
            obtain ⟨Al, hAl⟩ : ∃ q, q = C ^ N := ⟨_, rfl⟩
            have hAl2 : Al ≤ 16384 := by rw [hAl]; exact cN7 hC4 hN7
            rw [← hAl] at hl
            refine r_ldc Sx (v := (1000000 : Int32)) mw645 dX9_apart_49 ?_
            refine lv_istore_n (lv' := [(3, .int (1000000 : Int32)), (0, .ref (b 0)), (1, .int (nI P)), (2, .int (nI Al))]) hx hb dX9_apart_51 rfl hl (by decide) rfl (fun ls hl => ?_)
            refine lv_iconst (v := (0 : Int32)) hx hb dX9_apart_52 rfl ?_
            refine lv_istore (lv' := [(4, .int (0 : Int32)), (3, .int (1000000 : Int32)), (0, .ref (b 0)), (1, .int (nI P)), (2, .int (nI Al))]) hx hb dX9_apart_53 hl (by decide) rfl (fun ls hl => ?_)
            have lp_55 : ∀ (n : Nat) (i : Nat), ((i ≤ Al)) → ((Al + 1 ≤ i + n)) → ∀ (H : Heap) (locs : List Loc) (ls : Array Slot), AtC D (tyG cI cZ cN) Ax (pMod cI cZ b (upA (upA (upA M 8 ((apF (M 7) (M 8) (M 16) (M 6) C N i).2.2)) 16 ((apF (M 7) (M 8) (M 16) (M 6) C N i).2.1)) 0 (upd (M 0) 0 (0 : Int32))) tr) sx H locs → lv_has ls 7 [(0, .ref (b 0)), (1, .int (nI P)), (2, .int (nI Al)), (3, .int (apF (M 7) (M 8) (M 16) (M 6) C N i).1), (4, .int (nI i))] → W pg l ev (rmN 2) sx mx ax bx mt cx H locs 0 0 Qx (F0 mx 55 ls []) := by
              intro n
              induction n with
              | zero =>
                intro i hi_55 hn_55 H locs ls hW hl
                exact absurd hn_55 (by omega)
              | succ n ih55 =>
                intro i hi_55 hn_55 H locs ls hW hl
                refine lv_iload hx hb dX9_apart_55 (lv_at hl 4 rfl) ?_
                refine lv_iload_n hx hb dX9_apart_57 rfl (lv_at hl 2 rfl) ?_
                refine lv_icmp_ge (tgt := 127) hx hb dX9_apart_58 rfl (fun c_58 => ?_) (fun c_58 => ?_)
                · have ge_58 : Al ≤ i := (nI_leI (a := Al) (b := i) (by omega) (by omega)).mp c_58
                  have ee_58 : Al = i := by omega
                  subst ee_58
                  refine lv_iload_n hx hb dX9_apart_127 rfl (lv_at hl 3 rfl) ?_
                  refine r_ldc Sx (v := (1000000 : Int32)) mw645 dX9_apart_128 ?_
                  refine lv_icmp_ne (tgt := 138) hx hb dX9_apart_130 rfl (fun c_130 => ?_) (fun c_130 => ?_)
                  · refine lv_iload_n hx hb dX9_apart_138 rfl (lv_at hl 1 rfl) ?_
                    refine lv_iconst (v := (-1 : Int32)) hx hb dX9_apart_139 rfl ?_
                    refine lv_icmp_ne (tgt := 147) hx hb dX9_apart_140 rfl (fun c_140 => ?_) (fun c_140 => ?_)
                    · refine lv_aload_n hx hb dX9_apart_147 rfl (lv_at hl 0 rfl) ?_
                      refine r_get Sx hW 0 rfl rfl bw_wsX90 27 (by decide) (v := .ref (b 16)) rfl mw129 dX9_apart_148 ?_
                      refine lv_iload_n hx hb dX9_apart_151 rfl (lv_at hl 1 rfl) ?_
                      refine r_iald Sx hW 16 0 (f := (apF (M 7) (M 8) (M 16) (M 6) C N Al).2.1) rfl rfl (j := P) rfl (by omega) (by decide) dX9_apart_152 ?_
                      exact hret _ _ _ _ _ _ hW rfl rfl dX9_apart_153 (⟨by rw [if_pos (Or.inr c_15), apX, ← hAl, if_neg c_130, if_neg c_140, clP], by rw [if_pos (Or.inr c_15), ← hAl]⟩)
                    · exact absurd c_140 c_7
                  · refine lv_bipush (v := (-9 : Int32)) hx hb dX9_apart_133 rfl ?_
                    refine lv_goto (tgt := 153) hx hb dX9_apart_135 rfl ?_
                    exact hret _ _ _ _ _ _ hW rfl rfl dX9_apart_153 (⟨by rw [if_pos (Or.inr c_15), apX, ← hAl, if_pos c_130], by rw [if_pos (Or.inr c_15), ← hAl]⟩)
                · have lt_58 : i < Al := Nat.not_le.mp (fun h => c_58 ((nI_leI (a := Al) (b := i) (by omega) (by omega)).mpr h))
                  refine lv_aload_n hx hb dX9_apart_61 rfl (lv_at hl 0 rfl) ?_
                  refine lv_iload hx hb dX9_apart_62 (lv_at hl 4 rfl) ?_
                  refine callVI Sx hW (c_X9_renamedBy l D cI cZ cN b (upA (upA (upA M 8 ((apF (M 7) (M 8) (M 16) (M 6) C N i).2.2)) 16 ((apF (M 7) (M 8) (M 16) (M 6) C N i).2.1)) 0 (upd (M 0) 0 (0 : Int32))) tr N C hN hN7 hC hC4 hC1 i (by omega) ) vmX9_renamedBy mw646 [0, 1, 2, 3, 4, 5, 6, 7, 8, 9, 10, 11, 12, 13, 14, 15, 16, 17] rfl (by decide) 0 rfl rfl (As := [.int (nI i)]) (rest := []) rfl rfl hl.1 (Nat.le_of_ble_eq_true rfl) ⟨Nat.le_of_ble_eq_true rfl, Nat.le_of_ble_eq_true rfl⟩ ⟨Nat.le_refl _, Nat.le_refl _⟩ dX9_apart_64 (fun rx wx H locs hqx hW => ?_)
                  obtain ⟨hrx, rfl⟩ := hqx
                  have hW : AtC D (tyG cI cZ cN) Ax (pMod cI cZ b (upA (upA (upA M 8 ((rbT (M 7) ((apF (M 7) (M 8) (M 16) (M 6) C N i).2.2) C N i N).2.2)) 16 ((apF (M 7) (M 8) (M 16) (M 6) C N i).2.1)) 0 (upd (M 0) 0 (0 : Int32))) tr) sx H locs := hW.re [] 18 (by decide) rfl rfl trivial (by decide +kernel) rfl rfl
                  refine r_eq (y := (rbR (M 7) ((apF (M 7) (M 8) (M 16) (M 6) C N i).2.2) (M 6) C N i)) hrx ?_
                  refine lv_istore (lv' := [(5, .int (rbR (M 7) ((apF (M 7) (M 8) (M 16) (M 6) C N i).2.2) (M 6) C N i)), (0, .ref (b 0)), (1, .int (nI P)), (2, .int (nI Al)), (3, .int (apF (M 7) (M 8) (M 16) (M 6) C N i).1), (4, .int (nI i))]) hx hb dX9_apart_67 hl (by decide) rfl (fun ls hl => ?_)
                  refine lv_iload hx hb dX9_apart_69 (lv_at hl 0 rfl) ?_
                  refine lv_bipush (v := (-9 : Int32)) hx hb dX9_apart_71 rfl ?_
                  refine lv_icmp_eq (tgt := 121) hx hb dX9_apart_73 rfl (fun c_73 => ?_) (fun c_73 => ?_)
                  · refine lv_iinc (v := (nI (i + 1))) (lv' := [(4, .int (nI (i + 1))), (5, .int (rbR (M 7) ((apF (M 7) (M 8) (M 16) (M 6) C N i).2.2) (M 6) C N i)), (0, .ref (b 0)), (1, .int (nI P)), (2, .int (nI Al)), (3, .int (apF (M 7) (M 8) (M 16) (M 6) C N i).1)]) hx hb dX9_apart_121 hl (k := 5) rfl (inc_n i 1) (by decide) rfl (fun ls hl => ?_)
                    refine lv_goto (tgt := 55) hx hb dX9_apart_124 rfl ?_
                    have hl_7 : lv_has ls 7 [(0, .ref (b 0)), (1, .int (nI P)), (2, .int (nI Al)), (3, .int (apF (M 7) (M 8) (M 16) (M 6) C N (i + 1)).1), (4, .int (nI (i + 1)))] := by
                      rw [show (apF (M 7) (M 8) (M 16) (M 6) C N (i + 1)).1 = (apF (M 7) (M 8) (M 16) (M 6) C N i).1 from by rw [apF, if_pos c_73]]
                      exact lv_sub hl [2, 3, 4, 5, 0] rfl
                    have hW_8 := hW.cong (ws' := (pMod cI cZ b (upA (upA (upA M 8 ((apF (M 7) (M 8) (M 16) (M 6) C N (i + 1)).2.2)) 16 ((apF (M 7) (M 8) (M 16) (M 6) C N (i + 1)).2.1)) 0 (upd (M 0) 0 (0 : Int32))) tr)) (by first | (rw [show (upA (upA (upA M 8 ((apF (M 7) (M 8) (M 16) (M 6) C N (i + 1)).2.2)) 16 ((apF (M 7) (M 8) (M 16) (M 6) C N (i + 1)).2.1)) 0 (upd (M 0) 0 (0 : Int32))) = (upA (upA (upA M 8 ((rbT (M 7) ((apF (M 7) (M 8) (M 16) (M 6) C N i).2.2) C N i N).2.2)) 16 ((apF (M 7) (M 8) (M 16) (M 6) C N i).2.1)) 0 (upd (M 0) 0 (0 : Int32))) from by rw [apF, if_pos c_73]]; done) | (rw [show (upA (upA (upA M 8 ((apF (M 7) (M 8) (M 16) (M 6) C N (i + 1)).2.2)) 16 ((apF (M 7) (M 8) (M 16) (M 6) C N (i + 1)).2.1)) 0 (upd (M 0) 0 (0 : Int32))) = (upA (upA (upA M 8 ((rbT (M 7) ((apF (M 7) (M 8) (M 16) (M 6) C N i).2.2) C N i N).2.2)) 16 ((apF (M 7) (M 8) (M 16) (M 6) C N i).2.1)) 0 (upd (M 0) 0 (0 : Int32))) from by rw [apF, if_pos c_73]]; rfl))
                    exact ih55 (i + 1) (by omega) (by omega) _ _ _ hW_8 hl_7
                  · refine lv_iload hx hb dX9_apart_76 (lv_at hl 0 rfl) ?_
                    refine lv_iload_n hx hb dX9_apart_78 rfl (lv_at hl 4 rfl) ?_
                    refine lv_icmp_ge (tgt := 121) hx hb dX9_apart_79 rfl (fun c_79 => ?_) (fun c_79 => ?_)
                    · refine lv_iinc (v := (nI (i + 1))) (lv' := [(4, .int (nI (i + 1))), (5, .int (rbR (M 7) ((apF (M 7) (M 8) (M 16) (M 6) C N i).2.2) (M 6) C N i)), (0, .ref (b 0)), (1, .int (nI P)), (2, .int (nI Al)), (3, .int (apF (M 7) (M 8) (M 16) (M 6) C N i).1)]) hx hb dX9_apart_121 hl (k := 5) rfl (inc_n i 1) (by decide) rfl (fun ls hl => ?_)
                      refine lv_goto (tgt := 55) hx hb dX9_apart_124 rfl ?_
                      have hl_9 : lv_has ls 7 [(0, .ref (b 0)), (1, .int (nI P)), (2, .int (nI Al)), (3, .int (apF (M 7) (M 8) (M 16) (M 6) C N (i + 1)).1), (4, .int (nI (i + 1)))] := by
                        rw [show (apF (M 7) (M 8) (M 16) (M 6) C N (i + 1)).1 = (apF (M 7) (M 8) (M 16) (M 6) C N i).1 from by rw [apF, if_neg c_73, if_pos c_79]]
                        exact lv_sub hl [2, 3, 4, 5, 0] rfl
                      have hW_10 := hW.cong (ws' := (pMod cI cZ b (upA (upA (upA M 8 ((apF (M 7) (M 8) (M 16) (M 6) C N (i + 1)).2.2)) 16 ((apF (M 7) (M 8) (M 16) (M 6) C N (i + 1)).2.1)) 0 (upd (M 0) 0 (0 : Int32))) tr)) (by first | (rw [show (upA (upA (upA M 8 ((apF (M 7) (M 8) (M 16) (M 6) C N (i + 1)).2.2)) 16 ((apF (M 7) (M 8) (M 16) (M 6) C N (i + 1)).2.1)) 0 (upd (M 0) 0 (0 : Int32))) = (upA (upA (upA M 8 ((rbT (M 7) ((apF (M 7) (M 8) (M 16) (M 6) C N i).2.2) C N i N).2.2)) 16 ((apF (M 7) (M 8) (M 16) (M 6) C N i).2.1)) 0 (upd (M 0) 0 (0 : Int32))) from by rw [apF, if_neg c_73, if_pos c_79]]; done) | (rw [show (upA (upA (upA M 8 ((apF (M 7) (M 8) (M 16) (M 6) C N (i + 1)).2.2)) 16 ((apF (M 7) (M 8) (M 16) (M 6) C N (i + 1)).2.1)) 0 (upd (M 0) 0 (0 : Int32))) = (upA (upA (upA M 8 ((rbT (M 7) ((apF (M 7) (M 8) (M 16) (M 6) C N i).2.2) C N i N).2.2)) 16 ((apF (M 7) (M 8) (M 16) (M 6) C N i).2.1)) 0 (upd (M 0) 0 (0 : Int32))) from by rw [apF, if_neg c_73, if_pos c_79]]; rfl))
                      exact ih55 (i + 1) (by omega) (by omega) _ _ _ hW_10 hl_9
                    · refine lv_iload hx hb dX9_apart_82 (lv_at hl 0 rfl) ?_
                      refine lv_istore_n (lv' := [(3, .int (rbR (M 7) ((apF (M 7) (M 8) (M 16) (M 6) C N i).2.2) (M 6) C N i)), (5, .int (rbR (M 7) ((apF (M 7) (M 8) (M 16) (M 6) C N i).2.2) (M 6) C N i)), (0, .ref (b 0)), (1, .int (nI P)), (2, .int (nI Al)), (4, .int (nI i))]) hx hb dX9_apart_84 rfl hl (by decide) rfl (fun ls hl => ?_)
                      refine lv_iconst (v := (0 : Int32)) hx hb dX9_apart_85 rfl ?_
                      refine lv_istore (lv' := [(6, .int (0 : Int32)), (3, .int (rbR (M 7) ((apF (M 7) (M 8) (M 16) (M 6) C N i).2.2) (M 6) C N i)), (5, .int (rbR (M 7) ((apF (M 7) (M 8) (M 16) (M 6) C N i).2.2) (M 6) C N i)), (0, .ref (b 0)), (1, .int (nI P)), (2, .int (nI Al)), (4, .int (nI i))]) hx hb dX9_apart_86 hl (by decide) rfl (fun ls hl => ?_)
                      have lp_88 : ∀ (n : Nat) (k : Nat), ((k ≤ N)) → ((N + 1 ≤ k + n)) → ∀ (H : Heap) (locs : List Loc) (ls : Array Slot), AtC D (tyG cI cZ cN) Ax (pMod cI cZ b (upA (upA (upA M 8 ((rbT (M 7) (apF (M 7) (M 8) (M 16) (M 6) C N i).2.2 C N i N).2.2)) 16 (cpA (apF (M 7) (M 8) (M 16) (M 6) C N i).2.1 (rbT (M 7) (apF (M 7) (M 8) (M 16) (M 6) C N i).2.2 C N i N).2.2 k)) 0 (upd (M 0) 0 (0 : Int32))) tr) sx H locs → lv_has ls 7 [(0, .ref (b 0)), (1, .int (nI P)), (2, .int (nI Al)), (3, .int (rbR (M 7) ((apF (M 7) (M 8) (M 16) (M 6) C N i).2.2) (M 6) C N i)), (4, .int (nI i)), (5, .int (rbR (M 7) ((apF (M 7) (M 8) (M 16) (M 6) C N i).2.2) (M 6) C N i)), (6, .int (nI k))] → W pg l ev (rmN 2) sx mx ax bx mt cx H locs 0 0 Qx (F0 mx 88 ls []) := by
                        intro n
                        induction n with
                        | zero =>
                          intro k hk_88 hn_88 H locs ls hW hl
                          exact absurd hn_88 (by omega)
                        | succ n ih88 =>
                          intro k hk_88 hn_88 H locs ls hW hl
                          refine lv_iload hx hb dX9_apart_88 (lv_at hl 6 rfl) ?_
                          refine lv_aload_n hx hb dX9_apart_90 rfl (lv_at hl 0 rfl) ?_
                          refine r_get Sx hW 0 rfl rfl bw_wsX90 9 (by decide) (v := .ref (b 2)) rfl mw115 dX9_apart_91 ?_
                          refine lv_iconst (v := (1 : Int32)) hx hb dX9_apart_94 rfl ?_
                          refine r_iald Sx hW 2 0 (f := (M 2)) rfl rfl (j := 1) rfl (by decide) (by decide) dX9_apart_95 ?_
                          refine r_eq (y := (nI N)) hN ?_
                          refine lv_icmp_ge (tgt := 121) hx hb dX9_apart_96 rfl (fun c_96 => ?_) (fun c_96 => ?_)
                          · have ge_96 : N ≤ k := (nI_leI (a := N) (b := k) (by omega) (by omega)).mp c_96
                            have ee_96 : N = k := by omega
                            subst ee_96
                            refine lv_iinc (v := (nI (i + 1))) (lv' := [(4, .int (nI (i + 1))), (0, .ref (b 0)), (1, .int (nI P)), (2, .int (nI Al)), (3, .int (rbR (M 7) ((apF (M 7) (M 8) (M 16) (M 6) C N i).2.2) (M 6) C N i)), (5, .int (rbR (M 7) ((apF (M 7) (M 8) (M 16) (M 6) C N i).2.2) (M 6) C N i)), (6, .int (nI N))]) hx hb dX9_apart_121 hl (k := 4) rfl (inc_n i 1) (by decide) rfl (fun ls hl => ?_)
                            refine lv_goto (tgt := 55) hx hb dX9_apart_124 rfl ?_
                            have hl_11 : lv_has ls 7 [(0, .ref (b 0)), (1, .int (nI P)), (2, .int (nI Al)), (3, .int (apF (M 7) (M 8) (M 16) (M 6) C N (i + 1)).1), (4, .int (nI (i + 1)))] := by
                              rw [show (apF (M 7) (M 8) (M 16) (M 6) C N (i + 1)).1 = (rbR (M 7) ((apF (M 7) (M 8) (M 16) (M 6) C N i).2.2) (M 6) C N i) from by rw [apF, if_neg c_73, if_neg c_79]]
                              exact lv_sub hl [1, 2, 3, 4, 0] rfl
                            have hW_12 := hW.cong (ws' := (pMod cI cZ b (upA (upA (upA M 8 ((apF (M 7) (M 8) (M 16) (M 6) C N (i + 1)).2.2)) 16 ((apF (M 7) (M 8) (M 16) (M 6) C N (i + 1)).2.1)) 0 (upd (M 0) 0 (0 : Int32))) tr)) (by first | (rw [show (upA (upA (upA M 8 ((apF (M 7) (M 8) (M 16) (M 6) C N (i + 1)).2.2)) 16 ((apF (M 7) (M 8) (M 16) (M 6) C N (i + 1)).2.1)) 0 (upd (M 0) 0 (0 : Int32))) = (upA (upA (upA M 8 ((rbT (M 7) (apF (M 7) (M 8) (M 16) (M 6) C N i).2.2 C N i N).2.2)) 16 (cpA (apF (M 7) (M 8) (M 16) (M 6) C N i).2.1 (rbT (M 7) (apF (M 7) (M 8) (M 16) (M 6) C N i).2.2 C N i N).2.2 N)) 0 (upd (M 0) 0 (0 : Int32))) from by rw [apF, if_neg c_73, if_neg c_79]]; done) | (rw [show (upA (upA (upA M 8 ((apF (M 7) (M 8) (M 16) (M 6) C N (i + 1)).2.2)) 16 ((apF (M 7) (M 8) (M 16) (M 6) C N (i + 1)).2.1)) 0 (upd (M 0) 0 (0 : Int32))) = (upA (upA (upA M 8 ((rbT (M 7) (apF (M 7) (M 8) (M 16) (M 6) C N i).2.2 C N i N).2.2)) 16 (cpA (apF (M 7) (M 8) (M 16) (M 6) C N i).2.1 (rbT (M 7) (apF (M 7) (M 8) (M 16) (M 6) C N i).2.2 C N i N).2.2 N)) 0 (upd (M 0) 0 (0 : Int32))) from by rw [apF, if_neg c_73, if_neg c_79]]; rfl))
                            exact ih55 (i + 1) (by omega) (by omega) _ _ _ hW_12 hl_11
                          · have lt_96 : k < N := Nat.not_le.mp (fun h => c_96 ((nI_leI (a := N) (b := k) (by omega) (by omega)).mpr h))
                            refine lv_aload_n hx hb dX9_apart_99 rfl (lv_at hl 0 rfl) ?_
                            refine r_get Sx hW 0 rfl rfl bw_wsX90 27 (by decide) (v := .ref (b 16)) rfl mw129 dX9_apart_100 ?_
                            refine lv_iload hx hb dX9_apart_103 (lv_at hl 6 rfl) ?_
                            refine lv_aload_n hx hb dX9_apart_105 rfl (lv_at hl 0 rfl) ?_
                            refine r_get Sx hW 0 rfl rfl bw_wsX90 16 (by decide) (v := .ref (b 8)) rfl mw121 dX9_apart_106 ?_
                            refine lv_iconst (v := (0 : Int32)) hx hb dX9_apart_109 rfl ?_
                            refine lv_iload hx hb dX9_apart_110 (lv_at hl 6 rfl) ?_
                            refine lv_iadd hx hb dX9_apart_112 ?_
                            refine r_eq (y := (nI k)) ((nI_add 0 k).trans (congrArg nI (Nat.zero_add k))) ?_
                            refine r_iald Sx hW 8 0 (f := (rbT (M 7) (apF (M 7) (M 8) (M 16) (M 6) C N i).2.2 C N i N).2.2) rfl rfl (j := k) rfl (by omega) (by decide) dX9_apart_113 ?_
                            refine r_iast Sx hW 16 0 rfl rfl (j := k) rfl (by omega) (by decide) dX9_apart_114 (ws' := (pMod cI cZ b (upA (upA (upA M 8 ((rbT (M 7) (apF (M 7) (M 8) (M 16) (M 6) C N i).2.2 C N i N).2.2)) 16 (upd (cpA (apF (M 7) (M 8) (M 16) (M 6) C N i).2.1 (rbT (M 7) (apF (M 7) (M 8) (M 16) (M 6) C N i).2.2 C N i N).2.2 k) k (((rbT (M 7) (apF (M 7) (M 8) (M 16) (M 6) C N i).2.2 C N i N).2.2) k))) 0 (upd (M 0) 0 (0 : Int32))) tr)) rfl (fun H locs hW => ?_)
                            refine lv_iinc (v := (nI (k + 1))) (lv' := [(6, .int (nI (k + 1))), (0, .ref (b 0)), (1, .int (nI P)), (2, .int (nI Al)), (3, .int (rbR (M 7) ((apF (M 7) (M 8) (M 16) (M 6) C N i).2.2) (M 6) C N i)), (4, .int (nI i)), (5, .int (rbR (M 7) ((apF (M 7) (M 8) (M 16) (M 6) C N i).2.2) (M 6) C N i))]) hx hb dX9_apart_115 hl (k := 6) rfl (inc_n k 1) (by decide) rfl (fun ls hl => ?_)
                            refine lv_goto (tgt := 88) hx hb dX9_apart_118 rfl ?_
                            exact ih88 (k + 1) (by omega) (by omega) _ _ _ hW (lv_sub hl [1, 2, 3, 4, 5, 6, 0] rfl)
                      exact lp_88 (N + 1) 0 (by omega) (by omega) _ _ _ hW (lv_sub hl [3, 4, 5, 1, 6, 2, 0] rfl)
            exact lp_55 (Al + 1) 0 (by omega) (by omega) _ _ _ hW (lv_sub hl [2, 3, 4, 1, 0] rfl)
          · have lt_31 : i < N := Nat.not_le.mp (fun h => c_31 ((nI_leI (a := N) (b := i) (by omega) (by omega)).mpr h))
            refine lv_iload_n hx hb dX9_apart_34 rfl (lv_at hl 2 rfl) ?_
            refine lv_aload_n hx hb dX9_apart_35 rfl (lv_at hl 0 rfl) ?_
            refine r_get Sx hW 0 rfl rfl bw_wsX90 9 (by decide) (v := .ref (b 2)) rfl mw115 dX9_apart_36 ?_
            refine lv_iconst (v := (0 : Int32)) hx hb dX9_apart_39 rfl ?_
            refine r_iald Sx hW 2 0 (f := (M 2)) rfl rfl (j := 0) rfl (by decide) (by decide) dX9_apart_40 ?_
            refine r_eq (y := (nI C)) hC ?_
            refine lv_imul hx hb dX9_apart_41 ?_
            refine r_eq (y := (nI ((C ^ i) * C))) (pk_mul (C ^ i) C) ?_
            refine lv_istore_n (lv' := [(2, .int (nI ((C ^ i) * C))), (0, .ref (b 0)), (1, .int (nI P)), (3, .int (nI i))]) hx hb dX9_apart_42 rfl hl (by decide) rfl (fun ls hl => ?_)
            refine lv_iinc (v := (nI (i + 1))) (lv' := [(3, .int (nI (i + 1))), (2, .int (nI ((C ^ i) * C))), (0, .ref (b 0)), (1, .int (nI P))]) hx hb dX9_apart_43 hl (k := 3) rfl (inc_n i 1) (by decide) rfl (fun ls hl => ?_)
            refine lv_goto (tgt := 24) hx hb dX9_apart_46 rfl ?_
            exact ih24 (i + 1) (by omega) (by omega) _ _ _ hW (lv_sub hl [2, 3, 1, 0] rfl)
      exact lp_24 (N + 1) 0 (by omega) (by omega) _ _ _ hW (lv_sub hl [2, 3, 1, 0] rfl)
    · refine lv_iconst (v := (-1 : Int32)) hx hb dX9_apart_18 rfl ?_
      exact hret _ _ _ _ _ _ hW rfl rfl dX9_apart_19 (⟨by rw [if_neg (fun h => h.elim (fun q => c_7 q) (fun q => q c_15))], by rw [if_neg (fun h => h.elim (fun q => c_7 q) (fun q => q c_15))]⟩)
