/-! OneJohnModel: rate -/
def raM (r : Nat → Int32) (N : Nat) (k : Int32) (P : Nat) : Int32 := if k = 0 then r (7 + P) else if k = 1 then r (7 + P) + fmM r N P else if k = 2 then r (7 + P) - txM r N P else if k = 3 then 2 * (r (7 + P) + fmM r N P) else if k = 4 then r (7 + P) - txM r N P + nI P else r (7 + P) + r 24
def raT (k : Int32) : Int64 := if k = 0 then 1 else if k = 1 then 11 else if k = 2 then 101 else if k = 3 then 1011 else if k = 4 then 10101 else 100001
abbrev raO (N : Nat) (k p : Int32) : Prop := ¬ inI k 0 5 = 0 ∧ ¬ inI p 0 (nI N - 1) = 0
theorem tn_n {P : Nat} (h : P < 1000) : tn (nI P) = P := nI_clamp (by omega)

set_option maxHeartbeats 4000000 in
set_option maxRecDepth 100000 in
theorem c_X9_rate (l : Launch) (D : va_G) (cI cZ cN : ClassId) (b : Nat → Nat) (M : NV) (tr : Int64) (N C : Nat) (hN : M 2 1 = nI N) (hN7 : N ≤ 7) (hC : M 2 0 = nI C) (hC4 : C ≤ 4) (hC1 : 1 ≤ C) (k : Int32) (p0 : Int32) : CtI l yX9_rate cX9_rate 6 (some .int) 3 D (tyG cI cZ cN) [.ref (b 0), .int k, .int p0] (pMod cI cZ b M tr) (fun r w => r = (if raO N k p0 then raM (M 7) N k (tn p0) else -1000000) ∧ w = (pMod cI cZ b (upA M 0 (upd (M 0) 0 (0 : Int32))) (if raO N k p0 then tr + raT k else tr))) := by
  refine CtI.of rfl (Nat.le_of_ble_eq_true rfl) ?_
  intro pg ev sx mx ax bx mt cx ls Qx Ax Sx hret hW hl
  have hx := Sx.1
  have hb := Sx.2.1
  have hl : lv_has ls 6 [(0, .ref (b 0)), (1, .int k), (2, .int p0)] := hl
  refine lv_aload_n hx hb dX9_rate_0 rfl (lv_at hl 0 rfl) ?_
  refine lv_iconst (v := (0 : Int32)) hx hb dX9_rate_1 rfl ?_
  refine r_put Sx hW 0 rfl rfl bw_wsX90 tyX9_ok nmX9 0 (by decide) mw144 rfl rfl rfl (Nat.le_of_ble_eq_true rfl) dX9_rate_2 (ws' := (pMod cI cZ b (upA M 0 (upd (M 0) 0 (0 : Int32))) tr)) rfl (fun H locs hW => ?_)
  refine lv_iload_n hx hb dX9_rate_5 rfl (lv_at hl 1 rfl) ?_
  refine lv_iconst (v := (0 : Int32)) hx hb dX9_rate_6 rfl ?_
  refine lv_iconst (v := (5 : Int32)) hx hb dX9_rate_7 rfl ?_
  refine callSI Sx hW (c_X9_in l D cI cZ cN k (0 : Int32) (5 : Int32)) smX9_in mw146 (As := [.int k, .int (0 : Int32), .int (5 : Int32)]) (rest := []) rfl rfl hl.1 (Nat.le_of_ble_eq_true rfl) ⟨Nat.le_of_ble_eq_true rfl, Nat.le_of_ble_eq_true rfl⟩ ⟨Nat.le_refl _, Nat.le_refl _⟩ dX9_rate_8 (fun rx H locs hqx hW => ?_)
  obtain ⟨hrx, -⟩ := hqx
  refine r_eq (y := (inI k (0 : Int32) (5 : Int32))) hrx ?_
  refine lv_if_eq (tgt := 22) hx hb dX9_rate_11 rfl (fun c_11 => ?_) (fun c_11 => ?_)
  · refine r_ldc Sx (v := (-1000000 : Int32)) mw795 dX9_rate_22 ?_
    exact hret _ _ _ _ _ _ hW rfl rfl dX9_rate_24 (⟨by rw [if_neg (fun h : raO N k p0 => h.1 c_11)], by rw [if_neg (fun h : raO N k p0 => h.1 c_11)]⟩)
  · refine lv_aload_n hx hb dX9_rate_14 rfl (lv_at hl 0 rfl) ?_
    refine lv_iload_n hx hb dX9_rate_15 rfl (lv_at hl 2 rfl) ?_
    refine callVI Sx hW (c_X9_isPerson l D cI cZ cN b (upA M 0 (upd (M 0) 0 (0 : Int32))) tr N C hN hN7 hC hC4 hC1 p0 ) vmX9_isPerson mw347 [0, 1, 2, 3, 4, 5, 6, 7, 8, 9, 10, 11, 12, 13, 14, 15, 16, 17] rfl (by decide) 0 rfl rfl (As := [.int p0]) (rest := []) rfl rfl hl.1 (Nat.le_of_ble_eq_true rfl) ⟨Nat.le_of_ble_eq_true rfl, Nat.le_of_ble_eq_true rfl⟩ ⟨Nat.le_refl _, Nat.le_refl _⟩ dX9_rate_16 (fun rx wx H locs hqx hW => ?_)
    obtain ⟨hrx, rfl⟩ := hqx
    have hW : AtC D (tyG cI cZ cN) Ax (pMod cI cZ b (upA M 0 (upd (M 0) 0 (0 : Int32))) tr) sx H locs := hW.re [] 18 (by decide) rfl rfl trivial (by decide +kernel) rfl rfl
    refine r_eq (y := (inI p0 0 (nI N - 1))) hrx ?_
    refine lv_if_ne (tgt := 25) hx hb dX9_rate_19 rfl (fun c_19 => ?_) (fun c_19 => ?_)
    · obtain ⟨P, hP, rfl⟩ := inI_nat (nI_m1 (show N < 1000 by omega)) c_19
      refine lv_aload_n hx hb dX9_rate_25 rfl (lv_at hl 0 rfl) ?_
      refine r_get Sx hW 0 rfl rfl bw_wsX90 15 (by decide) (v := .ref (b 7)) rfl mw120 dX9_rate_26 ?_
      refine lv_bipush (v := (7 : Int32)) hx hb dX9_rate_29 rfl ?_
      refine lv_iload_n hx hb dX9_rate_31 rfl (lv_at hl 2 rfl) ?_
      refine lv_iadd hx hb dX9_rate_32 ?_
      refine r_eq (y := (nI (7 + P))) (nI_add 7 P) ?_
      refine r_iald Sx hW 7 0 (f := (M 7)) rfl rfl (j := 7 + P) rfl (by omega) (by decide) dX9_rate_33 ?_
      refine lv_istore_n (lv' := [(3, .int ((M 7) (7 + P))), (0, .ref (b 0)), (1, .int k), (2, .int (nI P))]) hx hb dX9_rate_34 rfl hl (by decide) rfl (fun ls hl => ?_)
      refine lv_iload_n hx hb dX9_rate_35 rfl (lv_at hl 0 rfl) ?_
      refine lv_aload_n hx hb dX9_rate_36 rfl (lv_at hl 1 rfl) ?_
      refine lv_aload_n hx hb dX9_rate_37 rfl (lv_at hl 1 rfl) ?_
      refine r_get Sx hW 0 rfl rfl bw_wsX90 15 (by decide) (v := .ref (b 7)) rfl mw120 dX9_rate_38 ?_
      refine lv_iload_n hx hb dX9_rate_41 rfl (lv_at hl 3 rfl) ?_
      refine callVI Sx hW (c_X9_fame_s l D cI cZ cN b (upA M 0 (upd (M 0) 0 (0 : Int32))) tr N C hN hN7 hC hC4 hC1 P (by omega) ) vmX9_fame mw362 [0, 1, 2, 3, 4, 5, 6, 7, 8, 9, 10, 11, 12, 13, 14, 15, 16, 17] rfl (by decide) 0 rfl rfl (As := [.ref (b 7), .int (nI P)]) (rest := [.int ((M 7) (7 + P))]) rfl rfl hl.1 (Nat.le_of_ble_eq_true rfl) ⟨Nat.le_of_ble_eq_true rfl, Nat.le_of_ble_eq_true rfl⟩ ⟨Nat.le_refl _, Nat.le_refl _⟩ dX9_rate_42 (fun rx wx H locs hqx hW => ?_)
      obtain ⟨hrx, rfl⟩ := hqx
      have hW : AtC D (tyG cI cZ cN) Ax (pMod cI cZ b (upA M 0 (upd (M 0) 0 (0 : Int32))) tr) sx H locs := hW.re [] 18 (by decide) rfl rfl trivial (by decide +kernel) rfl rfl
      refine r_eq (y := (fmM (M 7) N P)) hrx ?_
      refine lv_iadd hx hb dX9_rate_45 ?_
      refine lv_istore (lv' := [(4, .int (((M 7) (7 + P)) + (fmM (M 7) N P))), (3, .int ((M 7) (7 + P))), (0, .ref (b 0)), (1, .int k), (2, .int (nI P))]) hx hb dX9_rate_46 hl (by decide) rfl (fun ls hl => ?_)
      refine lv_iload_n hx hb dX9_rate_48 rfl (lv_at hl 1 rfl) ?_
      refine lv_aload_n hx hb dX9_rate_49 rfl (lv_at hl 2 rfl) ?_
      refine lv_aload_n hx hb dX9_rate_50 rfl (lv_at hl 2 rfl) ?_
      refine r_get Sx hW 0 rfl rfl bw_wsX90 15 (by decide) (v := .ref (b 7)) rfl mw120 dX9_rate_51 ?_
      refine lv_iload_n hx hb dX9_rate_54 rfl (lv_at hl 4 rfl) ?_
      refine callVI Sx hW (c_X9_tax_s l D cI cZ cN b (upA M 0 (upd (M 0) 0 (0 : Int32))) tr N C hN hN7 hC hC4 hC1 P (by omega) ) vmX9_tax mw370 [0, 1, 2, 3, 4, 5, 6, 7, 8, 9, 10, 11, 12, 13, 14, 15, 16, 17] rfl (by decide) 0 rfl rfl (As := [.ref (b 7), .int (nI P)]) (rest := [.int ((M 7) (7 + P))]) rfl rfl hl.1 (Nat.le_of_ble_eq_true rfl) ⟨Nat.le_of_ble_eq_true rfl, Nat.le_of_ble_eq_true rfl⟩ ⟨Nat.le_refl _, Nat.le_refl _⟩ dX9_rate_55 (fun rx wx H locs hqx hW => ?_)
      obtain ⟨hrx, rfl⟩ := hqx
      have hW : AtC D (tyG cI cZ cN) Ax (pMod cI cZ b (upA M 0 (upd (M 0) 0 (0 : Int32))) tr) sx H locs := hW.re [] 18 (by decide) rfl rfl trivial (by decide +kernel) rfl rfl
      refine r_eq (y := (txM (M 7) N P)) hrx ?_
      refine lv_isub hx hb dX9_rate_58 ?_
      refine lv_istore (lv' := [(5, .int (((M 7) (7 + P)) - (txM (M 7) N P))), (4, .int (((M 7) (7 + P)) + (fmM (M 7) N P))), (3, .int ((M 7) (7 + P))), (0, .ref (b 0)), (1, .int k), (2, .int (nI P))]) hx hb dX9_rate_59 hl (by decide) rfl (fun ls hl => ?_)
      refine lv_aload_n hx hb dX9_rate_61 rfl (lv_at hl 3 rfl) ?_
      refine lv_dup hx hb dX9_rate_62 rfl ?_
      refine r_get Sx hW 0 rfl rfl bw_wsX90 1 (by decide) (v := .long tr) rfl mw796 dX9_rate_63 ?_
      refine lv_iload_n hx hb dX9_rate_66 rfl (lv_at hl 4 rfl) ?_
      refine lv_if_ne (tgt := 74) hx hb dX9_rate_67 rfl (fun c_67 => ?_) (fun c_67 => ?_)
      · refine lv_iload_n hx hb dX9_rate_74 rfl (lv_at hl 4 rfl) ?_
        refine lv_iconst (v := (1 : Int32)) hx hb dX9_rate_75 rfl ?_
        refine lv_icmp_ne (tgt := 85) hx hb dX9_rate_76 rfl (fun c_76 => ?_) (fun c_76 => ?_)
        · refine lv_iload_n hx hb dX9_rate_85 rfl (lv_at hl 4 rfl) ?_
          refine lv_iconst (v := (2 : Int32)) hx hb dX9_rate_86 rfl ?_
          refine lv_icmp_ne (tgt := 96) hx hb dX9_rate_87 rfl (fun c_87 => ?_) (fun c_87 => ?_)
          · refine lv_iload_n hx hb dX9_rate_96 rfl (lv_at hl 4 rfl) ?_
            refine lv_iconst (v := (3 : Int32)) hx hb dX9_rate_97 rfl ?_
            refine lv_icmp_ne (tgt := 107) hx hb dX9_rate_98 rfl (fun c_98 => ?_) (fun c_98 => ?_)
            · refine lv_iload_n hx hb dX9_rate_107 rfl (lv_at hl 4 rfl) ?_
              refine lv_iconst (v := (4 : Int32)) hx hb dX9_rate_108 rfl ?_
              refine lv_icmp_ne (tgt := 118) hx hb dX9_rate_109 rfl (fun c_109 => ?_) (fun c_109 => ?_)
              · refine r_ldc2 Sx (v := (100001 : Int64)) mw801 dX9_rate_118 ?_
                refine lv_ladd hx hb dX9_rate_121 ?_
                refine r_put Sx hW 0 rfl rfl bw_wsX90 tyX9_ok nmX9 1 (by decide) mw796 rfl rfl rfl (Nat.le_of_ble_eq_true rfl) dX9_rate_122 (ws' := (pMod cI cZ b (upA M 0 (upd (M 0) 0 (0 : Int32))) (tr + (100001 : Int64)))) rfl (fun H locs hW => ?_)
                refine lv_iload_n hx hb dX9_rate_125 rfl (lv_at hl 4 rfl) ?_
                refine lv_if_ne (tgt := 133) hx hb dX9_rate_126 rfl (fun c_126 => ?_) (fun c_126 => ?_)
                · refine lv_iload_n hx hb dX9_rate_133 rfl (lv_at hl 4 rfl) ?_
                  refine lv_iconst (v := (1 : Int32)) hx hb dX9_rate_134 rfl ?_
                  refine lv_icmp_ne (tgt := 143) hx hb dX9_rate_135 rfl (fun c_135 => ?_) (fun c_135 => ?_)
                  · refine lv_iload_n hx hb dX9_rate_143 rfl (lv_at hl 4 rfl) ?_
                    refine lv_iconst (v := (2 : Int32)) hx hb dX9_rate_144 rfl ?_
                    refine lv_icmp_ne (tgt := 153) hx hb dX9_rate_145 rfl (fun c_145 => ?_) (fun c_145 => ?_)
                    · refine lv_iload_n hx hb dX9_rate_153 rfl (lv_at hl 4 rfl) ?_
                      refine lv_iconst (v := (3 : Int32)) hx hb dX9_rate_154 rfl ?_
                      refine lv_icmp_ne (tgt := 165) hx hb dX9_rate_155 rfl (fun c_155 => ?_) (fun c_155 => ?_)
                      · refine lv_iload_n hx hb dX9_rate_165 rfl (lv_at hl 4 rfl) ?_
                        refine lv_iconst (v := (4 : Int32)) hx hb dX9_rate_166 rfl ?_
                        refine lv_icmp_ne (tgt := 177) hx hb dX9_rate_167 rfl (fun c_167 => ?_) (fun c_167 => ?_)
                        · refine lv_iload_n hx hb dX9_rate_177 rfl (lv_at hl 2 rfl) ?_
                          refine lv_aload_n hx hb dX9_rate_178 rfl (lv_at hl 3 rfl) ?_
                          refine r_get Sx hW 0 rfl rfl bw_wsX90 15 (by decide) (v := .ref (b 7)) rfl mw120 dX9_rate_179 ?_
                          refine lv_bipush (v := (24 : Int32)) hx hb dX9_rate_182 rfl ?_
                          refine r_iald Sx hW 7 0 (f := (M 7)) rfl rfl (j := 24) rfl (by decide) (by decide) dX9_rate_184 ?_
                          refine lv_iadd hx hb dX9_rate_185 ?_
                          exact hret _ _ _ _ _ _ hW rfl rfl dX9_rate_186 (⟨by rw [if_pos (show raO N k (nI P) from ⟨c_11, c_19⟩), tn_n (by omega), raM, if_neg c_67, if_neg c_76, if_neg c_87, if_neg c_98, if_neg c_109] <;> rfl, by rw [if_pos (show raO N k (nI P) from ⟨c_11, c_19⟩), raT, if_neg c_67, if_neg c_76, if_neg c_87, if_neg c_98, if_neg c_109] <;> rfl⟩)
                        · exact absurd c_167 c_109
                      · exact absurd c_155 c_98
                    · exact absurd c_145 c_87
                  · exact absurd c_135 c_76
                · exact absurd c_126 c_67
              · refine r_ldc2 Sx (v := (10101 : Int64)) mw800 dX9_rate_112 ?_
                refine lv_goto (tgt := 121) hx hb dX9_rate_115 rfl ?_
                refine lv_ladd hx hb dX9_rate_121 ?_
                refine r_put Sx hW 0 rfl rfl bw_wsX90 tyX9_ok nmX9 1 (by decide) mw796 rfl rfl rfl (Nat.le_of_ble_eq_true rfl) dX9_rate_122 (ws' := (pMod cI cZ b (upA M 0 (upd (M 0) 0 (0 : Int32))) (tr + (10101 : Int64)))) rfl (fun H locs hW => ?_)
                refine lv_iload_n hx hb dX9_rate_125 rfl (lv_at hl 4 rfl) ?_
                refine lv_if_ne (tgt := 133) hx hb dX9_rate_126 rfl (fun c_126 => ?_) (fun c_126 => ?_)
                · refine lv_iload_n hx hb dX9_rate_133 rfl (lv_at hl 4 rfl) ?_
                  refine lv_iconst (v := (1 : Int32)) hx hb dX9_rate_134 rfl ?_
                  refine lv_icmp_ne (tgt := 143) hx hb dX9_rate_135 rfl (fun c_135 => ?_) (fun c_135 => ?_)
                  · refine lv_iload_n hx hb dX9_rate_143 rfl (lv_at hl 4 rfl) ?_
                    refine lv_iconst (v := (2 : Int32)) hx hb dX9_rate_144 rfl ?_
                    refine lv_icmp_ne (tgt := 153) hx hb dX9_rate_145 rfl (fun c_145 => ?_) (fun c_145 => ?_)
                    · refine lv_iload_n hx hb dX9_rate_153 rfl (lv_at hl 4 rfl) ?_
                      refine lv_iconst (v := (3 : Int32)) hx hb dX9_rate_154 rfl ?_
                      refine lv_icmp_ne (tgt := 165) hx hb dX9_rate_155 rfl (fun c_155 => ?_) (fun c_155 => ?_)
                      · refine lv_iload_n hx hb dX9_rate_165 rfl (lv_at hl 4 rfl) ?_
                        refine lv_iconst (v := (4 : Int32)) hx hb dX9_rate_166 rfl ?_
                        refine lv_icmp_ne (tgt := 177) hx hb dX9_rate_167 rfl (fun c_167 => ?_) (fun c_167 => ?_)
                        · exact absurd c_109 c_167
                        · refine lv_iload hx hb dX9_rate_170 (lv_at hl 0 rfl) ?_
                          refine lv_iload_n hx hb dX9_rate_172 rfl (lv_at hl 5 rfl) ?_
                          refine lv_iadd hx hb dX9_rate_173 ?_
                          refine lv_goto (tgt := 186) hx hb dX9_rate_174 rfl ?_
                          exact hret _ _ _ _ _ _ hW rfl rfl dX9_rate_186 (⟨by rw [if_pos (show raO N k (nI P) from ⟨c_11, c_19⟩), tn_n (by omega), raM, if_neg c_67, if_neg c_76, if_neg c_87, if_neg c_98, if_pos c_109] <;> rfl, by rw [if_pos (show raO N k (nI P) from ⟨c_11, c_19⟩), raT, if_neg c_67, if_neg c_76, if_neg c_87, if_neg c_98, if_pos c_109] <;> rfl⟩)
                      · exact absurd c_155 c_98
                    · exact absurd c_145 c_87
                  · exact absurd c_135 c_76
                · exact absurd c_126 c_67
            · refine r_ldc2 Sx (v := (1011 : Int64)) mw799 dX9_rate_101 ?_
              refine lv_goto (tgt := 121) hx hb dX9_rate_104 rfl ?_
              refine lv_ladd hx hb dX9_rate_121 ?_
              refine r_put Sx hW 0 rfl rfl bw_wsX90 tyX9_ok nmX9 1 (by decide) mw796 rfl rfl rfl (Nat.le_of_ble_eq_true rfl) dX9_rate_122 (ws' := (pMod cI cZ b (upA M 0 (upd (M 0) 0 (0 : Int32))) (tr + (1011 : Int64)))) rfl (fun H locs hW => ?_)
              refine lv_iload_n hx hb dX9_rate_125 rfl (lv_at hl 4 rfl) ?_
              refine lv_if_ne (tgt := 133) hx hb dX9_rate_126 rfl (fun c_126 => ?_) (fun c_126 => ?_)
              · refine lv_iload_n hx hb dX9_rate_133 rfl (lv_at hl 4 rfl) ?_
                refine lv_iconst (v := (1 : Int32)) hx hb dX9_rate_134 rfl ?_
                refine lv_icmp_ne (tgt := 143) hx hb dX9_rate_135 rfl (fun c_135 => ?_) (fun c_135 => ?_)
                · refine lv_iload_n hx hb dX9_rate_143 rfl (lv_at hl 4 rfl) ?_
                  refine lv_iconst (v := (2 : Int32)) hx hb dX9_rate_144 rfl ?_
                  refine lv_icmp_ne (tgt := 153) hx hb dX9_rate_145 rfl (fun c_145 => ?_) (fun c_145 => ?_)
                  · refine lv_iload_n hx hb dX9_rate_153 rfl (lv_at hl 4 rfl) ?_
                    refine lv_iconst (v := (3 : Int32)) hx hb dX9_rate_154 rfl ?_
                    refine lv_icmp_ne (tgt := 165) hx hb dX9_rate_155 rfl (fun c_155 => ?_) (fun c_155 => ?_)
                    · exact absurd c_98 c_155
                    · refine lv_iconst (v := (2 : Int32)) hx hb dX9_rate_158 rfl ?_
                      refine lv_iload hx hb dX9_rate_159 (lv_at hl 1 rfl) ?_
                      refine lv_imul hx hb dX9_rate_161 ?_
                      refine lv_goto (tgt := 186) hx hb dX9_rate_162 rfl ?_
                      exact hret _ _ _ _ _ _ hW rfl rfl dX9_rate_186 (⟨by rw [if_pos (show raO N k (nI P) from ⟨c_11, c_19⟩), tn_n (by omega), raM, if_neg c_67, if_neg c_76, if_neg c_87, if_pos c_98] <;> rfl, by rw [if_pos (show raO N k (nI P) from ⟨c_11, c_19⟩), raT, if_neg c_67, if_neg c_76, if_neg c_87, if_pos c_98] <;> rfl⟩)
                  · exact absurd c_145 c_87
                · exact absurd c_135 c_76
              · exact absurd c_126 c_67
          · refine r_ldc2 Sx (v := (101 : Int64)) mw798 dX9_rate_90 ?_
            refine lv_goto (tgt := 121) hx hb dX9_rate_93 rfl ?_
            refine lv_ladd hx hb dX9_rate_121 ?_
            refine r_put Sx hW 0 rfl rfl bw_wsX90 tyX9_ok nmX9 1 (by decide) mw796 rfl rfl rfl (Nat.le_of_ble_eq_true rfl) dX9_rate_122 (ws' := (pMod cI cZ b (upA M 0 (upd (M 0) 0 (0 : Int32))) (tr + (101 : Int64)))) rfl (fun H locs hW => ?_)
            refine lv_iload_n hx hb dX9_rate_125 rfl (lv_at hl 4 rfl) ?_
            refine lv_if_ne (tgt := 133) hx hb dX9_rate_126 rfl (fun c_126 => ?_) (fun c_126 => ?_)
            · refine lv_iload_n hx hb dX9_rate_133 rfl (lv_at hl 4 rfl) ?_
              refine lv_iconst (v := (1 : Int32)) hx hb dX9_rate_134 rfl ?_
              refine lv_icmp_ne (tgt := 143) hx hb dX9_rate_135 rfl (fun c_135 => ?_) (fun c_135 => ?_)
              · refine lv_iload_n hx hb dX9_rate_143 rfl (lv_at hl 4 rfl) ?_
                refine lv_iconst (v := (2 : Int32)) hx hb dX9_rate_144 rfl ?_
                refine lv_icmp_ne (tgt := 153) hx hb dX9_rate_145 rfl (fun c_145 => ?_) (fun c_145 => ?_)
                · exact absurd c_87 c_145
                · refine lv_iload hx hb dX9_rate_148 (lv_at hl 0 rfl) ?_
                  refine lv_goto (tgt := 186) hx hb dX9_rate_150 rfl ?_
                  exact hret _ _ _ _ _ _ hW rfl rfl dX9_rate_186 (⟨by rw [if_pos (show raO N k (nI P) from ⟨c_11, c_19⟩), tn_n (by omega), raM, if_neg c_67, if_neg c_76, if_pos c_87] <;> rfl, by rw [if_pos (show raO N k (nI P) from ⟨c_11, c_19⟩), raT, if_neg c_67, if_neg c_76, if_pos c_87] <;> rfl⟩)
              · exact absurd c_135 c_76
            · exact absurd c_126 c_67
        · refine r_ldc2 Sx (v := (11 : Int64)) mw797 dX9_rate_79 ?_
          refine lv_goto (tgt := 121) hx hb dX9_rate_82 rfl ?_
          refine lv_ladd hx hb dX9_rate_121 ?_
          refine r_put Sx hW 0 rfl rfl bw_wsX90 tyX9_ok nmX9 1 (by decide) mw796 rfl rfl rfl (Nat.le_of_ble_eq_true rfl) dX9_rate_122 (ws' := (pMod cI cZ b (upA M 0 (upd (M 0) 0 (0 : Int32))) (tr + (11 : Int64)))) rfl (fun H locs hW => ?_)
          refine lv_iload_n hx hb dX9_rate_125 rfl (lv_at hl 4 rfl) ?_
          refine lv_if_ne (tgt := 133) hx hb dX9_rate_126 rfl (fun c_126 => ?_) (fun c_126 => ?_)
          · refine lv_iload_n hx hb dX9_rate_133 rfl (lv_at hl 4 rfl) ?_
            refine lv_iconst (v := (1 : Int32)) hx hb dX9_rate_134 rfl ?_
            refine lv_icmp_ne (tgt := 143) hx hb dX9_rate_135 rfl (fun c_135 => ?_) (fun c_135 => ?_)
            · exact absurd c_76 c_135
            · refine lv_iload hx hb dX9_rate_138 (lv_at hl 1 rfl) ?_
              refine lv_goto (tgt := 186) hx hb dX9_rate_140 rfl ?_
              exact hret _ _ _ _ _ _ hW rfl rfl dX9_rate_186 (⟨by rw [if_pos (show raO N k (nI P) from ⟨c_11, c_19⟩), tn_n (by omega), raM, if_neg c_67, if_pos c_76] <;> rfl, by rw [if_pos (show raO N k (nI P) from ⟨c_11, c_19⟩), raT, if_neg c_67, if_pos c_76] <;> rfl⟩)
          · exact absurd c_126 c_67
      · refine lv_lconst (v := 1) hx hb dX9_rate_70 rfl ?_
        refine lv_goto (tgt := 121) hx hb dX9_rate_71 rfl ?_
        refine lv_ladd hx hb dX9_rate_121 ?_
        refine r_put Sx hW 0 rfl rfl bw_wsX90 tyX9_ok nmX9 1 (by decide) mw796 rfl rfl rfl (Nat.le_of_ble_eq_true rfl) dX9_rate_122 (ws' := (pMod cI cZ b (upA M 0 (upd (M 0) 0 (0 : Int32))) (tr + (1 : Int64)))) rfl (fun H locs hW => ?_)
        refine lv_iload_n hx hb dX9_rate_125 rfl (lv_at hl 4 rfl) ?_
        refine lv_if_ne (tgt := 133) hx hb dX9_rate_126 rfl (fun c_126 => ?_) (fun c_126 => ?_)
        · exact absurd c_67 c_126
        · refine lv_iload_n hx hb dX9_rate_129 rfl (lv_at hl 2 rfl) ?_
          refine lv_goto (tgt := 186) hx hb dX9_rate_130 rfl ?_
          exact hret _ _ _ _ _ _ hW rfl rfl dX9_rate_186 (⟨by rw [if_pos (show raO N k (nI P) from ⟨c_11, c_19⟩), tn_n (by omega), raM, if_pos c_67] <;> rfl, by rw [if_pos (show raO N k (nI P) from ⟨c_11, c_19⟩), raT, if_pos c_67] <;> rfl⟩)
    · refine r_ldc Sx (v := (-1000000 : Int32)) mw795 dX9_rate_22 ?_
      exact hret _ _ _ _ _ _ hW rfl rfl dX9_rate_24 (⟨by rw [if_neg (fun h : raO N k p0 => h.2 c_19)], by rw [if_neg (fun h : raO N k p0 => h.2 c_19)]⟩)
