/-! the law: its cases -/
/-- a method that answers with a long -/
theorem callVL {p : Program} {l : Launch} {e : Env} {R : Room} {s : State} {m : MethodId} {args : Array Value} {below : List Frame} {meth : Method} {c : Code} {H : Heap} {locs : List Loc} {cells slots : Nat} {Q : State → Prop} {cc : ByteArray} {nL pc : Nat} {ls : Array Slot} {rest : List Value} {D : va_G} {A : Nat → Prop} {tys : List (ClassId × FieldType)} {ws : va_W} {own : String} (S : CallFix p m c cc nL s args BW own) (hW : AtC D tys A ws s H locs) {y : MethodName} {b : ByteArray} {n : Nat} {fr b0 : Nat} {As : List Value} {wc : va_W} {post : Int64 → va_W → Prop} (hM : CtL l y b n fr D tys (.ref b0 :: As) wc post) {C : String} {k : Nat} (hV : VM C y b n (some .long) k) {idx : Nat} (hl : Cond.methodLink own idx y ∈ BW) (isC : List Nat) (hC : isC.map (fun i => ws[i]?) = wc.map some) (hn : isC.Nodup) (q0 : Nat) {ci : Nat} {T : u_T} {N : Nat} {fs : List Value} (hc : vwCl[ci]? = some (C, T, N)) (he : wc[q0]? = some (b0, .inr (ci, fs)))
    (hk : As.length = k) {st : List Value} (hst : st = As.reverse ++ .ref b0 :: rest) (hsz : ls.size = nL) (hro : (rest.map fun v => v.category).sum ≤ 8) (hR : fr + 1 ≤ R.frames ∧ 8 + (n + 11) + 40 * fr ≤ R.locals) (hf : cells ≤ R.cells ∧ slots ≤ R.slots) (hdg : decode cc pc = .ok (.invokevirtual idx, 3))
    (kk : ∀ (r : Int64) (w1 : va_W) (H1 : Heap) (locs1 : List Loc), post r w1 → AtC D tys A (putW ws isC w1) s H1 locs1 → W p l e R s m args below meth c H1 locs1 cells slots Q (F0 m (pc + 3) ls (.long r :: rest))) : W p l e R s m args below meth c H locs cells slots Q (F0 m pc ls st) := by
  subst hst
  obtain ⟨hPc, hDc, hFc⟩ := hW.cut isC hC hn
  have hpre := hW.pre (av := .ref b0 :: As) isC hC hn
  obtain ⟨hN, hK, hP, hD, hS, hA⟩ := hW
  obtain ⟨v1, v2, v3, v4, v5, v6, v7, v8⟩ := hV
  refine va_calll (va_runV (As := As) (rest := rest) S (hM H.size) (cwV (ws' := BW) k S.2.2.2.2 (giB (fun w hw => by
    unfold wsV at hw
    rcases List.mem_append.mp hw with h | h
    · simp at h
      rcases h with rfl | rfl | rfl | rfl
      · exact hl
      · exact v1
      · exact v2
      · exact v3
    · exact (List.mem_cons.mp h).elim (fun e => by rw [e]; exact v4) id)) rfl rfl rfl ⟨v5, v6, v7, v8⟩ hR) ⟨PC.blind, va_recv hK hPc hc he, hpre⟩ rfl hk hsz rfl (lv_room hro) hdg ⟨by simpa using hf.1, by simpa using hf.2⟩) hS (fun q _ h => hFc q h) hFc (fun r u t H1 locs1 ht hvm hw hB hz1 hk1 hS1 => ?_)
  obtain ⟨hP1, hf1⟩ := hB
  rw [ht] at hP1
  obtain ⟨g1, g2⟩ := putW_P hP hD isC hC hn hk1 hP1 hf1
  exact kk r u H1 locs1 hw ⟨hN, hK, g1, my_Dc g2 hD, hS1, hA⟩
/-- both stand, and have all in common -/
def Gd (D : va_G) (cI cZ cN : ClassId) (A : Nat → Prop) (a mm : Nat → Nat) (s : State) (H : Heap) (locs : List Loc) : Prop := ∃ (T : NV) (Q : NV) (Ld : NV) (Vd : NV) (L : NV) (V : NV) (S : NV) (R : Nat → NV) (C1 : NV) (C2 : NV) (Rn : NV) (Wd : NV) (Im : Nat → NV) (K : NV) (tr : Int64) (M : NV) (z : Nat) (N : Nat) (C : Nat) (k : Nat) (y : Nat) (z1 : Nat) (z2 : Nat), Rel T L V S R C1 C2 Im K M z N C k y z1 z2 ∧ AtC D (tyG cI cZ cN) A (pOne cI cZ cN a T Q Ld Vd L V S R C1 C2 Rn Wd Im K tr ++ pMod cI cZ mm M tr) s H locs
set_option maxRecDepth 100000 in
/-- the class's cells are put anew -/
theorem re_one {D : va_G} {cI cZ cN : ClassId} {A : Nat → Prop} {a mm : Nat → Nat} {s : State} {H : Heap} {locs : List Loc} {T Q Ld Vd L V S : NV} {R : Nat → NV} {C1 C2 Rn Wd : NV} {Im : Nat → NV} {K : NV} {tr : Int64} {M : NV} {mt : Int64} {ws0 : va_W} (h0 : ws0.length = 84) (h : AtC D (tyG cI cZ cN) A (putW (ws0 ++ pMod cI cZ mm M mt) (List.range 84) (pOne cI cZ cN a T Q Ld Vd L V S R C1 C2 Rn Wd Im K tr)) s H locs) : AtC D (tyG cI cZ cN) A (pOne cI cZ cN a T Q Ld Vd L V S R C1 C2 Rn Wd Im K tr ++ pMod cI cZ mm M mt) s H locs := by
  refine h.cong ?_
  apply List.ext_getElem?
  intro k
  have hlen : (putW (ws0 ++ pMod cI cZ mm M mt) (List.range 84) (pOne cI cZ cN a T Q Ld Vd L V S R C1 C2 Rn Wd Im K tr)).length = 102 := by rw [putW_len, List.length_append, h0]; rfl
  by_cases hk : k < 102
  · rw [List.getElem?_eq_getElem (show k < (putW (ws0 ++ pMod cI cZ mm M mt) (List.range 84) (pOne cI cZ cN a T Q Ld Vd L V S R C1 C2 Rn Wd Im K tr)).length by omega)]
    rcases putW_get (List.range 84) _ (ws0 ++ pMod cI cZ mm M mt) k _ List.nodup_range rfl (List.getElem?_eq_getElem (show k < (putW (ws0 ++ pMod cI cZ mm M mt) (List.range 84) (pOne cI cZ cN a T Q Ld Vd L V S R C1 C2 Rn Wd Im K tr)).length by omega)) with ⟨j, g1, g2⟩ | ⟨g1, g2⟩
    · have hj := (List.getElem?_eq_some_iff.mp g1)
      have hj1 : j < 84 := by have := hj.1; simpa using this
      have hj2 : j = k := by have := hj.2; simpa using this
      subst hj2
      rw [List.getElem?_append_left (show j < (pOne cI cZ cN a T Q Ld Vd L V S R C1 C2 Rn Wd Im K tr).length from hj1)]
      exact g2
    · have hk84 : 84 ≤ k := by
        rcases Nat.lt_or_ge k 84 with q | q
        · exact absurd (List.mem_range.mpr q) g1
        · exact q
      rw [List.getElem?_append_right (show (pOne cI cZ cN a T Q Ld Vd L V S R C1 C2 Rn Wd Im K tr).length ≤ k from hk84)]
      rw [List.getElem?_append_right (by omega), h0] at g2
      exact g2
  · rw [List.getElem?_eq_none (by rw [List.length_append]; exact Nat.le_of_not_lt hk), List.getElem?_eq_none (by omega)]
set_option maxRecDepth 100000 in
/-- the reference's cells are put anew -/
theorem re_mod {D : va_G} {cI cZ : ClassId} {tys : List (ClassId × FieldType)} {A : Nat → Prop} {mm : Nat → Nat} {s : State} {H : Heap} {locs : List Loc} {M : NV} {mt : Int64} {ws0 ws1 : va_W} (h0 : ws0.length = 84) (h1 : ws1.length = 18) (h : AtC D tys A (putW (ws0 ++ ws1) ((List.range 18).map (· + 84)) (pMod cI cZ mm M mt)) s H locs) : AtC D tys A (ws0 ++ pMod cI cZ mm M mt) s H locs := by
  refine h.cong ?_
  apply List.ext_getElem?
  intro k
  have hlen : (putW (ws0 ++ ws1) ((List.range 18).map (· + 84)) (pMod cI cZ mm M mt)).length = 102 := by rw [putW_len, List.length_append, h0, h1]
  by_cases hk : k < 102
  · rw [List.getElem?_eq_getElem (show k < (putW (ws0 ++ ws1) ((List.range 18).map (· + 84)) (pMod cI cZ mm M mt)).length by omega)]
    rcases putW_get ((List.range 18).map (· + 84)) _ (ws0 ++ ws1) k _ (by decide) rfl (List.getElem?_eq_getElem (show k < (putW (ws0 ++ ws1) ((List.range 18).map (· + 84)) (pMod cI cZ mm M mt)).length by omega)) with ⟨j, g1, g2⟩ | ⟨g1, g2⟩
    · have hj := (List.getElem?_eq_some_iff.mp g1)
      have hj1 : j < 18 := by have := hj.1; simpa using this
      have hj2 : j + 84 = k := by have := hj.2; simpa using this
      subst hj2
      rw [List.getElem?_append_right (by omega), h0, Nat.add_sub_cancel]
      exact g2
    · have hk84 : k < 84 := by
        rcases Nat.lt_or_ge k 84 with q | q
        · exact q
        · exact absurd (List.mem_map.mpr ⟨k - 84, List.mem_range.mpr (by omega), by omega⟩) g1
      rw [List.getElem?_append_left (by omega)]
      rw [List.getElem?_append_left (by omega)] at g2
      exact g2
  · rw [List.getElem?_eq_none (by rw [List.length_append, h0]; exact Nat.le_of_not_lt hk), List.getElem?_eq_none (by omega)]
theorem st_trace (cI cZ cN : ClassId) (a b : Nat → Nat) {T Q Ld Vd L V S : NV} {R : Nat → NV} {C1 C2 Rn Wd : NV} {Im : Nat → NV} {K : NV} {tr : Int64} {M : NV} {z N C k y z1 z2 : Nat} (h : Rel T L V S R C1 C2 Im K M z N C k y z1 z2) : Nx cI cZ cN a b (pOne cI cZ cN a T Q Ld Vd L V S R C1 C2 Rn Wd Im K tr) (pMod cI cZ b (upA M 0 (upd (M 0) 0 (0 : Int32))) tr) (tr = tr) := Rel.nx (M := upA M 0 (upd (M 0) 0 (0 : Int32))) h rfl rfl rfl
set_option maxHeartbeats 4000000 in
set_option maxRecDepth 100000 in
theorem law_case_type {p : Program} {l : Launch} {e : Env} {s : State} {m : MethodId} {args : Array Value} {below : List Frame} {meth : Method} {c : Code} {H : Heap} {locs : List Loc} {Q0 : State → Prop} {ls : Array Slot} {D : va_G} {A : Nat → Prop} {a mm : Nat → Nat} {cI cZ cN : ClassId} {b0 L0 i : Nat} {xs : Nat → Int32} (S0 : CallFix p m c cL_law 4 s args BW RL) (hX : va_X b0 L0 xs s s.heap) (hbl : b0 < s.heap.size) (hbA : ¬ A b0) {t0 : Nat} (hZ : ZM t0 A s s.heap) (hi5 : i + 5 ≤ L0) (hL : L0 ≤ 320) (hG : Gd D cI cZ cN A a mm s H locs) (hl : lv_has ls 4 [(0, .ref b0), (1, .ref (a 0)), (2, .ref (mm 0)), (3, .int (nI i))]) (kk : ∀ (H : Heap) (locs : List Loc) (ls : Array Slot), Gd D cI cZ cN A a mm s H locs → lv_has ls 4 [(0, .ref b0), (1, .ref (a 0)), (2, .ref (mm 0)), (3, .int (nI i))] → W p l e room_1 s m args below meth c H locs 102 1534 Q0 (F0 m 882 ls [])) : W p l e room_1 s m args below meth c H locs 102 1534 Q0 (F0 m 164 ls []) := by
  have hx := S0.1
  have hb := S0.2.1
  obtain ⟨T, Q, Ld, Vd, L, V, S, R, C1, C2, Rn, Wd, Im, K, tr, M, z, N, C, k, y, z1, z2, hR, hW⟩ := hG
  have hR0 := hR
  obtain ⟨⟨hz, hz2, hz', hTM, hlt⟩, ⟨hN, hN7, hN', hC, hC4, hC1, hC'⟩, hLd, hV0, ⟨hk, hk10, hy, hy10, hy', hps⟩, ⟨hc1, hz16, hc1', hto⟩, ⟨hc2, hz26, hc2', hro⟩, hIm⟩ := hR0
  refine lv_aload_n hx hb dL_law_164 rfl (lv_at hl 1 rfl) ?_
  refine lv_aload_n hx hb dL_law_165 rfl (lv_at hl 0 rfl) ?_
  refine lv_iload_n hx hb dL_law_166 rfl (lv_at hl 3 rfl) ?_
  refine lv_iconst (v := (1 : Int32)) hx hb dL_law_167 rfl ?_
  refine lv_iadd hx hb dL_law_168 ?_
  refine r_eq (y := nI (i + 1)) (nI_add i 1) ?_
  refine va_sld hx hb hX hbl hbA hW.2.2.2.2.1 (vp_in_nI (show i + 1 < L0 by omega) (by omega)) dL_law_169 ?_
  obtain ⟨T1, Q1, Ld1, Vd1, L1, V1, S1, R1, C11, C21, Rn1, Wd1, Im1, K1, tr1, M1, z_1, N1, C_1, k1, y1, z11, z21, hR1, eC, eM, eR⟩ := st_type cI cZ cN a mm (Q := Q) (Ld := Ld) (Vd := Vd) (Rn := Rn) (Wd := Wd) (tr := tr) hR (xs (nI (i + 1)).toNatClampNeg)
  refine callVI S0 hW (c_X8_type l D cI cZ cN a T Q Ld Vd L V S R C1 C2 Rn Wd Im K tr z N C k y z1 z2 hz hz2 hN hN7 hC hC4 hC1 hk hk10 hy hy10 hc1 hz16 hc2 hz26 (xs (nI (i + 1)).toNatClampNeg)) vmX8_type mw131 (List.range 84) rfl (by decide) 0 rfl rfl (As := [.int (xs (nI (i + 1)).toNatClampNeg)]) (rest := []) rfl rfl hl.1 (Nat.le_of_ble_eq_true rfl) ⟨(Nat.le_of_ble_eq_true rfl), (Nat.le_of_ble_eq_true rfl)⟩ ⟨(Nat.le_of_ble_eq_true rfl), (Nat.le_of_ble_eq_true rfl)⟩ dL_law_170 (fun rx wx H locs hqx hV => ?_)
  obtain ⟨hrx, rfl⟩ := hqx
  rw [eC] at hV
  have hW := re_one rfl hV
  refine lv_aload_n hx hb dL_law_173 rfl (lv_at hl 2 rfl) ?_
  refine lv_aload_n hx hb dL_law_174 rfl (lv_at hl 0 rfl) ?_
  refine lv_iload_n hx hb dL_law_175 rfl (lv_at hl 3 rfl) ?_
  refine lv_iconst (v := (1 : Int32)) hx hb dL_law_176 rfl ?_
  refine lv_iadd hx hb dL_law_177 ?_
  refine r_eq (y := nI (i + 1)) (nI_add i 1) ?_
  refine va_sld hx hb hX hbl hbA hW.2.2.2.2.1 (vp_in_nI (show i + 1 < L0 by omega) (by omega)) dL_law_178 ?_
  refine callVI S0 hW (c_X9_type l D cI cZ cN mm M tr N C hN' hN7 hC' hC4 hC1 z hz' hz2 (xs (nI (i + 1)).toNatClampNeg)) vmX9_type mw140 ((List.range 18).map (· + 84)) rfl (by decide) 0 rfl rfl (As := [.int (xs (nI (i + 1)).toNatClampNeg)]) (rest := [.int rx]) rfl rfl hl.1 (Nat.le_of_ble_eq_true rfl) ⟨(Nat.le_of_ble_eq_true rfl), (Nat.le_of_ble_eq_true rfl)⟩ ⟨(Nat.le_of_ble_eq_true rfl), (Nat.le_of_ble_eq_true rfl)⟩ dL_law_179 (fun ry wx H locs hqx hV => ?_)
  obtain ⟨hry, rfl⟩ := hqx
  rw [eM] at hV
  have hW := re_mod rfl rfl hV
  refine lv_icmp_eq (tgt := 882) hx hb dL_law_182 rfl (fun c9 => ?_) (fun c9 => absurd (hrx.trans (eR.trans hry.symm)) c9)
  exact kk _ _ _ ⟨T1, Q1, Ld1, Vd1, L1, V1, S1, R1, C11, C21, Rn1, Wd1, Im1, K1, tr1, M1, z_1, N1, C_1, k1, y1, z11, z21, hR1, hW⟩ hl

set_option maxHeartbeats 4000000 in
set_option maxRecDepth 100000 in
theorem law_case_clear {p : Program} {l : Launch} {e : Env} {s : State} {m : MethodId} {args : Array Value} {below : List Frame} {meth : Method} {c : Code} {H : Heap} {locs : List Loc} {Q0 : State → Prop} {ls : Array Slot} {D : va_G} {A : Nat → Prop} {a mm : Nat → Nat} {cI cZ cN : ClassId} {b0 L0 i : Nat} {xs : Nat → Int32} (S0 : CallFix p m c cL_law 4 s args BW RL) (hX : va_X b0 L0 xs s s.heap) (hbl : b0 < s.heap.size) (hbA : ¬ A b0) {t0 : Nat} (hZ : ZM t0 A s s.heap) (hi5 : i + 5 ≤ L0) (hL : L0 ≤ 320) (hG : Gd D cI cZ cN A a mm s H locs) (hl : lv_has ls 4 [(0, .ref b0), (1, .ref (a 0)), (2, .ref (mm 0)), (3, .int (nI i))]) (kk : ∀ (H : Heap) (locs : List Loc) (ls : Array Slot), Gd D cI cZ cN A a mm s H locs → lv_has ls 4 [(0, .ref b0), (1, .ref (a 0)), (2, .ref (mm 0)), (3, .int (nI i))] → W p l e room_1 s m args below meth c H locs 102 1534 Q0 (F0 m 882 ls [])) : W p l e room_1 s m args below meth c H locs 102 1534 Q0 (F0 m 187 ls []) := by
  have hx := S0.1
  have hb := S0.2.1
  obtain ⟨T, Q, Ld, Vd, L, V, S, R, C1, C2, Rn, Wd, Im, K, tr, M, z, N, C, k, y, z1, z2, hR, hW⟩ := hG
  have hR0 := hR
  obtain ⟨⟨hz, hz2, hz', hTM, hlt⟩, ⟨hN, hN7, hN', hC, hC4, hC1, hC'⟩, hLd, hV0, ⟨hk, hk10, hy, hy10, hy', hps⟩, ⟨hc1, hz16, hc1', hto⟩, ⟨hc2, hz26, hc2', hro⟩, hIm⟩ := hR0
  refine lv_aload_n hx hb dL_law_187 rfl (lv_at hl 1 rfl) ?_
  obtain ⟨T1, Q1, Ld1, Vd1, L1, V1, S1, R1, C11, C21, Rn1, Wd1, Im1, K1, tr1, M1, z_1, N1, C_1, k1, y1, z11, z21, hR1, eC, eM, eR⟩ := st_clear cI cZ cN a mm (Q := Q) (Ld := Ld) (Vd := Vd) (Rn := Rn) (Wd := Wd) (tr := tr) hR
  refine callVI S0 hW (c_X8_clear l D cI cZ cN a T Q Ld Vd L V S R C1 C2 Rn Wd Im K tr z N C k y z1 z2 hz hz2 hN hN7 hC hC4 hC1 hk hk10 hy hy10 hc1 hz16 hc2 hz26) vmX8_clear mw149 (List.range 84) rfl (by decide) 0 rfl rfl (As := []) (rest := []) rfl rfl hl.1 (Nat.le_of_ble_eq_true rfl) ⟨(Nat.le_of_ble_eq_true rfl), (Nat.le_of_ble_eq_true rfl)⟩ ⟨(Nat.le_of_ble_eq_true rfl), (Nat.le_of_ble_eq_true rfl)⟩ dL_law_188 (fun rx wx H locs hqx hV => ?_)
  obtain ⟨hrx, rfl⟩ := hqx
  rw [eC] at hV
  have hW := re_one rfl hV
  refine lv_aload_n hx hb dL_law_191 rfl (lv_at hl 2 rfl) ?_
  refine callVI S0 hW (c_X9_clear l D cI cZ cN mm M tr N C hN' hN7 hC' hC4 hC1 z hz' hz2) vmX9_clear mw153 ((List.range 18).map (· + 84)) rfl (by decide) 0 rfl rfl (As := []) (rest := [.int rx]) rfl rfl hl.1 (Nat.le_of_ble_eq_true rfl) ⟨(Nat.le_of_ble_eq_true rfl), (Nat.le_of_ble_eq_true rfl)⟩ ⟨(Nat.le_of_ble_eq_true rfl), (Nat.le_of_ble_eq_true rfl)⟩ dL_law_192 (fun ry wx H locs hqx hV => ?_)
  obtain ⟨hry, rfl⟩ := hqx
  rw [eM] at hV
  have hW := re_mod rfl rfl hV
  refine lv_icmp_eq (tgt := 882) hx hb dL_law_195 rfl (fun c9 => ?_) (fun c9 => absurd (hrx.trans (eR.trans hry.symm)) c9)
  exact kk _ _ _ ⟨T1, Q1, Ld1, Vd1, L1, V1, S1, R1, C11, C21, Rn1, Wd1, Im1, K1, tr1, M1, z_1, N1, C_1, k1, y1, z11, z21, hR1, hW⟩ hl

set_option maxHeartbeats 4000000 in
set_option maxRecDepth 100000 in
theorem law_case_republic {p : Program} {l : Launch} {e : Env} {s : State} {m : MethodId} {args : Array Value} {below : List Frame} {meth : Method} {c : Code} {H : Heap} {locs : List Loc} {Q0 : State → Prop} {ls : Array Slot} {D : va_G} {A : Nat → Prop} {a mm : Nat → Nat} {cI cZ cN : ClassId} {b0 L0 i : Nat} {xs : Nat → Int32} (S0 : CallFix p m c cL_law 4 s args BW RL) (hX : va_X b0 L0 xs s s.heap) (hbl : b0 < s.heap.size) (hbA : ¬ A b0) {t0 : Nat} (hZ : ZM t0 A s s.heap) (hi5 : i + 5 ≤ L0) (hL : L0 ≤ 320) (hG : Gd D cI cZ cN A a mm s H locs) (hl : lv_has ls 4 [(0, .ref b0), (1, .ref (a 0)), (2, .ref (mm 0)), (3, .int (nI i))]) (kk : ∀ (H : Heap) (locs : List Loc) (ls : Array Slot), Gd D cI cZ cN A a mm s H locs → lv_has ls 4 [(0, .ref b0), (1, .ref (a 0)), (2, .ref (mm 0)), (3, .int (nI i))] → W p l e room_1 s m args below meth c H locs 102 1534 Q0 (F0 m 882 ls [])) : W p l e room_1 s m args below meth c H locs 102 1534 Q0 (F0 m 200 ls []) := by
  have hx := S0.1
  have hb := S0.2.1
  obtain ⟨T, Q, Ld, Vd, L, V, S, R, C1, C2, Rn, Wd, Im, K, tr, M, z, N, C, k, y, z1, z2, hR, hW⟩ := hG
  have hR0 := hR
  obtain ⟨⟨hz, hz2, hz', hTM, hlt⟩, ⟨hN, hN7, hN', hC, hC4, hC1, hC'⟩, hLd, hV0, ⟨hk, hk10, hy, hy10, hy', hps⟩, ⟨hc1, hz16, hc1', hto⟩, ⟨hc2, hz26, hc2', hro⟩, hIm⟩ := hR0
  refine lv_aload_n hx hb dL_law_200 rfl (lv_at hl 1 rfl) ?_
  obtain ⟨T1, Q1, Ld1, Vd1, L1, V1, S1, R1, C11, C21, Rn1, Wd1, Im1, K1, tr1, M1, z_1, N1, C_1, k1, y1, z11, z21, hR1, eC, eM, eR⟩ := st_republic cI cZ cN a mm (Q := Q) (Ld := Ld) (Vd := Vd) (Rn := Rn) (Wd := Wd) (tr := tr) hR
  refine callVI S0 hW (c_X8_republic l D cI cZ cN a T Q Ld Vd L V S R C1 C2 Rn Wd Im K tr z N C k y z1 z2 hz hz2 hN hN7 hC hC4 hC1 hk hk10 hy hy10 hc1 hz16 hc2 hz26) vmX8_republic mw157 (List.range 84) rfl (by decide) 0 rfl rfl (As := []) (rest := []) rfl rfl hl.1 (Nat.le_of_ble_eq_true rfl) ⟨(Nat.le_of_ble_eq_true rfl), (Nat.le_of_ble_eq_true rfl)⟩ ⟨(Nat.le_of_ble_eq_true rfl), (Nat.le_of_ble_eq_true rfl)⟩ dL_law_201 (fun rx wx H locs hqx hV => ?_)
  obtain ⟨hrx, rfl⟩ := hqx
  rw [eC] at hV
  have hW := re_one rfl hV
  refine lv_aload_n hx hb dL_law_204 rfl (lv_at hl 2 rfl) ?_
  refine callVI S0 hW (c_X9_republic l D cI cZ cN mm M tr z hz' hz2 (fun j hj => by rw [← hTM]; obtain ⟨n, hn, e⟩ := hlt j hj; rw [e]; exact nI_nn (by omega))) vmX9_republic mw242 ((List.range 18).map (· + 84)) rfl (by decide) 0 rfl rfl (As := []) (rest := [.int rx]) rfl rfl hl.1 (Nat.le_of_ble_eq_true rfl) ⟨(Nat.le_of_ble_eq_true rfl), (Nat.le_of_ble_eq_true rfl)⟩ ⟨(Nat.le_of_ble_eq_true rfl), (Nat.le_of_ble_eq_true rfl)⟩ dL_law_205 (fun ry wx H locs hqx hV => ?_)
  obtain ⟨hry, rfl⟩ := hqx
  rw [eM] at hV
  have hW := re_mod rfl rfl hV
  refine lv_icmp_eq (tgt := 882) hx hb dL_law_208 rfl (fun c9 => ?_) (fun c9 => absurd (hrx.trans (eR.trans hry.symm)) c9)
  exact kk _ _ _ ⟨T1, Q1, Ld1, Vd1, L1, V1, S1, R1, C11, C21, Rn1, Wd1, Im1, K1, tr1, M1, z_1, N1, C_1, k1, y1, z11, z21, hR1, hW⟩ hl

set_option maxHeartbeats 4000000 in
set_option maxRecDepth 100000 in
theorem law_case_person {p : Program} {l : Launch} {e : Env} {s : State} {m : MethodId} {args : Array Value} {below : List Frame} {meth : Method} {c : Code} {H : Heap} {locs : List Loc} {Q0 : State → Prop} {ls : Array Slot} {D : va_G} {A : Nat → Prop} {a mm : Nat → Nat} {cI cZ cN : ClassId} {b0 L0 i : Nat} {xs : Nat → Int32} (S0 : CallFix p m c cL_law 4 s args BW RL) (hX : va_X b0 L0 xs s s.heap) (hbl : b0 < s.heap.size) (hbA : ¬ A b0) {t0 : Nat} (hZ : ZM t0 A s s.heap) (hi5 : i + 5 ≤ L0) (hL : L0 ≤ 320) (hG : Gd D cI cZ cN A a mm s H locs) (hl : lv_has ls 4 [(0, .ref b0), (1, .ref (a 0)), (2, .ref (mm 0)), (3, .int (nI i))]) (kk : ∀ (H : Heap) (locs : List Loc) (ls : Array Slot), Gd D cI cZ cN A a mm s H locs → lv_has ls 4 [(0, .ref b0), (1, .ref (a 0)), (2, .ref (mm 0)), (3, .int (nI i))] → W p l e room_1 s m args below meth c H locs 102 1534 Q0 (F0 m 882 ls [])) : W p l e room_1 s m args below meth c H locs 102 1534 Q0 (F0 m 213 ls []) := by
  have hx := S0.1
  have hb := S0.2.1
  obtain ⟨T, Q, Ld, Vd, L, V, S, R, C1, C2, Rn, Wd, Im, K, tr, M, z, N, C, k, y, z1, z2, hR, hW⟩ := hG
  have hR0 := hR
  obtain ⟨⟨hz, hz2, hz', hTM, hlt⟩, ⟨hN, hN7, hN', hC, hC4, hC1, hC'⟩, hLd, hV0, ⟨hk, hk10, hy, hy10, hy', hps⟩, ⟨hc1, hz16, hc1', hto⟩, ⟨hc2, hz26, hc2', hro⟩, hIm⟩ := hR0
  refine lv_aload_n hx hb dL_law_213 rfl (lv_at hl 1 rfl) ?_
  refine lv_aload_n hx hb dL_law_214 rfl (lv_at hl 0 rfl) ?_
  refine lv_iload_n hx hb dL_law_215 rfl (lv_at hl 3 rfl) ?_
  refine lv_iconst (v := (1 : Int32)) hx hb dL_law_216 rfl ?_
  refine lv_iadd hx hb dL_law_217 ?_
  refine r_eq (y := nI (i + 1)) (nI_add i 1) ?_
  refine va_sld hx hb hX hbl hbA hW.2.2.2.2.1 (vp_in_nI (show i + 1 < L0 by omega) (by omega)) dL_law_218 ?_
  refine lv_aload_n hx hb dL_law_219 rfl (lv_at hl 0 rfl) ?_
  refine lv_iload_n hx hb dL_law_220 rfl (lv_at hl 3 rfl) ?_
  refine lv_iconst (v := (2 : Int32)) hx hb dL_law_221 rfl ?_
  refine lv_iadd hx hb dL_law_222 ?_
  refine r_eq (y := nI (i + 2)) (nI_add i 2) ?_
  refine va_sld hx hb hX hbl hbA hW.2.2.2.2.1 (vp_in_nI (show i + 2 < L0 by omega) (by omega)) dL_law_223 ?_
  obtain ⟨T1, Q1, Ld1, Vd1, L1, V1, S1, R1, C11, C21, Rn1, Wd1, Im1, K1, tr1, M1, z_1, N1, C_1, k1, y1, z11, z21, hR1, eC, eM, eR⟩ := st_person cI cZ cN a mm (Q := Q) (Ld := Ld) (Vd := Vd) (Rn := Rn) (Wd := Wd) (tr := tr) hR (xs (nI (i + 1)).toNatClampNeg) (xs (nI (i + 2)).toNatClampNeg)
  refine callVI S0 hW (c_X8_person l D cI cZ cN a T Q Ld Vd L V S R C1 C2 Rn Wd Im K tr z N C k y z1 z2 hz hz2 hN hN7 hC hC4 hC1 hk hk10 hy hy10 hc1 hz16 hc2 hz26 (xs (nI (i + 1)).toNatClampNeg) (xs (nI (i + 2)).toNatClampNeg)) vmX8_person mw287 (List.range 84) rfl (by decide) 0 rfl rfl (As := [.int (xs (nI (i + 1)).toNatClampNeg), .int (xs (nI (i + 2)).toNatClampNeg)]) (rest := []) rfl rfl hl.1 (Nat.le_of_ble_eq_true rfl) ⟨(Nat.le_of_ble_eq_true rfl), (Nat.le_of_ble_eq_true rfl)⟩ ⟨(Nat.le_of_ble_eq_true rfl), (Nat.le_of_ble_eq_true rfl)⟩ dL_law_224 (fun rx wx H locs hqx hV => ?_)
  obtain ⟨hrx, rfl⟩ := hqx
  rw [eC] at hV
  have hW := re_one rfl hV
  refine lv_aload_n hx hb dL_law_227 rfl (lv_at hl 2 rfl) ?_
  refine lv_aload_n hx hb dL_law_228 rfl (lv_at hl 0 rfl) ?_
  refine lv_iload_n hx hb dL_law_229 rfl (lv_at hl 3 rfl) ?_
  refine lv_iconst (v := (1 : Int32)) hx hb dL_law_230 rfl ?_
  refine lv_iadd hx hb dL_law_231 ?_
  refine r_eq (y := nI (i + 1)) (nI_add i 1) ?_
  refine va_sld hx hb hX hbl hbA hW.2.2.2.2.1 (vp_in_nI (show i + 1 < L0 by omega) (by omega)) dL_law_232 ?_
  refine lv_aload_n hx hb dL_law_233 rfl (lv_at hl 0 rfl) ?_
  refine lv_iload_n hx hb dL_law_234 rfl (lv_at hl 3 rfl) ?_
  refine lv_iconst (v := (2 : Int32)) hx hb dL_law_235 rfl ?_
  refine lv_iadd hx hb dL_law_236 ?_
  refine r_eq (y := nI (i + 2)) (nI_add i 2) ?_
  refine va_sld hx hb hX hbl hbA hW.2.2.2.2.1 (vp_in_nI (show i + 2 < L0 by omega) (by omega)) dL_law_237 ?_
  refine callVI S0 hW (c_X9_person l D cI cZ cN mm M tr N C hN' hN7 hC' hC4 hC1 (xs (nI (i + 1)).toNatClampNeg) (xs (nI (i + 2)).toNatClampNeg)) vmX9_person mw343 ((List.range 18).map (· + 84)) rfl (by decide) 0 rfl rfl (As := [.int (xs (nI (i + 1)).toNatClampNeg), .int (xs (nI (i + 2)).toNatClampNeg)]) (rest := [.int rx]) rfl rfl hl.1 (Nat.le_of_ble_eq_true rfl) ⟨(Nat.le_of_ble_eq_true rfl), (Nat.le_of_ble_eq_true rfl)⟩ ⟨(Nat.le_of_ble_eq_true rfl), (Nat.le_of_ble_eq_true rfl)⟩ dL_law_238 (fun ry wx H locs hqx hV => ?_)
  obtain ⟨hry, rfl⟩ := hqx
  rw [eM] at hV
  have hW := re_mod rfl rfl hV
  refine lv_icmp_eq (tgt := 882) hx hb dL_law_241 rfl (fun c9 => ?_) (fun c9 => absurd (hrx.trans (eR.trans hry.symm)) c9)
  exact kk _ _ _ ⟨T1, Q1, Ld1, Vd1, L1, V1, S1, R1, C11, C21, Rn1, Wd1, Im1, K1, tr1, M1, z_1, N1, C_1, k1, y1, z11, z21, hR1, hW⟩ hl

set_option maxHeartbeats 4000000 in
set_option maxRecDepth 100000 in
theorem law_case_quarrels {p : Program} {l : Launch} {e : Env} {s : State} {m : MethodId} {args : Array Value} {below : List Frame} {meth : Method} {c : Code} {H : Heap} {locs : List Loc} {Q0 : State → Prop} {ls : Array Slot} {D : va_G} {A : Nat → Prop} {a mm : Nat → Nat} {cI cZ cN : ClassId} {b0 L0 i : Nat} {xs : Nat → Int32} (S0 : CallFix p m c cL_law 4 s args BW RL) (hX : va_X b0 L0 xs s s.heap) (hbl : b0 < s.heap.size) (hbA : ¬ A b0) {t0 : Nat} (hZ : ZM t0 A s s.heap) (hi5 : i + 5 ≤ L0) (hL : L0 ≤ 320) (hG : Gd D cI cZ cN A a mm s H locs) (hl : lv_has ls 4 [(0, .ref b0), (1, .ref (a 0)), (2, .ref (mm 0)), (3, .int (nI i))]) (kk : ∀ (H : Heap) (locs : List Loc) (ls : Array Slot), Gd D cI cZ cN A a mm s H locs → lv_has ls 4 [(0, .ref b0), (1, .ref (a 0)), (2, .ref (mm 0)), (3, .int (nI i))] → W p l e room_1 s m args below meth c H locs 102 1534 Q0 (F0 m 882 ls [])) : W p l e room_1 s m args below meth c H locs 102 1534 Q0 (F0 m 246 ls []) := by
  have hx := S0.1
  have hb := S0.2.1
  obtain ⟨T, Q, Ld, Vd, L, V, S, R, C1, C2, Rn, Wd, Im, K, tr, M, z, N, C, k, y, z1, z2, hR, hW⟩ := hG
  have hR0 := hR
  obtain ⟨⟨hz, hz2, hz', hTM, hlt⟩, ⟨hN, hN7, hN', hC, hC4, hC1, hC'⟩, hLd, hV0, ⟨hk, hk10, hy, hy10, hy', hps⟩, ⟨hc1, hz16, hc1', hto⟩, ⟨hc2, hz26, hc2', hro⟩, hIm⟩ := hR0
  refine lv_aload_n hx hb dL_law_246 rfl (lv_at hl 1 rfl) ?_
  refine lv_aload_n hx hb dL_law_247 rfl (lv_at hl 0 rfl) ?_
  refine lv_iload_n hx hb dL_law_248 rfl (lv_at hl 3 rfl) ?_
  refine lv_iconst (v := (1 : Int32)) hx hb dL_law_249 rfl ?_
  refine lv_iadd hx hb dL_law_250 ?_
  refine r_eq (y := nI (i + 1)) (nI_add i 1) ?_
  refine va_sld hx hb hX hbl hbA hW.2.2.2.2.1 (vp_in_nI (show i + 1 < L0 by omega) (by omega)) dL_law_251 ?_
  obtain ⟨T1, Q1, Ld1, Vd1, L1, V1, S1, R1, C11, C21, Rn1, Wd1, Im1, K1, tr1, M1, z_1, N1, C_1, k1, y1, z11, z21, hR1, eC, eM, eR⟩ := st_quarrels cI cZ cN a mm (Q := Q) (Ld := Ld) (Vd := Vd) (Rn := Rn) (Wd := Wd) (tr := tr) hR (xs (nI (i + 1)).toNatClampNeg)
  refine callVI S0 hW (c_X8_quarrels l D cI cZ cN a T Q Ld Vd L V S R C1 C2 Rn Wd Im K tr z N C k y z1 z2 hz hz2 hN hN7 hC hC4 hC1 hk hk10 hy hy10 hc1 hz16 hc2 hz26 (xs (nI (i + 1)).toNatClampNeg)) vmX8_quarrels mw377 (List.range 84) rfl (by decide) 0 rfl rfl (As := [.int (xs (nI (i + 1)).toNatClampNeg)]) (rest := []) rfl rfl hl.1 (Nat.le_of_ble_eq_true rfl) ⟨(Nat.le_of_ble_eq_true rfl), (Nat.le_of_ble_eq_true rfl)⟩ ⟨(Nat.le_of_ble_eq_true rfl), (Nat.le_of_ble_eq_true rfl)⟩ dL_law_252 (fun rx wx H locs hqx hV => ?_)
  obtain ⟨hrx, rfl⟩ := hqx
  rw [eC] at hV
  have hW := re_one rfl hV
  refine lv_aload_n hx hb dL_law_255 rfl (lv_at hl 2 rfl) ?_
  refine lv_aload_n hx hb dL_law_256 rfl (lv_at hl 0 rfl) ?_
  refine lv_iload_n hx hb dL_law_257 rfl (lv_at hl 3 rfl) ?_
  refine lv_iconst (v := (1 : Int32)) hx hb dL_law_258 rfl ?_
  refine lv_iadd hx hb dL_law_259 ?_
  refine r_eq (y := nI (i + 1)) (nI_add i 1) ?_
  refine va_sld hx hb hX hbl hbA hW.2.2.2.2.1 (vp_in_nI (show i + 1 < L0 by omega) (by omega)) dL_law_260 ?_
  refine callVI S0 hW (c_X9_quarrels l D cI cZ cN mm M tr N C hN' hN7 hC' hC4 hC1 (xs (nI (i + 1)).toNatClampNeg)) vmX9_quarrels mw382 ((List.range 18).map (· + 84)) rfl (by decide) 0 rfl rfl (As := [.int (xs (nI (i + 1)).toNatClampNeg)]) (rest := [.int rx]) rfl rfl hl.1 (Nat.le_of_ble_eq_true rfl) ⟨(Nat.le_of_ble_eq_true rfl), (Nat.le_of_ble_eq_true rfl)⟩ ⟨(Nat.le_of_ble_eq_true rfl), (Nat.le_of_ble_eq_true rfl)⟩ dL_law_261 (fun ry wx H locs hqx hV => ?_)
  obtain ⟨hry, rfl⟩ := hqx
  rw [eM] at hV
  have hW := re_mod rfl rfl hV
  refine lv_icmp_eq (tgt := 882) hx hb dL_law_264 rfl (fun c9 => ?_) (fun c9 => absurd (hrx.trans (eR.trans hry.symm)) c9)
  exact kk _ _ _ ⟨T1, Q1, Ld1, Vd1, L1, V1, S1, R1, C11, C21, Rn1, Wd1, Im1, K1, tr1, M1, z_1, N1, C_1, k1, y1, z11, z21, hR1, hW⟩ hl

set_option maxHeartbeats 4000000 in
set_option maxRecDepth 100000 in
theorem law_case_name {p : Program} {l : Launch} {e : Env} {s : State} {m : MethodId} {args : Array Value} {below : List Frame} {meth : Method} {c : Code} {H : Heap} {locs : List Loc} {Q0 : State → Prop} {ls : Array Slot} {D : va_G} {A : Nat → Prop} {a mm : Nat → Nat} {cI cZ cN : ClassId} {b0 L0 i : Nat} {xs : Nat → Int32} (S0 : CallFix p m c cL_law 4 s args BW RL) (hX : va_X b0 L0 xs s s.heap) (hbl : b0 < s.heap.size) (hbA : ¬ A b0) {t0 : Nat} (hZ : ZM t0 A s s.heap) (hi5 : i + 5 ≤ L0) (hL : L0 ≤ 320) (hG : Gd D cI cZ cN A a mm s H locs) (hl : lv_has ls 4 [(0, .ref b0), (1, .ref (a 0)), (2, .ref (mm 0)), (3, .int (nI i))]) (kk : ∀ (H : Heap) (locs : List Loc) (ls : Array Slot), Gd D cI cZ cN A a mm s H locs → lv_has ls 4 [(0, .ref b0), (1, .ref (a 0)), (2, .ref (mm 0)), (3, .int (nI i))] → W p l e room_1 s m args below meth c H locs 102 1534 Q0 (F0 m 882 ls [])) : W p l e room_1 s m args below meth c H locs 102 1534 Q0 (F0 m 269 ls []) := by
  have hx := S0.1
  have hb := S0.2.1
  obtain ⟨T, Q, Ld, Vd, L, V, S, R, C1, C2, Rn, Wd, Im, K, tr, M, z, N, C, k, y, z1, z2, hR, hW⟩ := hG
  have hR0 := hR
  obtain ⟨⟨hz, hz2, hz', hTM, hlt⟩, ⟨hN, hN7, hN', hC, hC4, hC1, hC'⟩, hLd, hV0, ⟨hk, hk10, hy, hy10, hy', hps⟩, ⟨hc1, hz16, hc1', hto⟩, ⟨hc2, hz26, hc2', hro⟩, hIm⟩ := hR0
  refine lv_aload_n hx hb dL_law_269 rfl (lv_at hl 1 rfl) ?_
  refine lv_aload_n hx hb dL_law_270 rfl (lv_at hl 0 rfl) ?_
  refine lv_iload_n hx hb dL_law_271 rfl (lv_at hl 3 rfl) ?_
  refine lv_iconst (v := (1 : Int32)) hx hb dL_law_272 rfl ?_
  refine lv_iadd hx hb dL_law_273 ?_
  refine r_eq (y := nI (i + 1)) (nI_add i 1) ?_
  refine va_sld hx hb hX hbl hbA hW.2.2.2.2.1 (vp_in_nI (show i + 1 < L0 by omega) (by omega)) dL_law_274 ?_
  refine lv_aload_n hx hb dL_law_275 rfl (lv_at hl 0 rfl) ?_
  refine lv_iload_n hx hb dL_law_276 rfl (lv_at hl 3 rfl) ?_
  refine lv_iconst (v := (2 : Int32)) hx hb dL_law_277 rfl ?_
  refine lv_iadd hx hb dL_law_278 ?_
  refine r_eq (y := nI (i + 2)) (nI_add i 2) ?_
  refine va_sld hx hb hX hbl hbA hW.2.2.2.2.1 (vp_in_nI (show i + 2 < L0 by omega) (by omega)) dL_law_279 ?_
  obtain ⟨T1, Q1, Ld1, Vd1, L1, V1, S1, R1, C11, C21, Rn1, Wd1, Im1, K1, tr1, M1, z_1, N1, C_1, k1, y1, z11, z21, hR1, eC, eM, eR⟩ := st_name cI cZ cN a mm (Q := Q) (Ld := Ld) (Vd := Vd) (Rn := Rn) (Wd := Wd) (tr := tr) hR (xs (nI (i + 1)).toNatClampNeg) (xs (nI (i + 2)).toNatClampNeg)
  refine callVI S0 hW (c_X8_name l D cI cZ cN a T Q Ld Vd L V S R C1 C2 Rn Wd Im K tr z N C k y z1 z2 hz hz2 hN hN7 hC hC4 hC1 hk hk10 hy hy10 hc1 hz16 hc2 hz26 (xs (nI (i + 1)).toNatClampNeg) (xs (nI (i + 2)).toNatClampNeg)) vmX8_name mw386 (List.range 84) rfl (by decide) 0 rfl rfl (As := [.int (xs (nI (i + 1)).toNatClampNeg), .int (xs (nI (i + 2)).toNatClampNeg)]) (rest := []) rfl rfl hl.1 (Nat.le_of_ble_eq_true rfl) ⟨(Nat.le_of_ble_eq_true rfl), (Nat.le_of_ble_eq_true rfl)⟩ ⟨(Nat.le_of_ble_eq_true rfl), (Nat.le_of_ble_eq_true rfl)⟩ dL_law_280 (fun rx wx H locs hqx hV => ?_)
  obtain ⟨hrx, rfl⟩ := hqx
  rw [eC] at hV
  have hW := re_one rfl hV
  refine lv_aload_n hx hb dL_law_283 rfl (lv_at hl 2 rfl) ?_
  refine lv_aload_n hx hb dL_law_284 rfl (lv_at hl 0 rfl) ?_
  refine lv_iload_n hx hb dL_law_285 rfl (lv_at hl 3 rfl) ?_
  refine lv_iconst (v := (1 : Int32)) hx hb dL_law_286 rfl ?_
  refine lv_iadd hx hb dL_law_287 ?_
  refine r_eq (y := nI (i + 1)) (nI_add i 1) ?_
  refine va_sld hx hb hX hbl hbA hW.2.2.2.2.1 (vp_in_nI (show i + 1 < L0 by omega) (by omega)) dL_law_288 ?_
  refine lv_aload_n hx hb dL_law_289 rfl (lv_at hl 0 rfl) ?_
  refine lv_iload_n hx hb dL_law_290 rfl (lv_at hl 3 rfl) ?_
  refine lv_iconst (v := (2 : Int32)) hx hb dL_law_291 rfl ?_
  refine lv_iadd hx hb dL_law_292 ?_
  refine r_eq (y := nI (i + 2)) (nI_add i 2) ?_
  refine va_sld hx hb hX hbl hbA hW.2.2.2.2.1 (vp_in_nI (show i + 2 < L0 by omega) (by omega)) dL_law_293 ?_
  refine callVI S0 hW (c_X9_name l D cI cZ cN mm M tr N C hN' hN7 hC' hC4 hC1 (xs (nI (i + 1)).toNatClampNeg) (xs (nI (i + 2)).toNatClampNeg) hV0.2.2.2.2.2.2.2.2.1) vmX9_name mw404 ((List.range 18).map (· + 84)) rfl (by decide) 0 rfl rfl (As := [.int (xs (nI (i + 1)).toNatClampNeg), .int (xs (nI (i + 2)).toNatClampNeg)]) (rest := [.int rx]) rfl rfl hl.1 (Nat.le_of_ble_eq_true rfl) ⟨(Nat.le_of_ble_eq_true rfl), (Nat.le_of_ble_eq_true rfl)⟩ ⟨(Nat.le_of_ble_eq_true rfl), (Nat.le_of_ble_eq_true rfl)⟩ dL_law_294 (fun ry wx H locs hqx hV => ?_)
  obtain ⟨hry, rfl⟩ := hqx
  rw [eM] at hV
  have hW := re_mod rfl rfl hV
  refine lv_icmp_eq (tgt := 882) hx hb dL_law_297 rfl (fun c9 => ?_) (fun c9 => absurd (hrx.trans (eR.trans hry.symm)) c9)
  exact kk _ _ _ ⟨T1, Q1, Ld1, Vd1, L1, V1, S1, R1, C11, C21, Rn1, Wd1, Im1, K1, tr1, M1, z_1, N1, C_1, k1, y1, z11, z21, hR1, hW⟩ hl

set_option maxHeartbeats 4000000 in
set_option maxRecDepth 100000 in
theorem law_case_bill {p : Program} {l : Launch} {e : Env} {s : State} {m : MethodId} {args : Array Value} {below : List Frame} {meth : Method} {c : Code} {H : Heap} {locs : List Loc} {Q0 : State → Prop} {ls : Array Slot} {D : va_G} {A : Nat → Prop} {a mm : Nat → Nat} {cI cZ cN : ClassId} {b0 L0 i : Nat} {xs : Nat → Int32} (S0 : CallFix p m c cL_law 4 s args BW RL) (hX : va_X b0 L0 xs s s.heap) (hbl : b0 < s.heap.size) (hbA : ¬ A b0) {t0 : Nat} (hZ : ZM t0 A s s.heap) (hi5 : i + 5 ≤ L0) (hL : L0 ≤ 320) (hG : Gd D cI cZ cN A a mm s H locs) (hl : lv_has ls 4 [(0, .ref b0), (1, .ref (a 0)), (2, .ref (mm 0)), (3, .int (nI i))]) (kk : ∀ (H : Heap) (locs : List Loc) (ls : Array Slot), Gd D cI cZ cN A a mm s H locs → lv_has ls 4 [(0, .ref b0), (1, .ref (a 0)), (2, .ref (mm 0)), (3, .int (nI i))] → W p l e room_1 s m args below meth c H locs 102 1534 Q0 (F0 m 882 ls [])) : W p l e room_1 s m args below meth c H locs 102 1534 Q0 (F0 m 302 ls []) := by
  have hx := S0.1
  have hb := S0.2.1
  obtain ⟨T, Q, Ld, Vd, L, V, S, R, C1, C2, Rn, Wd, Im, K, tr, M, z, N, C, k, y, z1, z2, hR, hW⟩ := hG
  have hR0 := hR
  obtain ⟨⟨hz, hz2, hz', hTM, hlt⟩, ⟨hN, hN7, hN', hC, hC4, hC1, hC'⟩, hLd, hV0, ⟨hk, hk10, hy, hy10, hy', hps⟩, ⟨hc1, hz16, hc1', hto⟩, ⟨hc2, hz26, hc2', hro⟩, hIm⟩ := hR0
  refine lv_aload_n hx hb dL_law_302 rfl (lv_at hl 1 rfl) ?_
  refine lv_aload_n hx hb dL_law_303 rfl (lv_at hl 0 rfl) ?_
  refine lv_iload_n hx hb dL_law_304 rfl (lv_at hl 3 rfl) ?_
  refine lv_iconst (v := (1 : Int32)) hx hb dL_law_305 rfl ?_
  refine lv_iadd hx hb dL_law_306 ?_
  refine r_eq (y := nI (i + 1)) (nI_add i 1) ?_
  refine va_sld hx hb hX hbl hbA hW.2.2.2.2.1 (vp_in_nI (show i + 1 < L0 by omega) (by omega)) dL_law_307 ?_
  refine lv_aload_n hx hb dL_law_308 rfl (lv_at hl 0 rfl) ?_
  refine lv_iload_n hx hb dL_law_309 rfl (lv_at hl 3 rfl) ?_
  refine lv_iconst (v := (2 : Int32)) hx hb dL_law_310 rfl ?_
  refine lv_iadd hx hb dL_law_311 ?_
  refine r_eq (y := nI (i + 2)) (nI_add i 2) ?_
  refine va_sld hx hb hX hbl hbA hW.2.2.2.2.1 (vp_in_nI (show i + 2 < L0 by omega) (by omega)) dL_law_312 ?_
  obtain ⟨T1, Q1, Ld1, Vd1, L1, V1, S1, R1, C11, C21, Rn1, Wd1, Im1, K1, tr1, M1, z_1, N1, C_1, k1, y1, z11, z21, hR1, eC, eM, eR⟩ := st_bill cI cZ cN a mm (Q := Q) (Ld := Ld) (Vd := Vd) (Rn := Rn) (Wd := Wd) (tr := tr) hR (xs (nI (i + 1)).toNatClampNeg) (xs (nI (i + 2)).toNatClampNeg)
  refine callVI S0 hW (c_X8_bill l D cI cZ cN a T Q Ld Vd L V S R C1 C2 Rn Wd Im K tr z N C k y z1 z2 hz hz2 hN hN7 hC hC4 hC1 hk hk10 hy hy10 hc1 hz16 hc2 hz26 (xs (nI (i + 1)).toNatClampNeg) (xs (nI (i + 2)).toNatClampNeg)) vmX8_bill mw418 (List.range 84) rfl (by decide) 0 rfl rfl (As := [.int (xs (nI (i + 1)).toNatClampNeg), .int (xs (nI (i + 2)).toNatClampNeg)]) (rest := []) rfl rfl hl.1 (Nat.le_of_ble_eq_true rfl) ⟨(Nat.le_of_ble_eq_true rfl), (Nat.le_of_ble_eq_true rfl)⟩ ⟨(Nat.le_of_ble_eq_true rfl), (Nat.le_of_ble_eq_true rfl)⟩ dL_law_313 (fun rx wx H locs hqx hV => ?_)
  obtain ⟨hrx, rfl⟩ := hqx
  rw [eC] at hV
  have hW := re_one rfl hV
  refine lv_aload_n hx hb dL_law_316 rfl (lv_at hl 2 rfl) ?_
  refine lv_aload_n hx hb dL_law_317 rfl (lv_at hl 0 rfl) ?_
  refine lv_iload_n hx hb dL_law_318 rfl (lv_at hl 3 rfl) ?_
  refine lv_iconst (v := (1 : Int32)) hx hb dL_law_319 rfl ?_
  refine lv_iadd hx hb dL_law_320 ?_
  refine r_eq (y := nI (i + 1)) (nI_add i 1) ?_
  refine va_sld hx hb hX hbl hbA hW.2.2.2.2.1 (vp_in_nI (show i + 1 < L0 by omega) (by omega)) dL_law_321 ?_
  refine lv_aload_n hx hb dL_law_322 rfl (lv_at hl 0 rfl) ?_
  refine lv_iload_n hx hb dL_law_323 rfl (lv_at hl 3 rfl) ?_
  refine lv_iconst (v := (2 : Int32)) hx hb dL_law_324 rfl ?_
  refine lv_iadd hx hb dL_law_325 ?_
  refine r_eq (y := nI (i + 2)) (nI_add i 2) ?_
  refine va_sld hx hb hX hbl hbA hW.2.2.2.2.1 (vp_in_nI (show i + 2 < L0 by omega) (by omega)) dL_law_326 ?_
  refine callVI S0 hW (c_X9_bill l D cI cZ cN mm M tr N C hN' hN7 hC' hC4 hC1 (xs (nI (i + 1)).toNatClampNeg) (xs (nI (i + 2)).toNatClampNeg)) vmX9_bill mw450 ((List.range 18).map (· + 84)) rfl (by decide) 0 rfl rfl (As := [.int (xs (nI (i + 1)).toNatClampNeg), .int (xs (nI (i + 2)).toNatClampNeg)]) (rest := [.int rx]) rfl rfl hl.1 (Nat.le_of_ble_eq_true rfl) ⟨(Nat.le_of_ble_eq_true rfl), (Nat.le_of_ble_eq_true rfl)⟩ ⟨(Nat.le_of_ble_eq_true rfl), (Nat.le_of_ble_eq_true rfl)⟩ dL_law_327 (fun ry wx H locs hqx hV => ?_)
  obtain ⟨hry, rfl⟩ := hqx
  rw [eM] at hV
  have hW := re_mod rfl rfl hV
  refine lv_icmp_eq (tgt := 882) hx hb dL_law_330 rfl (fun c9 => ?_) (fun c9 => absurd (hrx.trans (eR.trans hry.symm)) c9)
  exact kk _ _ _ ⟨T1, Q1, Ld1, Vd1, L1, V1, S1, R1, C11, C21, Rn1, Wd1, Im1, K1, tr1, M1, z_1, N1, C_1, k1, y1, z11, z21, hR1, hW⟩ hl

set_option maxHeartbeats 4000000 in
set_option maxRecDepth 100000 in
theorem law_case_now {p : Program} {l : Launch} {e : Env} {s : State} {m : MethodId} {args : Array Value} {below : List Frame} {meth : Method} {c : Code} {H : Heap} {locs : List Loc} {Q0 : State → Prop} {ls : Array Slot} {D : va_G} {A : Nat → Prop} {a mm : Nat → Nat} {cI cZ cN : ClassId} {b0 L0 i : Nat} {xs : Nat → Int32} (S0 : CallFix p m c cL_law 4 s args BW RL) (hX : va_X b0 L0 xs s s.heap) (hbl : b0 < s.heap.size) (hbA : ¬ A b0) {t0 : Nat} (hZ : ZM t0 A s s.heap) (hi5 : i + 5 ≤ L0) (hL : L0 ≤ 320) (hG : Gd D cI cZ cN A a mm s H locs) (hl : lv_has ls 4 [(0, .ref b0), (1, .ref (a 0)), (2, .ref (mm 0)), (3, .int (nI i))]) (kk : ∀ (H : Heap) (locs : List Loc) (ls : Array Slot), Gd D cI cZ cN A a mm s H locs → lv_has ls 4 [(0, .ref b0), (1, .ref (a 0)), (2, .ref (mm 0)), (3, .int (nI i))] → W p l e room_1 s m args below meth c H locs 102 1534 Q0 (F0 m 882 ls [])) : W p l e room_1 s m args below meth c H locs 102 1534 Q0 (F0 m 335 ls []) := by
  have hx := S0.1
  have hb := S0.2.1
  obtain ⟨T, Q, Ld, Vd, L, V, S, R, C1, C2, Rn, Wd, Im, K, tr, M, z, N, C, k, y, z1, z2, hR, hW⟩ := hG
  have hR0 := hR
  obtain ⟨⟨hz, hz2, hz', hTM, hlt⟩, ⟨hN, hN7, hN', hC, hC4, hC1, hC'⟩, hLd, hV0, ⟨hk, hk10, hy, hy10, hy', hps⟩, ⟨hc1, hz16, hc1', hto⟩, ⟨hc2, hz26, hc2', hro⟩, hIm⟩ := hR0
  refine lv_aload_n hx hb dL_law_335 rfl (lv_at hl 1 rfl) ?_
  refine lv_aload_n hx hb dL_law_336 rfl (lv_at hl 0 rfl) ?_
  refine lv_iload_n hx hb dL_law_337 rfl (lv_at hl 3 rfl) ?_
  refine lv_iconst (v := (1 : Int32)) hx hb dL_law_338 rfl ?_
  refine lv_iadd hx hb dL_law_339 ?_
  refine r_eq (y := nI (i + 1)) (nI_add i 1) ?_
  refine va_sld hx hb hX hbl hbA hW.2.2.2.2.1 (vp_in_nI (show i + 1 < L0 by omega) (by omega)) dL_law_340 ?_
  obtain ⟨T1, Q1, Ld1, Vd1, L1, V1, S1, R1, C11, C21, Rn1, Wd1, Im1, K1, tr1, M1, z_1, N1, C_1, k1, y1, z11, z21, hR1, eC, eM, eR⟩ := st_now cI cZ cN a mm (Q := Q) (Ld := Ld) (Vd := Vd) (Rn := Rn) (Wd := Wd) (tr := tr) hR (xs (nI (i + 1)).toNatClampNeg)
  refine callVI S0 hW (c_X8_now l D cI cZ cN a T Q Ld Vd L V S R C1 C2 Rn Wd Im K tr z N C k y z1 z2 hz hz2 hN hN7 hC hC4 hC1 hk hk10 hy hy10 hc1 hz16 hc2 hz26 (xs (nI (i + 1)).toNatClampNeg)) vmX8_now mw474 (List.range 84) rfl (by decide) 0 rfl rfl (As := [.int (xs (nI (i + 1)).toNatClampNeg)]) (rest := []) rfl rfl hl.1 (Nat.le_of_ble_eq_true rfl) ⟨(Nat.le_of_ble_eq_true rfl), (Nat.le_of_ble_eq_true rfl)⟩ ⟨(Nat.le_of_ble_eq_true rfl), (Nat.le_of_ble_eq_true rfl)⟩ dL_law_341 (fun rx wx H locs hqx hV => ?_)
  obtain ⟨hrx, rfl⟩ := hqx
  rw [eC] at hV
  have hW := re_one rfl hV
  refine lv_aload_n hx hb dL_law_344 rfl (lv_at hl 2 rfl) ?_
  refine lv_aload_n hx hb dL_law_345 rfl (lv_at hl 0 rfl) ?_
  refine lv_iload_n hx hb dL_law_346 rfl (lv_at hl 3 rfl) ?_
  refine lv_iconst (v := (1 : Int32)) hx hb dL_law_347 rfl ?_
  refine lv_iadd hx hb dL_law_348 ?_
  refine r_eq (y := nI (i + 1)) (nI_add i 1) ?_
  refine va_sld hx hb hX hbl hbA hW.2.2.2.2.1 (vp_in_nI (show i + 1 < L0 by omega) (by omega)) dL_law_349 ?_
  refine callVI S0 hW (c_X9_now l D cI cZ cN mm M tr N C hN' hN7 hC' hC4 hC1 y hy' hy10 (xs (nI (i + 1)).toNatClampNeg)) vmX9_now mw501 ((List.range 18).map (· + 84)) rfl (by decide) 0 rfl rfl (As := [.int (xs (nI (i + 1)).toNatClampNeg)]) (rest := [.int rx]) rfl rfl hl.1 (Nat.le_of_ble_eq_true rfl) ⟨(Nat.le_of_ble_eq_true rfl), (Nat.le_of_ble_eq_true rfl)⟩ ⟨(Nat.le_of_ble_eq_true rfl), (Nat.le_of_ble_eq_true rfl)⟩ dL_law_350 (fun ry wx H locs hqx hV => ?_)
  obtain ⟨hry, rfl⟩ := hqx
  rw [eM] at hV
  have hW := re_mod rfl rfl hV
  refine lv_icmp_eq (tgt := 882) hx hb dL_law_353 rfl (fun c9 => ?_) (fun c9 => absurd (hrx.trans (eR.trans hry.symm)) c9)
  exact kk _ _ _ ⟨T1, Q1, Ld1, Vd1, L1, V1, S1, R1, C11, C21, Rn1, Wd1, Im1, K1, tr1, M1, z_1, N1, C_1, k1, y1, z11, z21, hR1, hW⟩ hl

set_option maxHeartbeats 4000000 in
set_option maxRecDepth 100000 in
theorem law_case_hurts {p : Program} {l : Launch} {e : Env} {s : State} {m : MethodId} {args : Array Value} {below : List Frame} {meth : Method} {c : Code} {H : Heap} {locs : List Loc} {Q0 : State → Prop} {ls : Array Slot} {D : va_G} {A : Nat → Prop} {a mm : Nat → Nat} {cI cZ cN : ClassId} {b0 L0 i : Nat} {xs : Nat → Int32} (S0 : CallFix p m c cL_law 4 s args BW RL) (hX : va_X b0 L0 xs s s.heap) (hbl : b0 < s.heap.size) (hbA : ¬ A b0) {t0 : Nat} (hZ : ZM t0 A s s.heap) (hi5 : i + 5 ≤ L0) (hL : L0 ≤ 320) (hG : Gd D cI cZ cN A a mm s H locs) (hl : lv_has ls 4 [(0, .ref b0), (1, .ref (a 0)), (2, .ref (mm 0)), (3, .int (nI i))]) (kk : ∀ (H : Heap) (locs : List Loc) (ls : Array Slot), Gd D cI cZ cN A a mm s H locs → lv_has ls 4 [(0, .ref b0), (1, .ref (a 0)), (2, .ref (mm 0)), (3, .int (nI i))] → W p l e room_1 s m args below meth c H locs 102 1534 Q0 (F0 m 882 ls [])) : W p l e room_1 s m args below meth c H locs 102 1534 Q0 (F0 m 358 ls []) := by
  have hx := S0.1
  have hb := S0.2.1
  obtain ⟨T, Q, Ld, Vd, L, V, S, R, C1, C2, Rn, Wd, Im, K, tr, M, z, N, C, k, y, z1, z2, hR, hW⟩ := hG
  have hR0 := hR
  obtain ⟨⟨hz, hz2, hz', hTM, hlt⟩, ⟨hN, hN7, hN', hC, hC4, hC1, hC'⟩, hLd, hV0, ⟨hk, hk10, hy, hy10, hy', hps⟩, ⟨hc1, hz16, hc1', hto⟩, ⟨hc2, hz26, hc2', hro⟩, hIm⟩ := hR0
  refine lv_aload_n hx hb dL_law_358 rfl (lv_at hl 1 rfl) ?_
  refine lv_aload_n hx hb dL_law_359 rfl (lv_at hl 0 rfl) ?_
  refine lv_iload_n hx hb dL_law_360 rfl (lv_at hl 3 rfl) ?_
  refine lv_iconst (v := (1 : Int32)) hx hb dL_law_361 rfl ?_
  refine lv_iadd hx hb dL_law_362 ?_
  refine r_eq (y := nI (i + 1)) (nI_add i 1) ?_
  refine va_sld hx hb hX hbl hbA hW.2.2.2.2.1 (vp_in_nI (show i + 1 < L0 by omega) (by omega)) dL_law_363 ?_
  refine lv_aload_n hx hb dL_law_364 rfl (lv_at hl 0 rfl) ?_
  refine lv_iload_n hx hb dL_law_365 rfl (lv_at hl 3 rfl) ?_
  refine lv_iconst (v := (2 : Int32)) hx hb dL_law_366 rfl ?_
  refine lv_iadd hx hb dL_law_367 ?_
  refine r_eq (y := nI (i + 2)) (nI_add i 2) ?_
  refine va_sld hx hb hX hbl hbA hW.2.2.2.2.1 (vp_in_nI (show i + 2 < L0 by omega) (by omega)) dL_law_368 ?_
  obtain ⟨T1, Q1, Ld1, Vd1, L1, V1, S1, R1, C11, C21, Rn1, Wd1, Im1, K1, tr1, M1, z_1, N1, C_1, k1, y1, z11, z21, hR1, eC, eM, eR⟩ := st_hurts cI cZ cN a mm (Q := Q) (Ld := Ld) (Vd := Vd) (Rn := Rn) (Wd := Wd) (tr := tr) hR (xs (nI (i + 1)).toNatClampNeg) (xs (nI (i + 2)).toNatClampNeg)
  refine callVI S0 hW (c_X8_hurts l D cI cZ cN a T Q Ld Vd L V S R C1 C2 Rn Wd Im K tr z N C k y z1 z2 hz hz2 hN hN7 hC hC4 hC1 hk hk10 hy hy10 hc1 hz16 hc2 hz26 (xs (nI (i + 1)).toNatClampNeg) (xs (nI (i + 2)).toNatClampNeg)) vmX8_hurts mw533 (List.range 84) rfl (by decide) 0 rfl rfl (As := [.int (xs (nI (i + 1)).toNatClampNeg), .int (xs (nI (i + 2)).toNatClampNeg)]) (rest := []) rfl rfl hl.1 (Nat.le_of_ble_eq_true rfl) ⟨(Nat.le_of_ble_eq_true rfl), (Nat.le_of_ble_eq_true rfl)⟩ ⟨(Nat.le_of_ble_eq_true rfl), (Nat.le_of_ble_eq_true rfl)⟩ dL_law_369 (fun rx wx H locs hqx hV => ?_)
  obtain ⟨hrx, rfl⟩ := hqx
  rw [eC] at hV
  have hW := re_one rfl hV
  refine lv_aload_n hx hb dL_law_372 rfl (lv_at hl 2 rfl) ?_
  refine lv_aload_n hx hb dL_law_373 rfl (lv_at hl 0 rfl) ?_
  refine lv_iload_n hx hb dL_law_374 rfl (lv_at hl 3 rfl) ?_
  refine lv_iconst (v := (1 : Int32)) hx hb dL_law_375 rfl ?_
  refine lv_iadd hx hb dL_law_376 ?_
  refine r_eq (y := nI (i + 1)) (nI_add i 1) ?_
  refine va_sld hx hb hX hbl hbA hW.2.2.2.2.1 (vp_in_nI (show i + 1 < L0 by omega) (by omega)) dL_law_377 ?_
  refine lv_aload_n hx hb dL_law_378 rfl (lv_at hl 0 rfl) ?_
  refine lv_iload_n hx hb dL_law_379 rfl (lv_at hl 3 rfl) ?_
  refine lv_iconst (v := (2 : Int32)) hx hb dL_law_380 rfl ?_
  refine lv_iadd hx hb dL_law_381 ?_
  refine r_eq (y := nI (i + 2)) (nI_add i 2) ?_
  refine va_sld hx hb hX hbl hbA hW.2.2.2.2.1 (vp_in_nI (show i + 2 < L0 by omega) (by omega)) dL_law_382 ?_
  refine callVI S0 hW (c_X9_hurts l D cI cZ cN mm M tr N C hN' hN7 hC' hC4 hC1 y hy' hy10 (xs (nI (i + 1)).toNatClampNeg) (xs (nI (i + 2)).toNatClampNeg)) vmX9_hurts mw545 ((List.range 18).map (· + 84)) rfl (by decide) 0 rfl rfl (As := [.int (xs (nI (i + 1)).toNatClampNeg), .int (xs (nI (i + 2)).toNatClampNeg)]) (rest := [.int rx]) rfl rfl hl.1 (Nat.le_of_ble_eq_true rfl) ⟨(Nat.le_of_ble_eq_true rfl), (Nat.le_of_ble_eq_true rfl)⟩ ⟨(Nat.le_of_ble_eq_true rfl), (Nat.le_of_ble_eq_true rfl)⟩ dL_law_383 (fun ry wx H locs hqx hV => ?_)
  obtain ⟨hry, rfl⟩ := hqx
  rw [eM] at hV
  have hW := re_mod rfl rfl hV
  refine lv_icmp_eq (tgt := 882) hx hb dL_law_386 rfl (fun c9 => ?_) (fun c9 => absurd (hrx.trans (eR.trans hry.symm)) c9)
  exact kk _ _ _ ⟨T1, Q1, Ld1, Vd1, L1, V1, S1, R1, C11, C21, Rn1, Wd1, Im1, K1, tr1, M1, z_1, N1, C_1, k1, y1, z11, z21, hR1, hW⟩ hl

set_option maxHeartbeats 4000000 in
set_option maxRecDepth 100000 in
theorem law_case_deeds {p : Program} {l : Launch} {e : Env} {s : State} {m : MethodId} {args : Array Value} {below : List Frame} {meth : Method} {c : Code} {H : Heap} {locs : List Loc} {Q0 : State → Prop} {ls : Array Slot} {D : va_G} {A : Nat → Prop} {a mm : Nat → Nat} {cI cZ cN : ClassId} {b0 L0 i : Nat} {xs : Nat → Int32} (S0 : CallFix p m c cL_law 4 s args BW RL) (hX : va_X b0 L0 xs s s.heap) (hbl : b0 < s.heap.size) (hbA : ¬ A b0) {t0 : Nat} (hZ : ZM t0 A s s.heap) (hi5 : i + 5 ≤ L0) (hL : L0 ≤ 320) (hG : Gd D cI cZ cN A a mm s H locs) (hl : lv_has ls 4 [(0, .ref b0), (1, .ref (a 0)), (2, .ref (mm 0)), (3, .int (nI i))]) (kk : ∀ (H : Heap) (locs : List Loc) (ls : Array Slot), Gd D cI cZ cN A a mm s H locs → lv_has ls 4 [(0, .ref b0), (1, .ref (a 0)), (2, .ref (mm 0)), (3, .int (nI i))] → W p l e room_1 s m args below meth c H locs 102 1534 Q0 (F0 m 882 ls [])) : W p l e room_1 s m args below meth c H locs 102 1534 Q0 (F0 m 391 ls []) := by
  have hx := S0.1
  have hb := S0.2.1
  obtain ⟨T, Q, Ld, Vd, L, V, S, R, C1, C2, Rn, Wd, Im, K, tr, M, z, N, C, k, y, z1, z2, hR, hW⟩ := hG
  have hR0 := hR
  obtain ⟨⟨hz, hz2, hz', hTM, hlt⟩, ⟨hN, hN7, hN', hC, hC4, hC1, hC'⟩, hLd, hV0, ⟨hk, hk10, hy, hy10, hy', hps⟩, ⟨hc1, hz16, hc1', hto⟩, ⟨hc2, hz26, hc2', hro⟩, hIm⟩ := hR0
  refine lv_aload_n hx hb dL_law_391 rfl (lv_at hl 1 rfl) ?_
  refine lv_aload_n hx hb dL_law_392 rfl (lv_at hl 0 rfl) ?_
  refine lv_iload_n hx hb dL_law_393 rfl (lv_at hl 3 rfl) ?_
  refine lv_iconst (v := (1 : Int32)) hx hb dL_law_394 rfl ?_
  refine lv_iadd hx hb dL_law_395 ?_
  refine r_eq (y := nI (i + 1)) (nI_add i 1) ?_
  refine va_sld hx hb hX hbl hbA hW.2.2.2.2.1 (vp_in_nI (show i + 1 < L0 by omega) (by omega)) dL_law_396 ?_
  obtain ⟨T1, Q1, Ld1, Vd1, L1, V1, S1, R1, C11, C21, Rn1, Wd1, Im1, K1, tr1, M1, z_1, N1, C_1, k1, y1, z11, z21, hR1, eC, eM, eR⟩ := st_deeds cI cZ cN a mm (Q := Q) (Ld := Ld) (Vd := Vd) (Rn := Rn) (Wd := Wd) (tr := tr) hR (xs (nI (i + 1)).toNatClampNeg)
  refine callVI S0 hW (c_X8_deeds l D cI cZ cN a T Q Ld Vd L V S R C1 C2 Rn Wd Im K tr z N C k y z1 z2 hz hz2 hN hN7 hC hC4 hC1 hk hk10 hy hy10 hc1 hz16 hc2 hz26 (xs (nI (i + 1)).toNatClampNeg)) vmX8_deeds mw553 (List.range 84) rfl (by decide) 0 rfl rfl (As := [.int (xs (nI (i + 1)).toNatClampNeg)]) (rest := []) rfl rfl hl.1 (Nat.le_of_ble_eq_true rfl) ⟨(Nat.le_of_ble_eq_true rfl), (Nat.le_of_ble_eq_true rfl)⟩ ⟨(Nat.le_of_ble_eq_true rfl), (Nat.le_of_ble_eq_true rfl)⟩ dL_law_397 (fun rx wx H locs hqx hV => ?_)
  obtain ⟨hrx, rfl⟩ := hqx
  rw [eC] at hV
  have hW := re_one rfl hV
  refine lv_aload_n hx hb dL_law_400 rfl (lv_at hl 2 rfl) ?_
  refine lv_aload_n hx hb dL_law_401 rfl (lv_at hl 0 rfl) ?_
  refine lv_iload_n hx hb dL_law_402 rfl (lv_at hl 3 rfl) ?_
  refine lv_iconst (v := (1 : Int32)) hx hb dL_law_403 rfl ?_
  refine lv_iadd hx hb dL_law_404 ?_
  refine r_eq (y := nI (i + 1)) (nI_add i 1) ?_
  refine va_sld hx hb hX hbl hbA hW.2.2.2.2.1 (vp_in_nI (show i + 1 < L0 by omega) (by omega)) dL_law_405 ?_
  refine callVI S0 hW (c_X9_deeds l D cI cZ cN mm M tr N C hN' hN7 hC' hC4 hC1 y hy' hy10 (xs (nI (i + 1)).toNatClampNeg)) vmX9_deeds mw557 ((List.range 18).map (· + 84)) rfl (by decide) 0 rfl rfl (As := [.int (xs (nI (i + 1)).toNatClampNeg)]) (rest := [.int rx]) rfl rfl hl.1 (Nat.le_of_ble_eq_true rfl) ⟨(Nat.le_of_ble_eq_true rfl), (Nat.le_of_ble_eq_true rfl)⟩ ⟨(Nat.le_of_ble_eq_true rfl), (Nat.le_of_ble_eq_true rfl)⟩ dL_law_406 (fun ry wx H locs hqx hV => ?_)
  obtain ⟨hry, rfl⟩ := hqx
  rw [eM] at hV
  have hW := re_mod rfl rfl hV
  refine lv_icmp_eq (tgt := 882) hx hb dL_law_409 rfl (fun c9 => ?_) (fun c9 => absurd (hrx.trans (eR.trans hry.symm)) c9)
  exact kk _ _ _ ⟨T1, Q1, Ld1, Vd1, L1, V1, S1, R1, C11, C21, Rn1, Wd1, Im1, K1, tr1, M1, z_1, N1, C_1, k1, y1, z11, z21, hR1, hW⟩ hl

set_option maxHeartbeats 4000000 in
set_option maxRecDepth 100000 in
theorem law_case_earns {p : Program} {l : Launch} {e : Env} {s : State} {m : MethodId} {args : Array Value} {below : List Frame} {meth : Method} {c : Code} {H : Heap} {locs : List Loc} {Q0 : State → Prop} {ls : Array Slot} {D : va_G} {A : Nat → Prop} {a mm : Nat → Nat} {cI cZ cN : ClassId} {b0 L0 i : Nat} {xs : Nat → Int32} (S0 : CallFix p m c cL_law 4 s args BW RL) (hX : va_X b0 L0 xs s s.heap) (hbl : b0 < s.heap.size) (hbA : ¬ A b0) {t0 : Nat} (hZ : ZM t0 A s s.heap) (hi5 : i + 5 ≤ L0) (hL : L0 ≤ 320) (hG : Gd D cI cZ cN A a mm s H locs) (hl : lv_has ls 4 [(0, .ref b0), (1, .ref (a 0)), (2, .ref (mm 0)), (3, .int (nI i))]) (kk : ∀ (H : Heap) (locs : List Loc) (ls : Array Slot), Gd D cI cZ cN A a mm s H locs → lv_has ls 4 [(0, .ref b0), (1, .ref (a 0)), (2, .ref (mm 0)), (3, .int (nI i))] → W p l e room_1 s m args below meth c H locs 102 1534 Q0 (F0 m 882 ls [])) : W p l e room_1 s m args below meth c H locs 102 1534 Q0 (F0 m 414 ls []) := by
  have hx := S0.1
  have hb := S0.2.1
  obtain ⟨T, Q, Ld, Vd, L, V, S, R, C1, C2, Rn, Wd, Im, K, tr, M, z, N, C, k, y, z1, z2, hR, hW⟩ := hG
  have hR0 := hR
  obtain ⟨⟨hz, hz2, hz', hTM, hlt⟩, ⟨hN, hN7, hN', hC, hC4, hC1, hC'⟩, hLd, hV0, ⟨hk, hk10, hy, hy10, hy', hps⟩, ⟨hc1, hz16, hc1', hto⟩, ⟨hc2, hz26, hc2', hro⟩, hIm⟩ := hR0
  refine lv_aload_n hx hb dL_law_414 rfl (lv_at hl 1 rfl) ?_
  refine lv_aload_n hx hb dL_law_415 rfl (lv_at hl 0 rfl) ?_
  refine lv_iload_n hx hb dL_law_416 rfl (lv_at hl 3 rfl) ?_
  refine lv_iconst (v := (1 : Int32)) hx hb dL_law_417 rfl ?_
  refine lv_iadd hx hb dL_law_418 ?_
  refine r_eq (y := nI (i + 1)) (nI_add i 1) ?_
  refine va_sld hx hb hX hbl hbA hW.2.2.2.2.1 (vp_in_nI (show i + 1 < L0 by omega) (by omega)) dL_law_419 ?_
  refine lv_aload_n hx hb dL_law_420 rfl (lv_at hl 0 rfl) ?_
  refine lv_iload_n hx hb dL_law_421 rfl (lv_at hl 3 rfl) ?_
  refine lv_iconst (v := (2 : Int32)) hx hb dL_law_422 rfl ?_
  refine lv_iadd hx hb dL_law_423 ?_
  refine r_eq (y := nI (i + 2)) (nI_add i 2) ?_
  refine va_sld hx hb hX hbl hbA hW.2.2.2.2.1 (vp_in_nI (show i + 2 < L0 by omega) (by omega)) dL_law_424 ?_
  obtain ⟨T1, Q1, Ld1, Vd1, L1, V1, S1, R1, C11, C21, Rn1, Wd1, Im1, K1, tr1, M1, z_1, N1, C_1, k1, y1, z11, z21, hR1, eC, eM, eR⟩ := st_earns cI cZ cN a mm (Q := Q) (Ld := Ld) (Vd := Vd) (Rn := Rn) (Wd := Wd) (tr := tr) hR (xs (nI (i + 1)).toNatClampNeg) (xs (nI (i + 2)).toNatClampNeg)
  refine callVI S0 hW (c_X8_earns l D cI cZ cN a T Q Ld Vd L V S R C1 C2 Rn Wd Im K tr z N C k y z1 z2 hz hz2 hN hN7 hC hC4 hC1 hk hk10 hy hy10 hc1 hz16 hc2 hz26 (xs (nI (i + 1)).toNatClampNeg) (xs (nI (i + 2)).toNatClampNeg)) vmX8_earns mw561 (List.range 84) rfl (by decide) 0 rfl rfl (As := [.int (xs (nI (i + 1)).toNatClampNeg), .int (xs (nI (i + 2)).toNatClampNeg)]) (rest := []) rfl rfl hl.1 (Nat.le_of_ble_eq_true rfl) ⟨(Nat.le_of_ble_eq_true rfl), (Nat.le_of_ble_eq_true rfl)⟩ ⟨(Nat.le_of_ble_eq_true rfl), (Nat.le_of_ble_eq_true rfl)⟩ dL_law_425 (fun rx wx H locs hqx hV => ?_)
  obtain ⟨hrx, rfl⟩ := hqx
  rw [eC] at hV
  have hW := re_one rfl hV
  refine lv_aload_n hx hb dL_law_428 rfl (lv_at hl 2 rfl) ?_
  refine lv_aload_n hx hb dL_law_429 rfl (lv_at hl 0 rfl) ?_
  refine lv_iload_n hx hb dL_law_430 rfl (lv_at hl 3 rfl) ?_
  refine lv_iconst (v := (1 : Int32)) hx hb dL_law_431 rfl ?_
  refine lv_iadd hx hb dL_law_432 ?_
  refine r_eq (y := nI (i + 1)) (nI_add i 1) ?_
  refine va_sld hx hb hX hbl hbA hW.2.2.2.2.1 (vp_in_nI (show i + 1 < L0 by omega) (by omega)) dL_law_433 ?_
  refine lv_aload_n hx hb dL_law_434 rfl (lv_at hl 0 rfl) ?_
  refine lv_iload_n hx hb dL_law_435 rfl (lv_at hl 3 rfl) ?_
  refine lv_iconst (v := (2 : Int32)) hx hb dL_law_436 rfl ?_
  refine lv_iadd hx hb dL_law_437 ?_
  refine r_eq (y := nI (i + 2)) (nI_add i 2) ?_
  refine va_sld hx hb hX hbl hbA hW.2.2.2.2.1 (vp_in_nI (show i + 2 < L0 by omega) (by omega)) dL_law_438 ?_
  refine callVI S0 hW (c_X9_earns l D cI cZ cN mm M tr N C hN' hN7 hC' hC4 hC1 y hy' hy10 (xs (nI (i + 1)).toNatClampNeg) (xs (nI (i + 2)).toNatClampNeg)) vmX9_earns mw566 ((List.range 18).map (· + 84)) rfl (by decide) 0 rfl rfl (As := [.int (xs (nI (i + 1)).toNatClampNeg), .int (xs (nI (i + 2)).toNatClampNeg)]) (rest := [.int rx]) rfl rfl hl.1 (Nat.le_of_ble_eq_true rfl) ⟨(Nat.le_of_ble_eq_true rfl), (Nat.le_of_ble_eq_true rfl)⟩ ⟨(Nat.le_of_ble_eq_true rfl), (Nat.le_of_ble_eq_true rfl)⟩ dL_law_439 (fun ry wx H locs hqx hV => ?_)
  obtain ⟨hry, rfl⟩ := hqx
  rw [eM] at hV
  have hW := re_mod rfl rfl hV
  refine lv_icmp_eq (tgt := 882) hx hb dL_law_442 rfl (fun c9 => ?_) (fun c9 => absurd (hrx.trans (eR.trans hry.symm)) c9)
  exact kk _ _ _ ⟨T1, Q1, Ld1, Vd1, L1, V1, S1, R1, C11, C21, Rn1, Wd1, Im1, K1, tr1, M1, z_1, N1, C_1, k1, y1, z11, z21, hR1, hW⟩ hl

set_option maxHeartbeats 4000000 in
set_option maxRecDepth 100000 in
theorem law_case_names {p : Program} {l : Launch} {e : Env} {s : State} {m : MethodId} {args : Array Value} {below : List Frame} {meth : Method} {c : Code} {H : Heap} {locs : List Loc} {Q0 : State → Prop} {ls : Array Slot} {D : va_G} {A : Nat → Prop} {a mm : Nat → Nat} {cI cZ cN : ClassId} {b0 L0 i : Nat} {xs : Nat → Int32} (S0 : CallFix p m c cL_law 4 s args BW RL) (hX : va_X b0 L0 xs s s.heap) (hbl : b0 < s.heap.size) (hbA : ¬ A b0) {t0 : Nat} (hZ : ZM t0 A s s.heap) (hi5 : i + 5 ≤ L0) (hL : L0 ≤ 320) (hG : Gd D cI cZ cN A a mm s H locs) (hl : lv_has ls 4 [(0, .ref b0), (1, .ref (a 0)), (2, .ref (mm 0)), (3, .int (nI i))]) (kk : ∀ (H : Heap) (locs : List Loc) (ls : Array Slot), Gd D cI cZ cN A a mm s H locs → lv_has ls 4 [(0, .ref b0), (1, .ref (a 0)), (2, .ref (mm 0)), (3, .int (nI i))] → W p l e room_1 s m args below meth c H locs 102 1534 Q0 (F0 m 882 ls [])) : W p l e room_1 s m args below meth c H locs 102 1534 Q0 (F0 m 447 ls []) := by
  have hx := S0.1
  have hb := S0.2.1
  obtain ⟨T, Q, Ld, Vd, L, V, S, R, C1, C2, Rn, Wd, Im, K, tr, M, z, N, C, k, y, z1, z2, hR, hW⟩ := hG
  have hR0 := hR
  obtain ⟨⟨hz, hz2, hz', hTM, hlt⟩, ⟨hN, hN7, hN', hC, hC4, hC1, hC'⟩, hLd, hV0, ⟨hk, hk10, hy, hy10, hy', hps⟩, ⟨hc1, hz16, hc1', hto⟩, ⟨hc2, hz26, hc2', hro⟩, hIm⟩ := hR0
  refine lv_aload_n hx hb dL_law_447 rfl (lv_at hl 1 rfl) ?_
  refine lv_aload_n hx hb dL_law_448 rfl (lv_at hl 0 rfl) ?_
  refine lv_iload_n hx hb dL_law_449 rfl (lv_at hl 3 rfl) ?_
  refine lv_iconst (v := (1 : Int32)) hx hb dL_law_450 rfl ?_
  refine lv_iadd hx hb dL_law_451 ?_
  refine r_eq (y := nI (i + 1)) (nI_add i 1) ?_
  refine va_sld hx hb hX hbl hbA hW.2.2.2.2.1 (vp_in_nI (show i + 1 < L0 by omega) (by omega)) dL_law_452 ?_
  refine lv_aload_n hx hb dL_law_453 rfl (lv_at hl 0 rfl) ?_
  refine lv_iload_n hx hb dL_law_454 rfl (lv_at hl 3 rfl) ?_
  refine lv_iconst (v := (2 : Int32)) hx hb dL_law_455 rfl ?_
  refine lv_iadd hx hb dL_law_456 ?_
  refine r_eq (y := nI (i + 2)) (nI_add i 2) ?_
  refine va_sld hx hb hX hbl hbA hW.2.2.2.2.1 (vp_in_nI (show i + 2 < L0 by omega) (by omega)) dL_law_457 ?_
  obtain ⟨T1, Q1, Ld1, Vd1, L1, V1, S1, R1, C11, C21, Rn1, Wd1, Im1, K1, tr1, M1, z_1, N1, C_1, k1, y1, z11, z21, hR1, eC, eM, eR⟩ := st_names cI cZ cN a mm (Q := Q) (Ld := Ld) (Vd := Vd) (Rn := Rn) (Wd := Wd) (tr := tr) hR (xs (nI (i + 1)).toNatClampNeg) (xs (nI (i + 2)).toNatClampNeg)
  refine callVI S0 hW (c_X8_names l D cI cZ cN a T Q Ld Vd L V S R C1 C2 Rn Wd Im K tr z N C k y z1 z2 hz hz2 hN hN7 hC hC4 hC1 hk hk10 hy hy10 hc1 hz16 hc2 hz26 (xs (nI (i + 1)).toNatClampNeg) (xs (nI (i + 2)).toNatClampNeg)) vmX8_names mw570 (List.range 84) rfl (by decide) 0 rfl rfl (As := [.int (xs (nI (i + 1)).toNatClampNeg), .int (xs (nI (i + 2)).toNatClampNeg)]) (rest := []) rfl rfl hl.1 (Nat.le_of_ble_eq_true rfl) ⟨(Nat.le_of_ble_eq_true rfl), (Nat.le_of_ble_eq_true rfl)⟩ ⟨(Nat.le_of_ble_eq_true rfl), (Nat.le_of_ble_eq_true rfl)⟩ dL_law_458 (fun rx wx H locs hqx hV => ?_)
  obtain ⟨hrx, rfl⟩ := hqx
  rw [eC] at hV
  have hW := re_one rfl hV
  refine lv_aload_n hx hb dL_law_461 rfl (lv_at hl 2 rfl) ?_
  refine lv_aload_n hx hb dL_law_462 rfl (lv_at hl 0 rfl) ?_
  refine lv_iload_n hx hb dL_law_463 rfl (lv_at hl 3 rfl) ?_
  refine lv_iconst (v := (1 : Int32)) hx hb dL_law_464 rfl ?_
  refine lv_iadd hx hb dL_law_465 ?_
  refine r_eq (y := nI (i + 1)) (nI_add i 1) ?_
  refine va_sld hx hb hX hbl hbA hW.2.2.2.2.1 (vp_in_nI (show i + 1 < L0 by omega) (by omega)) dL_law_466 ?_
  refine lv_aload_n hx hb dL_law_467 rfl (lv_at hl 0 rfl) ?_
  refine lv_iload_n hx hb dL_law_468 rfl (lv_at hl 3 rfl) ?_
  refine lv_iconst (v := (2 : Int32)) hx hb dL_law_469 rfl ?_
  refine lv_iadd hx hb dL_law_470 ?_
  refine r_eq (y := nI (i + 2)) (nI_add i 2) ?_
  refine va_sld hx hb hX hbl hbA hW.2.2.2.2.1 (vp_in_nI (show i + 2 < L0 by omega) (by omega)) dL_law_471 ?_
  refine callVI S0 hW (c_X9_names l D cI cZ cN mm M tr N C hN' hN7 hC' hC4 hC1 y hy' hy10 (xs (nI (i + 1)).toNatClampNeg) (xs (nI (i + 2)).toNatClampNeg)) vmX9_names mw574 ((List.range 18).map (· + 84)) rfl (by decide) 0 rfl rfl (As := [.int (xs (nI (i + 1)).toNatClampNeg), .int (xs (nI (i + 2)).toNatClampNeg)]) (rest := [.int rx]) rfl rfl hl.1 (Nat.le_of_ble_eq_true rfl) ⟨(Nat.le_of_ble_eq_true rfl), (Nat.le_of_ble_eq_true rfl)⟩ ⟨(Nat.le_of_ble_eq_true rfl), (Nat.le_of_ble_eq_true rfl)⟩ dL_law_472 (fun ry wx H locs hqx hV => ?_)
  obtain ⟨hry, rfl⟩ := hqx
  rw [eM] at hV
  have hW := re_mod rfl rfl hV
  refine lv_icmp_eq (tgt := 882) hx hb dL_law_475 rfl (fun c9 => ?_) (fun c9 => absurd (hrx.trans (eR.trans hry.symm)) c9)
  exact kk _ _ _ ⟨T1, Q1, Ld1, Vd1, L1, V1, S1, R1, C11, C21, Rn1, Wd1, Im1, K1, tr1, M1, z_1, N1, C_1, k1, y1, z11, z21, hR1, hW⟩ hl

set_option maxHeartbeats 4000000 in
set_option maxRecDepth 100000 in
theorem law_case_laws {p : Program} {l : Launch} {e : Env} {s : State} {m : MethodId} {args : Array Value} {below : List Frame} {meth : Method} {c : Code} {H : Heap} {locs : List Loc} {Q0 : State → Prop} {ls : Array Slot} {D : va_G} {A : Nat → Prop} {a mm : Nat → Nat} {cI cZ cN : ClassId} {b0 L0 i : Nat} {xs : Nat → Int32} (S0 : CallFix p m c cL_law 4 s args BW RL) (hX : va_X b0 L0 xs s s.heap) (hbl : b0 < s.heap.size) (hbA : ¬ A b0) {t0 : Nat} (hZ : ZM t0 A s s.heap) (hi5 : i + 5 ≤ L0) (hL : L0 ≤ 320) (hG : Gd D cI cZ cN A a mm s H locs) (hl : lv_has ls 4 [(0, .ref b0), (1, .ref (a 0)), (2, .ref (mm 0)), (3, .int (nI i))]) (kk : ∀ (H : Heap) (locs : List Loc) (ls : Array Slot), Gd D cI cZ cN A a mm s H locs → lv_has ls 4 [(0, .ref b0), (1, .ref (a 0)), (2, .ref (mm 0)), (3, .int (nI i))] → W p l e room_1 s m args below meth c H locs 102 1534 Q0 (F0 m 882 ls [])) : W p l e room_1 s m args below meth c H locs 102 1534 Q0 (F0 m 480 ls []) := by
  have hx := S0.1
  have hb := S0.2.1
  obtain ⟨T, Q, Ld, Vd, L, V, S, R, C1, C2, Rn, Wd, Im, K, tr, M, z, N, C, k, y, z1, z2, hR, hW⟩ := hG
  have hR0 := hR
  obtain ⟨⟨hz, hz2, hz', hTM, hlt⟩, ⟨hN, hN7, hN', hC, hC4, hC1, hC'⟩, hLd, hV0, ⟨hk, hk10, hy, hy10, hy', hps⟩, ⟨hc1, hz16, hc1', hto⟩, ⟨hc2, hz26, hc2', hro⟩, hIm⟩ := hR0
  refine lv_aload_n hx hb dL_law_480 rfl (lv_at hl 1 rfl) ?_
  refine lv_aload_n hx hb dL_law_481 rfl (lv_at hl 0 rfl) ?_
  refine lv_iload_n hx hb dL_law_482 rfl (lv_at hl 3 rfl) ?_
  refine lv_iconst (v := (1 : Int32)) hx hb dL_law_483 rfl ?_
  refine lv_iadd hx hb dL_law_484 ?_
  refine r_eq (y := nI (i + 1)) (nI_add i 1) ?_
  refine va_sld hx hb hX hbl hbA hW.2.2.2.2.1 (vp_in_nI (show i + 1 < L0 by omega) (by omega)) dL_law_485 ?_
  obtain ⟨T1, Q1, Ld1, Vd1, L1, V1, S1, R1, C11, C21, Rn1, Wd1, Im1, K1, tr1, M1, z_1, N1, C_1, k1, y1, z11, z21, hR1, eC, eM, eR⟩ := st_laws cI cZ cN a mm (Q := Q) (Ld := Ld) (Vd := Vd) (Rn := Rn) (Wd := Wd) (tr := tr) hR (xs (nI (i + 1)).toNatClampNeg)
  refine callVI S0 hW (c_X8_laws l D cI cZ cN a T Q Ld Vd L V S R C1 C2 Rn Wd Im K tr z N C k y z1 z2 hz hz2 hN hN7 hC hC4 hC1 hk hk10 hy hy10 hc1 hz16 hc2 hz26 (xs (nI (i + 1)).toNatClampNeg)) vmX8_laws mw578 (List.range 84) rfl (by decide) 0 rfl rfl (As := [.int (xs (nI (i + 1)).toNatClampNeg)]) (rest := []) rfl rfl hl.1 (Nat.le_of_ble_eq_true rfl) ⟨(Nat.le_of_ble_eq_true rfl), (Nat.le_of_ble_eq_true rfl)⟩ ⟨(Nat.le_of_ble_eq_true rfl), (Nat.le_of_ble_eq_true rfl)⟩ dL_law_486 (fun rx wx H locs hqx hV => ?_)
  obtain ⟨hrx, rfl⟩ := hqx
  rw [eC] at hV
  have hW := re_one rfl hV
  refine lv_aload_n hx hb dL_law_489 rfl (lv_at hl 2 rfl) ?_
  refine lv_aload_n hx hb dL_law_490 rfl (lv_at hl 0 rfl) ?_
  refine lv_iload_n hx hb dL_law_491 rfl (lv_at hl 3 rfl) ?_
  refine lv_iconst (v := (1 : Int32)) hx hb dL_law_492 rfl ?_
  refine lv_iadd hx hb dL_law_493 ?_
  refine r_eq (y := nI (i + 1)) (nI_add i 1) ?_
  refine va_sld hx hb hX hbl hbA hW.2.2.2.2.1 (vp_in_nI (show i + 1 < L0 by omega) (by omega)) dL_law_494 ?_
  refine callVI S0 hW (c_X9_laws l D cI cZ cN mm M tr N C hN' hN7 hC' hC4 hC1 y hy' hy10 (xs (nI (i + 1)).toNatClampNeg)) vmX9_laws mw582 ((List.range 18).map (· + 84)) rfl (by decide) 0 rfl rfl (As := [.int (xs (nI (i + 1)).toNatClampNeg)]) (rest := [.int rx]) rfl rfl hl.1 (Nat.le_of_ble_eq_true rfl) ⟨(Nat.le_of_ble_eq_true rfl), (Nat.le_of_ble_eq_true rfl)⟩ ⟨(Nat.le_of_ble_eq_true rfl), (Nat.le_of_ble_eq_true rfl)⟩ dL_law_495 (fun ry wx H locs hqx hV => ?_)
  obtain ⟨hry, rfl⟩ := hqx
  rw [eM] at hV
  have hW := re_mod rfl rfl hV
  refine lv_icmp_eq (tgt := 882) hx hb dL_law_498 rfl (fun c9 => ?_) (fun c9 => absurd (hrx.trans (eR.trans hry.symm)) c9)
  exact kk _ _ _ ⟨T1, Q1, Ld1, Vd1, L1, V1, S1, R1, C11, C21, Rn1, Wd1, Im1, K1, tr1, M1, z_1, N1, C_1, k1, y1, z11, z21, hR1, hW⟩ hl

set_option maxHeartbeats 4000000 in
set_option maxRecDepth 100000 in
theorem law_case_year {p : Program} {l : Launch} {e : Env} {s : State} {m : MethodId} {args : Array Value} {below : List Frame} {meth : Method} {c : Code} {H : Heap} {locs : List Loc} {Q0 : State → Prop} {ls : Array Slot} {D : va_G} {A : Nat → Prop} {a mm : Nat → Nat} {cI cZ cN : ClassId} {b0 L0 i : Nat} {xs : Nat → Int32} (S0 : CallFix p m c cL_law 4 s args BW RL) (hX : va_X b0 L0 xs s s.heap) (hbl : b0 < s.heap.size) (hbA : ¬ A b0) {t0 : Nat} (hZ : ZM t0 A s s.heap) (hi5 : i + 5 ≤ L0) (hL : L0 ≤ 320) (hG : Gd D cI cZ cN A a mm s H locs) (hl : lv_has ls 4 [(0, .ref b0), (1, .ref (a 0)), (2, .ref (mm 0)), (3, .int (nI i))]) (kk : ∀ (H : Heap) (locs : List Loc) (ls : Array Slot), Gd D cI cZ cN A a mm s H locs → lv_has ls 4 [(0, .ref b0), (1, .ref (a 0)), (2, .ref (mm 0)), (3, .int (nI i))] → W p l e room_1 s m args below meth c H locs 102 1534 Q0 (F0 m 882 ls [])) : W p l e room_1 s m args below meth c H locs 102 1534 Q0 (F0 m 503 ls []) := by
  have hx := S0.1
  have hb := S0.2.1
  obtain ⟨T, Q, Ld, Vd, L, V, S, R, C1, C2, Rn, Wd, Im, K, tr, M, z, N, C, k, y, z1, z2, hR, hW⟩ := hG
  have hR0 := hR
  obtain ⟨⟨hz, hz2, hz', hTM, hlt⟩, ⟨hN, hN7, hN', hC, hC4, hC1, hC'⟩, hLd, hV0, ⟨hk, hk10, hy, hy10, hy', hps⟩, ⟨hc1, hz16, hc1', hto⟩, ⟨hc2, hz26, hc2', hro⟩, hIm⟩ := hR0
  refine lv_aload_n hx hb dL_law_503 rfl (lv_at hl 1 rfl) ?_
  obtain ⟨T1, Q1, Ld1, Vd1, L1, V1, S1, R1, C11, C21, Rn1, Wd1, Im1, K1, tr1, M1, z_1, N1, C_1, k1, y1, z11, z21, hR1, eC, eM, eR⟩ := st_year cI cZ cN a mm (Q := Q) (Ld := Ld) (Vd := Vd) (Rn := Rn) (Wd := Wd) (tr := tr) hR
  refine callVI S0 hW (c_X8_year l D cI cZ cN a T Q Ld Vd L V S R C1 C2 Rn Wd Im K tr z N C k y z1 z2 hz hz2 hN hN7 hC hC4 hC1 hk hk10 hy hy10 hc1 hz16 hc2 hz26) vmX8_year mw586 (List.range 84) rfl (by decide) 0 rfl rfl (As := []) (rest := []) rfl rfl hl.1 (Nat.le_of_ble_eq_true rfl) ⟨(Nat.le_of_ble_eq_true rfl), (Nat.le_of_ble_eq_true rfl)⟩ ⟨(Nat.le_of_ble_eq_true rfl), (Nat.le_of_ble_eq_true rfl)⟩ dL_law_504 (fun rx wx H locs hqx hV => ?_)
  obtain ⟨hrx, rfl⟩ := hqx
  rw [eC] at hV
  have hW := re_one rfl hV
  refine lv_aload_n hx hb dL_law_507 rfl (lv_at hl 2 rfl) ?_
  refine callVI S0 hW (c_X9_year l D cI cZ cN mm M tr N C hN' hN7 hC' hC4 hC1 y hy' hy10) vmX9_year mw596 ((List.range 18).map (· + 84)) rfl (by decide) 0 rfl rfl (As := []) (rest := [.int rx]) rfl rfl hl.1 (Nat.le_of_ble_eq_true rfl) ⟨(Nat.le_of_ble_eq_true rfl), (Nat.le_of_ble_eq_true rfl)⟩ ⟨(Nat.le_of_ble_eq_true rfl), (Nat.le_of_ble_eq_true rfl)⟩ dL_law_508 (fun ry wx H locs hqx hV => ?_)
  obtain ⟨hry, rfl⟩ := hqx
  rw [eM] at hV
  have hW := re_mod rfl rfl hV
  refine lv_icmp_eq (tgt := 882) hx hb dL_law_511 rfl (fun c9 => ?_) (fun c9 => absurd (hrx.trans (eR.trans hry.symm)) c9)
  exact kk _ _ _ ⟨T1, Q1, Ld1, Vd1, L1, V1, S1, R1, C11, C21, Rn1, Wd1, Im1, K1, tr1, M1, z_1, N1, C_1, k1, y1, z11, z21, hR1, hW⟩ hl

set_option maxHeartbeats 4000000 in
set_option maxRecDepth 100000 in
theorem law_case_undo {p : Program} {l : Launch} {e : Env} {s : State} {m : MethodId} {args : Array Value} {below : List Frame} {meth : Method} {c : Code} {H : Heap} {locs : List Loc} {Q0 : State → Prop} {ls : Array Slot} {D : va_G} {A : Nat → Prop} {a mm : Nat → Nat} {cI cZ cN : ClassId} {b0 L0 i : Nat} {xs : Nat → Int32} (S0 : CallFix p m c cL_law 4 s args BW RL) (hX : va_X b0 L0 xs s s.heap) (hbl : b0 < s.heap.size) (hbA : ¬ A b0) {t0 : Nat} (hZ : ZM t0 A s s.heap) (hi5 : i + 5 ≤ L0) (hL : L0 ≤ 320) (hG : Gd D cI cZ cN A a mm s H locs) (hl : lv_has ls 4 [(0, .ref b0), (1, .ref (a 0)), (2, .ref (mm 0)), (3, .int (nI i))]) (kk : ∀ (H : Heap) (locs : List Loc) (ls : Array Slot), Gd D cI cZ cN A a mm s H locs → lv_has ls 4 [(0, .ref b0), (1, .ref (a 0)), (2, .ref (mm 0)), (3, .int (nI i))] → W p l e room_1 s m args below meth c H locs 102 1534 Q0 (F0 m 882 ls [])) : W p l e room_1 s m args below meth c H locs 102 1534 Q0 (F0 m 516 ls []) := by
  have hx := S0.1
  have hb := S0.2.1
  obtain ⟨T, Q, Ld, Vd, L, V, S, R, C1, C2, Rn, Wd, Im, K, tr, M, z, N, C, k, y, z1, z2, hR, hW⟩ := hG
  have hR0 := hR
  obtain ⟨⟨hz, hz2, hz', hTM, hlt⟩, ⟨hN, hN7, hN', hC, hC4, hC1, hC'⟩, hLd, hV0, ⟨hk, hk10, hy, hy10, hy', hps⟩, ⟨hc1, hz16, hc1', hto⟩, ⟨hc2, hz26, hc2', hro⟩, hIm⟩ := hR0
  refine lv_aload_n hx hb dL_law_516 rfl (lv_at hl 1 rfl) ?_
  obtain ⟨T1, Q1, Ld1, Vd1, L1, V1, S1, R1, C11, C21, Rn1, Wd1, Im1, K1, tr1, M1, z_1, N1, C_1, k1, y1, z11, z21, hR1, eC, eM, eR⟩ := st_undo cI cZ cN a mm (Q := Q) (Ld := Ld) (Vd := Vd) (Rn := Rn) (Wd := Wd) (tr := tr) hR
  refine callVI S0 hW (c_X8_undo l D cI cZ cN a T Q Ld Vd L V S R C1 C2 Rn Wd Im K tr z N C k y z1 z2 hz hz2 hN hN7 hC hC4 hC1 hk hk10 hy hy10 hc1 hz16 hc2 hz26) vmX8_undo mw601 (List.range 84) rfl (by decide) 0 rfl rfl (As := []) (rest := []) rfl rfl hl.1 (Nat.le_of_ble_eq_true rfl) ⟨(Nat.le_of_ble_eq_true rfl), (Nat.le_of_ble_eq_true rfl)⟩ ⟨(Nat.le_of_ble_eq_true rfl), (Nat.le_of_ble_eq_true rfl)⟩ dL_law_517 (fun rx wx H locs hqx hV => ?_)
  obtain ⟨hrx, rfl⟩ := hqx
  rw [eC] at hV
  have hW := re_one rfl hV
  refine lv_aload_n hx hb dL_law_520 rfl (lv_at hl 2 rfl) ?_
  refine callVI S0 hW (c_X9_undo l D cI cZ cN mm M tr N C hN' hN7 hC' hC4 hC1 y hy' hy10) vmX9_undo mw609 ((List.range 18).map (· + 84)) rfl (by decide) 0 rfl rfl (As := []) (rest := [.int rx]) rfl rfl hl.1 (Nat.le_of_ble_eq_true rfl) ⟨(Nat.le_of_ble_eq_true rfl), (Nat.le_of_ble_eq_true rfl)⟩ ⟨(Nat.le_of_ble_eq_true rfl), (Nat.le_of_ble_eq_true rfl)⟩ dL_law_521 (fun ry wx H locs hqx hV => ?_)
  obtain ⟨hry, rfl⟩ := hqx
  rw [eM] at hV
  have hW := re_mod rfl rfl hV
  refine lv_icmp_eq (tgt := 882) hx hb dL_law_524 rfl (fun c9 => ?_) (fun c9 => absurd (hrx.trans (eR.trans hry.symm)) c9)
  exact kk _ _ _ ⟨T1, Q1, Ld1, Vd1, L1, V1, S1, R1, C11, C21, Rn1, Wd1, Im1, K1, tr1, M1, z_1, N1, C_1, k1, y1, z11, z21, hR1, hW⟩ hl

set_option maxHeartbeats 4000000 in
set_option maxRecDepth 100000 in
theorem law_case_apart {p : Program} {l : Launch} {e : Env} {s : State} {m : MethodId} {args : Array Value} {below : List Frame} {meth : Method} {c : Code} {H : Heap} {locs : List Loc} {Q0 : State → Prop} {ls : Array Slot} {D : va_G} {A : Nat → Prop} {a mm : Nat → Nat} {cI cZ cN : ClassId} {b0 L0 i : Nat} {xs : Nat → Int32} (S0 : CallFix p m c cL_law 4 s args BW RL) (hX : va_X b0 L0 xs s s.heap) (hbl : b0 < s.heap.size) (hbA : ¬ A b0) {t0 : Nat} (hZ : ZM t0 A s s.heap) (hi5 : i + 5 ≤ L0) (hL : L0 ≤ 320) (hG : Gd D cI cZ cN A a mm s H locs) (hl : lv_has ls 4 [(0, .ref b0), (1, .ref (a 0)), (2, .ref (mm 0)), (3, .int (nI i))]) (kk : ∀ (H : Heap) (locs : List Loc) (ls : Array Slot), Gd D cI cZ cN A a mm s H locs → lv_has ls 4 [(0, .ref b0), (1, .ref (a 0)), (2, .ref (mm 0)), (3, .int (nI i))] → W p l e room_1 s m args below meth c H locs 102 1534 Q0 (F0 m 882 ls [])) : W p l e room_1 s m args below meth c H locs 102 1534 Q0 (F0 m 529 ls []) := by
  have hx := S0.1
  have hb := S0.2.1
  obtain ⟨T, Q, Ld, Vd, L, V, S, R, C1, C2, Rn, Wd, Im, K, tr, M, z, N, C, k, y, z1, z2, hR, hW⟩ := hG
  have hR0 := hR
  obtain ⟨⟨hz, hz2, hz', hTM, hlt⟩, ⟨hN, hN7, hN', hC, hC4, hC1, hC'⟩, hLd, hV0, ⟨hk, hk10, hy, hy10, hy', hps⟩, ⟨hc1, hz16, hc1', hto⟩, ⟨hc2, hz26, hc2', hro⟩, hIm⟩ := hR0
  refine lv_aload_n hx hb dL_law_529 rfl (lv_at hl 1 rfl) ?_
  refine lv_aload_n hx hb dL_law_530 rfl (lv_at hl 0 rfl) ?_
  refine lv_iload_n hx hb dL_law_531 rfl (lv_at hl 3 rfl) ?_
  refine lv_iconst (v := (1 : Int32)) hx hb dL_law_532 rfl ?_
  refine lv_iadd hx hb dL_law_533 ?_
  refine r_eq (y := nI (i + 1)) (nI_add i 1) ?_
  refine va_sld hx hb hX hbl hbA hW.2.2.2.2.1 (vp_in_nI (show i + 1 < L0 by omega) (by omega)) dL_law_534 ?_
  obtain ⟨T1, Q1, Ld1, Vd1, L1, V1, S1, R1, C11, C21, Rn1, Wd1, Im1, K1, tr1, M1, z_1, N1, C_1, k1, y1, z11, z21, hR1, eC, eM, eR⟩ := st_apart cI cZ cN a mm (Q := Q) (Ld := Ld) (Vd := Vd) (Rn := Rn) (Wd := Wd) (tr := tr) hR (xs (nI (i + 1)).toNatClampNeg)
  refine callVI S0 hW (c_X8_apart l D cI cZ cN a T Q Ld Vd L V S R C1 C2 Rn Wd Im K tr z N C k y z1 z2 hz hz2 hN hN7 hC hC4 hC1 hk hk10 hy hy10 hc1 hz16 hc2 hz26 (xs (nI (i + 1)).toNatClampNeg)) vmX8_apart mw613 (List.range 84) rfl (by decide) 0 rfl rfl (As := [.int (xs (nI (i + 1)).toNatClampNeg)]) (rest := []) rfl rfl hl.1 (Nat.le_of_ble_eq_true rfl) ⟨(Nat.le_of_ble_eq_true rfl), (Nat.le_of_ble_eq_true rfl)⟩ ⟨(Nat.le_of_ble_eq_true rfl), (Nat.le_of_ble_eq_true rfl)⟩ dL_law_535 (fun rx wx H locs hqx hV => ?_)
  obtain ⟨hrx, rfl⟩ := hqx
  rw [eC] at hV
  have hW := re_one rfl hV
  refine lv_aload_n hx hb dL_law_538 rfl (lv_at hl 2 rfl) ?_
  refine lv_aload_n hx hb dL_law_539 rfl (lv_at hl 0 rfl) ?_
  refine lv_iload_n hx hb dL_law_540 rfl (lv_at hl 3 rfl) ?_
  refine lv_iconst (v := (1 : Int32)) hx hb dL_law_541 rfl ?_
  refine lv_iadd hx hb dL_law_542 ?_
  refine r_eq (y := nI (i + 1)) (nI_add i 1) ?_
  refine va_sld hx hb hX hbl hbA hW.2.2.2.2.1 (vp_in_nI (show i + 1 < L0 by omega) (by omega)) dL_law_543 ?_
  refine callVI S0 hW (c_X9_apart l D cI cZ cN mm M tr N C hN' hN7 hC' hC4 hC1 (xs (nI (i + 1)).toNatClampNeg)) vmX9_apart mw641 ((List.range 18).map (· + 84)) rfl (by decide) 0 rfl rfl (As := [.int (xs (nI (i + 1)).toNatClampNeg)]) (rest := [.int rx]) rfl rfl hl.1 (Nat.le_of_ble_eq_true rfl) ⟨(Nat.le_of_ble_eq_true rfl), (Nat.le_of_ble_eq_true rfl)⟩ ⟨(Nat.le_of_ble_eq_true rfl), (Nat.le_of_ble_eq_true rfl)⟩ dL_law_544 (fun ry wx H locs hqx hV => ?_)
  obtain ⟨hry, rfl⟩ := hqx
  rw [eM] at hV
  have hW := re_mod rfl rfl hV
  refine lv_icmp_eq (tgt := 882) hx hb dL_law_547 rfl (fun c9 => ?_) (fun c9 => absurd (hrx.trans (eR.trans hry.symm)) c9)
  exact kk _ _ _ ⟨T1, Q1, Ld1, Vd1, L1, V1, S1, R1, C11, C21, Rn1, Wd1, Im1, K1, tr1, M1, z_1, N1, C_1, k1, y1, z11, z21, hR1, hW⟩ hl

set_option maxHeartbeats 4000000 in
set_option maxRecDepth 100000 in
theorem law_case_cheapest {p : Program} {l : Launch} {e : Env} {s : State} {m : MethodId} {args : Array Value} {below : List Frame} {meth : Method} {c : Code} {H : Heap} {locs : List Loc} {Q0 : State → Prop} {ls : Array Slot} {D : va_G} {A : Nat → Prop} {a mm : Nat → Nat} {cI cZ cN : ClassId} {b0 L0 i : Nat} {xs : Nat → Int32} (S0 : CallFix p m c cL_law 4 s args BW RL) (hX : va_X b0 L0 xs s s.heap) (hbl : b0 < s.heap.size) (hbA : ¬ A b0) {t0 : Nat} (hZ : ZM t0 A s s.heap) (hi5 : i + 5 ≤ L0) (hL : L0 ≤ 320) (hG : Gd D cI cZ cN A a mm s H locs) (hl : lv_has ls 4 [(0, .ref b0), (1, .ref (a 0)), (2, .ref (mm 0)), (3, .int (nI i))]) (kk : ∀ (H : Heap) (locs : List Loc) (ls : Array Slot), Gd D cI cZ cN A a mm s H locs → lv_has ls 4 [(0, .ref b0), (1, .ref (a 0)), (2, .ref (mm 0)), (3, .int (nI i))] → W p l e room_1 s m args below meth c H locs 102 1534 Q0 (F0 m 882 ls [])) : W p l e room_1 s m args below meth c H locs 102 1534 Q0 (F0 m 552 ls []) := by
  have hx := S0.1
  have hb := S0.2.1
  obtain ⟨T, Q, Ld, Vd, L, V, S, R, C1, C2, Rn, Wd, Im, K, tr, M, z, N, C, k, y, z1, z2, hR, hW⟩ := hG
  have hR0 := hR
  obtain ⟨⟨hz, hz2, hz', hTM, hlt⟩, ⟨hN, hN7, hN', hC, hC4, hC1, hC'⟩, hLd, hV0, ⟨hk, hk10, hy, hy10, hy', hps⟩, ⟨hc1, hz16, hc1', hto⟩, ⟨hc2, hz26, hc2', hro⟩, hIm⟩ := hR0
  refine lv_aload_n hx hb dL_law_552 rfl (lv_at hl 1 rfl) ?_
  refine lv_aload_n hx hb dL_law_553 rfl (lv_at hl 0 rfl) ?_
  refine lv_iload_n hx hb dL_law_554 rfl (lv_at hl 3 rfl) ?_
  refine lv_iconst (v := (1 : Int32)) hx hb dL_law_555 rfl ?_
  refine lv_iadd hx hb dL_law_556 ?_
  refine r_eq (y := nI (i + 1)) (nI_add i 1) ?_
  refine va_sld hx hb hX hbl hbA hW.2.2.2.2.1 (vp_in_nI (show i + 1 < L0 by omega) (by omega)) dL_law_557 ?_
  obtain ⟨T1, Q1, Ld1, Vd1, L1, V1, S1, R1, C11, C21, Rn1, Wd1, Im1, K1, tr1, M1, z_1, N1, C_1, k1, y1, z11, z21, hR1, eC, eM, eR⟩ := st_cheapest cI cZ cN a mm (Q := Q) (Ld := Ld) (Vd := Vd) (Rn := Rn) (Wd := Wd) (tr := tr) hR (xs (nI (i + 1)).toNatClampNeg)
  refine callVI S0 hW (c_X8_cheapest l D cI cZ cN a T Q Ld Vd L V S R C1 C2 Rn Wd Im K tr z N C k y z1 z2 hz hz2 hN hN7 hC hC4 hC1 hk hk10 hy hy10 hc1 hz16 hc2 hz26 (xs (nI (i + 1)).toNatClampNeg)) vmX8_cheapest mw650 (List.range 84) rfl (by decide) 0 rfl rfl (As := [.int (xs (nI (i + 1)).toNatClampNeg)]) (rest := []) rfl rfl hl.1 (Nat.le_of_ble_eq_true rfl) ⟨(Nat.le_of_ble_eq_true rfl), (Nat.le_of_ble_eq_true rfl)⟩ ⟨(Nat.le_of_ble_eq_true rfl), (Nat.le_of_ble_eq_true rfl)⟩ dL_law_558 (fun rx wx H locs hqx hV => ?_)
  obtain ⟨hrx, rfl⟩ := hqx
  rw [eC] at hV
  have hW := re_one rfl hV
  refine lv_aload_n hx hb dL_law_561 rfl (lv_at hl 2 rfl) ?_
  refine lv_aload_n hx hb dL_law_562 rfl (lv_at hl 0 rfl) ?_
  refine lv_iload_n hx hb dL_law_563 rfl (lv_at hl 3 rfl) ?_
  refine lv_iconst (v := (1 : Int32)) hx hb dL_law_564 rfl ?_
  refine lv_iadd hx hb dL_law_565 ?_
  refine r_eq (y := nI (i + 1)) (nI_add i 1) ?_
  refine va_sld hx hb hX hbl hbA hW.2.2.2.2.1 (vp_in_nI (show i + 1 < L0 by omega) (by omega)) dL_law_566 ?_
  refine callVI S0 hW (c_X9_cheapest l D cI cZ cN mm M tr N C hN' hN7 hC' hC4 hC1 (xs (nI (i + 1)).toNatClampNeg)) vmX9_cheapest mw655 ((List.range 18).map (· + 84)) rfl (by decide) 0 rfl rfl (As := [.int (xs (nI (i + 1)).toNatClampNeg)]) (rest := [.int rx]) rfl rfl hl.1 (Nat.le_of_ble_eq_true rfl) ⟨(Nat.le_of_ble_eq_true rfl), (Nat.le_of_ble_eq_true rfl)⟩ ⟨(Nat.le_of_ble_eq_true rfl), (Nat.le_of_ble_eq_true rfl)⟩ dL_law_567 (fun ry wx H locs hqx hV => ?_)
  obtain ⟨hry, rfl⟩ := hqx
  rw [eM] at hV
  have hW := re_mod rfl rfl hV
  refine lv_icmp_eq (tgt := 882) hx hb dL_law_570 rfl (fun c9 => ?_) (fun c9 => absurd (hrx.trans (eR.trans hry.symm)) c9)
  exact kk _ _ _ ⟨T1, Q1, Ld1, Vd1, L1, V1, S1, R1, C11, C21, Rn1, Wd1, Im1, K1, tr1, M1, z_1, N1, C_1, k1, y1, z11, z21, hR1, hW⟩ hl

set_option maxHeartbeats 4000000 in
set_option maxRecDepth 100000 in
theorem law_case_tells {p : Program} {l : Launch} {e : Env} {s : State} {m : MethodId} {args : Array Value} {below : List Frame} {meth : Method} {c : Code} {H : Heap} {locs : List Loc} {Q0 : State → Prop} {ls : Array Slot} {D : va_G} {A : Nat → Prop} {a mm : Nat → Nat} {cI cZ cN : ClassId} {b0 L0 i : Nat} {xs : Nat → Int32} (S0 : CallFix p m c cL_law 4 s args BW RL) (hX : va_X b0 L0 xs s s.heap) (hbl : b0 < s.heap.size) (hbA : ¬ A b0) {t0 : Nat} (hZ : ZM t0 A s s.heap) (hi5 : i + 5 ≤ L0) (hL : L0 ≤ 320) (hG : Gd D cI cZ cN A a mm s H locs) (hl : lv_has ls 4 [(0, .ref b0), (1, .ref (a 0)), (2, .ref (mm 0)), (3, .int (nI i))]) (kk : ∀ (H : Heap) (locs : List Loc) (ls : Array Slot), Gd D cI cZ cN A a mm s H locs → lv_has ls 4 [(0, .ref b0), (1, .ref (a 0)), (2, .ref (mm 0)), (3, .int (nI i))] → W p l e room_1 s m args below meth c H locs 102 1534 Q0 (F0 m 882 ls [])) : W p l e room_1 s m args below meth c H locs 102 1534 Q0 (F0 m 575 ls []) := by
  have hx := S0.1
  have hb := S0.2.1
  obtain ⟨T, Q, Ld, Vd, L, V, S, R, C1, C2, Rn, Wd, Im, K, tr, M, z, N, C, k, y, z1, z2, hR, hW⟩ := hG
  have hR0 := hR
  obtain ⟨⟨hz, hz2, hz', hTM, hlt⟩, ⟨hN, hN7, hN', hC, hC4, hC1, hC'⟩, hLd, hV0, ⟨hk, hk10, hy, hy10, hy', hps⟩, ⟨hc1, hz16, hc1', hto⟩, ⟨hc2, hz26, hc2', hro⟩, hIm⟩ := hR0
  refine lv_aload_n hx hb dL_law_575 rfl (lv_at hl 1 rfl) ?_
  refine lv_aload_n hx hb dL_law_576 rfl (lv_at hl 0 rfl) ?_
  refine lv_iload_n hx hb dL_law_577 rfl (lv_at hl 3 rfl) ?_
  refine lv_iconst (v := (1 : Int32)) hx hb dL_law_578 rfl ?_
  refine lv_iadd hx hb dL_law_579 ?_
  refine r_eq (y := nI (i + 1)) (nI_add i 1) ?_
  refine va_sld hx hb hX hbl hbA hW.2.2.2.2.1 (vp_in_nI (show i + 1 < L0 by omega) (by omega)) dL_law_580 ?_
  refine lv_aload_n hx hb dL_law_581 rfl (lv_at hl 0 rfl) ?_
  refine lv_iload_n hx hb dL_law_582 rfl (lv_at hl 3 rfl) ?_
  refine lv_iconst (v := (2 : Int32)) hx hb dL_law_583 rfl ?_
  refine lv_iadd hx hb dL_law_584 ?_
  refine r_eq (y := nI (i + 2)) (nI_add i 2) ?_
  refine va_sld hx hb hX hbl hbA hW.2.2.2.2.1 (vp_in_nI (show i + 2 < L0 by omega) (by omega)) dL_law_585 ?_
  obtain ⟨T1, Q1, Ld1, Vd1, L1, V1, S1, R1, C11, C21, Rn1, Wd1, Im1, K1, tr1, M1, z_1, N1, C_1, k1, y1, z11, z21, hR1, eC, eM, eR⟩ := st_tells cI cZ cN a mm (Q := Q) (Ld := Ld) (Vd := Vd) (Rn := Rn) (Wd := Wd) (tr := tr) hR (xs (nI (i + 1)).toNatClampNeg) (xs (nI (i + 2)).toNatClampNeg)
  refine callVI S0 hW (c_X8_tells l D cI cZ cN a T Q Ld Vd L V S R C1 C2 Rn Wd Im K tr z N C k y z1 z2 hz hz2 hN hN7 hC hC4 hC1 hk hk10 hy hy10 hc1 hz16 hc2 hz26 (xs (nI (i + 1)).toNatClampNeg) (xs (nI (i + 2)).toNatClampNeg)) vmX8_tells mw659 (List.range 84) rfl (by decide) 0 rfl rfl (As := [.int (xs (nI (i + 1)).toNatClampNeg), .int (xs (nI (i + 2)).toNatClampNeg)]) (rest := []) rfl rfl hl.1 (Nat.le_of_ble_eq_true rfl) ⟨(Nat.le_of_ble_eq_true rfl), (Nat.le_of_ble_eq_true rfl)⟩ ⟨(Nat.le_of_ble_eq_true rfl), (Nat.le_of_ble_eq_true rfl)⟩ dL_law_586 (fun rx wx H locs hqx hV => ?_)
  obtain ⟨hrx, rfl⟩ := hqx
  rw [eC] at hV
  have hW := re_one rfl hV
  refine lv_aload_n hx hb dL_law_589 rfl (lv_at hl 2 rfl) ?_
  refine lv_aload_n hx hb dL_law_590 rfl (lv_at hl 0 rfl) ?_
  refine lv_iload_n hx hb dL_law_591 rfl (lv_at hl 3 rfl) ?_
  refine lv_iconst (v := (1 : Int32)) hx hb dL_law_592 rfl ?_
  refine lv_iadd hx hb dL_law_593 ?_
  refine r_eq (y := nI (i + 1)) (nI_add i 1) ?_
  refine va_sld hx hb hX hbl hbA hW.2.2.2.2.1 (vp_in_nI (show i + 1 < L0 by omega) (by omega)) dL_law_594 ?_
  refine lv_aload_n hx hb dL_law_595 rfl (lv_at hl 0 rfl) ?_
  refine lv_iload_n hx hb dL_law_596 rfl (lv_at hl 3 rfl) ?_
  refine lv_iconst (v := (2 : Int32)) hx hb dL_law_597 rfl ?_
  refine lv_iadd hx hb dL_law_598 ?_
  refine r_eq (y := nI (i + 2)) (nI_add i 2) ?_
  refine va_sld hx hb hX hbl hbA hW.2.2.2.2.1 (vp_in_nI (show i + 2 < L0 by omega) (by omega)) dL_law_599 ?_
  refine callVI S0 hW (c_X9_tells l D cI cZ cN mm M tr N C hN' hN7 hC' hC4 hC1 z1 z2 hc1' hz16 hc2' hz26 (xs (nI (i + 1)).toNatClampNeg) (xs (nI (i + 2)).toNatClampNeg)) vmX9_tells mw667 ((List.range 18).map (· + 84)) rfl (by decide) 0 rfl rfl (As := [.int (xs (nI (i + 1)).toNatClampNeg), .int (xs (nI (i + 2)).toNatClampNeg)]) (rest := [.int rx]) rfl rfl hl.1 (Nat.le_of_ble_eq_true rfl) ⟨(Nat.le_of_ble_eq_true rfl), (Nat.le_of_ble_eq_true rfl)⟩ ⟨(Nat.le_of_ble_eq_true rfl), (Nat.le_of_ble_eq_true rfl)⟩ dL_law_600 (fun ry wx H locs hqx hV => ?_)
  obtain ⟨hry, rfl⟩ := hqx
  rw [eM] at hV
  have hW := re_mod rfl rfl hV
  refine lv_icmp_eq (tgt := 882) hx hb dL_law_603 rfl (fun c9 => ?_) (fun c9 => absurd (hrx.trans (eR.trans hry.symm)) c9)
  exact kk _ _ _ ⟨T1, Q1, Ld1, Vd1, L1, V1, S1, R1, C11, C21, Rn1, Wd1, Im1, K1, tr1, M1, z_1, N1, C_1, k1, y1, z11, z21, hR1, hW⟩ hl

set_option maxHeartbeats 4000000 in
set_option maxRecDepth 100000 in
theorem law_case_record {p : Program} {l : Launch} {e : Env} {s : State} {m : MethodId} {args : Array Value} {below : List Frame} {meth : Method} {c : Code} {H : Heap} {locs : List Loc} {Q0 : State → Prop} {ls : Array Slot} {D : va_G} {A : Nat → Prop} {a mm : Nat → Nat} {cI cZ cN : ClassId} {b0 L0 i : Nat} {xs : Nat → Int32} (S0 : CallFix p m c cL_law 4 s args BW RL) (hX : va_X b0 L0 xs s s.heap) (hbl : b0 < s.heap.size) (hbA : ¬ A b0) {t0 : Nat} (hZ : ZM t0 A s s.heap) (hi5 : i + 5 ≤ L0) (hL : L0 ≤ 320) (hG : Gd D cI cZ cN A a mm s H locs) (hl : lv_has ls 4 [(0, .ref b0), (1, .ref (a 0)), (2, .ref (mm 0)), (3, .int (nI i))]) (kk : ∀ (H : Heap) (locs : List Loc) (ls : Array Slot), Gd D cI cZ cN A a mm s H locs → lv_has ls 4 [(0, .ref b0), (1, .ref (a 0)), (2, .ref (mm 0)), (3, .int (nI i))] → W p l e room_1 s m args below meth c H locs 102 1534 Q0 (F0 m 882 ls [])) : W p l e room_1 s m args below meth c H locs 102 1534 Q0 (F0 m 608 ls []) := by
  have hx := S0.1
  have hb := S0.2.1
  obtain ⟨T, Q, Ld, Vd, L, V, S, R, C1, C2, Rn, Wd, Im, K, tr, M, z, N, C, k, y, z1, z2, hR, hW⟩ := hG
  have hR0 := hR
  obtain ⟨⟨hz, hz2, hz', hTM, hlt⟩, ⟨hN, hN7, hN', hC, hC4, hC1, hC'⟩, hLd, hV0, ⟨hk, hk10, hy, hy10, hy', hps⟩, ⟨hc1, hz16, hc1', hto⟩, ⟨hc2, hz26, hc2', hro⟩, hIm⟩ := hR0
  refine lv_aload_n hx hb dL_law_608 rfl (lv_at hl 1 rfl) ?_
  refine lv_aload_n hx hb dL_law_609 rfl (lv_at hl 0 rfl) ?_
  refine lv_iload_n hx hb dL_law_610 rfl (lv_at hl 3 rfl) ?_
  refine lv_iconst (v := (1 : Int32)) hx hb dL_law_611 rfl ?_
  refine lv_iadd hx hb dL_law_612 ?_
  refine r_eq (y := nI (i + 1)) (nI_add i 1) ?_
  refine va_sld hx hb hX hbl hbA hW.2.2.2.2.1 (vp_in_nI (show i + 1 < L0 by omega) (by omega)) dL_law_613 ?_
  refine lv_aload_n hx hb dL_law_614 rfl (lv_at hl 0 rfl) ?_
  refine lv_iload_n hx hb dL_law_615 rfl (lv_at hl 3 rfl) ?_
  refine lv_iconst (v := (2 : Int32)) hx hb dL_law_616 rfl ?_
  refine lv_iadd hx hb dL_law_617 ?_
  refine r_eq (y := nI (i + 2)) (nI_add i 2) ?_
  refine va_sld hx hb hX hbl hbA hW.2.2.2.2.1 (vp_in_nI (show i + 2 < L0 by omega) (by omega)) dL_law_618 ?_
  obtain ⟨T1, Q1, Ld1, Vd1, L1, V1, S1, R1, C11, C21, Rn1, Wd1, Im1, K1, tr1, M1, z_1, N1, C_1, k1, y1, z11, z21, hR1, eC, eM, eR⟩ := st_record cI cZ cN a mm (Q := Q) (Ld := Ld) (Vd := Vd) (Rn := Rn) (Wd := Wd) (tr := tr) hR (xs (nI (i + 1)).toNatClampNeg) (xs (nI (i + 2)).toNatClampNeg)
  refine callVI S0 hW (c_X8_record l D cI cZ cN a T Q Ld Vd L V S R C1 C2 Rn Wd Im K tr z N C k y z1 z2 hz hz2 hN hN7 hC hC4 hC1 hk hk10 hy hy10 hc1 hz16 hc2 hz26 (xs (nI (i + 1)).toNatClampNeg) (xs (nI (i + 2)).toNatClampNeg)) vmX8_record mw671 (List.range 84) rfl (by decide) 0 rfl rfl (As := [.int (xs (nI (i + 1)).toNatClampNeg), .int (xs (nI (i + 2)).toNatClampNeg)]) (rest := []) rfl rfl hl.1 (Nat.le_of_ble_eq_true rfl) ⟨(Nat.le_of_ble_eq_true rfl), (Nat.le_of_ble_eq_true rfl)⟩ ⟨(Nat.le_of_ble_eq_true rfl), (Nat.le_of_ble_eq_true rfl)⟩ dL_law_619 (fun rx wx H locs hqx hV => ?_)
  obtain ⟨hrx, rfl⟩ := hqx
  rw [eC] at hV
  have hW := re_one rfl hV
  refine lv_aload_n hx hb dL_law_622 rfl (lv_at hl 2 rfl) ?_
  refine lv_aload_n hx hb dL_law_623 rfl (lv_at hl 0 rfl) ?_
  refine lv_iload_n hx hb dL_law_624 rfl (lv_at hl 3 rfl) ?_
  refine lv_iconst (v := (1 : Int32)) hx hb dL_law_625 rfl ?_
  refine lv_iadd hx hb dL_law_626 ?_
  refine r_eq (y := nI (i + 1)) (nI_add i 1) ?_
  refine va_sld hx hb hX hbl hbA hW.2.2.2.2.1 (vp_in_nI (show i + 1 < L0 by omega) (by omega)) dL_law_627 ?_
  refine lv_aload_n hx hb dL_law_628 rfl (lv_at hl 0 rfl) ?_
  refine lv_iload_n hx hb dL_law_629 rfl (lv_at hl 3 rfl) ?_
  refine lv_iconst (v := (2 : Int32)) hx hb dL_law_630 rfl ?_
  refine lv_iadd hx hb dL_law_631 ?_
  refine r_eq (y := nI (i + 2)) (nI_add i 2) ?_
  refine va_sld hx hb hX hbl hbA hW.2.2.2.2.1 (vp_in_nI (show i + 2 < L0 by omega) (by omega)) dL_law_632 ?_
  refine callVI S0 hW (c_X9_record l D cI cZ cN mm M tr N C hN' hN7 hC' hC4 hC1 z1 z2 hc1' hz16 hc2' hz26 (xs (nI (i + 1)).toNatClampNeg) (xs (nI (i + 2)).toNatClampNeg)) vmX9_record mw675 ((List.range 18).map (· + 84)) rfl (by decide) 0 rfl rfl (As := [.int (xs (nI (i + 1)).toNatClampNeg), .int (xs (nI (i + 2)).toNatClampNeg)]) (rest := [.int rx]) rfl rfl hl.1 (Nat.le_of_ble_eq_true rfl) ⟨(Nat.le_of_ble_eq_true rfl), (Nat.le_of_ble_eq_true rfl)⟩ ⟨(Nat.le_of_ble_eq_true rfl), (Nat.le_of_ble_eq_true rfl)⟩ dL_law_633 (fun ry wx H locs hqx hV => ?_)
  obtain ⟨hry, rfl⟩ := hqx
  rw [eM] at hV
  have hW := re_mod rfl rfl hV
  refine lv_icmp_eq (tgt := 882) hx hb dL_law_636 rfl (fun c9 => ?_) (fun c9 => absurd (hrx.trans (eR.trans hry.symm)) c9)
  exact kk _ _ _ ⟨T1, Q1, Ld1, Vd1, L1, V1, S1, R1, C11, C21, Rn1, Wd1, Im1, K1, tr1, M1, z_1, N1, C_1, k1, y1, z11, z21, hR1, hW⟩ hl

set_option maxHeartbeats 4000000 in
set_option maxRecDepth 100000 in
theorem law_case_forget {p : Program} {l : Launch} {e : Env} {s : State} {m : MethodId} {args : Array Value} {below : List Frame} {meth : Method} {c : Code} {H : Heap} {locs : List Loc} {Q0 : State → Prop} {ls : Array Slot} {D : va_G} {A : Nat → Prop} {a mm : Nat → Nat} {cI cZ cN : ClassId} {b0 L0 i : Nat} {xs : Nat → Int32} (S0 : CallFix p m c cL_law 4 s args BW RL) (hX : va_X b0 L0 xs s s.heap) (hbl : b0 < s.heap.size) (hbA : ¬ A b0) {t0 : Nat} (hZ : ZM t0 A s s.heap) (hi5 : i + 5 ≤ L0) (hL : L0 ≤ 320) (hG : Gd D cI cZ cN A a mm s H locs) (hl : lv_has ls 4 [(0, .ref b0), (1, .ref (a 0)), (2, .ref (mm 0)), (3, .int (nI i))]) (kk : ∀ (H : Heap) (locs : List Loc) (ls : Array Slot), Gd D cI cZ cN A a mm s H locs → lv_has ls 4 [(0, .ref b0), (1, .ref (a 0)), (2, .ref (mm 0)), (3, .int (nI i))] → W p l e room_1 s m args below meth c H locs 102 1534 Q0 (F0 m 882 ls [])) : W p l e room_1 s m args below meth c H locs 102 1534 Q0 (F0 m 641 ls []) := by
  have hx := S0.1
  have hb := S0.2.1
  obtain ⟨T, Q, Ld, Vd, L, V, S, R, C1, C2, Rn, Wd, Im, K, tr, M, z, N, C, k, y, z1, z2, hR, hW⟩ := hG
  have hR0 := hR
  obtain ⟨⟨hz, hz2, hz', hTM, hlt⟩, ⟨hN, hN7, hN', hC, hC4, hC1, hC'⟩, hLd, hV0, ⟨hk, hk10, hy, hy10, hy', hps⟩, ⟨hc1, hz16, hc1', hto⟩, ⟨hc2, hz26, hc2', hro⟩, hIm⟩ := hR0
  refine lv_aload_n hx hb dL_law_641 rfl (lv_at hl 1 rfl) ?_
  obtain ⟨T1, Q1, Ld1, Vd1, L1, V1, S1, R1, C11, C21, Rn1, Wd1, Im1, K1, tr1, M1, z_1, N1, C_1, k1, y1, z11, z21, hR1, eC, eM, eR⟩ := st_forget cI cZ cN a mm (Q := Q) (Ld := Ld) (Vd := Vd) (Rn := Rn) (Wd := Wd) (tr := tr) hR
  refine callVI S0 hW (c_X8_forget l D cI cZ cN a T Q Ld Vd L V S R C1 C2 Rn Wd Im K tr z N C k y z1 z2 hz hz2 hN hN7 hC hC4 hC1 hk hk10 hy hy10 hc1 hz16 hc2 hz26) vmX8_forget mw679 (List.range 84) rfl (by decide) 0 rfl rfl (As := []) (rest := []) rfl rfl hl.1 (Nat.le_of_ble_eq_true rfl) ⟨(Nat.le_of_ble_eq_true rfl), (Nat.le_of_ble_eq_true rfl)⟩ ⟨(Nat.le_of_ble_eq_true rfl), (Nat.le_of_ble_eq_true rfl)⟩ dL_law_642 (fun rx wx H locs hqx hV => ?_)
  obtain ⟨hrx, rfl⟩ := hqx
  rw [eC] at hV
  have hW := re_one rfl hV
  refine lv_aload_n hx hb dL_law_645 rfl (lv_at hl 2 rfl) ?_
  refine callVI S0 hW (c_X9_forget l D cI cZ cN mm M tr N C hN' hN7 hC' hC4 hC1 z1 z2 hc1' hz16 hc2' hz26) vmX9_forget mw683 ((List.range 18).map (· + 84)) rfl (by decide) 0 rfl rfl (As := []) (rest := [.int rx]) rfl rfl hl.1 (Nat.le_of_ble_eq_true rfl) ⟨(Nat.le_of_ble_eq_true rfl), (Nat.le_of_ble_eq_true rfl)⟩ ⟨(Nat.le_of_ble_eq_true rfl), (Nat.le_of_ble_eq_true rfl)⟩ dL_law_646 (fun ry wx H locs hqx hV => ?_)
  obtain ⟨hry, rfl⟩ := hqx
  rw [eM] at hV
  have hW := re_mod rfl rfl hV
  refine lv_icmp_eq (tgt := 882) hx hb dL_law_649 rfl (fun c9 => ?_) (fun c9 => absurd (hrx.trans (eR.trans hry.symm)) c9)
  exact kk _ _ _ ⟨T1, Q1, Ld1, Vd1, L1, V1, S1, R1, C11, C21, Rn1, Wd1, Im1, K1, tr1, M1, z_1, N1, C_1, k1, y1, z11, z21, hR1, hW⟩ hl

set_option maxHeartbeats 4000000 in
set_option maxRecDepth 100000 in
theorem law_case_who {p : Program} {l : Launch} {e : Env} {s : State} {m : MethodId} {args : Array Value} {below : List Frame} {meth : Method} {c : Code} {H : Heap} {locs : List Loc} {Q0 : State → Prop} {ls : Array Slot} {D : va_G} {A : Nat → Prop} {a mm : Nat → Nat} {cI cZ cN : ClassId} {b0 L0 i : Nat} {xs : Nat → Int32} (S0 : CallFix p m c cL_law 4 s args BW RL) (hX : va_X b0 L0 xs s s.heap) (hbl : b0 < s.heap.size) (hbA : ¬ A b0) {t0 : Nat} (hZ : ZM t0 A s s.heap) (hi5 : i + 5 ≤ L0) (hL : L0 ≤ 320) (hG : Gd D cI cZ cN A a mm s H locs) (hl : lv_has ls 4 [(0, .ref b0), (1, .ref (a 0)), (2, .ref (mm 0)), (3, .int (nI i))]) (kk : ∀ (H : Heap) (locs : List Loc) (ls : Array Slot), Gd D cI cZ cN A a mm s H locs → lv_has ls 4 [(0, .ref b0), (1, .ref (a 0)), (2, .ref (mm 0)), (3, .int (nI i))] → W p l e room_1 s m args below meth c H locs 102 1534 Q0 (F0 m 882 ls [])) : W p l e room_1 s m args below meth c H locs 102 1534 Q0 (F0 m 654 ls []) := by
  have hx := S0.1
  have hb := S0.2.1
  obtain ⟨T, Q, Ld, Vd, L, V, S, R, C1, C2, Rn, Wd, Im, K, tr, M, z, N, C, k, y, z1, z2, hR, hW⟩ := hG
  have hR0 := hR
  obtain ⟨⟨hz, hz2, hz', hTM, hlt⟩, ⟨hN, hN7, hN', hC, hC4, hC1, hC'⟩, hLd, hV0, ⟨hk, hk10, hy, hy10, hy', hps⟩, ⟨hc1, hz16, hc1', hto⟩, ⟨hc2, hz26, hc2', hro⟩, hIm⟩ := hR0
  refine lv_aload_n hx hb dL_law_654 rfl (lv_at hl 1 rfl) ?_
  obtain ⟨T1, Q1, Ld1, Vd1, L1, V1, S1, R1, C11, C21, Rn1, Wd1, Im1, K1, tr1, M1, z_1, N1, C_1, k1, y1, z11, z21, hR1, eC, eM, eR⟩ := st_who cI cZ cN a mm (Q := Q) (Ld := Ld) (Vd := Vd) (Rn := Rn) (Wd := Wd) (tr := tr) hR
  refine callVI S0 hW (c_X8_who l D cI cZ cN a T Q Ld Vd L V S R C1 C2 Rn Wd Im K tr z N C k y z1 z2 hz hz2 hN hN7 hC hC4 hC1 hk hk10 hy hy10 hc1 hz16 hc2 hz26) vmX8_who mw687 (List.range 84) rfl (by decide) 0 rfl rfl (As := []) (rest := []) rfl rfl hl.1 (Nat.le_of_ble_eq_true rfl) ⟨(Nat.le_of_ble_eq_true rfl), (Nat.le_of_ble_eq_true rfl)⟩ ⟨(Nat.le_of_ble_eq_true rfl), (Nat.le_of_ble_eq_true rfl)⟩ dL_law_655 (fun rx wx H locs hqx hV => ?_)
  obtain ⟨hrx, rfl⟩ := hqx
  rw [eC] at hV
  have hW := re_one rfl hV
  refine lv_aload_n hx hb dL_law_658 rfl (lv_at hl 2 rfl) ?_
  refine callVI S0 hW (c_X9_who l D cI cZ cN mm M tr N C hN' hN7 hC' hC4 hC1 z1 hc1' hz16 (fun e he => (hto e he).1)) vmX9_who mw697 ((List.range 18).map (· + 84)) rfl (by decide) 0 rfl rfl (As := []) (rest := [.int rx]) rfl rfl hl.1 (Nat.le_of_ble_eq_true rfl) ⟨(Nat.le_of_ble_eq_true rfl), (Nat.le_of_ble_eq_true rfl)⟩ ⟨(Nat.le_of_ble_eq_true rfl), (Nat.le_of_ble_eq_true rfl)⟩ dL_law_659 (fun ry wx H locs hqx hV => ?_)
  obtain ⟨hry, rfl⟩ := hqx
  rw [eM] at hV
  have hW := re_mod rfl rfl hV
  refine lv_icmp_eq (tgt := 882) hx hb dL_law_662 rfl (fun c9 => ?_) (fun c9 => absurd (hrx.trans (eR.trans hry.symm)) c9)
  exact kk _ _ _ ⟨T1, Q1, Ld1, Vd1, L1, V1, S1, R1, C11, C21, Rn1, Wd1, Im1, K1, tr1, M1, z_1, N1, C_1, k1, y1, z11, z21, hR1, hW⟩ hl

set_option maxHeartbeats 4000000 in
set_option maxRecDepth 100000 in
theorem law_case_which {p : Program} {l : Launch} {e : Env} {s : State} {m : MethodId} {args : Array Value} {below : List Frame} {meth : Method} {c : Code} {H : Heap} {locs : List Loc} {Q0 : State → Prop} {ls : Array Slot} {D : va_G} {A : Nat → Prop} {a mm : Nat → Nat} {cI cZ cN : ClassId} {b0 L0 i : Nat} {xs : Nat → Int32} (S0 : CallFix p m c cL_law 4 s args BW RL) (hX : va_X b0 L0 xs s s.heap) (hbl : b0 < s.heap.size) (hbA : ¬ A b0) {t0 : Nat} (hZ : ZM t0 A s s.heap) (hi5 : i + 5 ≤ L0) (hL : L0 ≤ 320) (hG : Gd D cI cZ cN A a mm s H locs) (hl : lv_has ls 4 [(0, .ref b0), (1, .ref (a 0)), (2, .ref (mm 0)), (3, .int (nI i))]) (kk : ∀ (H : Heap) (locs : List Loc) (ls : Array Slot), Gd D cI cZ cN A a mm s H locs → lv_has ls 4 [(0, .ref b0), (1, .ref (a 0)), (2, .ref (mm 0)), (3, .int (nI i))] → W p l e room_1 s m args below meth c H locs 102 1534 Q0 (F0 m 882 ls [])) : W p l e room_1 s m args below meth c H locs 102 1534 Q0 (F0 m 667 ls []) := by
  have hx := S0.1
  have hb := S0.2.1
  obtain ⟨T, Q, Ld, Vd, L, V, S, R, C1, C2, Rn, Wd, Im, K, tr, M, z, N, C, k, y, z1, z2, hR, hW⟩ := hG
  have hR0 := hR
  obtain ⟨⟨hz, hz2, hz', hTM, hlt⟩, ⟨hN, hN7, hN', hC, hC4, hC1, hC'⟩, hLd, hV0, ⟨hk, hk10, hy, hy10, hy', hps⟩, ⟨hc1, hz16, hc1', hto⟩, ⟨hc2, hz26, hc2', hro⟩, hIm⟩ := hR0
  refine lv_aload_n hx hb dL_law_667 rfl (lv_at hl 1 rfl) ?_
  refine lv_aload_n hx hb dL_law_668 rfl (lv_at hl 0 rfl) ?_
  refine lv_iload_n hx hb dL_law_669 rfl (lv_at hl 3 rfl) ?_
  refine lv_iconst (v := (1 : Int32)) hx hb dL_law_670 rfl ?_
  refine lv_iadd hx hb dL_law_671 ?_
  refine r_eq (y := nI (i + 1)) (nI_add i 1) ?_
  refine va_sld hx hb hX hbl hbA hW.2.2.2.2.1 (vp_in_nI (show i + 1 < L0 by omega) (by omega)) dL_law_672 ?_
  obtain ⟨T1, Q1, Ld1, Vd1, L1, V1, S1, R1, C11, C21, Rn1, Wd1, Im1, K1, tr1, M1, z_1, N1, C_1, k1, y1, z11, z21, hR1, eC, eM, eR⟩ := st_which cI cZ cN a mm (Q := Q) (Ld := Ld) (Vd := Vd) (Rn := Rn) (Wd := Wd) (tr := tr) hR (xs (nI (i + 1)).toNatClampNeg)
  refine callVI S0 hW (c_X8_which l D cI cZ cN a T Q Ld Vd L V S R C1 C2 Rn Wd Im K tr z N C k y z1 z2 hz hz2 hN hN7 hC hC4 hC1 hk hk10 hy hy10 hc1 hz16 hc2 hz26 (xs (nI (i + 1)).toNatClampNeg)) vmX8_which mw705 (List.range 84) rfl (by decide) 0 rfl rfl (As := [.int (xs (nI (i + 1)).toNatClampNeg)]) (rest := []) rfl rfl hl.1 (Nat.le_of_ble_eq_true rfl) ⟨(Nat.le_of_ble_eq_true rfl), (Nat.le_of_ble_eq_true rfl)⟩ ⟨(Nat.le_of_ble_eq_true rfl), (Nat.le_of_ble_eq_true rfl)⟩ dL_law_673 (fun rx wx H locs hqx hV => ?_)
  obtain ⟨hrx, rfl⟩ := hqx
  rw [eC] at hV
  have hW := re_one rfl hV
  refine lv_aload_n hx hb dL_law_676 rfl (lv_at hl 2 rfl) ?_
  refine lv_aload_n hx hb dL_law_677 rfl (lv_at hl 0 rfl) ?_
  refine lv_iload_n hx hb dL_law_678 rfl (lv_at hl 3 rfl) ?_
  refine lv_iconst (v := (1 : Int32)) hx hb dL_law_679 rfl ?_
  refine lv_iadd hx hb dL_law_680 ?_
  refine r_eq (y := nI (i + 1)) (nI_add i 1) ?_
  refine va_sld hx hb hX hbl hbA hW.2.2.2.2.1 (vp_in_nI (show i + 1 < L0 by omega) (by omega)) dL_law_681 ?_
  refine callVI S0 hW (c_X9_which l D cI cZ cN mm M tr N C hN' hN7 hC' hC4 hC1 z1 hc1' hz16 (fun e he => (hto e he).1) z2 hc2' hz26 (xs (nI (i + 1)).toNatClampNeg)) vmX9_which mw717 ((List.range 18).map (· + 84)) rfl (by decide) 0 rfl rfl (As := [.int (xs (nI (i + 1)).toNatClampNeg)]) (rest := [.int rx]) rfl rfl hl.1 (Nat.le_of_ble_eq_true rfl) ⟨(Nat.le_of_ble_eq_true rfl), (Nat.le_of_ble_eq_true rfl)⟩ ⟨(Nat.le_of_ble_eq_true rfl), (Nat.le_of_ble_eq_true rfl)⟩ dL_law_682 (fun ry wx H locs hqx hV => ?_)
  obtain ⟨hry, rfl⟩ := hqx
  rw [eM] at hV
  have hW := re_mod rfl rfl hV
  refine lv_icmp_eq (tgt := 882) hx hb dL_law_685 rfl (fun c9 => ?_) (fun c9 => absurd (hrx.trans (eR.trans hry.symm)) c9)
  exact kk _ _ _ ⟨T1, Q1, Ld1, Vd1, L1, V1, S1, R1, C11, C21, Rn1, Wd1, Im1, K1, tr1, M1, z_1, N1, C_1, k1, y1, z11, z21, hR1, hW⟩ hl

set_option maxHeartbeats 4000000 in
set_option maxRecDepth 100000 in
theorem law_case_married {p : Program} {l : Launch} {e : Env} {s : State} {m : MethodId} {args : Array Value} {below : List Frame} {meth : Method} {c : Code} {H : Heap} {locs : List Loc} {Q0 : State → Prop} {ls : Array Slot} {D : va_G} {A : Nat → Prop} {a mm : Nat → Nat} {cI cZ cN : ClassId} {b0 L0 i : Nat} {xs : Nat → Int32} (S0 : CallFix p m c cL_law 4 s args BW RL) (hX : va_X b0 L0 xs s s.heap) (hbl : b0 < s.heap.size) (hbA : ¬ A b0) {t0 : Nat} (hZ : ZM t0 A s s.heap) (hi5 : i + 5 ≤ L0) (hL : L0 ≤ 320) (hG : Gd D cI cZ cN A a mm s H locs) (hl : lv_has ls 4 [(0, .ref b0), (1, .ref (a 0)), (2, .ref (mm 0)), (3, .int (nI i))]) (kk : ∀ (H : Heap) (locs : List Loc) (ls : Array Slot), Gd D cI cZ cN A a mm s H locs → lv_has ls 4 [(0, .ref b0), (1, .ref (a 0)), (2, .ref (mm 0)), (3, .int (nI i))] → W p l e room_1 s m args below meth c H locs 102 1534 Q0 (F0 m 882 ls [])) : W p l e room_1 s m args below meth c H locs 102 1534 Q0 (F0 m 690 ls []) := by
  have hx := S0.1
  have hb := S0.2.1
  obtain ⟨T, Q, Ld, Vd, L, V, S, R, C1, C2, Rn, Wd, Im, K, tr, M, z, N, C, k, y, z1, z2, hR, hW⟩ := hG
  have hR0 := hR
  obtain ⟨⟨hz, hz2, hz', hTM, hlt⟩, ⟨hN, hN7, hN', hC, hC4, hC1, hC'⟩, hLd, hV0, ⟨hk, hk10, hy, hy10, hy', hps⟩, ⟨hc1, hz16, hc1', hto⟩, ⟨hc2, hz26, hc2', hro⟩, hIm⟩ := hR0
  refine lv_aload_n hx hb dL_law_690 rfl (lv_at hl 1 rfl) ?_
  refine lv_aload_n hx hb dL_law_691 rfl (lv_at hl 0 rfl) ?_
  refine lv_iload_n hx hb dL_law_692 rfl (lv_at hl 3 rfl) ?_
  refine lv_iconst (v := (1 : Int32)) hx hb dL_law_693 rfl ?_
  refine lv_iadd hx hb dL_law_694 ?_
  refine r_eq (y := nI (i + 1)) (nI_add i 1) ?_
  refine va_sld hx hb hX hbl hbA hW.2.2.2.2.1 (vp_in_nI (show i + 1 < L0 by omega) (by omega)) dL_law_695 ?_
  obtain ⟨T1, Q1, Ld1, Vd1, L1, V1, S1, R1, C11, C21, Rn1, Wd1, Im1, K1, tr1, M1, z_1, N1, C_1, k1, y1, z11, z21, hR1, eC, eM, eR⟩ := st_married cI cZ cN a mm (Q := Q) (Ld := Ld) (Vd := Vd) (Rn := Rn) (Wd := Wd) (tr := tr) hR (xs (nI (i + 1)).toNatClampNeg)
  refine callVI S0 hW (c_X8_married l D cI cZ cN a T Q Ld Vd L V S R C1 C2 Rn Wd Im K tr z N C k y z1 z2 hz hz2 hN hN7 hC hC4 hC1 hk hk10 hy hy10 hc1 hz16 hc2 hz26 (xs (nI (i + 1)).toNatClampNeg)) vmX8_married mw725 (List.range 84) rfl (by decide) 0 rfl rfl (As := [.int (xs (nI (i + 1)).toNatClampNeg)]) (rest := []) rfl rfl hl.1 (Nat.le_of_ble_eq_true rfl) ⟨(Nat.le_of_ble_eq_true rfl), (Nat.le_of_ble_eq_true rfl)⟩ ⟨(Nat.le_of_ble_eq_true rfl), (Nat.le_of_ble_eq_true rfl)⟩ dL_law_696 (fun rx wx H locs hqx hV => ?_)
  obtain ⟨hrx, rfl⟩ := hqx
  rw [eC] at hV
  have hW := re_one rfl hV
  refine lv_aload_n hx hb dL_law_699 rfl (lv_at hl 2 rfl) ?_
  refine lv_aload_n hx hb dL_law_700 rfl (lv_at hl 0 rfl) ?_
  refine lv_iload_n hx hb dL_law_701 rfl (lv_at hl 3 rfl) ?_
  refine lv_iconst (v := (1 : Int32)) hx hb dL_law_702 rfl ?_
  refine lv_iadd hx hb dL_law_703 ?_
  refine r_eq (y := nI (i + 1)) (nI_add i 1) ?_
  refine va_sld hx hb hX hbl hbA hW.2.2.2.2.1 (vp_in_nI (show i + 1 < L0 by omega) (by omega)) dL_law_704 ?_
  refine callVI S0 hW (c_X9_married l D cI cZ cN mm M tr N C hN' hN7 hC' hC4 hC1 (xs (nI (i + 1)).toNatClampNeg)) vmX9_married mw747 ((List.range 18).map (· + 84)) rfl (by decide) 0 rfl rfl (As := [.int (xs (nI (i + 1)).toNatClampNeg)]) (rest := [.int rx]) rfl rfl hl.1 (Nat.le_of_ble_eq_true rfl) ⟨(Nat.le_of_ble_eq_true rfl), (Nat.le_of_ble_eq_true rfl)⟩ ⟨(Nat.le_of_ble_eq_true rfl), (Nat.le_of_ble_eq_true rfl)⟩ dL_law_705 (fun ry wx H locs hqx hV => ?_)
  obtain ⟨hry, rfl⟩ := hqx
  rw [eM] at hV
  have hW := re_mod rfl rfl hV
  refine lv_icmp_eq (tgt := 882) hx hb dL_law_708 rfl (fun c9 => ?_) (fun c9 => absurd (hrx.trans (eR.trans hry.symm)) c9)
  exact kk _ _ _ ⟨T1, Q1, Ld1, Vd1, L1, V1, S1, R1, C11, C21, Rn1, Wd1, Im1, K1, tr1, M1, z_1, N1, C_1, k1, y1, z11, z21, hR1, hW⟩ hl

set_option maxHeartbeats 4000000 in
set_option maxRecDepth 100000 in
theorem law_case_odds {p : Program} {l : Launch} {e : Env} {s : State} {m : MethodId} {args : Array Value} {below : List Frame} {meth : Method} {c : Code} {H : Heap} {locs : List Loc} {Q0 : State → Prop} {ls : Array Slot} {D : va_G} {A : Nat → Prop} {a mm : Nat → Nat} {cI cZ cN : ClassId} {b0 L0 i : Nat} {xs : Nat → Int32} (S0 : CallFix p m c cL_law 4 s args BW RL) (hX : va_X b0 L0 xs s s.heap) (hbl : b0 < s.heap.size) (hbA : ¬ A b0) {t0 : Nat} (hZ : ZM t0 A s s.heap) (hi5 : i + 5 ≤ L0) (hL : L0 ≤ 320) (hG : Gd D cI cZ cN A a mm s H locs) (hl : lv_has ls 4 [(0, .ref b0), (1, .ref (a 0)), (2, .ref (mm 0)), (3, .int (nI i))]) (kk : ∀ (H : Heap) (locs : List Loc) (ls : Array Slot), Gd D cI cZ cN A a mm s H locs → lv_has ls 4 [(0, .ref b0), (1, .ref (a 0)), (2, .ref (mm 0)), (3, .int (nI i))] → W p l e room_1 s m args below meth c H locs 102 1534 Q0 (F0 m 882 ls [])) : W p l e room_1 s m args below meth c H locs 102 1534 Q0 (F0 m 713 ls []) := by
  have hx := S0.1
  have hb := S0.2.1
  obtain ⟨T, Q, Ld, Vd, L, V, S, R, C1, C2, Rn, Wd, Im, K, tr, M, z, N, C, k, y, z1, z2, hR, hW⟩ := hG
  have hR0 := hR
  obtain ⟨⟨hz, hz2, hz', hTM, hlt⟩, ⟨hN, hN7, hN', hC, hC4, hC1, hC'⟩, hLd, hV0, ⟨hk, hk10, hy, hy10, hy', hps⟩, ⟨hc1, hz16, hc1', hto⟩, ⟨hc2, hz26, hc2', hro⟩, hIm⟩ := hR0
  refine lv_aload_n hx hb dL_law_713 rfl (lv_at hl 1 rfl) ?_
  refine lv_aload_n hx hb dL_law_714 rfl (lv_at hl 0 rfl) ?_
  refine lv_iload_n hx hb dL_law_715 rfl (lv_at hl 3 rfl) ?_
  refine lv_iconst (v := (1 : Int32)) hx hb dL_law_716 rfl ?_
  refine lv_iadd hx hb dL_law_717 ?_
  refine r_eq (y := nI (i + 1)) (nI_add i 1) ?_
  refine va_sld hx hb hX hbl hbA hW.2.2.2.2.1 (vp_in_nI (show i + 1 < L0 by omega) (by omega)) dL_law_718 ?_
  refine lv_aload_n hx hb dL_law_719 rfl (lv_at hl 0 rfl) ?_
  refine lv_iload_n hx hb dL_law_720 rfl (lv_at hl 3 rfl) ?_
  refine lv_iconst (v := (2 : Int32)) hx hb dL_law_721 rfl ?_
  refine lv_iadd hx hb dL_law_722 ?_
  refine r_eq (y := nI (i + 2)) (nI_add i 2) ?_
  refine va_sld hx hb hX hbl hbA hW.2.2.2.2.1 (vp_in_nI (show i + 2 < L0 by omega) (by omega)) dL_law_723 ?_
  refine lv_aload_n hx hb dL_law_724 rfl (lv_at hl 0 rfl) ?_
  refine lv_iload_n hx hb dL_law_725 rfl (lv_at hl 3 rfl) ?_
  refine lv_iconst (v := (3 : Int32)) hx hb dL_law_726 rfl ?_
  refine lv_iadd hx hb dL_law_727 ?_
  refine r_eq (y := nI (i + 3)) (nI_add i 3) ?_
  refine va_sld hx hb hX hbl hbA hW.2.2.2.2.1 (vp_in_nI (show i + 3 < L0 by omega) (by omega)) dL_law_728 ?_
  refine lv_aload_n hx hb dL_law_729 rfl (lv_at hl 0 rfl) ?_
  refine lv_iload_n hx hb dL_law_730 rfl (lv_at hl 3 rfl) ?_
  refine lv_iconst (v := (4 : Int32)) hx hb dL_law_731 rfl ?_
  refine lv_iadd hx hb dL_law_732 ?_
  refine r_eq (y := nI (i + 4)) (nI_add i 4) ?_
  refine va_sld hx hb hX hbl hbA hW.2.2.2.2.1 (vp_in_nI (show i + 4 < L0 by omega) (by omega)) dL_law_733 ?_
  obtain ⟨T1, Q1, Ld1, Vd1, L1, V1, S1, R1, C11, C21, Rn1, Wd1, Im1, K1, tr1, M1, z_1, N1, C_1, k1, y1, z11, z21, hR1, eC, eM, eR⟩ := st_odds cI cZ cN a mm (Q := Q) (Ld := Ld) (Vd := Vd) (Rn := Rn) (Wd := Wd) (tr := tr) hR (xs (nI (i + 1)).toNatClampNeg) (xs (nI (i + 2)).toNatClampNeg) (xs (nI (i + 3)).toNatClampNeg) (xs (nI (i + 4)).toNatClampNeg)
  refine callVI S0 hW (c_X8_odds l D cI cZ cN a T Q Ld Vd L V S R C1 C2 Rn Wd Im K tr z N C k y z1 z2 hz hz2 hN hN7 hC hC4 hC1 hk hk10 hy hy10 hc1 hz16 hc2 hz26 (xs (nI (i + 1)).toNatClampNeg) (xs (nI (i + 2)).toNatClampNeg) (xs (nI (i + 3)).toNatClampNeg) (xs (nI (i + 4)).toNatClampNeg)) vmX8_odds mw759 (List.range 84) rfl (by decide) 0 rfl rfl (As := [.int (xs (nI (i + 1)).toNatClampNeg), .int (xs (nI (i + 2)).toNatClampNeg), .int (xs (nI (i + 3)).toNatClampNeg), .int (xs (nI (i + 4)).toNatClampNeg)]) (rest := []) rfl rfl hl.1 (Nat.le_of_ble_eq_true rfl) ⟨(Nat.le_of_ble_eq_true rfl), (Nat.le_of_ble_eq_true rfl)⟩ ⟨(Nat.le_of_ble_eq_true rfl), (Nat.le_of_ble_eq_true rfl)⟩ dL_law_734 (fun rx wx H locs hqx hV => ?_)
  obtain ⟨hrx, rfl⟩ := hqx
  rw [eC] at hV
  have hW := re_one rfl hV
  refine lv_aload_n hx hb dL_law_737 rfl (lv_at hl 2 rfl) ?_
  refine lv_aload_n hx hb dL_law_738 rfl (lv_at hl 0 rfl) ?_
  refine lv_iload_n hx hb dL_law_739 rfl (lv_at hl 3 rfl) ?_
  refine lv_iconst (v := (1 : Int32)) hx hb dL_law_740 rfl ?_
  refine lv_iadd hx hb dL_law_741 ?_
  refine r_eq (y := nI (i + 1)) (nI_add i 1) ?_
  refine va_sld hx hb hX hbl hbA hW.2.2.2.2.1 (vp_in_nI (show i + 1 < L0 by omega) (by omega)) dL_law_742 ?_
  refine lv_aload_n hx hb dL_law_743 rfl (lv_at hl 0 rfl) ?_
  refine lv_iload_n hx hb dL_law_744 rfl (lv_at hl 3 rfl) ?_
  refine lv_iconst (v := (2 : Int32)) hx hb dL_law_745 rfl ?_
  refine lv_iadd hx hb dL_law_746 ?_
  refine r_eq (y := nI (i + 2)) (nI_add i 2) ?_
  refine va_sld hx hb hX hbl hbA hW.2.2.2.2.1 (vp_in_nI (show i + 2 < L0 by omega) (by omega)) dL_law_747 ?_
  refine lv_aload_n hx hb dL_law_748 rfl (lv_at hl 0 rfl) ?_
  refine lv_iload_n hx hb dL_law_749 rfl (lv_at hl 3 rfl) ?_
  refine lv_iconst (v := (3 : Int32)) hx hb dL_law_750 rfl ?_
  refine lv_iadd hx hb dL_law_751 ?_
  refine r_eq (y := nI (i + 3)) (nI_add i 3) ?_
  refine va_sld hx hb hX hbl hbA hW.2.2.2.2.1 (vp_in_nI (show i + 3 < L0 by omega) (by omega)) dL_law_752 ?_
  refine lv_aload_n hx hb dL_law_753 rfl (lv_at hl 0 rfl) ?_
  refine lv_iload_n hx hb dL_law_754 rfl (lv_at hl 3 rfl) ?_
  refine lv_iconst (v := (4 : Int32)) hx hb dL_law_755 rfl ?_
  refine lv_iadd hx hb dL_law_756 ?_
  refine r_eq (y := nI (i + 4)) (nI_add i 4) ?_
  refine va_sld hx hb hX hbl hbA hW.2.2.2.2.1 (vp_in_nI (show i + 4 < L0 by omega) (by omega)) dL_law_757 ?_
  refine callVI S0 hW (c_X9_odds l D cI cZ cN mm M tr N C hN' hN7 hC' hC4 hC1 (xs (nI (i + 1)).toNatClampNeg) (xs (nI (i + 2)).toNatClampNeg) (xs (nI (i + 3)).toNatClampNeg) (xs (nI (i + 4)).toNatClampNeg)) vmX9_odds mw774 ((List.range 18).map (· + 84)) rfl (by decide) 0 rfl rfl (As := [.int (xs (nI (i + 1)).toNatClampNeg), .int (xs (nI (i + 2)).toNatClampNeg), .int (xs (nI (i + 3)).toNatClampNeg), .int (xs (nI (i + 4)).toNatClampNeg)]) (rest := [.int rx]) rfl rfl hl.1 (Nat.le_of_ble_eq_true rfl) ⟨(Nat.le_of_ble_eq_true rfl), (Nat.le_of_ble_eq_true rfl)⟩ ⟨(Nat.le_of_ble_eq_true rfl), (Nat.le_of_ble_eq_true rfl)⟩ dL_law_758 (fun ry wx H locs hqx hV => ?_)
  obtain ⟨hry, rfl⟩ := hqx
  rw [eM] at hV
  have hW := re_mod rfl rfl hV
  refine lv_icmp_eq (tgt := 882) hx hb dL_law_761 rfl (fun c9 => ?_) (fun c9 => absurd (hrx.trans (eR.trans hry.symm)) c9)
  exact kk _ _ _ ⟨T1, Q1, Ld1, Vd1, L1, V1, S1, R1, C11, C21, Rn1, Wd1, Im1, K1, tr1, M1, z_1, N1, C_1, k1, y1, z11, z21, hR1, hW⟩ hl

set_option maxHeartbeats 4000000 in
set_option maxRecDepth 100000 in
theorem law_case_rate {p : Program} {l : Launch} {e : Env} {s : State} {m : MethodId} {args : Array Value} {below : List Frame} {meth : Method} {c : Code} {H : Heap} {locs : List Loc} {Q0 : State → Prop} {ls : Array Slot} {D : va_G} {A : Nat → Prop} {a mm : Nat → Nat} {cI cZ cN : ClassId} {b0 L0 i : Nat} {xs : Nat → Int32} (S0 : CallFix p m c cL_law 4 s args BW RL) (hX : va_X b0 L0 xs s s.heap) (hbl : b0 < s.heap.size) (hbA : ¬ A b0) {t0 : Nat} (hZ : ZM t0 A s s.heap) (hi5 : i + 5 ≤ L0) (hL : L0 ≤ 320) (hG : Gd D cI cZ cN A a mm s H locs) (hl : lv_has ls 4 [(0, .ref b0), (1, .ref (a 0)), (2, .ref (mm 0)), (3, .int (nI i))]) (kk : ∀ (H : Heap) (locs : List Loc) (ls : Array Slot), Gd D cI cZ cN A a mm s H locs → lv_has ls 4 [(0, .ref b0), (1, .ref (a 0)), (2, .ref (mm 0)), (3, .int (nI i))] → W p l e room_1 s m args below meth c H locs 102 1534 Q0 (F0 m 882 ls [])) : W p l e room_1 s m args below meth c H locs 102 1534 Q0 (F0 m 766 ls []) := by
  have hx := S0.1
  have hb := S0.2.1
  obtain ⟨T, Q, Ld, Vd, L, V, S, R, C1, C2, Rn, Wd, Im, K, tr, M, z, N, C, k, y, z1, z2, hR, hW⟩ := hG
  have hR0 := hR
  obtain ⟨⟨hz, hz2, hz', hTM, hlt⟩, ⟨hN, hN7, hN', hC, hC4, hC1, hC'⟩, hLd, hV0, ⟨hk, hk10, hy, hy10, hy', hps⟩, ⟨hc1, hz16, hc1', hto⟩, ⟨hc2, hz26, hc2', hro⟩, hIm⟩ := hR0
  refine lv_aload_n hx hb dL_law_766 rfl (lv_at hl 1 rfl) ?_
  refine lv_aload_n hx hb dL_law_767 rfl (lv_at hl 0 rfl) ?_
  refine lv_iload_n hx hb dL_law_768 rfl (lv_at hl 3 rfl) ?_
  refine lv_iconst (v := (1 : Int32)) hx hb dL_law_769 rfl ?_
  refine lv_iadd hx hb dL_law_770 ?_
  refine r_eq (y := nI (i + 1)) (nI_add i 1) ?_
  refine va_sld hx hb hX hbl hbA hW.2.2.2.2.1 (vp_in_nI (show i + 1 < L0 by omega) (by omega)) dL_law_771 ?_
  refine lv_aload_n hx hb dL_law_772 rfl (lv_at hl 0 rfl) ?_
  refine lv_iload_n hx hb dL_law_773 rfl (lv_at hl 3 rfl) ?_
  refine lv_iconst (v := (2 : Int32)) hx hb dL_law_774 rfl ?_
  refine lv_iadd hx hb dL_law_775 ?_
  refine r_eq (y := nI (i + 2)) (nI_add i 2) ?_
  refine va_sld hx hb hX hbl hbA hW.2.2.2.2.1 (vp_in_nI (show i + 2 < L0 by omega) (by omega)) dL_law_776 ?_
  obtain ⟨T1, Q1, Ld1, Vd1, L1, V1, S1, R1, C11, C21, Rn1, Wd1, Im1, K1, tr1, M1, z_1, N1, C_1, k1, y1, z11, z21, hR1, eC, eM, eR⟩ := st_rate cI cZ cN a mm (Q := Q) (Ld := Ld) (Vd := Vd) (Rn := Rn) (Wd := Wd) (tr := tr) hR (xs (nI (i + 1)).toNatClampNeg) (xs (nI (i + 2)).toNatClampNeg)
  refine callVS S0 hW hZ (c_X8_rate l D cI cZ cN a T Q Ld Vd L V S R C1 C2 Rn Wd Im K tr z N C k y z1 z2 hz hz2 hN hN7 hC hC4 hC1 hk hk10 hy hy10 hc1 hz16 hc2 hz26 t0 (xs (nI (i + 1)).toNatClampNeg) (xs (nI (i + 2)).toNatClampNeg)) vmX8_rate mw781 (List.range 84) rfl (by decide) 0 rfl rfl (As := [.int (xs (nI (i + 1)).toNatClampNeg), .int (xs (nI (i + 2)).toNatClampNeg)]) (rest := []) rfl rfl hl.1 (Nat.le_of_ble_eq_true rfl) ⟨(Nat.le_of_ble_eq_true rfl), (Nat.le_of_ble_eq_true rfl)⟩ ⟨(Nat.le_of_ble_eq_true rfl), (Nat.le_of_ble_eq_true rfl)⟩ dL_law_777 (fun rx wx H locs hqx hV => ?_)
  obtain ⟨hrx, rfl⟩ := hqx
  rw [eC] at hV
  have hW := re_one rfl hV
  refine lv_aload_n hx hb dL_law_780 rfl (lv_at hl 2 rfl) ?_
  refine lv_aload_n hx hb dL_law_781 rfl (lv_at hl 0 rfl) ?_
  refine lv_iload_n hx hb dL_law_782 rfl (lv_at hl 3 rfl) ?_
  refine lv_iconst (v := (1 : Int32)) hx hb dL_law_783 rfl ?_
  refine lv_iadd hx hb dL_law_784 ?_
  refine r_eq (y := nI (i + 1)) (nI_add i 1) ?_
  refine va_sld hx hb hX hbl hbA hW.2.2.2.2.1 (vp_in_nI (show i + 1 < L0 by omega) (by omega)) dL_law_785 ?_
  refine lv_aload_n hx hb dL_law_786 rfl (lv_at hl 0 rfl) ?_
  refine lv_iload_n hx hb dL_law_787 rfl (lv_at hl 3 rfl) ?_
  refine lv_iconst (v := (2 : Int32)) hx hb dL_law_788 rfl ?_
  refine lv_iadd hx hb dL_law_789 ?_
  refine r_eq (y := nI (i + 2)) (nI_add i 2) ?_
  refine va_sld hx hb hX hbl hbA hW.2.2.2.2.1 (vp_in_nI (show i + 2 < L0 by omega) (by omega)) dL_law_790 ?_
  refine callVI S0 hW (c_X9_rate l D cI cZ cN mm M tr N C hN' hN7 hC' hC4 hC1 (xs (nI (i + 1)).toNatClampNeg) (xs (nI (i + 2)).toNatClampNeg)) vmX9_rate mw791 ((List.range 18).map (· + 84)) rfl (by decide) 0 rfl rfl (As := [.int (xs (nI (i + 1)).toNatClampNeg), .int (xs (nI (i + 2)).toNatClampNeg)]) (rest := [.int rx]) rfl rfl hl.1 (Nat.le_of_ble_eq_true rfl) ⟨(Nat.le_of_ble_eq_true rfl), (Nat.le_of_ble_eq_true rfl)⟩ ⟨(Nat.le_of_ble_eq_true rfl), (Nat.le_of_ble_eq_true rfl)⟩ dL_law_791 (fun ry wx H locs hqx hV => ?_)
  obtain ⟨hry, rfl⟩ := hqx
  rw [eM] at hV
  have hW := re_mod rfl rfl hV
  refine lv_icmp_eq (tgt := 882) hx hb dL_law_794 rfl (fun c9 => ?_) (fun c9 => absurd (hrx.trans (eR.trans hry.symm)) c9)
  exact kk _ _ _ ⟨T1, Q1, Ld1, Vd1, L1, V1, S1, R1, C11, C21, Rn1, Wd1, Im1, K1, tr1, M1, z_1, N1, C_1, k1, y1, z11, z21, hR1, hW⟩ hl

set_option maxHeartbeats 4000000 in
set_option maxRecDepth 100000 in
theorem law_case_keep {p : Program} {l : Launch} {e : Env} {s : State} {m : MethodId} {args : Array Value} {below : List Frame} {meth : Method} {c : Code} {H : Heap} {locs : List Loc} {Q0 : State → Prop} {ls : Array Slot} {D : va_G} {A : Nat → Prop} {a mm : Nat → Nat} {cI cZ cN : ClassId} {b0 L0 i : Nat} {xs : Nat → Int32} (S0 : CallFix p m c cL_law 4 s args BW RL) (hX : va_X b0 L0 xs s s.heap) (hbl : b0 < s.heap.size) (hbA : ¬ A b0) {t0 : Nat} (hZ : ZM t0 A s s.heap) (hi5 : i + 5 ≤ L0) (hL : L0 ≤ 320) (hG : Gd D cI cZ cN A a mm s H locs) (hl : lv_has ls 4 [(0, .ref b0), (1, .ref (a 0)), (2, .ref (mm 0)), (3, .int (nI i))]) (kk : ∀ (H : Heap) (locs : List Loc) (ls : Array Slot), Gd D cI cZ cN A a mm s H locs → lv_has ls 4 [(0, .ref b0), (1, .ref (a 0)), (2, .ref (mm 0)), (3, .int (nI i))] → W p l e room_1 s m args below meth c H locs 102 1534 Q0 (F0 m 882 ls [])) : W p l e room_1 s m args below meth c H locs 102 1534 Q0 (F0 m 799 ls []) := by
  have hx := S0.1
  have hb := S0.2.1
  obtain ⟨T, Q, Ld, Vd, L, V, S, R, C1, C2, Rn, Wd, Im, K, tr, M, z, N, C, k, y, z1, z2, hR, hW⟩ := hG
  have hR0 := hR
  obtain ⟨⟨hz, hz2, hz', hTM, hlt⟩, ⟨hN, hN7, hN', hC, hC4, hC1, hC'⟩, hLd, hV0, ⟨hk, hk10, hy, hy10, hy', hps⟩, ⟨hc1, hz16, hc1', hto⟩, ⟨hc2, hz26, hc2', hro⟩, hIm⟩ := hR0
  refine lv_aload_n hx hb dL_law_799 rfl (lv_at hl 1 rfl) ?_
  refine lv_aload_n hx hb dL_law_800 rfl (lv_at hl 0 rfl) ?_
  refine lv_iload_n hx hb dL_law_801 rfl (lv_at hl 3 rfl) ?_
  refine lv_iconst (v := (1 : Int32)) hx hb dL_law_802 rfl ?_
  refine lv_iadd hx hb dL_law_803 ?_
  refine r_eq (y := nI (i + 1)) (nI_add i 1) ?_
  refine va_sld hx hb hX hbl hbA hW.2.2.2.2.1 (vp_in_nI (show i + 1 < L0 by omega) (by omega)) dL_law_804 ?_
  obtain ⟨T1, Q1, Ld1, Vd1, L1, V1, S1, R1, C11, C21, Rn1, Wd1, Im1, K1, tr1, M1, z_1, N1, C_1, k1, y1, z11, z21, hR1, eC, eM, eR⟩ := st_keep cI cZ cN a mm (Q := Q) (Ld := Ld) (Vd := Vd) (Rn := Rn) (Wd := Wd) (tr := tr) hR (xs (nI (i + 1)).toNatClampNeg)
  refine callVI S0 hW (c_X8_keep l D cI cZ cN a T Q Ld Vd L V S R C1 C2 Rn Wd Im K tr z N C k y z1 z2 hz hz2 hN hN7 hC hC4 hC1 hk hk10 hy hy10 hc1 hz16 hc2 hz26 (xs (nI (i + 1)).toNatClampNeg)) vmX8_keep mw802 (List.range 84) rfl (by decide) 0 rfl rfl (As := [.int (xs (nI (i + 1)).toNatClampNeg)]) (rest := []) rfl rfl hl.1 (Nat.le_of_ble_eq_true rfl) ⟨(Nat.le_of_ble_eq_true rfl), (Nat.le_of_ble_eq_true rfl)⟩ ⟨(Nat.le_of_ble_eq_true rfl), (Nat.le_of_ble_eq_true rfl)⟩ dL_law_805 (fun rx wx H locs hqx hV => ?_)
  obtain ⟨hrx, rfl⟩ := hqx
  rw [eC] at hV
  have hW := re_one rfl hV
  refine lv_aload_n hx hb dL_law_808 rfl (lv_at hl 2 rfl) ?_
  refine lv_aload_n hx hb dL_law_809 rfl (lv_at hl 0 rfl) ?_
  refine lv_iload_n hx hb dL_law_810 rfl (lv_at hl 3 rfl) ?_
  refine lv_iconst (v := (1 : Int32)) hx hb dL_law_811 rfl ?_
  refine lv_iadd hx hb dL_law_812 ?_
  refine r_eq (y := nI (i + 1)) (nI_add i 1) ?_
  refine va_sld hx hb hX hbl hbA hW.2.2.2.2.1 (vp_in_nI (show i + 1 < L0 by omega) (by omega)) dL_law_813 ?_
  refine callVI S0 hW (c_X9_keep l D cI cZ cN mm M tr N C hN' hN7 hC' hC4 hC1 (xs (nI (i + 1)).toNatClampNeg)) vmX9_keep mw807 ((List.range 18).map (· + 84)) rfl (by decide) 0 rfl rfl (As := [.int (xs (nI (i + 1)).toNatClampNeg)]) (rest := [.int rx]) rfl rfl hl.1 (Nat.le_of_ble_eq_true rfl) ⟨(Nat.le_of_ble_eq_true rfl), (Nat.le_of_ble_eq_true rfl)⟩ ⟨(Nat.le_of_ble_eq_true rfl), (Nat.le_of_ble_eq_true rfl)⟩ dL_law_814 (fun ry wx H locs hqx hV => ?_)
  obtain ⟨hry, rfl⟩ := hqx
  rw [eM] at hV
  have hW := re_mod rfl rfl hV
  refine lv_icmp_eq (tgt := 882) hx hb dL_law_817 rfl (fun c9 => ?_) (fun c9 => absurd (hrx.trans (eR.trans hry.symm)) c9)
  exact kk _ _ _ ⟨T1, Q1, Ld1, Vd1, L1, V1, S1, R1, C11, C21, Rn1, Wd1, Im1, K1, tr1, M1, z_1, N1, C_1, k1, y1, z11, z21, hR1, hW⟩ hl

set_option maxHeartbeats 4000000 in
set_option maxRecDepth 100000 in
theorem law_case_back {p : Program} {l : Launch} {e : Env} {s : State} {m : MethodId} {args : Array Value} {below : List Frame} {meth : Method} {c : Code} {H : Heap} {locs : List Loc} {Q0 : State → Prop} {ls : Array Slot} {D : va_G} {A : Nat → Prop} {a mm : Nat → Nat} {cI cZ cN : ClassId} {b0 L0 i : Nat} {xs : Nat → Int32} (S0 : CallFix p m c cL_law 4 s args BW RL) (hX : va_X b0 L0 xs s s.heap) (hbl : b0 < s.heap.size) (hbA : ¬ A b0) {t0 : Nat} (hZ : ZM t0 A s s.heap) (hi5 : i + 5 ≤ L0) (hL : L0 ≤ 320) (hG : Gd D cI cZ cN A a mm s H locs) (hl : lv_has ls 4 [(0, .ref b0), (1, .ref (a 0)), (2, .ref (mm 0)), (3, .int (nI i))]) (kk : ∀ (H : Heap) (locs : List Loc) (ls : Array Slot), Gd D cI cZ cN A a mm s H locs → lv_has ls 4 [(0, .ref b0), (1, .ref (a 0)), (2, .ref (mm 0)), (3, .int (nI i))] → W p l e room_1 s m args below meth c H locs 102 1534 Q0 (F0 m 882 ls [])) : W p l e room_1 s m args below meth c H locs 102 1534 Q0 (F0 m 822 ls []) := by
  have hx := S0.1
  have hb := S0.2.1
  obtain ⟨T, Q, Ld, Vd, L, V, S, R, C1, C2, Rn, Wd, Im, K, tr, M, z, N, C, k, y, z1, z2, hR, hW⟩ := hG
  have hR0 := hR
  obtain ⟨⟨hz, hz2, hz', hTM, hlt⟩, ⟨hN, hN7, hN', hC, hC4, hC1, hC'⟩, hLd, hV0, ⟨hk, hk10, hy, hy10, hy', hps⟩, ⟨hc1, hz16, hc1', hto⟩, ⟨hc2, hz26, hc2', hro⟩, hIm⟩ := hR0
  refine lv_aload_n hx hb dL_law_822 rfl (lv_at hl 1 rfl) ?_
  refine lv_aload_n hx hb dL_law_823 rfl (lv_at hl 0 rfl) ?_
  refine lv_iload_n hx hb dL_law_824 rfl (lv_at hl 3 rfl) ?_
  refine lv_iconst (v := (1 : Int32)) hx hb dL_law_825 rfl ?_
  refine lv_iadd hx hb dL_law_826 ?_
  refine r_eq (y := nI (i + 1)) (nI_add i 1) ?_
  refine va_sld hx hb hX hbl hbA hW.2.2.2.2.1 (vp_in_nI (show i + 1 < L0 by omega) (by omega)) dL_law_827 ?_
  obtain ⟨T1, Q1, Ld1, Vd1, L1, V1, S1, R1, C11, C21, Rn1, Wd1, Im1, K1, tr1, M1, z_1, N1, C_1, k1, y1, z11, z21, hR1, eC, eM, eR⟩ := st_back cI cZ cN a mm (Q := Q) (Ld := Ld) (Vd := Vd) (Rn := Rn) (Wd := Wd) (tr := tr) hR (xs (nI (i + 1)).toNatClampNeg)
  refine callVI S0 hW (c_X8_back l D cI cZ cN a T Q Ld Vd L V S R C1 C2 Rn Wd Im K tr z N C k y z1 z2 hz hz2 hN hN7 hC hC4 hC1 hk hk10 hy hy10 hc1 hz16 hc2 hz26 (xs (nI (i + 1)).toNatClampNeg)) vmX8_back mw811 (List.range 84) rfl (by decide) 0 rfl rfl (As := [.int (xs (nI (i + 1)).toNatClampNeg)]) (rest := []) rfl rfl hl.1 (Nat.le_of_ble_eq_true rfl) ⟨(Nat.le_of_ble_eq_true rfl), (Nat.le_of_ble_eq_true rfl)⟩ ⟨(Nat.le_of_ble_eq_true rfl), (Nat.le_of_ble_eq_true rfl)⟩ dL_law_828 (fun rx wx H locs hqx hV => ?_)
  obtain ⟨hrx, rfl⟩ := hqx
  rw [eC] at hV
  have hW := re_one rfl hV
  refine lv_aload_n hx hb dL_law_831 rfl (lv_at hl 2 rfl) ?_
  refine lv_aload_n hx hb dL_law_832 rfl (lv_at hl 0 rfl) ?_
  refine lv_iload_n hx hb dL_law_833 rfl (lv_at hl 3 rfl) ?_
  refine lv_iconst (v := (1 : Int32)) hx hb dL_law_834 rfl ?_
  refine lv_iadd hx hb dL_law_835 ?_
  refine r_eq (y := nI (i + 1)) (nI_add i 1) ?_
  refine va_sld hx hb hX hbl hbA hW.2.2.2.2.1 (vp_in_nI (show i + 1 < L0 by omega) (by omega)) dL_law_836 ?_
  refine callVI S0 hW (c_X9_back l D cI cZ cN mm M tr N C hN' hN7 hC' hC4 hC1 y hy' hy10 (xs (nI (i + 1)).toNatClampNeg)) vmX9_back mw815 ((List.range 18).map (· + 84)) rfl (by decide) 0 rfl rfl (As := [.int (xs (nI (i + 1)).toNatClampNeg)]) (rest := [.int rx]) rfl rfl hl.1 (Nat.le_of_ble_eq_true rfl) ⟨(Nat.le_of_ble_eq_true rfl), (Nat.le_of_ble_eq_true rfl)⟩ ⟨(Nat.le_of_ble_eq_true rfl), (Nat.le_of_ble_eq_true rfl)⟩ dL_law_837 (fun ry wx H locs hqx hV => ?_)
  obtain ⟨hry, rfl⟩ := hqx
  rw [eM] at hV
  have hW := re_mod rfl rfl hV
  refine lv_icmp_eq (tgt := 882) hx hb dL_law_840 rfl (fun c9 => ?_) (fun c9 => absurd (hrx.trans (eR.trans hry.symm)) c9)
  exact kk _ _ _ ⟨T1, Q1, Ld1, Vd1, L1, V1, S1, R1, C11, C21, Rn1, Wd1, Im1, K1, tr1, M1, z_1, N1, C_1, k1, y1, z11, z21, hR1, hW⟩ hl

set_option maxHeartbeats 4000000 in
set_option maxRecDepth 100000 in
theorem law_case_count {p : Program} {l : Launch} {e : Env} {s : State} {m : MethodId} {args : Array Value} {below : List Frame} {meth : Method} {c : Code} {H : Heap} {locs : List Loc} {Q0 : State → Prop} {ls : Array Slot} {D : va_G} {A : Nat → Prop} {a mm : Nat → Nat} {cI cZ cN : ClassId} {b0 L0 i : Nat} {xs : Nat → Int32} (S0 : CallFix p m c cL_law 4 s args BW RL) (hX : va_X b0 L0 xs s s.heap) (hbl : b0 < s.heap.size) (hbA : ¬ A b0) {t0 : Nat} (hZ : ZM t0 A s s.heap) (hi5 : i + 5 ≤ L0) (hL : L0 ≤ 320) (hG : Gd D cI cZ cN A a mm s H locs) (hl : lv_has ls 4 [(0, .ref b0), (1, .ref (a 0)), (2, .ref (mm 0)), (3, .int (nI i))]) (kk : ∀ (H : Heap) (locs : List Loc) (ls : Array Slot), Gd D cI cZ cN A a mm s H locs → lv_has ls 4 [(0, .ref b0), (1, .ref (a 0)), (2, .ref (mm 0)), (3, .int (nI i))] → W p l e room_1 s m args below meth c H locs 102 1534 Q0 (F0 m 882 ls [])) : W p l e room_1 s m args below meth c H locs 102 1534 Q0 (F0 m 845 ls []) := by
  have hx := S0.1
  have hb := S0.2.1
  obtain ⟨T, Q, Ld, Vd, L, V, S, R, C1, C2, Rn, Wd, Im, K, tr, M, z, N, C, k, y, z1, z2, hR, hW⟩ := hG
  have hR0 := hR
  obtain ⟨⟨hz, hz2, hz', hTM, hlt⟩, ⟨hN, hN7, hN', hC, hC4, hC1, hC'⟩, hLd, hV0, ⟨hk, hk10, hy, hy10, hy', hps⟩, ⟨hc1, hz16, hc1', hto⟩, ⟨hc2, hz26, hc2', hro⟩, hIm⟩ := hR0
  refine lv_aload_n hx hb dL_law_845 rfl (lv_at hl 1 rfl) ?_
  refine lv_aload_n hx hb dL_law_846 rfl (lv_at hl 0 rfl) ?_
  refine lv_iload_n hx hb dL_law_847 rfl (lv_at hl 3 rfl) ?_
  refine lv_iconst (v := (1 : Int32)) hx hb dL_law_848 rfl ?_
  refine lv_iadd hx hb dL_law_849 ?_
  refine r_eq (y := nI (i + 1)) (nI_add i 1) ?_
  refine va_sld hx hb hX hbl hbA hW.2.2.2.2.1 (vp_in_nI (show i + 1 < L0 by omega) (by omega)) dL_law_850 ?_
  obtain ⟨T1, Q1, Ld1, Vd1, L1, V1, S1, R1, C11, C21, Rn1, Wd1, Im1, K1, tr1, M1, z_1, N1, C_1, k1, y1, z11, z21, hR1, eC, eM, eR⟩ := st_count cI cZ cN a mm (Q := Q) (Ld := Ld) (Vd := Vd) (Rn := Rn) (Wd := Wd) (tr := tr) hR (xs (nI (i + 1)).toNatClampNeg)
  refine callVI S0 hW (c_X8_count l D cI cZ cN a T Q Ld Vd L V S R C1 C2 Rn Wd Im K tr z N C k y z1 z2 hz hz2 hN hN7 hC hC4 hC1 hk hk10 hy hy10 hc1 hz16 hc2 hz26 (xs (nI (i + 1)).toNatClampNeg)) vmX8_count mw819 (List.range 84) rfl (by decide) 0 rfl rfl (As := [.int (xs (nI (i + 1)).toNatClampNeg)]) (rest := []) rfl rfl hl.1 (Nat.le_of_ble_eq_true rfl) ⟨(Nat.le_of_ble_eq_true rfl), (Nat.le_of_ble_eq_true rfl)⟩ ⟨(Nat.le_of_ble_eq_true rfl), (Nat.le_of_ble_eq_true rfl)⟩ dL_law_851 (fun rx wx H locs hqx hV => ?_)
  obtain ⟨hrx, rfl⟩ := hqx
  rw [eC] at hV
  have hW := re_one rfl hV
  refine lv_aload_n hx hb dL_law_854 rfl (lv_at hl 2 rfl) ?_
  refine lv_aload_n hx hb dL_law_855 rfl (lv_at hl 0 rfl) ?_
  refine lv_iload_n hx hb dL_law_856 rfl (lv_at hl 3 rfl) ?_
  refine lv_iconst (v := (1 : Int32)) hx hb dL_law_857 rfl ?_
  refine lv_iadd hx hb dL_law_858 ?_
  refine r_eq (y := nI (i + 1)) (nI_add i 1) ?_
  refine va_sld hx hb hX hbl hbA hW.2.2.2.2.1 (vp_in_nI (show i + 1 < L0 by omega) (by omega)) dL_law_859 ?_
  refine callVI S0 hW (c_X9_count l D cI cZ cN mm M tr N C hN' hN7 hC' hC4 hC1 z hz' hz2 z1 z2 hc1' hz16 hc2' hz26 (xs (nI (i + 1)).toNatClampNeg)) vmX9_count mw823 ((List.range 18).map (· + 84)) rfl (by decide) 0 rfl rfl (As := [.int (xs (nI (i + 1)).toNatClampNeg)]) (rest := [.int rx]) rfl rfl hl.1 (Nat.le_of_ble_eq_true rfl) ⟨(Nat.le_of_ble_eq_true rfl), (Nat.le_of_ble_eq_true rfl)⟩ ⟨(Nat.le_of_ble_eq_true rfl), (Nat.le_of_ble_eq_true rfl)⟩ dL_law_860 (fun ry wx H locs hqx hV => ?_)
  obtain ⟨hry, rfl⟩ := hqx
  rw [eM] at hV
  have hW := re_mod rfl rfl hV
  refine lv_icmp_eq (tgt := 882) hx hb dL_law_863 rfl (fun c9 => ?_) (fun c9 => absurd (hrx.trans (eR.trans hry.symm)) c9)
  exact kk _ _ _ ⟨T1, Q1, Ld1, Vd1, L1, V1, S1, R1, C11, C21, Rn1, Wd1, Im1, K1, tr1, M1, z_1, N1, C_1, k1, y1, z11, z21, hR1, hW⟩ hl

set_option maxHeartbeats 4000000 in
set_option maxRecDepth 100000 in
theorem law_case_trace {p : Program} {l : Launch} {e : Env} {s : State} {m : MethodId} {args : Array Value} {below : List Frame} {meth : Method} {c : Code} {H : Heap} {locs : List Loc} {Q0 : State → Prop} {ls : Array Slot} {D : va_G} {A : Nat → Prop} {a mm : Nat → Nat} {cI cZ cN : ClassId} {b0 L0 i : Nat} {xs : Nat → Int32} (S0 : CallFix p m c cL_law 4 s args BW RL) (hX : va_X b0 L0 xs s s.heap) (hbl : b0 < s.heap.size) (hbA : ¬ A b0) {t0 : Nat} (hZ : ZM t0 A s s.heap) (hi5 : i + 5 ≤ L0) (hL : L0 ≤ 320) (hG : Gd D cI cZ cN A a mm s H locs) (hl : lv_has ls 4 [(0, .ref b0), (1, .ref (a 0)), (2, .ref (mm 0)), (3, .int (nI i))]) (kk : ∀ (H : Heap) (locs : List Loc) (ls : Array Slot), Gd D cI cZ cN A a mm s H locs → lv_has ls 4 [(0, .ref b0), (1, .ref (a 0)), (2, .ref (mm 0)), (3, .int (nI i))] → W p l e room_1 s m args below meth c H locs 102 1534 Q0 (F0 m 882 ls [])) : W p l e room_1 s m args below meth c H locs 102 1534 Q0 (F0 m 868 ls []) := by
  have hx := S0.1
  have hb := S0.2.1
  obtain ⟨T, Q, Ld, Vd, L, V, S, R, C1, C2, Rn, Wd, Im, K, tr, M, z, N, C, k, y, z1, z2, hR, hW⟩ := hG
  have hR0 := hR
  obtain ⟨⟨hz, hz2, hz', hTM, hlt⟩, ⟨hN, hN7, hN', hC, hC4, hC1, hC'⟩, hLd, hV0, ⟨hk, hk10, hy, hy10, hy', hps⟩, ⟨hc1, hz16, hc1', hto⟩, ⟨hc2, hz26, hc2', hro⟩, hIm⟩ := hR0
  refine lv_aload_n hx hb dL_law_868 rfl (lv_at hl 1 rfl) ?_
  obtain ⟨T1, Q1, Ld1, Vd1, L1, V1, S1, R1, C11, C21, Rn1, Wd1, Im1, K1, tr1, M1, z_1, N1, C_1, k1, y1, z11, z21, hR1, eC, eM, eR⟩ := st_trace cI cZ cN a mm (Q := Q) (Ld := Ld) (Vd := Vd) (Rn := Rn) (Wd := Wd) (tr := tr) hR
  refine callVL S0 hW (c_X8_trace l D cI cZ cN a T Q Ld Vd L V S R C1 C2 Rn Wd Im K tr z N C k y z1 z2 hz hz2 hN hN7 hC hC4 hC1 hk hk10 hy hy10 hc1 hz16 hc2 hz26) vmX8_trace mw827 (List.range 84) rfl (by decide) 0 rfl rfl (As := []) (rest := []) rfl rfl hl.1 (Nat.le_of_ble_eq_true rfl) ⟨(Nat.le_of_ble_eq_true rfl), (Nat.le_of_ble_eq_true rfl)⟩ ⟨(Nat.le_of_ble_eq_true rfl), (Nat.le_of_ble_eq_true rfl)⟩ dL_law_869 (fun rx wx H locs hqx hV => ?_)
  obtain ⟨hrx, rfl⟩ := hqx
  rw [eC] at hV
  have hW := re_one rfl hV
  refine lv_aload_n hx hb dL_law_872 rfl (lv_at hl 2 rfl) ?_
  refine callVL S0 hW (c_X9_trace l D cI cZ cN mm M tr N C hN' hN7 hC' hC4 hC1) vmX9_trace mw831 ((List.range 18).map (· + 84)) rfl (by decide) 0 rfl rfl (As := []) (rest := [.long rx]) rfl rfl hl.1 (Nat.le_of_ble_eq_true rfl) ⟨(Nat.le_of_ble_eq_true rfl), (Nat.le_of_ble_eq_true rfl)⟩ ⟨(Nat.le_of_ble_eq_true rfl), (Nat.le_of_ble_eq_true rfl)⟩ dL_law_873 (fun ry wx H locs hqx hV => ?_)
  obtain ⟨hry, rfl⟩ := hqx
  rw [eM] at hV
  have hW := re_mod rfl rfl hV
  refine W.lcmp hx hb dL_law_876 ?_
  refine r_eq (y := (0 : Int32)) (by rw [hrx, hry, eR]; unfold lg_cmp; simp) ?_
  refine lv_if_eq (tgt := 882) hx hb dL_law_877 rfl (fun c9 => ?_) (fun c9 => absurd rfl c9)
  exact kk _ _ _ ⟨T1, Q1, Ld1, Vd1, L1, V1, S1, R1, C11, C21, Rn1, Wd1, Im1, K1, tr1, M1, z_1, N1, C_1, k1, y1, z11, z21, hR1, hW⟩ hl
