/-! the law: its cases -/
/-- a method that answers with a long -/
theorem callVL {p : Program} {l : Launch} {e : Env} {R : Room} {s : State} {m : MethodId} {args : Array Value} {below : List Frame} {meth : Method} {c : Code} {H : Heap} {locs : List Loc} {cells slots : Nat} {Q : State → Prop} {cc : ByteArray} {nL pc : Nat} {ls : Array Slot} {rest : List Value} {D : va_G} {A : Nat → Prop} {tys : List (ClassId × FieldType)} {ws : va_W} {own : String} (S : CallFix p m c cc nL s args BW own) (hW : AtC D tys A ws s H locs) {y : MethodName} {b : ByteArray} {n : Nat} {fr b0 : Nat} {As : List Value} {wc : va_W} {post : Int64 → va_W → Prop} (hM : CtL l y b n fr D tys (.ref b0 :: As) wc post) {C : String} {k : Nat} (hV : VM C y b n (some .long) k) {idx : Nat} (hl : Cond.methodLink own idx y ∈ BW) (isC : List Nat) (hC : isC.map (fun i => ws[i]?) = wc.map some) (hn : isC.Nodup) (q0 : Nat) {ci : Nat} {T : u_T} {N : Nat} {fs : List Value} (hc : vwCl[ci]? = some (C, T, N)) (he : wc[q0]? = some (b0, .inr (ci, fs)))
    (hk : As.length = k) {st : List Value} (hst : st = As.reverse ++ .ref b0 :: rest) (hsz : ls.size = nL) (hro : (rest.map fun v => v.category).sum ≤ 8) (hR : fr + 1 ≤ R.frames ∧ 8 + (n + 11) + 40 * fr ≤ R.locals) (hf : cells ≤ R.cells ∧ slots ≤ R.slots) (hdg : decode cc pc = .ok (.invokevirtual idx, 3))
    (kk : ∀ (r : Int64) (w1 : va_W) (H1 : Heap) (locs1 : List Loc), post r w1 → AtC D tys A (putW ws isC w1) s H1 locs1 → W p l e R s m args below meth c H1 locs1 cells slots Q (F0 m (pc + 3) ls (.long r :: rest))) : W p l e R s m args below meth c H locs cells slots Q (F0 m pc ls st) := by
  subst hst
  obtain ⟨hPc, hDc, hFc⟩ := hW.cut isC hC hn
  have hpre := hW.pre (av := .ref b0 :: As) isC hC hn
  obtain ⟨hN, hK, hP, hD, hS, hA⟩ := hW
  obtain ⟨v1, v2, v3, v4, v5, v6, v7, v8⟩ := hV
  refine va_calll (va_runV (As := As) (rest := rest) S (hM H.size) (cwV (ws' := BW) k S.2.2.2.2 (giB (fun w hw => by
    unfold wsV at hw
    rcases List.mem_append.mp hw with h | h
    · simp at h
      rcases h with rfl | rfl | rfl | rfl
      · exact hl
      · exact v1
      · exact v2
      · exact v3
    · exact (List.mem_cons.mp h).elim (fun e => by rw [e]; exact v4) id)) rfl rfl rfl ⟨v5, v6, v7, v8⟩ hR) ⟨PC.blind, va_recv hK hPc hc he, hpre⟩ rfl hk hsz rfl (lv_room hro) hdg ⟨by simpa using hf.1, by simpa using hf.2⟩) hS (fun q _ h => hFc q h) hFc (fun r u t H1 locs1 ht hvm hw hB hz1 hk1 hS1 => ?_)
  obtain ⟨hP1, hf1⟩ := hB
  rw [ht] at hP1
  obtain ⟨g1, g2⟩ := putW_P hP hD isC hC hn hk1 hP1 hf1
  exact kk r u H1 locs1 hw ⟨hN, hK, g1, my_Dc g2 hD, hS1, hA⟩
/-- both stand, and have all in common -/
def Gd (D : va_G) (cI cZ cN : ClassId) (A : Nat → Prop) (a mm : Nat → Nat) (s : State) (H : Heap) (locs : List Loc) : Prop := ∃ (T : NV) (Q : NV) (Ld : NV) (Vd : NV) (L : NV) (V : NV) (S : NV) (R : Nat → NV) (C1 : NV) (C2 : NV) (Rn : NV) (Wd : NV) (Im : Nat → NV) (K : NV) (tr : Int64) (M : NV) (z : Nat) (N : Nat) (C : Nat) (k : Nat) (y : Nat) (z1 : Nat) (z2 : Nat), Rel T L V S R C1 C2 Im K M z N C k y z1 z2 ∧ AtC D (tyG cI cZ cN) A (pOne cI cZ cN a T Q Ld Vd L V S R C1 C2 Rn Wd Im K tr ++ pMod cI cZ mm M tr) s H locs
set_option maxRecDepth 100000 in
/-- the class's cells are put anew -/
theorem re_one {D : va_G} {cI cZ cN : ClassId} {A : Nat → Prop} {a mm : Nat → Nat} {s : State} {H : Heap} {locs : List Loc} {T Q Ld Vd L V S : NV} {R : Nat → NV} {C1 C2 Rn Wd : NV} {Im : Nat → NV} {K : NV} {tr : Int64} {M : NV} {mt : Int64} {ws0 : va_W} (h0 : ws0.length = 84) (h : AtC D (tyG cI cZ cN) A (putW (ws0 ++ pMod cI cZ mm M mt) (List.range 84) (pOne cI cZ cN a T Q Ld Vd L V S R C1 C2 Rn Wd Im K tr)) s H locs) : AtC D (tyG cI cZ cN) A (pOne cI cZ cN a T Q Ld Vd L V S R C1 C2 Rn Wd Im K tr ++ pMod cI cZ mm M mt) s H locs := by
  refine h.cong ?_
  apply List.ext_getElem?
  intro k
  have hlen : (putW (ws0 ++ pMod cI cZ mm M mt) (List.range 84) (pOne cI cZ cN a T Q Ld Vd L V S R C1 C2 Rn Wd Im K tr)).length = 102 := by rw [putW_len, List.length_append, h0]; rfl
  by_cases hk : k < 102
  · rw [List.getElem?_eq_getElem (show k < (putW (ws0 ++ pMod cI cZ mm M mt) (List.range 84) (pOne cI cZ cN a T Q Ld Vd L V S R C1 C2 Rn Wd Im K tr)).length by omega)]
    rcases putW_get (List.range 84) _ (ws0 ++ pMod cI cZ mm M mt) k _ List.nodup_range rfl (List.getElem?_eq_getElem (show k < (putW (ws0 ++ pMod cI cZ mm M mt) (List.range 84) (pOne cI cZ cN a T Q Ld Vd L V S R C1 C2 Rn Wd Im K tr)).length by omega)) with ⟨j, g1, g2⟩ | ⟨g1, g2⟩
    · have hj := (List.getElem?_eq_some_iff.mp g1)
      have hj1 : j < 84 := by have := hj.1; simpa using this
      have hj2 : j = k := by have := hj.2; simpa using this
      subst hj2
      rw [List.getElem?_append_left (show j < (pOne cI cZ cN a T Q Ld Vd L V S R C1 C2 Rn Wd Im K tr).length from hj1)]
      exact g2
    · have hk84 : 84 ≤ k := by
        rcases Nat.lt_or_ge k 84 with q | q
        · exact absurd (List.mem_range.mpr q) g1
        · exact q
      rw [List.getElem?_append_right (show (pOne cI cZ cN a T Q Ld Vd L V S R C1 C2 Rn Wd Im K tr).length ≤ k from hk84)]
      rw [List.getElem?_append_right (by omega), h0] at g2
      exact g2
  · rw [List.getElem?_eq_none (by rw [List.length_append]; exact Nat.le_of_not_lt hk), List.getElem?_eq_none (by omega)]
set_option maxRecDepth 100000 in
/-- the reference's cells are put anew -/
theorem re_mod {D : va_G} {cI cZ : ClassId} {tys : List (ClassId × FieldType)} {A : Nat → Prop} {mm : Nat → Nat} {s : State} {H : Heap} {locs : List Loc} {M : NV} {mt : Int64} {ws0 ws1 : va_W} (h0 : ws0.length = 84) (h1 : ws1.length = 18) (h : AtC D tys A (putW (ws0 ++ ws1) ((List.range 18).map (· + 84)) (pMod cI cZ mm M mt)) s H locs) : AtC D tys A (ws0 ++ pMod cI cZ mm M mt) s H locs := by
  refine h.cong ?_
  apply List.ext_getElem?
  intro k
  have hlen : (putW (ws0 ++ ws1) ((List.range 18).map (· + 84)) (pMod cI cZ mm M mt)).length = 102 := by rw [putW_len, List.length_append, h0, h1]
  by_cases hk : k < 102
  · rw [List.getElem?_eq_getElem (show k < (putW (ws0 ++ ws1) ((List.range 18).map (· + 84)) (pMod cI cZ mm M mt)).length by omega)]
    rcases putW_get ((List.range 18).map (· + 84)) _ (ws0 ++ ws1) k _ (by decide) rfl (List.getElem?_eq_getElem (show k < (putW (ws0 ++ ws1) ((List.range 18).map (· + 84)) (pMod cI cZ mm M mt)).length by omega)) with ⟨j, g1, g2⟩ | ⟨g1, g2⟩
    · have hj := (List.getElem?_eq_some_iff.mp g1)
      have hj1 : j < 18 := by have := hj.1; simpa using this
      have hj2 : j + 84 = k := by have := hj.2; simpa using this
      subst hj2
      rw [List.getElem?_append_right (by omega), h0, Nat.add_sub_cancel]
      exact g2
    · have hk84 : k < 84 := by
        rcases Nat.lt_or_ge k 84 with q | q
        · exact q
        · exact absurd (List.mem_map.mpr ⟨k - 84, List.mem_range.mpr (by omega), by omega⟩) g1
      rw [List.getElem?_append_left (by omega)]
      rw [List.getElem?_append_left (by omega)] at g2
      exact g2
  · rw [List.getElem?_eq_none (by rw [List.length_append, h0]; exact Nat.le_of_not_lt hk), List.getElem?_eq_none (by omega)]
theorem st_trace (cI cZ cN : ClassId) (a b : Nat → Nat) {T Q Ld Vd L V S : NV} {R : Nat → NV} {C1 C2 Rn Wd : NV} {Im : Nat → NV} {K : NV} {tr : Int64} {M : NV} {z N C k y z1 z2 : Nat} (h : Rel T L V S R C1 C2 Im K M z N C k y z1 z2) : Nx cI cZ cN a b (pOne cI cZ cN a T Q Ld Vd L V S R C1 C2 Rn Wd Im K tr) (pMod cI cZ b (upA M 0 (upd (M 0) 0 (0 : Int32))) tr) (tr = tr) := Rel.nx (M := upA M 0 (upd (M 0) 0 (0 : Int32))) h rfl rfl rfl
set_option maxHeartbeats 4000000 in
set_option maxRecDepth 100000 in
theorem law_case_hurts {p : Program} {l : Launch} {e : Env} {s : State} {m : MethodId} {args : Array Value} {below : List Frame} {meth : Method} {c : Code} {H : Heap} {locs : List Loc} {Q0 : State → Prop} {ls : Array Slot} {D : va_G} {A : Nat → Prop} {a mm : Nat → Nat} {cI cZ cN : ClassId} {b0 L0 i : Nat} {xs : Nat → Int32} (S0 : CallFix p m c cL_law 4 s args BW RL) (hX : va_X b0 L0 xs s s.heap) (hbl : b0 < s.heap.size) (hbA : ¬ A b0) {t0 : Nat} (hZ : ZM t0 A s s.heap) (hi5 : i + 5 ≤ L0) (hL : L0 ≤ 320) (hG : Gd D cI cZ cN A a mm s H locs) (hl : lv_has ls 4 [(0, .ref b0), (1, .ref (a 0)), (2, .ref (mm 0)), (3, .int (nI i))]) (kk : ∀ (H : Heap) (locs : List Loc) (ls : Array Slot), Gd D cI cZ cN A a mm s H locs → lv_has ls 4 [(0, .ref b0), (1, .ref (a 0)), (2, .ref (mm 0)), (3, .int (nI i))] → W p l e room_1 s m args below meth c H locs 102 1534 Q0 (F0 m 882 ls [])) : W p l e room_1 s m args below meth c H locs 102 1534 Q0 (F0 m 358 ls []) := by
  have hx := S0.1
  have hb := S0.2.1
  obtain ⟨T, Q, Ld, Vd, L, V, S, R, C1, C2, Rn, Wd, Im, K, tr, M, z, N, C, k, y, z1, z2, hR, hW⟩ := hG
  have hR0 := hR
  obtain ⟨⟨hz, hz2, hz', hTM, hlt⟩, ⟨hN, hN7, hN', hC, hC4, hC1, hC'⟩, hLd, hV0, ⟨hk, hk10, hy, hy10, hy', hps⟩, ⟨hc1, hz16, hc1', hto⟩, ⟨hc2, hz26, hc2', hro⟩, hIm⟩ := hR0
  refine lv_aload_n hx hb dL_law_358 rfl (lv_at hl 1 rfl) ?_
  refine lv_aload_n hx hb dL_law_359 rfl (lv_at hl 0 rfl) ?_
  refine lv_iload_n hx hb dL_law_360 rfl (lv_at hl 3 rfl) ?_
  refine lv_iconst (v := (1 : Int32)) hx hb dL_law_361 rfl ?_
  refine lv_iadd hx hb dL_law_362 ?_
  refine r_eq (y := nI (i + 1)) (nI_add i 1) ?_
  refine va_sld hx hb hX hbl hbA hW.2.2.2.2.1 (vp_in_nI (show i + 1 < L0 by omega) (by omega)) dL_law_363 ?_
  refine lv_aload_n hx hb dL_law_364 rfl (lv_at hl 0 rfl) ?_
  refine lv_iload_n hx hb dL_law_365 rfl (lv_at hl 3 rfl) ?_
  refine lv_iconst (v := (2 : Int32)) hx hb dL_law_366 rfl ?_
  refine lv_iadd hx hb dL_law_367 ?_
  refine r_eq (y := nI (i + 2)) (nI_add i 2) ?_
  refine va_sld hx hb hX hbl hbA hW.2.2.2.2.1 (vp_in_nI (show i + 2 < L0 by omega) (by omega)) dL_law_368 ?_
  obtain ⟨T1, Q1, Ld1, Vd1, L1, V1, S1, R1, C11, C21, Rn1, Wd1, Im1, K1, tr1, M1, z_1, N1, C_1, k1, y1, z11, z21, hR1, eC, eM, eR⟩ := st_hurts cI cZ cN a mm (Q := Q) (Ld := Ld) (Vd := Vd) (Rn := Rn) (Wd := Wd) (tr := tr) hR (xs (nI (i + 1)).toNatClampNeg) (xs (nI (i + 2)).toNatClampNeg)
  refine callVI S0 hW (c_X8_hurts l D cI cZ cN a T Q Ld Vd L V S R C1 C2 Rn Wd Im K tr z N C k y z1 z2 hz hz2 hN hN7 hC hC4 hC1 hk hk10 hy hy10 hc1 hz16 hc2 hz26 (xs (nI (i + 1)).toNatClampNeg) (xs (nI (i + 2)).toNatClampNeg)) vmX8_hurts mw533 (List.range 84) rfl (by decide) 0 rfl rfl (As := [.int (xs (nI (i + 1)).toNatClampNeg), .int (xs (nI (i + 2)).toNatClampNeg)]) (rest := []) rfl rfl hl.1 (Nat.le_of_ble_eq_true rfl) ⟨(Nat.le_of_ble_eq_true rfl), (Nat.le_of_ble_eq_true rfl)⟩ ⟨(Nat.le_of_ble_eq_true rfl), (Nat.le_of_ble_eq_true rfl)⟩ dL_law_369 (fun rx wx H locs hqx hV => ?_)
  obtain ⟨hrx, rfl⟩ := hqx
  rw [eC] at hV
  have hW := re_one rfl hV
  refine lv_aload_n hx hb dL_law_372 rfl (lv_at hl 2 rfl) ?_
  refine lv_aload_n hx hb dL_law_373 rfl (lv_at hl 0 rfl) ?_
  refine lv_iload_n hx hb dL_law_374 rfl (lv_at hl 3 rfl) ?_
  refine lv_iconst (v := (1 : Int32)) hx hb dL_law_375 rfl ?_
  refine lv_iadd hx hb dL_law_376 ?_
  refine r_eq (y := nI (i + 1)) (nI_add i 1) ?_
  refine va_sld hx hb hX hbl hbA hW.2.2.2.2.1 (vp_in_nI (show i + 1 < L0 by omega) (by omega)) dL_law_377 ?_
  refine lv_aload_n hx hb dL_law_378 rfl (lv_at hl 0 rfl) ?_
  refine lv_iload_n hx hb dL_law_379 rfl (lv_at hl 3 rfl) ?_
  refine lv_iconst (v := (2 : Int32)) hx hb dL_law_380 rfl ?_
  refine lv_iadd hx hb dL_law_381 ?_
  refine r_eq (y := nI (i + 2)) (nI_add i 2) ?_
  refine va_sld hx hb hX hbl hbA hW.2.2.2.2.1 (vp_in_nI (show i + 2 < L0 by omega) (by omega)) dL_law_382 ?_
  refine callVI S0 hW (c_X9_hurts l D cI cZ cN mm M tr N C hN' hN7 hC' hC4 hC1 y hy' hy10 (xs (nI (i + 1)).toNatClampNeg) (xs (nI (i + 2)).toNatClampNeg)) vmX9_hurts mw545 ((List.range 18).map (· + 84)) rfl (by decide) 0 rfl rfl (As := [.int (xs (nI (i + 1)).toNatClampNeg), .int (xs (nI (i + 2)).toNatClampNeg)]) (rest := [.int rx]) rfl rfl hl.1 (Nat.le_of_ble_eq_true rfl) ⟨(Nat.le_of_ble_eq_true rfl), (Nat.le_of_ble_eq_true rfl)⟩ ⟨(Nat.le_of_ble_eq_true rfl), (Nat.le_of_ble_eq_true rfl)⟩ dL_law_383 (fun ry wx H locs hqx hV => ?_)
  obtain ⟨hry, rfl⟩ := hqx
  rw [eM] at hV
  have hW := re_mod rfl rfl hV
  refine lv_icmp_eq (tgt := 882) hx hb dL_law_386 rfl (fun c9 => ?_) (fun c9 => absurd (by rw [hrx, hry]; exact eR) c9)
  exact kk _ _ _ ⟨T1, Q1, Ld1, Vd1, L1, V1, S1, R1, C11, C21, Rn1, Wd1, Im1, K1, tr1, M1, z_1, N1, C_1, k1, y1, z11, z21, hR1, hW⟩ hl
