/-! the static table MARKS; OneJohn's rate, keep, back whole -/
def mkV (j : Nat) : Int32 := if j = 0 then 1 else if j = 1 then 10 else if j = 2 then 100 else if j = 3 then 1000 else if j = 4 then 10000 else 100000
/-- the table, that nobody writes -/
def ZM (t : Nat) (A : Nat → Prop) (U : State) (H : Heap) : Prop := va_Z "OneJohn" "MARKS" "[I" (.ref t) A U H ∧ va_T .int t 6 (fun j => .int (mkV j)) A U H
theorem ZM.moved {t : Nat} {A : Nat → Prop} {u U : State} {H : Heap} (hvm : u.vm.Alike U.vm) (h : ZM t A u H) : ZM t A U H := ⟨h.1.moved hvm, h.2.moved hvm⟩
theorem ZM.kept {t : Nat} {A : Nat → Prop} {U : State} {H H1 : Heap} (h : ZM t A U H) (hq : ∀ a : Nat, a < H.size → ¬ A a → H1[a]? = H[a]?) : ZM t A U H1 := ⟨h.1.kept hq, h.2.kept hq⟩
theorem ZM.narrow {t : Nat} {A B : Nat → Prop} {U : State} {H : Heap} (h : ZM t A U H) (hAB : ∀ q, B q → A q) : ZM t B U H := ⟨h.1.narrow hAB, h.2.narrow hAB⟩
def PSt (D : va_G) (tys : List (ClassId × FieldType)) (w0 : va_W) (sz t : Nat) (av : List Value) : Array Value → State → Prop := va_Pc av (fun U => U.heap.size = sz ∧ va_P D vwCl w0 U.heap ∧ va_K D vwCl tys U ∧ va_D (fun _ => True) w0 ∧ NN U ∧ ZM t (va_A w0 sz) U U.heap)
def CtS (l : Launch) (y : MethodName) (b : ByteArray) (n : Nat) (rt : Option FieldType) (fr : Nat) (D : va_G) (tys : List (ClassId × FieldType)) (t : Nat) (av : List Value) (w0 : va_W) (post : Int32 → va_W → Prop) : Prop :=
  ∀ sz : Nat, Met l y (Cond.code y b n rt :: BW) (rmN fr) (PSt D tys w0 sz t av) (va_Qi post (Bw D w0) (va_A w0 sz)) 0 0 (va_A w0 sz)
theorem PSt.blind {D : va_G} {tys : List (ClassId × FieldType)} {w0 : va_W} {sz t : Nat} {av : List Value} : FrameBlind (PSt D tys w0 sz t av) := by
  intro a U g mk q
  obtain ⟨q0, q1, qP, qK, qD, qN, qZ⟩ := q
  exact ⟨q0, q1, qP, va_K.moved (u := U) (U := U.calling g mk a) (Vm.Alike.refl U.vm) qK, qD, NN.same rfl qN, ZM.moved (u := U) (U := U.calling g mk a) (Vm.Alike.refl U.vm) qZ⟩
theorem CtS.of {l : Launch} {y : MethodName} {b : ByteArray} {n : Nat} {ty : FieldType} {fr : Nat} {D : va_G} {tys : List (ClassId × FieldType)} {t : Nat} {av : List Value} {w0 : va_W} {post : Int32 → va_W → Prop} (hy : plainName y.cls = true) (hlen : (lg_sl av).length ≤ n)
    (h : ∀ (p : Program) (e : Env) (s : State) (m : MethodId) (args : Array Value) (below : List Frame) (meth : Method) (c : Code) (ls : Array Slot) (Q : State → Prop) (A : Nat → Prop), CallFix p m c b n s args BW y.cls →
      (∀ (H : Heap) (locs : List Loc) (pc : Nat) (ls : Array Slot) (v : Int32) (w1 : va_W), AtC D tys A w1 s H locs → w1.map Prod.fst = w0.map Prod.fst → narrow ty (.int v) = .int v → decode b pc = .ok (.ireturn, 1) → post v w1 → W p l e (rmN fr) s m args below meth c H locs 0 0 Q (F0 m pc ls [.int v])) →
      AtC D tys A w0 s s.heap [] → lv_has ls n (lv_args 0 av) → ZM t A s s.heap → W p l e (rmN fr) s m args below meth c s.heap [] 0 0 Q (F0 m 0 ls [])) : CtS l y b n (some ty) fr D tys t av w0 post := by
  intro sz
  refine Met.ofW (cc := b) (maxL := n) (ret := some ty) hy rfl ?_
  intro p e s m args below meth c s₁ B hml hv
  obtain ⟨rfl, hsz, hP, hK, hD, hN, hZ⟩ := hv
  have hts := atoms_spec (ws := Cond.code y b n (some ty) :: BW) B.pre
  have hown : s.vm.findClass y.cls = some m.cls := findClass_of_methodNamed B.named
  rw [lg_entry_eq]
  subst hsz
  exact h p e s m _ below meth c _ _ _ ⟨B.exec, B.bytes, hml, hown, fun w hw => hts w (List.mem_cons_of_mem _ hw)⟩ (fun H locs pc ls v w1 hW hf hn hdg hp => W.zret B.exec B.bytes B.returns hn (fun t ht _ => ⟨⟨v, w1, rfl, hp, by rw [ht]; exact hW.2.2.1, hf⟩, hW.2.2.2.2.1.F ht⟩) hW.2.2.2.2.1.2.2 hdg B.notSynchronized) ⟨hN, hK, hP, hD.self, va_S.rf, fun q h => Or.inr h⟩ (lv_entry av hlen) hZ
section OWN2
variable {p : Program} {l : Launch} {e : Env} {R : Room} {s : State} {m : MethodId} {args : Array Value} {below : List Frame} {meth : Method} {c : Code} {H : Heap} {locs : List Loc} {cells slots : Nat} {Q : State → Prop}
variable {cc : ByteArray} {nL pc : Nat} {ls : Array Slot} {rest : List Value} {D : va_G} {A : Nat → Prop} {a : Nat} {tys : List (ClassId × FieldType)} {ws : va_W} {own : String}
theorem AtC.preS {wc : va_W} {av : List Value} {t : Nat} (h : AtC D tys A ws s H locs) (hZ : ZM t A s s.heap) (isC : List Nat) (hC : isC.map (fun i => ws[i]?) = wc.map some) (hn : isC.Nodup) : ∀ U : State, U.heap = H → s.WarmedH U.vm → PSt D tys wc H.size t av av.toArray U := by
  obtain ⟨h1, h2, h3⟩ := h.cut isC hC hn
  obtain ⟨hN, hK, hP, hD, hS, hA⟩ := h
  exact fun U hU hW => ⟨rfl, by rw [hU], by rw [hU]; exact h1, va_K.moved hW.alike hK, h2, hN.warm hW, by rw [hU]; exact ((hZ.kept (fun a ha hna => hS.2.1 a ha hna)).moved hW.alike).narrow h3⟩
theorem callVS (S : CallFix p m c cc nL s args BW own) (hW : AtC D tys A ws s H locs) {t : Nat} (hZ : ZM t A s s.heap) {y : MethodName} {b : ByteArray} {n : Nat} {rt : Option FieldType} {fr b0 : Nat} {As : List Value} {wc : va_W} {post : Int32 → va_W → Prop} (hM : CtS l y b n rt fr D tys t (.ref b0 :: As) wc post) {C : String} {k : Nat} (hV : VM C y b n rt k) {idx : Nat} (hl : Cond.methodLink own idx y ∈ BW) (isC : List Nat) (hC : isC.map (fun i => ws[i]?) = wc.map some) (hn : isC.Nodup) (q0 : Nat) {ci : Nat} {T : u_T} {N : Nat} {fs : List Value} (hc : vwCl[ci]? = some (C, T, N)) (he : wc[q0]? = some (b0, .inr (ci, fs)))
    (hk : As.length = k) {st : List Value} (hst : st = As.reverse ++ .ref b0 :: rest) (hsz : ls.size = nL) (hro : (rest.map fun v => v.category).sum ≤ 8) (hR : fr + 1 ≤ R.frames ∧ 8 + (n + 11) + 40 * fr ≤ R.locals) (hf : cells ≤ R.cells ∧ slots ≤ R.slots) (hdg : decode cc pc = .ok (.invokevirtual idx, 3))
    (kk : ∀ (r : Int32) (w1 : va_W) (H1 : Heap) (locs1 : List Loc), post r w1 → AtC D tys A (putW ws isC w1) s H1 locs1 → W p l e R s m args below meth c H1 locs1 cells slots Q (F0 m (pc + 3) ls (.int r :: rest))) : W p l e R s m args below meth c H locs cells slots Q (F0 m pc ls st) := by
  subst hst
  obtain ⟨hPc, hDc, hFc⟩ := hW.cut isC hC hn
  have hpre := hW.preS (av := .ref b0 :: As) hZ isC hC hn
  obtain ⟨hN, hK, hP, hD, hS, hA⟩ := hW
  obtain ⟨v1, v2, v3, v4, v5, v6, v7, v8⟩ := hV
  refine va_calli (va_runV (As := As) (rest := rest) S (hM H.size) (cwV (ws' := BW) k S.2.2.2.2 (giB (fun w hw => by
    unfold wsV at hw
    rcases List.mem_append.mp hw with h | h
    · simp at h
      rcases h with rfl | rfl | rfl | rfl
      · exact hl
      · exact v1
      · exact v2
      · exact v3
    · exact (List.mem_cons.mp h).elim (fun e => by rw [e]; exact v4) id)) rfl rfl rfl ⟨v5, v6, v7, v8⟩ hR) ⟨PSt.blind, va_recv hK hPc hc he, hpre⟩ rfl hk hsz rfl (lv_room hro) hdg ⟨by simpa using hf.1, by simpa using hf.2⟩) hS (fun q _ h => hFc q h) hFc (fun r u t H1 locs1 ht hvm hw hB hz1 hk1 hS1 => ?_)
  obtain ⟨hP1, hf1⟩ := hB
  rw [ht] at hP1
  obtain ⟨g1, g2⟩ := putW_P hP hD isC hC hn hk1 hP1 hf1
  exact kk r u H1 locs1 hw ⟨hN, hK, g1, my_Dc g2 hD, hS1, hA⟩
end OWN2
theorem raC_0 (N : Nat) (V : NV) (P : Nat) : raC N V 0 P = V 1 P := by unfold raC; rw [if_pos rfl]
theorem raC_1 (N : Nat) (V : NV) (P : Nat) : raC N V 1 P = V 1 P + fmI (V 0) (V 2) N (V 3 1) P := by unfold raC; rw [if_neg (by decide), if_pos rfl]
theorem raC_2 (N : Nat) (V : NV) (P : Nat) : raC N V 2 P = V 1 P - txI (V 0) (V 1) N (V 3 1) P (V 0 P) := by unfold raC; rw [if_neg (by decide), if_neg (by decide), if_pos rfl]
theorem raC_3 (N : Nat) (V : NV) (P : Nat) : raC N V 3 P = 2 * (V 1 P + fmI (V 0) (V 2) N (V 3 1) P) := by unfold raC; rw [if_neg (by decide), if_neg (by decide), if_neg (by decide), if_pos rfl]
theorem raC_4 (N : Nat) (V : NV) (P : Nat) : raC N V 4 P = V 1 P - txI (V 0) (V 1) N (V 3 1) P (V 0 P) + nI P := by unfold raC; rw [if_neg (by decide), if_neg (by decide), if_neg (by decide), if_neg (by decide), if_pos rfl]
theorem raC_5 (N : Nat) (V : NV) (P : Nat) : raC N V 5 P = V 1 P + V 3 3 := by unfold raC; rw [if_neg (by decide), if_neg (by decide), if_neg (by decide), if_neg (by decide), if_neg (by decide)]

set_option maxHeartbeats 4000000 in
set_option maxRecDepth 100000 in
theorem c_X8_rateAs_0 (l : Launch) (D : va_G) (cI cZ cN : ClassId) (a : Nat → Nat) (T Q Ld Vd L V S : NV) (R : Nat → NV) (C1 C2 Rn Wd : NV) (Im : Nat → NV) (K : NV) (tr : Int64) (z N C k y z1 z2 : Nat) (hz : T 1 0 = nI z) (hz2 : z ≤ 200) (hN : L 3 1 = nI N) (hN7 : N ≤ 7) (hC : L 3 0 = nI C) (hC4 : C ≤ 4) (hC1 : 1 ≤ C) (hk : S 0 0 = nI k) (hk10 : k < 10) (hy : S 0 1 = nI y) (hy10 : y ≤ 10) (hc1 : C1 2 0 = nI z1) (hz16 : z1 ≤ 6) (hc2 : C2 2 0 = nI z2) (hz26 : z2 ≤ 6) (t : Nat) (P : Nat) (hP : P < N) : CtS l yX8_rateAs cX8_rateAs 3 (some .int) 1 D (tyG cI cZ cN) t [.ref (a 0), .int (0 : Int32), .int (nI P)] (pOne cI cZ cN a T Q Ld Vd L V S R C1 C2 Rn Wd Im K tr) (fun r w => r = raC N V 0 P ∧ w = (pOne cI cZ cN a T Q Ld Vd L V S R C1 C2 Rn Wd Im K (tr + raT 0))) := by
  refine CtS.of rfl (Nat.le_of_ble_eq_true rfl) ?_
  intro pg ev sx mx ax bx mt cx ls Qx Ax Sx hret hW hl hZ
  have hx := Sx.1
  have hb := Sx.2.1
  have hl : lv_has ls 3 [(0, .ref (a 0)), (1, .int (0 : Int32)), (2, .int (nI P))] := hl
  obtain ⟨c6, hc6⟩ : ∃ x : Int64, x = (1 : Int32).toInt64 := ⟨_, rfl⟩
  refine lv_aload_n hx hb dX8_rateAs_0 rfl (lv_at hl 0 rfl) ?_
  refine lv_dup hx hb dX8_rateAs_1 rfl ?_
  refine r_get Sx hW 0 rfl rfl bw_wsX80 10 (by decide) (v := .long tr) rfl mw45 dX8_rateAs_2 ?_
  refine va_gets hx hb hZ.1 hW.2.2.2.2.1 Sx.2.2.2.1 (Sx.2.2.2.2 _ mw790) (fun _ h => h) dX8_rateAs_5 ?_
  refine lv_iload_n hx hb dX8_rateAs_8 rfl (lv_at hl 1 rfl) ?_
  refine va_ti hx hb hZ.2 hW.2.2.2.2.1 (i := (0 : Int32)) (vp_in_nI (n := 0) (N := 6) (by decide) (by decide)) (v := .int (1 : Int32)) (congrArg Value.int (show mkV (Int32.toNatClampNeg 0) = 1 from by decide +kernel)) dX8_rateAs_9 ?_
  refine lv_i2l (v := c6) hx hb dX8_rateAs_10 hc6.symm ?_
  refine lv_ladd hx hb dX8_rateAs_11 ?_
  refine r_put Sx hW 0 rfl rfl bw_wsX80 tyX8_ok nmX8 10 (by decide) mw45 rfl rfl rfl (Nat.le_of_ble_eq_true rfl) dX8_rateAs_12 (ws' := (pOne cI cZ cN a T Q Ld Vd L V S R C1 C2 Rn Wd Im K (tr + c6))) rfl (fun H locs hW => ?_)
  refine lv_iload_n hx hb dX8_rateAs_15 rfl (lv_at hl 1 rfl) ?_
  refine lv_tableOut (tgt := 120) hx hb dX8_rateAs_16 (by decide) rfl ?_
  refine lv_aload_n hx hb dX8_rateAs_120 rfl (lv_at hl 0 rfl) ?_
  refine r_get Sx hW 0 rfl rfl bw_wsX80 2 (by decide) (v := .ref (a 12)) rfl mw23 dX8_rateAs_121 ?_
  refine r_get Sx hW 12 rfl rfl bw_wsX10 3 (by decide) (v := .ref (a 16)) rfl mw291 dX8_rateAs_124 ?_
  refine r_get Sx hW 16 rfl rfl bw_wsX20 1 (by decide) (v := .ref (a 18)) rfl mw293 dX8_rateAs_127 ?_
  refine lv_iload_n hx hb dX8_rateAs_130 rfl (lv_at hl 2 rfl) ?_
  refine r_iald Sx hW 18 0 rfl rfl (j := P) rfl (by omega) (by decide) dX8_rateAs_131 ?_
  exact hret _ _ _ _ _ _ hW rfl rfl dX8_rateAs_132 (⟨(raC_0 N V P).symm, by rw [hc6, show (1 : Int32).toInt64 = raT 0 from by decide +kernel]⟩)

set_option maxHeartbeats 4000000 in
set_option maxRecDepth 100000 in
theorem c_X8_rateAs_1 (l : Launch) (D : va_G) (cI cZ cN : ClassId) (a : Nat → Nat) (T Q Ld Vd L V S : NV) (R : Nat → NV) (C1 C2 Rn Wd : NV) (Im : Nat → NV) (K : NV) (tr : Int64) (z N C k y z1 z2 : Nat) (hz : T 1 0 = nI z) (hz2 : z ≤ 200) (hN : L 3 1 = nI N) (hN7 : N ≤ 7) (hC : L 3 0 = nI C) (hC4 : C ≤ 4) (hC1 : 1 ≤ C) (hk : S 0 0 = nI k) (hk10 : k < 10) (hy : S 0 1 = nI y) (hy10 : y ≤ 10) (hc1 : C1 2 0 = nI z1) (hz16 : z1 ≤ 6) (hc2 : C2 2 0 = nI z2) (hz26 : z2 ≤ 6) (t : Nat) (P : Nat) (hP : P < N) : CtS l yX8_rateAs cX8_rateAs 3 (some .int) 4 D (tyG cI cZ cN) t [.ref (a 0), .int (1 : Int32), .int (nI P)] (pOne cI cZ cN a T Q Ld Vd L V S R C1 C2 Rn Wd Im K tr) (fun r w => r = raC N V 1 P ∧ w = (pOne cI cZ cN a T Q Ld Vd L V S R C1 C2 Rn Wd Im K (tr + raT 1))) := by
  refine CtS.of rfl (Nat.le_of_ble_eq_true rfl) ?_
  intro pg ev sx mx ax bx mt cx ls Qx Ax Sx hret hW hl hZ
  have hx := Sx.1
  have hb := Sx.2.1
  have hl : lv_has ls 3 [(0, .ref (a 0)), (1, .int (1 : Int32)), (2, .int (nI P))] := hl
  obtain ⟨c6, hc6⟩ : ∃ x : Int64, x = (10 : Int32).toInt64 := ⟨_, rfl⟩
  refine lv_aload_n hx hb dX8_rateAs_0 rfl (lv_at hl 0 rfl) ?_
  refine lv_dup hx hb dX8_rateAs_1 rfl ?_
  refine r_get Sx hW 0 rfl rfl bw_wsX80 10 (by decide) (v := .long tr) rfl mw45 dX8_rateAs_2 ?_
  refine va_gets hx hb hZ.1 hW.2.2.2.2.1 Sx.2.2.2.1 (Sx.2.2.2.2 _ mw790) (fun _ h => h) dX8_rateAs_5 ?_
  refine lv_iload_n hx hb dX8_rateAs_8 rfl (lv_at hl 1 rfl) ?_
  refine va_ti hx hb hZ.2 hW.2.2.2.2.1 (i := (1 : Int32)) (vp_in_nI (n := 1) (N := 6) (by decide) (by decide)) (v := .int (10 : Int32)) (congrArg Value.int (show mkV (Int32.toNatClampNeg 1) = 10 from by decide +kernel)) dX8_rateAs_9 ?_
  refine lv_i2l (v := c6) hx hb dX8_rateAs_10 hc6.symm ?_
  refine lv_ladd hx hb dX8_rateAs_11 ?_
  refine r_put Sx hW 0 rfl rfl bw_wsX80 tyX8_ok nmX8 10 (by decide) mw45 rfl rfl rfl (Nat.le_of_ble_eq_true rfl) dX8_rateAs_12 (ws' := (pOne cI cZ cN a T Q Ld Vd L V S R C1 C2 Rn Wd Im K (tr + c6))) rfl (fun H locs hW => ?_)
  refine lv_iload_n hx hb dX8_rateAs_15 rfl (lv_at hl 1 rfl) ?_
  refine lv_tableIn (off := 36) (tgt := 52) hx hb dX8_rateAs_16 (by decide) (by decide) rfl rfl ?_
  refine lv_aload_n hx hb dX8_rateAs_52 rfl (lv_at hl 0 rfl) ?_
  refine lv_iconst (v := (0 : Int32)) hx hb dX8_rateAs_53 rfl ?_
  refine lv_iload_n hx hb dX8_rateAs_54 rfl (lv_at hl 2 rfl) ?_
  obtain ⟨c7, hc7, hc8⟩ : ∃ x : Int64, x = (tr + c6) + raT 0 ∧ x = (tr + c6) + raT (nI 0) := ⟨_, rfl, rfl⟩
  refine callVS Sx hW hZ (c_X8_rateAs_0 l D cI cZ cN a T Q Ld Vd L V S R C1 C2 Rn Wd Im K (tr + c6) z N C k y z1 z2 hz hz2 hN hN7 hC hC4 hC1 hk hk10 hy hy10 hc1 hz16 hc2 hz26 t P hP) vmX8_rateAs mw786 [0, 1, 2, 3, 4, 5, 6, 7, 8, 9, 10, 11, 12, 13, 14, 15, 16, 17, 18, 19, 20, 21, 22, 23, 24, 25, 26, 27, 28, 29, 30, 31, 32, 33, 34, 35, 36, 37, 38, 39, 40, 41, 42, 43, 44, 45, 46, 47, 48, 49, 50, 51, 52, 53, 54, 55, 56, 57, 58, 59, 60, 61, 62, 63, 64, 65, 66, 67, 68, 69, 70, 71, 72, 73, 74, 75, 76, 77, 78, 79, 80, 81, 82, 83] rfl (by decide) 0 rfl rfl (As := [.int (0 : Int32), .int (nI P)]) (rest := []) rfl rfl hl.1 (Nat.le_of_ble_eq_true rfl) ⟨Nat.le_of_ble_eq_true rfl, Nat.le_of_ble_eq_true rfl⟩ ⟨Nat.le_refl _, Nat.le_refl _⟩ dX8_rateAs_55 (fun rx wx H locs hqx hW => ?_)
  obtain ⟨hrx, rfl⟩ := hqx
  rw [← hc7] at hW
  have hW : AtC D (tyG cI cZ cN) Ax (pOne cI cZ cN a T Q Ld Vd L V S R C1 C2 Rn Wd Im K c7) sx H locs := hW.re [] 84 (by decide) rfl rfl trivial (by decide +kernel) rfl rfl
  refine r_eq (y := (raC N V 0 P)) hrx ?_
  refine lv_aload_n hx hb dX8_rateAs_58 rfl (lv_at hl 0 rfl) ?_
  refine r_get Sx hW 0 rfl rfl bw_wsX80 2 (by decide) (v := .ref (a 12)) rfl mw23 dX8_rateAs_59 ?_
  refine lv_iload_n hx hb dX8_rateAs_62 rfl (lv_at hl 2 rfl) ?_
  refine callVI Sx hW (c_X1_fame l D cI cZ cN (fun i => a (i + 12)) L V P N C hN hN7 hC hC4 hC1 (by omega)) vmX1_fame mw316 [12, 13, 14, 15, 16, 17, 18, 19] rfl (by decide) 0 rfl rfl (As := [.int (nI P)]) (rest := [.int (raC N V 0 P)]) rfl rfl hl.1 (Nat.le_of_ble_eq_true rfl) ⟨Nat.le_of_ble_eq_true rfl, Nat.le_of_ble_eq_true rfl⟩ ⟨Nat.le_refl _, Nat.le_refl _⟩ dX8_rateAs_63 (fun rx wx H locs hqx hW => ?_)
  obtain ⟨hrx, rfl⟩ := hqx
  have hW : AtC D (tyG cI cZ cN) Ax (pOne cI cZ cN a T Q Ld Vd L V S R C1 C2 Rn Wd Im K c7) sx H locs := hW.re [0, 1, 2, 3, 4, 5, 6, 7, 8, 9, 10, 11, 20, 21, 22, 23, 24, 25, 26, 27, 28, 29, 30, 31, 32, 33, 34, 35, 36, 37, 38, 39, 40, 41, 42, 43, 44, 45, 46, 47, 48, 49, 50, 51, 52, 53, 54, 55, 56, 57, 58, 59, 60, 61, 62, 63, 64, 65, 66, 67, 68, 69, 70, 71, 72, 73, 74, 75, 76, 77, 78, 79, 80, 81, 82, 83] 84 (by decide) rfl rfl ⟨rfl, rfl, rfl, rfl, rfl, rfl, rfl, rfl, rfl, rfl, rfl, rfl, rfl, rfl, rfl, rfl, rfl, rfl, rfl, rfl, rfl, rfl, rfl, rfl, rfl, rfl, rfl, rfl, rfl, rfl, rfl, rfl, rfl, rfl, rfl, rfl, rfl, rfl, rfl, rfl, rfl, rfl, rfl, rfl, rfl, rfl, rfl, rfl, rfl, rfl, rfl, rfl, rfl, rfl, rfl, rfl, rfl, rfl, rfl, rfl, rfl, rfl, rfl, rfl, rfl, rfl, rfl, rfl, rfl, rfl, rfl, rfl, rfl, rfl, rfl, rfl, trivial⟩ (by decide +kernel) rfl rfl
  refine r_eq (y := (fmI (V 0) (V 2) (N) (V 3 1) (P))) hrx ?_
  refine lv_iadd hx hb dX8_rateAs_66 ?_
  exact hret _ _ _ _ _ _ hW rfl rfl dX8_rateAs_67 (⟨by rw [raC_0, raC_1], by rw [hc7, Int64.add_assoc, hc6, show (10 : Int32).toInt64 + raT 0 = raT 1 from by decide +kernel]⟩)

set_option maxHeartbeats 4000000 in
set_option maxRecDepth 100000 in
theorem c_X8_rateAs_2 (l : Launch) (D : va_G) (cI cZ cN : ClassId) (a : Nat → Nat) (T Q Ld Vd L V S : NV) (R : Nat → NV) (C1 C2 Rn Wd : NV) (Im : Nat → NV) (K : NV) (tr : Int64) (z N C k y z1 z2 : Nat) (hz : T 1 0 = nI z) (hz2 : z ≤ 200) (hN : L 3 1 = nI N) (hN7 : N ≤ 7) (hC : L 3 0 = nI C) (hC4 : C ≤ 4) (hC1 : 1 ≤ C) (hk : S 0 0 = nI k) (hk10 : k < 10) (hy : S 0 1 = nI y) (hy10 : y ≤ 10) (hc1 : C1 2 0 = nI z1) (hz16 : z1 ≤ 6) (hc2 : C2 2 0 = nI z2) (hz26 : z2 ≤ 6) (t : Nat) (P : Nat) (hP : P < N) : CtS l yX8_rateAs cX8_rateAs 3 (some .int) 6 D (tyG cI cZ cN) t [.ref (a 0), .int (2 : Int32), .int (nI P)] (pOne cI cZ cN a T Q Ld Vd L V S R C1 C2 Rn Wd Im K tr) (fun r w => r = raC N V 2 P ∧ w = (pOne cI cZ cN a T Q Ld Vd L V S R C1 C2 Rn Wd Im K (tr + raT 2))) := by
  refine CtS.of rfl (Nat.le_of_ble_eq_true rfl) ?_
  intro pg ev sx mx ax bx mt cx ls Qx Ax Sx hret hW hl hZ
  have hx := Sx.1
  have hb := Sx.2.1
  have hl : lv_has ls 3 [(0, .ref (a 0)), (1, .int (2 : Int32)), (2, .int (nI P))] := hl
  obtain ⟨c6, hc6⟩ : ∃ x : Int64, x = (100 : Int32).toInt64 := ⟨_, rfl⟩
  refine lv_aload_n hx hb dX8_rateAs_0 rfl (lv_at hl 0 rfl) ?_
  refine lv_dup hx hb dX8_rateAs_1 rfl ?_
  refine r_get Sx hW 0 rfl rfl bw_wsX80 10 (by decide) (v := .long tr) rfl mw45 dX8_rateAs_2 ?_
  refine va_gets hx hb hZ.1 hW.2.2.2.2.1 Sx.2.2.2.1 (Sx.2.2.2.2 _ mw790) (fun _ h => h) dX8_rateAs_5 ?_
  refine lv_iload_n hx hb dX8_rateAs_8 rfl (lv_at hl 1 rfl) ?_
  refine va_ti hx hb hZ.2 hW.2.2.2.2.1 (i := (2 : Int32)) (vp_in_nI (n := 2) (N := 6) (by decide) (by decide)) (v := .int (100 : Int32)) (congrArg Value.int (show mkV (Int32.toNatClampNeg 2) = 100 from by decide +kernel)) dX8_rateAs_9 ?_
  refine lv_i2l (v := c6) hx hb dX8_rateAs_10 hc6.symm ?_
  refine lv_ladd hx hb dX8_rateAs_11 ?_
  refine r_put Sx hW 0 rfl rfl bw_wsX80 tyX8_ok nmX8 10 (by decide) mw45 rfl rfl rfl (Nat.le_of_ble_eq_true rfl) dX8_rateAs_12 (ws' := (pOne cI cZ cN a T Q Ld Vd L V S R C1 C2 Rn Wd Im K (tr + c6))) rfl (fun H locs hW => ?_)
  refine lv_iload_n hx hb dX8_rateAs_15 rfl (lv_at hl 1 rfl) ?_
  refine lv_tableIn (off := 52) (tgt := 68) hx hb dX8_rateAs_16 (by decide) (by decide) rfl rfl ?_
  refine lv_aload_n hx hb dX8_rateAs_68 rfl (lv_at hl 0 rfl) ?_
  refine lv_iconst (v := (0 : Int32)) hx hb dX8_rateAs_69 rfl ?_
  refine lv_iload_n hx hb dX8_rateAs_70 rfl (lv_at hl 2 rfl) ?_
  obtain ⟨c7, hc7, hc8⟩ : ∃ x : Int64, x = (tr + c6) + raT 0 ∧ x = (tr + c6) + raT (nI 0) := ⟨_, rfl, rfl⟩
  refine callVS Sx hW hZ (c_X8_rateAs_0 l D cI cZ cN a T Q Ld Vd L V S R C1 C2 Rn Wd Im K (tr + c6) z N C k y z1 z2 hz hz2 hN hN7 hC hC4 hC1 hk hk10 hy hy10 hc1 hz16 hc2 hz26 t P hP) vmX8_rateAs mw786 [0, 1, 2, 3, 4, 5, 6, 7, 8, 9, 10, 11, 12, 13, 14, 15, 16, 17, 18, 19, 20, 21, 22, 23, 24, 25, 26, 27, 28, 29, 30, 31, 32, 33, 34, 35, 36, 37, 38, 39, 40, 41, 42, 43, 44, 45, 46, 47, 48, 49, 50, 51, 52, 53, 54, 55, 56, 57, 58, 59, 60, 61, 62, 63, 64, 65, 66, 67, 68, 69, 70, 71, 72, 73, 74, 75, 76, 77, 78, 79, 80, 81, 82, 83] rfl (by decide) 0 rfl rfl (As := [.int (0 : Int32), .int (nI P)]) (rest := []) rfl rfl hl.1 (Nat.le_of_ble_eq_true rfl) ⟨Nat.le_of_ble_eq_true rfl, Nat.le_of_ble_eq_true rfl⟩ ⟨Nat.le_refl _, Nat.le_refl _⟩ dX8_rateAs_71 (fun rx wx H locs hqx hW => ?_)
  obtain ⟨hrx, rfl⟩ := hqx
  rw [← hc7] at hW
  have hW : AtC D (tyG cI cZ cN) Ax (pOne cI cZ cN a T Q Ld Vd L V S R C1 C2 Rn Wd Im K c7) sx H locs := hW.re [] 84 (by decide) rfl rfl trivial (by decide +kernel) rfl rfl
  refine r_eq (y := (raC N V 0 P)) hrx ?_
  refine lv_aload_n hx hb dX8_rateAs_74 rfl (lv_at hl 0 rfl) ?_
  refine r_get Sx hW 0 rfl rfl bw_wsX80 2 (by decide) (v := .ref (a 12)) rfl mw23 dX8_rateAs_75 ?_
  refine lv_iload_n hx hb dX8_rateAs_78 rfl (lv_at hl 2 rfl) ?_
  refine callVI Sx hW (c_X1_tax l D cI cZ cN (fun i => a (i + 12)) L V P N C hN hN7 hC hC4 hC1 (by omega)) vmX1_tax mw320 [12, 13, 14, 15, 16, 17, 18, 19] rfl (by decide) 0 rfl rfl (As := [.int (nI P)]) (rest := [.int (raC N V 0 P)]) rfl rfl hl.1 (Nat.le_of_ble_eq_true rfl) ⟨Nat.le_of_ble_eq_true rfl, Nat.le_of_ble_eq_true rfl⟩ ⟨Nat.le_refl _, Nat.le_refl _⟩ dX8_rateAs_79 (fun rx wx H locs hqx hW => ?_)
  obtain ⟨hrx, rfl⟩ := hqx
  have hW : AtC D (tyG cI cZ cN) Ax (pOne cI cZ cN a T Q Ld Vd L V S R C1 C2 Rn Wd Im K c7) sx H locs := hW.re [0, 1, 2, 3, 4, 5, 6, 7, 8, 9, 10, 11, 20, 21, 22, 23, 24, 25, 26, 27, 28, 29, 30, 31, 32, 33, 34, 35, 36, 37, 38, 39, 40, 41, 42, 43, 44, 45, 46, 47, 48, 49, 50, 51, 52, 53, 54, 55, 56, 57, 58, 59, 60, 61, 62, 63, 64, 65, 66, 67, 68, 69, 70, 71, 72, 73, 74, 75, 76, 77, 78, 79, 80, 81, 82, 83] 84 (by decide) rfl rfl ⟨rfl, rfl, rfl, rfl, rfl, rfl, rfl, rfl, rfl, rfl, rfl, rfl, rfl, rfl, rfl, rfl, rfl, rfl, rfl, rfl, rfl, rfl, rfl, rfl, rfl, rfl, rfl, rfl, rfl, rfl, rfl, rfl, rfl, rfl, rfl, rfl, rfl, rfl, rfl, rfl, rfl, rfl, rfl, rfl, rfl, rfl, rfl, rfl, rfl, rfl, rfl, rfl, rfl, rfl, rfl, rfl, rfl, rfl, rfl, rfl, rfl, rfl, rfl, rfl, rfl, rfl, rfl, rfl, rfl, rfl, rfl, rfl, rfl, rfl, rfl, rfl, trivial⟩ (by decide +kernel) rfl rfl
  refine r_eq (y := (txI (V 0) (V 1) (N) (V 3 1) (P) (V 0 (P)))) hrx ?_
  refine lv_isub hx hb dX8_rateAs_82 ?_
  exact hret _ _ _ _ _ _ hW rfl rfl dX8_rateAs_83 (⟨by rw [raC_0, raC_2], by rw [hc7, Int64.add_assoc, hc6, show (100 : Int32).toInt64 + raT 0 = raT 2 from by decide +kernel]⟩)

set_option maxHeartbeats 4000000 in
set_option maxRecDepth 100000 in
theorem c_X8_rateAs_5 (l : Launch) (D : va_G) (cI cZ cN : ClassId) (a : Nat → Nat) (T Q Ld Vd L V S : NV) (R : Nat → NV) (C1 C2 Rn Wd : NV) (Im : Nat → NV) (K : NV) (tr : Int64) (z N C k y z1 z2 : Nat) (hz : T 1 0 = nI z) (hz2 : z ≤ 200) (hN : L 3 1 = nI N) (hN7 : N ≤ 7) (hC : L 3 0 = nI C) (hC4 : C ≤ 4) (hC1 : 1 ≤ C) (hk : S 0 0 = nI k) (hk10 : k < 10) (hy : S 0 1 = nI y) (hy10 : y ≤ 10) (hc1 : C1 2 0 = nI z1) (hz16 : z1 ≤ 6) (hc2 : C2 2 0 = nI z2) (hz26 : z2 ≤ 6) (t : Nat) (P : Nat) (hP : P < N) : CtS l yX8_rateAs cX8_rateAs 3 (some .int) 4 D (tyG cI cZ cN) t [.ref (a 0), .int (5 : Int32), .int (nI P)] (pOne cI cZ cN a T Q Ld Vd L V S R C1 C2 Rn Wd Im K tr) (fun r w => r = raC N V 5 P ∧ w = (pOne cI cZ cN a T Q Ld Vd L V S R C1 C2 Rn Wd Im K (tr + raT 5))) := by
  refine CtS.of rfl (Nat.le_of_ble_eq_true rfl) ?_
  intro pg ev sx mx ax bx mt cx ls Qx Ax Sx hret hW hl hZ
  have hx := Sx.1
  have hb := Sx.2.1
  have hl : lv_has ls 3 [(0, .ref (a 0)), (1, .int (5 : Int32)), (2, .int (nI P))] := hl
  obtain ⟨c6, hc6⟩ : ∃ x : Int64, x = (100000 : Int32).toInt64 := ⟨_, rfl⟩
  refine lv_aload_n hx hb dX8_rateAs_0 rfl (lv_at hl 0 rfl) ?_
  refine lv_dup hx hb dX8_rateAs_1 rfl ?_
  refine r_get Sx hW 0 rfl rfl bw_wsX80 10 (by decide) (v := .long tr) rfl mw45 dX8_rateAs_2 ?_
  refine va_gets hx hb hZ.1 hW.2.2.2.2.1 Sx.2.2.2.1 (Sx.2.2.2.2 _ mw790) (fun _ h => h) dX8_rateAs_5 ?_
  refine lv_iload_n hx hb dX8_rateAs_8 rfl (lv_at hl 1 rfl) ?_
  refine va_ti hx hb hZ.2 hW.2.2.2.2.1 (i := (5 : Int32)) (vp_in_nI (n := 5) (N := 6) (by decide) (by decide)) (v := .int (100000 : Int32)) (congrArg Value.int (show mkV (Int32.toNatClampNeg 5) = 100000 from by decide +kernel)) dX8_rateAs_9 ?_
  refine lv_i2l (v := c6) hx hb dX8_rateAs_10 hc6.symm ?_
  refine lv_ladd hx hb dX8_rateAs_11 ?_
  refine r_put Sx hW 0 rfl rfl bw_wsX80 tyX8_ok nmX8 10 (by decide) mw45 rfl rfl rfl (Nat.le_of_ble_eq_true rfl) dX8_rateAs_12 (ws' := (pOne cI cZ cN a T Q Ld Vd L V S R C1 C2 Rn Wd Im K (tr + c6))) rfl (fun H locs hW => ?_)
  refine lv_iload_n hx hb dX8_rateAs_15 rfl (lv_at hl 1 rfl) ?_
  refine lv_tableIn (off := 86) (tgt := 102) hx hb dX8_rateAs_16 (by decide) (by decide) rfl rfl ?_
  refine lv_aload_n hx hb dX8_rateAs_102 rfl (lv_at hl 0 rfl) ?_
  refine lv_iconst (v := (0 : Int32)) hx hb dX8_rateAs_103 rfl ?_
  refine lv_iload_n hx hb dX8_rateAs_104 rfl (lv_at hl 2 rfl) ?_
  obtain ⟨c7, hc7, hc8⟩ : ∃ x : Int64, x = (tr + c6) + raT 0 ∧ x = (tr + c6) + raT (nI 0) := ⟨_, rfl, rfl⟩
  refine callVS Sx hW hZ (c_X8_rateAs_0 l D cI cZ cN a T Q Ld Vd L V S R C1 C2 Rn Wd Im K (tr + c6) z N C k y z1 z2 hz hz2 hN hN7 hC hC4 hC1 hk hk10 hy hy10 hc1 hz16 hc2 hz26 t P hP) vmX8_rateAs mw786 [0, 1, 2, 3, 4, 5, 6, 7, 8, 9, 10, 11, 12, 13, 14, 15, 16, 17, 18, 19, 20, 21, 22, 23, 24, 25, 26, 27, 28, 29, 30, 31, 32, 33, 34, 35, 36, 37, 38, 39, 40, 41, 42, 43, 44, 45, 46, 47, 48, 49, 50, 51, 52, 53, 54, 55, 56, 57, 58, 59, 60, 61, 62, 63, 64, 65, 66, 67, 68, 69, 70, 71, 72, 73, 74, 75, 76, 77, 78, 79, 80, 81, 82, 83] rfl (by decide) 0 rfl rfl (As := [.int (0 : Int32), .int (nI P)]) (rest := []) rfl rfl hl.1 (Nat.le_of_ble_eq_true rfl) ⟨Nat.le_of_ble_eq_true rfl, Nat.le_of_ble_eq_true rfl⟩ ⟨Nat.le_refl _, Nat.le_refl _⟩ dX8_rateAs_105 (fun rx wx H locs hqx hW => ?_)
  obtain ⟨hrx, rfl⟩ := hqx
  rw [← hc7] at hW
  have hW : AtC D (tyG cI cZ cN) Ax (pOne cI cZ cN a T Q Ld Vd L V S R C1 C2 Rn Wd Im K c7) sx H locs := hW.re [] 84 (by decide) rfl rfl trivial (by decide +kernel) rfl rfl
  refine r_eq (y := (raC N V 0 P)) hrx ?_
  refine lv_aload_n hx hb dX8_rateAs_108 rfl (lv_at hl 0 rfl) ?_
  refine r_get Sx hW 0 rfl rfl bw_wsX80 2 (by decide) (v := .ref (a 12)) rfl mw23 dX8_rateAs_109 ?_
  refine r_get Sx hW 12 rfl rfl bw_wsX10 3 (by decide) (v := .ref (a 16)) rfl mw291 dX8_rateAs_112 ?_
  refine r_get Sx hW 16 rfl rfl bw_wsX20 6 (by decide) (v := .int (V 3 3)) rfl mw478 dX8_rateAs_115 ?_
  refine lv_iadd hx hb dX8_rateAs_118 ?_
  exact hret _ _ _ _ _ _ hW rfl rfl dX8_rateAs_119 (⟨by rw [raC_0, raC_5], by rw [hc7, Int64.add_assoc, hc6, show (100000 : Int32).toInt64 + raT 0 = raT 5 from by decide +kernel]⟩)

set_option maxHeartbeats 4000000 in
set_option maxRecDepth 100000 in
theorem c_X8_rateAs_3 (l : Launch) (D : va_G) (cI cZ cN : ClassId) (a : Nat → Nat) (T Q Ld Vd L V S : NV) (R : Nat → NV) (C1 C2 Rn Wd : NV) (Im : Nat → NV) (K : NV) (tr : Int64) (z N C k y z1 z2 : Nat) (hz : T 1 0 = nI z) (hz2 : z ≤ 200) (hN : L 3 1 = nI N) (hN7 : N ≤ 7) (hC : L 3 0 = nI C) (hC4 : C ≤ 4) (hC1 : 1 ≤ C) (hk : S 0 0 = nI k) (hk10 : k < 10) (hy : S 0 1 = nI y) (hy10 : y ≤ 10) (hc1 : C1 2 0 = nI z1) (hz16 : z1 ≤ 6) (hc2 : C2 2 0 = nI z2) (hz26 : z2 ≤ 6) (t : Nat) (P : Nat) (hP : P < N) : CtS l yX8_rateAs cX8_rateAs 3 (some .int) 8 D (tyG cI cZ cN) t [.ref (a 0), .int (3 : Int32), .int (nI P)] (pOne cI cZ cN a T Q Ld Vd L V S R C1 C2 Rn Wd Im K tr) (fun r w => r = raC N V 3 P ∧ w = (pOne cI cZ cN a T Q Ld Vd L V S R C1 C2 Rn Wd Im K (tr + raT 3))) := by
  refine CtS.of rfl (Nat.le_of_ble_eq_true rfl) ?_
  intro pg ev sx mx ax bx mt cx ls Qx Ax Sx hret hW hl hZ
  have hx := Sx.1
  have hb := Sx.2.1
  have hl : lv_has ls 3 [(0, .ref (a 0)), (1, .int (3 : Int32)), (2, .int (nI P))] := hl
  obtain ⟨c6, hc6⟩ : ∃ x : Int64, x = (1000 : Int32).toInt64 := ⟨_, rfl⟩
  refine lv_aload_n hx hb dX8_rateAs_0 rfl (lv_at hl 0 rfl) ?_
  refine lv_dup hx hb dX8_rateAs_1 rfl ?_
  refine r_get Sx hW 0 rfl rfl bw_wsX80 10 (by decide) (v := .long tr) rfl mw45 dX8_rateAs_2 ?_
  refine va_gets hx hb hZ.1 hW.2.2.2.2.1 Sx.2.2.2.1 (Sx.2.2.2.2 _ mw790) (fun _ h => h) dX8_rateAs_5 ?_
  refine lv_iload_n hx hb dX8_rateAs_8 rfl (lv_at hl 1 rfl) ?_
  refine va_ti hx hb hZ.2 hW.2.2.2.2.1 (i := (3 : Int32)) (vp_in_nI (n := 3) (N := 6) (by decide) (by decide)) (v := .int (1000 : Int32)) (congrArg Value.int (show mkV (Int32.toNatClampNeg 3) = 1000 from by decide +kernel)) dX8_rateAs_9 ?_
  refine lv_i2l (v := c6) hx hb dX8_rateAs_10 hc6.symm ?_
  refine lv_ladd hx hb dX8_rateAs_11 ?_
  refine r_put Sx hW 0 rfl rfl bw_wsX80 tyX8_ok nmX8 10 (by decide) mw45 rfl rfl rfl (Nat.le_of_ble_eq_true rfl) dX8_rateAs_12 (ws' := (pOne cI cZ cN a T Q Ld Vd L V S R C1 C2 Rn Wd Im K (tr + c6))) rfl (fun H locs hW => ?_)
  refine lv_iload_n hx hb dX8_rateAs_15 rfl (lv_at hl 1 rfl) ?_
  refine lv_tableIn (off := 68) (tgt := 84) hx hb dX8_rateAs_16 (by decide) (by decide) rfl rfl ?_
  refine lv_iconst (v := (2 : Int32)) hx hb dX8_rateAs_84 rfl ?_
  refine lv_aload_n hx hb dX8_rateAs_85 rfl (lv_at hl 0 rfl) ?_
  refine lv_iconst (v := (1 : Int32)) hx hb dX8_rateAs_86 rfl ?_
  refine lv_iload_n hx hb dX8_rateAs_87 rfl (lv_at hl 2 rfl) ?_
  obtain ⟨c7, hc7, hc8⟩ : ∃ x : Int64, x = (tr + c6) + raT 1 ∧ x = (tr + c6) + raT (nI 1) := ⟨_, rfl, rfl⟩
  refine callVS Sx hW hZ (c_X8_rateAs_1 l D cI cZ cN a T Q Ld Vd L V S R C1 C2 Rn Wd Im K (tr + c6) z N C k y z1 z2 hz hz2 hN hN7 hC hC4 hC1 hk hk10 hy hy10 hc1 hz16 hc2 hz26 t P hP) vmX8_rateAs mw786 [0, 1, 2, 3, 4, 5, 6, 7, 8, 9, 10, 11, 12, 13, 14, 15, 16, 17, 18, 19, 20, 21, 22, 23, 24, 25, 26, 27, 28, 29, 30, 31, 32, 33, 34, 35, 36, 37, 38, 39, 40, 41, 42, 43, 44, 45, 46, 47, 48, 49, 50, 51, 52, 53, 54, 55, 56, 57, 58, 59, 60, 61, 62, 63, 64, 65, 66, 67, 68, 69, 70, 71, 72, 73, 74, 75, 76, 77, 78, 79, 80, 81, 82, 83] rfl (by decide) 0 rfl rfl (As := [.int (1 : Int32), .int (nI P)]) (rest := [.int (2 : Int32)]) rfl rfl hl.1 (Nat.le_of_ble_eq_true rfl) ⟨Nat.le_of_ble_eq_true rfl, Nat.le_of_ble_eq_true rfl⟩ ⟨Nat.le_refl _, Nat.le_refl _⟩ dX8_rateAs_88 (fun rx wx H locs hqx hW => ?_)
  obtain ⟨hrx, rfl⟩ := hqx
  rw [← hc7] at hW
  have hW : AtC D (tyG cI cZ cN) Ax (pOne cI cZ cN a T Q Ld Vd L V S R C1 C2 Rn Wd Im K c7) sx H locs := hW.re [] 84 (by decide) rfl rfl trivial (by decide +kernel) rfl rfl
  refine r_eq (y := (raC N V 1 P)) hrx ?_
  refine lv_imul hx hb dX8_rateAs_91 ?_
  exact hret _ _ _ _ _ _ hW rfl rfl dX8_rateAs_92 (⟨by rw [raC_1, raC_3], by rw [hc7, Int64.add_assoc, hc6, show (1000 : Int32).toInt64 + raT 1 = raT 3 from by decide +kernel]⟩)

set_option maxHeartbeats 4000000 in
set_option maxRecDepth 100000 in
theorem c_X8_rateAs_4 (l : Launch) (D : va_G) (cI cZ cN : ClassId) (a : Nat → Nat) (T Q Ld Vd L V S : NV) (R : Nat → NV) (C1 C2 Rn Wd : NV) (Im : Nat → NV) (K : NV) (tr : Int64) (z N C k y z1 z2 : Nat) (hz : T 1 0 = nI z) (hz2 : z ≤ 200) (hN : L 3 1 = nI N) (hN7 : N ≤ 7) (hC : L 3 0 = nI C) (hC4 : C ≤ 4) (hC1 : 1 ≤ C) (hk : S 0 0 = nI k) (hk10 : k < 10) (hy : S 0 1 = nI y) (hy10 : y ≤ 10) (hc1 : C1 2 0 = nI z1) (hz16 : z1 ≤ 6) (hc2 : C2 2 0 = nI z2) (hz26 : z2 ≤ 6) (t : Nat) (P : Nat) (hP : P < N) : CtS l yX8_rateAs cX8_rateAs 3 (some .int) 8 D (tyG cI cZ cN) t [.ref (a 0), .int (4 : Int32), .int (nI P)] (pOne cI cZ cN a T Q Ld Vd L V S R C1 C2 Rn Wd Im K tr) (fun r w => r = raC N V 4 P ∧ w = (pOne cI cZ cN a T Q Ld Vd L V S R C1 C2 Rn Wd Im K (tr + raT 4))) := by
  refine CtS.of rfl (Nat.le_of_ble_eq_true rfl) ?_
  intro pg ev sx mx ax bx mt cx ls Qx Ax Sx hret hW hl hZ
  have hx := Sx.1
  have hb := Sx.2.1
  have hl : lv_has ls 3 [(0, .ref (a 0)), (1, .int (4 : Int32)), (2, .int (nI P))] := hl
  obtain ⟨c6, hc6⟩ : ∃ x : Int64, x = (10000 : Int32).toInt64 := ⟨_, rfl⟩
  refine lv_aload_n hx hb dX8_rateAs_0 rfl (lv_at hl 0 rfl) ?_
  refine lv_dup hx hb dX8_rateAs_1 rfl ?_
  refine r_get Sx hW 0 rfl rfl bw_wsX80 10 (by decide) (v := .long tr) rfl mw45 dX8_rateAs_2 ?_
  refine va_gets hx hb hZ.1 hW.2.2.2.2.1 Sx.2.2.2.1 (Sx.2.2.2.2 _ mw790) (fun _ h => h) dX8_rateAs_5 ?_
  refine lv_iload_n hx hb dX8_rateAs_8 rfl (lv_at hl 1 rfl) ?_
  refine va_ti hx hb hZ.2 hW.2.2.2.2.1 (i := (4 : Int32)) (vp_in_nI (n := 4) (N := 6) (by decide) (by decide)) (v := .int (10000 : Int32)) (congrArg Value.int (show mkV (Int32.toNatClampNeg 4) = 10000 from by decide +kernel)) dX8_rateAs_9 ?_
  refine lv_i2l (v := c6) hx hb dX8_rateAs_10 hc6.symm ?_
  refine lv_ladd hx hb dX8_rateAs_11 ?_
  refine r_put Sx hW 0 rfl rfl bw_wsX80 tyX8_ok nmX8 10 (by decide) mw45 rfl rfl rfl (Nat.le_of_ble_eq_true rfl) dX8_rateAs_12 (ws' := (pOne cI cZ cN a T Q Ld Vd L V S R C1 C2 Rn Wd Im K (tr + c6))) rfl (fun H locs hW => ?_)
  refine lv_iload_n hx hb dX8_rateAs_15 rfl (lv_at hl 1 rfl) ?_
  refine lv_tableIn (off := 77) (tgt := 93) hx hb dX8_rateAs_16 (by decide) (by decide) rfl rfl ?_
  refine lv_aload_n hx hb dX8_rateAs_93 rfl (lv_at hl 0 rfl) ?_
  refine lv_iconst (v := (2 : Int32)) hx hb dX8_rateAs_94 rfl ?_
  refine lv_iload_n hx hb dX8_rateAs_95 rfl (lv_at hl 2 rfl) ?_
  obtain ⟨c7, hc7, hc8⟩ : ∃ x : Int64, x = (tr + c6) + raT 2 ∧ x = (tr + c6) + raT (nI 2) := ⟨_, rfl, rfl⟩
  refine callVS Sx hW hZ (c_X8_rateAs_2 l D cI cZ cN a T Q Ld Vd L V S R C1 C2 Rn Wd Im K (tr + c6) z N C k y z1 z2 hz hz2 hN hN7 hC hC4 hC1 hk hk10 hy hy10 hc1 hz16 hc2 hz26 t P hP) vmX8_rateAs mw786 [0, 1, 2, 3, 4, 5, 6, 7, 8, 9, 10, 11, 12, 13, 14, 15, 16, 17, 18, 19, 20, 21, 22, 23, 24, 25, 26, 27, 28, 29, 30, 31, 32, 33, 34, 35, 36, 37, 38, 39, 40, 41, 42, 43, 44, 45, 46, 47, 48, 49, 50, 51, 52, 53, 54, 55, 56, 57, 58, 59, 60, 61, 62, 63, 64, 65, 66, 67, 68, 69, 70, 71, 72, 73, 74, 75, 76, 77, 78, 79, 80, 81, 82, 83] rfl (by decide) 0 rfl rfl (As := [.int (2 : Int32), .int (nI P)]) (rest := []) rfl rfl hl.1 (Nat.le_of_ble_eq_true rfl) ⟨Nat.le_of_ble_eq_true rfl, Nat.le_of_ble_eq_true rfl⟩ ⟨Nat.le_refl _, Nat.le_refl _⟩ dX8_rateAs_96 (fun rx wx H locs hqx hW => ?_)
  obtain ⟨hrx, rfl⟩ := hqx
  rw [← hc7] at hW
  have hW : AtC D (tyG cI cZ cN) Ax (pOne cI cZ cN a T Q Ld Vd L V S R C1 C2 Rn Wd Im K c7) sx H locs := hW.re [] 84 (by decide) rfl rfl trivial (by decide +kernel) rfl rfl
  refine r_eq (y := (raC N V 2 P)) hrx ?_
  refine lv_iload_n hx hb dX8_rateAs_99 rfl (lv_at hl 2 rfl) ?_
  refine lv_iadd hx hb dX8_rateAs_100 ?_
  exact hret _ _ _ _ _ _ hW rfl rfl dX8_rateAs_101 (⟨by rw [raC_2, raC_4], by rw [hc7, Int64.add_assoc, hc6, show (10000 : Int32).toInt64 + raT 2 = raT 4 from by decide +kernel]⟩)

set_option maxHeartbeats 4000000 in
set_option maxRecDepth 100000 in
theorem c_X8_rate (l : Launch) (D : va_G) (cI cZ cN : ClassId) (a : Nat → Nat) (T Q Ld Vd L V S : NV) (R : Nat → NV) (C1 C2 Rn Wd : NV) (Im : Nat → NV) (K : NV) (tr : Int64) (z N C k y z1 z2 : Nat) (hz : T 1 0 = nI z) (hz2 : z ≤ 200) (hN : L 3 1 = nI N) (hN7 : N ≤ 7) (hC : L 3 0 = nI C) (hC4 : C ≤ 4) (hC1 : 1 ≤ C) (hk : S 0 0 = nI k) (hk10 : k < 10) (hy : S 0 1 = nI y) (hy10 : y ≤ 10) (hc1 : C1 2 0 = nI z1) (hz16 : z1 ≤ 6) (hc2 : C2 2 0 = nI z2) (hz26 : z2 ≤ 6) (t : Nat) (q p0 : Int32) : CtS l yX8_rate cX8_rate 3 (some .int) 10 D (tyG cI cZ cN) t [.ref (a 0), .int q, .int p0] (pOne cI cZ cN a T Q Ld Vd L V S R C1 C2 Rn Wd Im K tr) (fun r w => r = (if raO N q p0 then raC N V q (tn p0) else -1000000) ∧ w = (pOne cI cZ cN a T Q Ld Vd L V S R C1 C2 Rn Wd Im K (if raO N q p0 then tr + raT q else tr))) := by
  refine CtS.of rfl (Nat.le_of_ble_eq_true rfl) ?_
  intro pg ev sx mx ax bx mt cx ls Qx Ax Sx hret hW hl hZ
  have hx := Sx.1
  have hb := Sx.2.1
  have hl : lv_has ls 3 [(0, .ref (a 0)), (1, .int q), (2, .int p0)] := hl
  refine lv_iload_n hx hb dX8_rate_0 rfl (lv_at hl 1 rfl) ?_
  refine lv_iconst (v := (0 : Int32)) hx hb dX8_rate_1 rfl ?_
  refine lv_iconst (v := (5 : Int32)) hx hb dX8_rate_2 rfl ?_
  refine callSI Sx hW (c_X8_within l D cI cZ cN q (0 : Int32) (5 : Int32)) smX8_within mw137 (As := [.int q, .int (0 : Int32), .int (5 : Int32)]) (rest := []) rfl rfl hl.1 (Nat.le_of_ble_eq_true rfl) ⟨Nat.le_of_ble_eq_true rfl, Nat.le_of_ble_eq_true rfl⟩ ⟨Nat.le_refl _, Nat.le_refl _⟩ dX8_rate_3 (fun rx H locs hqx hW => ?_)
  obtain ⟨hrx, -⟩ := hqx
  refine r_eq (y := (inI q (0 : Int32) (5 : Int32))) hrx ?_
  refine lv_if_eq (tgt := 20) hx hb dX8_rate_6 rfl (fun c_6 => ?_) (fun c_6 => ?_)
  · refine r_ldcw Sx (v := (-1000000 : Int32)) mw785 dX8_rate_20 ?_
    exact hret _ _ _ _ _ _ hW rfl rfl dX8_rate_23 (⟨by rw [if_neg (fun h : raO N q p0 => h.1 c_6)], by rw [if_neg (fun h : raO N q p0 => h.1 c_6)]⟩)
  · obtain ⟨K6, hK6, rfl⟩ := inI_nat (n := 6) (show ((5 : Int32)).toInt = ((6 : Nat) : Int) - 1 from by decide) c_6
    refine lv_aload_n hx hb dX8_rate_9 rfl (lv_at hl 0 rfl) ?_
    refine r_get Sx hW 0 rfl rfl bw_wsX80 2 (by decide) (v := .ref (a 12)) rfl mw23 dX8_rate_10 ?_
    refine lv_iload_n hx hb dX8_rate_13 rfl (lv_at hl 2 rfl) ?_
    refine callVI Sx hW (c_X1_hasPerson l D cI cZ cN (fun i => a (i + 12)) L V p0 N C hN hN7 hC hC4 hC1 ) vmX1_hasPerson mw297 [12, 13, 14, 15, 16, 17, 18, 19] rfl (by decide) 0 rfl rfl (As := [.int p0]) (rest := []) rfl rfl hl.1 (Nat.le_of_ble_eq_true rfl) ⟨Nat.le_of_ble_eq_true rfl, Nat.le_of_ble_eq_true rfl⟩ ⟨Nat.le_refl _, Nat.le_refl _⟩ dX8_rate_14 (fun rx wx H locs hqx hW => ?_)
    obtain ⟨hrx, rfl⟩ := hqx
    have hW : AtC D (tyG cI cZ cN) Ax (pOne cI cZ cN a T Q Ld Vd L V S R C1 C2 Rn Wd Im K tr) sx H locs := hW.re [0, 1, 2, 3, 4, 5, 6, 7, 8, 9, 10, 11, 20, 21, 22, 23, 24, 25, 26, 27, 28, 29, 30, 31, 32, 33, 34, 35, 36, 37, 38, 39, 40, 41, 42, 43, 44, 45, 46, 47, 48, 49, 50, 51, 52, 53, 54, 55, 56, 57, 58, 59, 60, 61, 62, 63, 64, 65, 66, 67, 68, 69, 70, 71, 72, 73, 74, 75, 76, 77, 78, 79, 80, 81, 82, 83] 84 (by decide) rfl rfl ⟨rfl, rfl, rfl, rfl, rfl, rfl, rfl, rfl, rfl, rfl, rfl, rfl, rfl, rfl, rfl, rfl, rfl, rfl, rfl, rfl, rfl, rfl, rfl, rfl, rfl, rfl, rfl, rfl, rfl, rfl, rfl, rfl, rfl, rfl, rfl, rfl, rfl, rfl, rfl, rfl, rfl, rfl, rfl, rfl, rfl, rfl, rfl, rfl, rfl, rfl, rfl, rfl, rfl, rfl, rfl, rfl, rfl, rfl, rfl, rfl, rfl, rfl, rfl, rfl, rfl, rfl, rfl, rfl, rfl, rfl, rfl, rfl, rfl, rfl, rfl, rfl, trivial⟩ (by decide +kernel) rfl rfl
    refine r_eq (y := (inI (p0) 0 (nI (N) - 1))) hrx ?_
    refine lv_if_ne (tgt := 24) hx hb dX8_rate_17 rfl (fun c_17 => ?_) (fun c_17 => ?_)
    · obtain ⟨P, hP, rfl⟩ := inI_nat (nI_m1 (show N < 1000 by omega)) c_17
      rcases (show K6 = 0 ∨ K6 = 1 ∨ K6 = 2 ∨ K6 = 3 ∨ K6 = 4 ∨ K6 = 5 by omega) with rfl | rfl | rfl | rfl | rfl | rfl
      · have hl : lv_has ls 3 [(0, .ref (a 0)), (1, .int (0 : Int32)), (2, .int (nI P))] := hl
        refine lv_aload_n hx hb dX8_rate_24 rfl (lv_at hl 0 rfl) ?_
        refine lv_iload_n hx hb dX8_rate_25 rfl (lv_at hl 1 rfl) ?_
        refine lv_iload_n hx hb dX8_rate_26 rfl (lv_at hl 2 rfl) ?_
        obtain ⟨c7, hc7, hc8⟩ : ∃ x : Int64, x = tr + raT 0 ∧ x = tr + raT (nI 0) := ⟨_, rfl, rfl⟩
        refine callVS Sx hW hZ (c_X8_rateAs_0 l D cI cZ cN a T Q Ld Vd L V S R C1 C2 Rn Wd Im K tr z N C k y z1 z2 hz hz2 hN hN7 hC hC4 hC1 hk hk10 hy hy10 hc1 hz16 hc2 hz26 t P hP) vmX8_rateAs mw786 [0, 1, 2, 3, 4, 5, 6, 7, 8, 9, 10, 11, 12, 13, 14, 15, 16, 17, 18, 19, 20, 21, 22, 23, 24, 25, 26, 27, 28, 29, 30, 31, 32, 33, 34, 35, 36, 37, 38, 39, 40, 41, 42, 43, 44, 45, 46, 47, 48, 49, 50, 51, 52, 53, 54, 55, 56, 57, 58, 59, 60, 61, 62, 63, 64, 65, 66, 67, 68, 69, 70, 71, 72, 73, 74, 75, 76, 77, 78, 79, 80, 81, 82, 83] rfl (by decide) 0 rfl rfl (As := [.int (0 : Int32), .int (nI P)]) (rest := []) rfl rfl hl.1 (Nat.le_of_ble_eq_true rfl) ⟨Nat.le_of_ble_eq_true rfl, Nat.le_of_ble_eq_true rfl⟩ ⟨Nat.le_refl _, Nat.le_refl _⟩ dX8_rate_27 (fun rx wx H locs hqx hW => ?_)
        obtain ⟨hrx, rfl⟩ := hqx
        rw [← hc7] at hW
        have hW : AtC D (tyG cI cZ cN) Ax (pOne cI cZ cN a T Q Ld Vd L V S R C1 C2 Rn Wd Im K c7) sx H locs := hW.re [] 84 (by decide) rfl rfl trivial (by decide +kernel) rfl rfl
        refine r_eq (y := (raC N V 0 P)) hrx ?_
        exact hret _ _ _ _ _ _ hW rfl rfl dX8_rate_30 (⟨by rw [if_pos (show raO N (nI 0) (nI P) from ⟨by decide, c_17⟩), tn_n (by omega)]; rfl, by rw [if_pos (show raO N (nI 0) (nI P) from ⟨by decide, c_17⟩), hc8]⟩)
      · have hl : lv_has ls 3 [(0, .ref (a 0)), (1, .int (1 : Int32)), (2, .int (nI P))] := hl
        refine lv_aload_n hx hb dX8_rate_24 rfl (lv_at hl 0 rfl) ?_
        refine lv_iload_n hx hb dX8_rate_25 rfl (lv_at hl 1 rfl) ?_
        refine lv_iload_n hx hb dX8_rate_26 rfl (lv_at hl 2 rfl) ?_
        obtain ⟨c7, hc7, hc8⟩ : ∃ x : Int64, x = tr + raT 1 ∧ x = tr + raT (nI 1) := ⟨_, rfl, rfl⟩
        refine callVS Sx hW hZ (c_X8_rateAs_1 l D cI cZ cN a T Q Ld Vd L V S R C1 C2 Rn Wd Im K tr z N C k y z1 z2 hz hz2 hN hN7 hC hC4 hC1 hk hk10 hy hy10 hc1 hz16 hc2 hz26 t P hP) vmX8_rateAs mw786 [0, 1, 2, 3, 4, 5, 6, 7, 8, 9, 10, 11, 12, 13, 14, 15, 16, 17, 18, 19, 20, 21, 22, 23, 24, 25, 26, 27, 28, 29, 30, 31, 32, 33, 34, 35, 36, 37, 38, 39, 40, 41, 42, 43, 44, 45, 46, 47, 48, 49, 50, 51, 52, 53, 54, 55, 56, 57, 58, 59, 60, 61, 62, 63, 64, 65, 66, 67, 68, 69, 70, 71, 72, 73, 74, 75, 76, 77, 78, 79, 80, 81, 82, 83] rfl (by decide) 0 rfl rfl (As := [.int (1 : Int32), .int (nI P)]) (rest := []) rfl rfl hl.1 (Nat.le_of_ble_eq_true rfl) ⟨Nat.le_of_ble_eq_true rfl, Nat.le_of_ble_eq_true rfl⟩ ⟨Nat.le_refl _, Nat.le_refl _⟩ dX8_rate_27 (fun rx wx H locs hqx hW => ?_)
        obtain ⟨hrx, rfl⟩ := hqx
        rw [← hc7] at hW
        have hW : AtC D (tyG cI cZ cN) Ax (pOne cI cZ cN a T Q Ld Vd L V S R C1 C2 Rn Wd Im K c7) sx H locs := hW.re [] 84 (by decide) rfl rfl trivial (by decide +kernel) rfl rfl
        refine r_eq (y := (raC N V 1 P)) hrx ?_
        exact hret _ _ _ _ _ _ hW rfl rfl dX8_rate_30 (⟨by rw [if_pos (show raO N (nI 1) (nI P) from ⟨by decide, c_17⟩), tn_n (by omega)]; rfl, by rw [if_pos (show raO N (nI 1) (nI P) from ⟨by decide, c_17⟩), hc8]⟩)
      · have hl : lv_has ls 3 [(0, .ref (a 0)), (1, .int (2 : Int32)), (2, .int (nI P))] := hl
        refine lv_aload_n hx hb dX8_rate_24 rfl (lv_at hl 0 rfl) ?_
        refine lv_iload_n hx hb dX8_rate_25 rfl (lv_at hl 1 rfl) ?_
        refine lv_iload_n hx hb dX8_rate_26 rfl (lv_at hl 2 rfl) ?_
        obtain ⟨c7, hc7, hc8⟩ : ∃ x : Int64, x = tr + raT 2 ∧ x = tr + raT (nI 2) := ⟨_, rfl, rfl⟩
        refine callVS Sx hW hZ (c_X8_rateAs_2 l D cI cZ cN a T Q Ld Vd L V S R C1 C2 Rn Wd Im K tr z N C k y z1 z2 hz hz2 hN hN7 hC hC4 hC1 hk hk10 hy hy10 hc1 hz16 hc2 hz26 t P hP) vmX8_rateAs mw786 [0, 1, 2, 3, 4, 5, 6, 7, 8, 9, 10, 11, 12, 13, 14, 15, 16, 17, 18, 19, 20, 21, 22, 23, 24, 25, 26, 27, 28, 29, 30, 31, 32, 33, 34, 35, 36, 37, 38, 39, 40, 41, 42, 43, 44, 45, 46, 47, 48, 49, 50, 51, 52, 53, 54, 55, 56, 57, 58, 59, 60, 61, 62, 63, 64, 65, 66, 67, 68, 69, 70, 71, 72, 73, 74, 75, 76, 77, 78, 79, 80, 81, 82, 83] rfl (by decide) 0 rfl rfl (As := [.int (2 : Int32), .int (nI P)]) (rest := []) rfl rfl hl.1 (Nat.le_of_ble_eq_true rfl) ⟨Nat.le_of_ble_eq_true rfl, Nat.le_of_ble_eq_true rfl⟩ ⟨Nat.le_refl _, Nat.le_refl _⟩ dX8_rate_27 (fun rx wx H locs hqx hW => ?_)
        obtain ⟨hrx, rfl⟩ := hqx
        rw [← hc7] at hW
        have hW : AtC D (tyG cI cZ cN) Ax (pOne cI cZ cN a T Q Ld Vd L V S R C1 C2 Rn Wd Im K c7) sx H locs := hW.re [] 84 (by decide) rfl rfl trivial (by decide +kernel) rfl rfl
        refine r_eq (y := (raC N V 2 P)) hrx ?_
        exact hret _ _ _ _ _ _ hW rfl rfl dX8_rate_30 (⟨by rw [if_pos (show raO N (nI 2) (nI P) from ⟨by decide, c_17⟩), tn_n (by omega)]; rfl, by rw [if_pos (show raO N (nI 2) (nI P) from ⟨by decide, c_17⟩), hc8]⟩)
      · have hl : lv_has ls 3 [(0, .ref (a 0)), (1, .int (3 : Int32)), (2, .int (nI P))] := hl
        refine lv_aload_n hx hb dX8_rate_24 rfl (lv_at hl 0 rfl) ?_
        refine lv_iload_n hx hb dX8_rate_25 rfl (lv_at hl 1 rfl) ?_
        refine lv_iload_n hx hb dX8_rate_26 rfl (lv_at hl 2 rfl) ?_
        obtain ⟨c7, hc7, hc8⟩ : ∃ x : Int64, x = tr + raT 3 ∧ x = tr + raT (nI 3) := ⟨_, rfl, rfl⟩
        refine callVS Sx hW hZ (c_X8_rateAs_3 l D cI cZ cN a T Q Ld Vd L V S R C1 C2 Rn Wd Im K tr z N C k y z1 z2 hz hz2 hN hN7 hC hC4 hC1 hk hk10 hy hy10 hc1 hz16 hc2 hz26 t P hP) vmX8_rateAs mw786 [0, 1, 2, 3, 4, 5, 6, 7, 8, 9, 10, 11, 12, 13, 14, 15, 16, 17, 18, 19, 20, 21, 22, 23, 24, 25, 26, 27, 28, 29, 30, 31, 32, 33, 34, 35, 36, 37, 38, 39, 40, 41, 42, 43, 44, 45, 46, 47, 48, 49, 50, 51, 52, 53, 54, 55, 56, 57, 58, 59, 60, 61, 62, 63, 64, 65, 66, 67, 68, 69, 70, 71, 72, 73, 74, 75, 76, 77, 78, 79, 80, 81, 82, 83] rfl (by decide) 0 rfl rfl (As := [.int (3 : Int32), .int (nI P)]) (rest := []) rfl rfl hl.1 (Nat.le_of_ble_eq_true rfl) ⟨Nat.le_of_ble_eq_true rfl, Nat.le_of_ble_eq_true rfl⟩ ⟨Nat.le_refl _, Nat.le_refl _⟩ dX8_rate_27 (fun rx wx H locs hqx hW => ?_)
        obtain ⟨hrx, rfl⟩ := hqx
        rw [← hc7] at hW
        have hW : AtC D (tyG cI cZ cN) Ax (pOne cI cZ cN a T Q Ld Vd L V S R C1 C2 Rn Wd Im K c7) sx H locs := hW.re [] 84 (by decide) rfl rfl trivial (by decide +kernel) rfl rfl
        refine r_eq (y := (raC N V 3 P)) hrx ?_
        exact hret _ _ _ _ _ _ hW rfl rfl dX8_rate_30 (⟨by rw [if_pos (show raO N (nI 3) (nI P) from ⟨by decide, c_17⟩), tn_n (by omega)]; rfl, by rw [if_pos (show raO N (nI 3) (nI P) from ⟨by decide, c_17⟩), hc8]⟩)
      · have hl : lv_has ls 3 [(0, .ref (a 0)), (1, .int (4 : Int32)), (2, .int (nI P))] := hl
        refine lv_aload_n hx hb dX8_rate_24 rfl (lv_at hl 0 rfl) ?_
        refine lv_iload_n hx hb dX8_rate_25 rfl (lv_at hl 1 rfl) ?_
        refine lv_iload_n hx hb dX8_rate_26 rfl (lv_at hl 2 rfl) ?_
        obtain ⟨c7, hc7, hc8⟩ : ∃ x : Int64, x = tr + raT 4 ∧ x = tr + raT (nI 4) := ⟨_, rfl, rfl⟩
        refine callVS Sx hW hZ (c_X8_rateAs_4 l D cI cZ cN a T Q Ld Vd L V S R C1 C2 Rn Wd Im K tr z N C k y z1 z2 hz hz2 hN hN7 hC hC4 hC1 hk hk10 hy hy10 hc1 hz16 hc2 hz26 t P hP) vmX8_rateAs mw786 [0, 1, 2, 3, 4, 5, 6, 7, 8, 9, 10, 11, 12, 13, 14, 15, 16, 17, 18, 19, 20, 21, 22, 23, 24, 25, 26, 27, 28, 29, 30, 31, 32, 33, 34, 35, 36, 37, 38, 39, 40, 41, 42, 43, 44, 45, 46, 47, 48, 49, 50, 51, 52, 53, 54, 55, 56, 57, 58, 59, 60, 61, 62, 63, 64, 65, 66, 67, 68, 69, 70, 71, 72, 73, 74, 75, 76, 77, 78, 79, 80, 81, 82, 83] rfl (by decide) 0 rfl rfl (As := [.int (4 : Int32), .int (nI P)]) (rest := []) rfl rfl hl.1 (Nat.le_of_ble_eq_true rfl) ⟨Nat.le_of_ble_eq_true rfl, Nat.le_of_ble_eq_true rfl⟩ ⟨Nat.le_refl _, Nat.le_refl _⟩ dX8_rate_27 (fun rx wx H locs hqx hW => ?_)
        obtain ⟨hrx, rfl⟩ := hqx
        rw [← hc7] at hW
        have hW : AtC D (tyG cI cZ cN) Ax (pOne cI cZ cN a T Q Ld Vd L V S R C1 C2 Rn Wd Im K c7) sx H locs := hW.re [] 84 (by decide) rfl rfl trivial (by decide +kernel) rfl rfl
        refine r_eq (y := (raC N V 4 P)) hrx ?_
        exact hret _ _ _ _ _ _ hW rfl rfl dX8_rate_30 (⟨by rw [if_pos (show raO N (nI 4) (nI P) from ⟨by decide, c_17⟩), tn_n (by omega)]; rfl, by rw [if_pos (show raO N (nI 4) (nI P) from ⟨by decide, c_17⟩), hc8]⟩)
      · have hl : lv_has ls 3 [(0, .ref (a 0)), (1, .int (5 : Int32)), (2, .int (nI P))] := hl
        refine lv_aload_n hx hb dX8_rate_24 rfl (lv_at hl 0 rfl) ?_
        refine lv_iload_n hx hb dX8_rate_25 rfl (lv_at hl 1 rfl) ?_
        refine lv_iload_n hx hb dX8_rate_26 rfl (lv_at hl 2 rfl) ?_
        obtain ⟨c7, hc7, hc8⟩ : ∃ x : Int64, x = tr + raT 5 ∧ x = tr + raT (nI 5) := ⟨_, rfl, rfl⟩
        refine callVS Sx hW hZ (c_X8_rateAs_5 l D cI cZ cN a T Q Ld Vd L V S R C1 C2 Rn Wd Im K tr z N C k y z1 z2 hz hz2 hN hN7 hC hC4 hC1 hk hk10 hy hy10 hc1 hz16 hc2 hz26 t P hP) vmX8_rateAs mw786 [0, 1, 2, 3, 4, 5, 6, 7, 8, 9, 10, 11, 12, 13, 14, 15, 16, 17, 18, 19, 20, 21, 22, 23, 24, 25, 26, 27, 28, 29, 30, 31, 32, 33, 34, 35, 36, 37, 38, 39, 40, 41, 42, 43, 44, 45, 46, 47, 48, 49, 50, 51, 52, 53, 54, 55, 56, 57, 58, 59, 60, 61, 62, 63, 64, 65, 66, 67, 68, 69, 70, 71, 72, 73, 74, 75, 76, 77, 78, 79, 80, 81, 82, 83] rfl (by decide) 0 rfl rfl (As := [.int (5 : Int32), .int (nI P)]) (rest := []) rfl rfl hl.1 (Nat.le_of_ble_eq_true rfl) ⟨Nat.le_of_ble_eq_true rfl, Nat.le_of_ble_eq_true rfl⟩ ⟨Nat.le_refl _, Nat.le_refl _⟩ dX8_rate_27 (fun rx wx H locs hqx hW => ?_)
        obtain ⟨hrx, rfl⟩ := hqx
        rw [← hc7] at hW
        have hW : AtC D (tyG cI cZ cN) Ax (pOne cI cZ cN a T Q Ld Vd L V S R C1 C2 Rn Wd Im K c7) sx H locs := hW.re [] 84 (by decide) rfl rfl trivial (by decide +kernel) rfl rfl
        refine r_eq (y := (raC N V 5 P)) hrx ?_
        exact hret _ _ _ _ _ _ hW rfl rfl dX8_rate_30 (⟨by rw [if_pos (show raO N (nI 5) (nI P) from ⟨by decide, c_17⟩), tn_n (by omega)]; rfl, by rw [if_pos (show raO N (nI 5) (nI P) from ⟨by decide, c_17⟩), hc8]⟩)
    · refine r_ldcw Sx (v := (-1000000 : Int32)) mw785 dX8_rate_20 ?_
      exact hret _ _ _ _ _ _ hW rfl rfl dX8_rate_23 (⟨by rw [if_neg (fun h : raO N (nI K6) p0 => h.2 c_17)], by rw [if_neg (fun h : raO N (nI K6) p0 => h.2 c_17)]⟩)

theorem CtI.same {l : Launch} {y : MethodName} {b : ByteArray} {n : Nat} {rt : Option FieldType} {fr : Nat} {D : va_G} {tys : List (ClassId × FieldType)} {av : List Value} {w0 : va_W} {post post' : Int32 → va_W → Prop} (h : CtI l y b n rt fr D tys av w0 post) (e : post' = post) : CtI l y b n rt fr D tys av w0 post' := e ▸ h
theorem c_X8_keep (l : Launch) (D : va_G) (cI cZ cN : ClassId) (a : Nat → Nat) (T Q Ld Vd L V S : NV) (R : Nat → NV) (C1 C2 Rn Wd : NV) (Im : Nat → NV) (K : NV) (tr : Int64) (z N C k y z1 z2 : Nat) (hz : T 1 0 = nI z) (hz2 : z ≤ 200) (hN : L 3 1 = nI N) (hN7 : N ≤ 7) (hC : L 3 0 = nI C) (hC4 : C ≤ 4) (hC1 : 1 ≤ C) (hk : S 0 0 = nI k) (hk10 : k < 10) (hy : S 0 1 = nI y) (hy10 : y ≤ 10) (hc1 : C1 2 0 = nI z1) (hz16 : z1 ≤ 6) (hc2 : C2 2 0 = nI z2) (hz26 : z2 ≤ 6) (x : Int32) : CtI l yX8_keep cX8_keep 2 (some .int) 3 D (tyG cI cZ cN) [.ref (a 0), .int x] (pOne cI cZ cN a T Q Ld Vd L V S R C1 C2 Rn Wd Im K tr) (fun r w => r = (if ¬ inI x 0 1 = 0 then V 3 3 else -1) ∧ w = if ¬ inI x 0 1 = 0 then (pOne cI cZ cN a T Q Ld Vd L V S R C1 C2 Rn Wd (upR Im x.toNatClampNeg (cpN V (Im x.toNatClampNeg))) (stK K x.toNatClampNeg) tr) else (pOne cI cZ cN a T Q Ld Vd L V S R C1 C2 Rn Wd Im K tr)) := by
  by_cases hx : inI x 0 1 = 0
  · exact (c_X8_keep_x l D cI cZ cN a T Q Ld Vd L V S R C1 C2 Rn Wd Im K tr z N C k y z1 z2 hz hz2 hN hN7 hC hC4 hC1 hk hk10 hy hy10 hc1 hz16 hc2 hz26 x hx).same (by funext r w; rw [if_neg (fun q => q hx), if_neg (fun q => q hx)])
  · rcases in_1 hx with rfl | rfl
    · exact (c_X8_keep_0 l D cI cZ cN a T Q Ld Vd L V S R C1 C2 Rn Wd Im K tr z N C k y z1 z2 hz hz2 hN hN7 hC hC4 hC1 hk hk10 hy hy10 hc1 hz16 hc2 hz26).same (by funext r w; rw [if_pos hx, if_pos hx]; rfl)
    · exact (c_X8_keep_1 l D cI cZ cN a T Q Ld Vd L V S R C1 C2 Rn Wd Im K tr z N C k y z1 z2 hz hz2 hN hN7 hC hC4 hC1 hk hk10 hy hy10 hc1 hz16 hc2 hz26).same (by funext r w; rw [if_pos hx, if_pos hx]; rfl)
theorem c_X8_back (l : Launch) (D : va_G) (cI cZ cN : ClassId) (a : Nat → Nat) (T Q Ld Vd L V S : NV) (R : Nat → NV) (C1 C2 Rn Wd : NV) (Im : Nat → NV) (K : NV) (tr : Int64) (z N C k y z1 z2 : Nat) (hz : T 1 0 = nI z) (hz2 : z ≤ 200) (hN : L 3 1 = nI N) (hN7 : N ≤ 7) (hC : L 3 0 = nI C) (hC4 : C ≤ 4) (hC1 : 1 ≤ C) (hk : S 0 0 = nI k) (hk10 : k < 10) (hy : S 0 1 = nI y) (hy10 : y ≤ 10) (hc1 : C1 2 0 = nI z1) (hz16 : z1 ≤ 6) (hc2 : C2 2 0 = nI z2) (hz26 : z2 ≤ 6) (x : Int32) : CtI l yX8_back cX8_back 2 (some .int) 3 D (tyG cI cZ cN) [.ref (a 0), .int x] (pOne cI cZ cN a T Q Ld Vd L V S R C1 C2 Rn Wd Im K tr) (fun r w => r = (if ¬ inI x 0 1 = 0 then (if K 0 x.toNatClampNeg = 0 then -2 else Im x.toNatClampNeg 3 3) else -1) ∧ w = if ¬ inI x 0 1 = 0 ∧ ¬ K 0 x.toNatClampNeg = 0 then (pOne cI cZ cN a T Q Ld Vd L (cpN (Im x.toNatClampNeg) V) (zeS S) R C1 C2 Rn Wd Im K tr) else (pOne cI cZ cN a T Q Ld Vd L V S R C1 C2 Rn Wd Im K tr)) := by
  have cv : ∀ (J : Nat) (X Y : va_W), (if ¬ K 0 J = 0 then X else Y) = (if K 0 J = 0 then Y else X) := fun J X Y => by
    by_cases q : K 0 J = 0
    · rw [if_neg (fun h => h q), if_pos q]
    · rw [if_pos q, if_neg q]
  by_cases hx : inI x 0 1 = 0
  · exact (c_X8_back_x l D cI cZ cN a T Q Ld Vd L V S R C1 C2 Rn Wd Im K tr z N C k y z1 z2 hz hz2 hN hN7 hC hC4 hC1 hk hk10 hy hy10 hc1 hz16 hc2 hz26 x hx).same (by funext r w; rw [if_neg (fun q => q hx), if_neg (fun q => q.1 hx)])
  · rcases in_1 hx with rfl | rfl
    · exact (c_X8_back_0 l D cI cZ cN a T Q Ld Vd L V S R C1 C2 Rn Wd Im K tr z N C k y z1 z2 hz hz2 hN hN7 hC hC4 hC1 hk hk10 hy hy10 hc1 hz16 hc2 hz26).same (by
        funext r w
        rw [if_pos hx, ← cv 0]
        have e : (¬ inI 0 0 1 = 0 ∧ ¬ K 0 (Int32.toNatClampNeg 0) = 0) ↔ ¬ K 0 0 = 0 := ⟨fun q => q.2, fun q => ⟨hx, q⟩⟩
        by_cases q : ¬ K 0 0 = 0
        · rw [if_pos q, if_pos (e.mpr q)]; rfl
        · rw [if_neg q, if_neg (fun z => q (e.mp z))]; rfl)
    · exact (c_X8_back_1 l D cI cZ cN a T Q Ld Vd L V S R C1 C2 Rn Wd Im K tr z N C k y z1 z2 hz hz2 hN hN7 hC hC4 hC1 hk hk10 hy hy10 hc1 hz16 hc2 hz26).same (by
        funext r w
        rw [if_pos hx, ← cv 1]
        have e : (¬ inI 1 0 1 = 0 ∧ ¬ K 0 (Int32.toNatClampNeg 1) = 0) ↔ ¬ K 0 1 = 0 := ⟨fun q => q.2, fun q => ⟨hx, q⟩⟩
        by_cases q : ¬ K 0 1 = 0
        · rw [if_pos q, if_pos (e.mpr q)]; rfl
        · rw [if_neg q, if_neg (fun z => q (e.mp z))]; rfl)
