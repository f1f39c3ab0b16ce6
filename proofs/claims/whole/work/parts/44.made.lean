/-! rows for what is made -/
abbrev rmC (fr mc ms : Nat) : Room := { frames := fr, cells := mc, slots := ms, locals := 40 * fr }
def PN (D : va_G) (tys : List (ClassId × FieldType)) (w0 : va_W) (sz : Nat) (av : List Value) : Array Value → State → Prop := va_Pc av (fun U => U.heap.size = sz ∧ va_P D vwCl w0 U.heap ∧ va_K D vwCl tys U ∧ va_D (fun _ => True) w0 ∧ NN U ∧ va_AO "OneJohn$Now" U)
def Bn (D : va_G) (A : Nat → Prop) : va_W → State → Prop := fun w1 t => va_P D vwCl w1 t.heap ∧ va_D A w1
def CtN (l : Launch) (y : MethodName) (b : ByteArray) (n fr mc ms : Nat) (D : va_G) (tys : List (ClassId × FieldType)) (h0 : Nat) (e0 : va_E) (post : va_W → Prop) : Prop :=
  ∀ sz : Nat, Met l y (Cond.code y b n none :: BW) (rmC fr mc ms) (PN D tys [(h0, e0)] sz [.ref h0]) (va_Qv post (Bn D (va_A [(h0, e0)] sz)) (va_A [(h0, e0)] sz)) mc ms (va_A [(h0, e0)] sz)
theorem PN.blind {D : va_G} {tys : List (ClassId × FieldType)} {w0 : va_W} {sz : Nat} {av : List Value} : FrameBlind (PN D tys w0 sz av) := by
  intro a U g mk q
  obtain ⟨q0, q1, qP, qK, qD, qN, qO⟩ := q
  exact ⟨q0, q1, qP, va_K.moved (u := U) (U := U.calling g mk a) (Vm.Alike.refl U.vm) qK, qD, NN.same rfl qN, va_AO.moved (u := U) (U := U.calling g mk a) (Vm.Alike.refl U.vm) qO⟩
theorem CtN.of {l : Launch} {y : MethodName} {b : ByteArray} {n fr mc ms : Nat} {D : va_G} {tys : List (ClassId × FieldType)} {h0 : Nat} {e0 : va_E} {post : va_W → Prop} (hy : plainName y.cls = true) (hyn : y.name = "<init>") (hlen : (lg_sl [.ref h0]).length ≤ n)
    (h : ∀ (p : Program) (e : Env) (s : State) (m : MethodId) (args : Array Value) (below : List Frame) (meth : Method) (c : Code) (ls : Array Slot) (Q : State → Prop) (A : Nat → Prop), CallFix p m c b n s args BW y.cls → meth.name = "<init>" → va_AO "OneJohn$Now" s →
      (∀ (H : Heap) (locs : List Loc) (pc : Nat) (ls : Array Slot) (w1 : va_W), AtC D tys A w1 s H locs → decode b pc = .ok (.return_, 1) → post w1 → W p l e (rmC fr mc ms) s m args below meth c H locs mc ms Q (F0 m pc ls [])) →
      AtC D tys A [(h0, e0)] s s.heap [] → lv_has ls n [(0, .ref h0)] → W p l e (rmC fr mc ms) s m args below meth c s.heap [] 0 0 Q (F0 m 0 ls [])) : CtN l y b n fr mc ms D tys h0 e0 post := by
  intro sz
  refine Met.ofW (cc := b) (maxL := n) (ret := none) hy rfl ?_
  intro p e s m args below meth c s₁ B hml hv
  obtain ⟨rfl, hsz, hP, hK, hD, hN, hO⟩ := hv
  have hts := atoms_spec (ws := Cond.code y b n none :: BW) B.pre
  have hown : s.vm.findClass y.cls = some m.cls := findClass_of_methodNamed B.named
  have hin : meth.name = y.name := (name_of_methodNamed B.named B.method).1
  rw [lg_entry_eq]
  subst hsz
  exact h p e s m _ below meth c _ _ _ ⟨B.exec, B.bytes, hml, hown, fun w hw => hts w (List.mem_cons_of_mem _ hw)⟩ (hin.trans hyn) hO (fun H locs pc ls w1 hW hdg hp => W.vret B.exec B.bytes B.returns (fun t ht _ => ⟨⟨w1, rfl, hp, by rw [ht]; exact hW.2.2.1, hW.2.2.2.1⟩, hW.2.2.2.2.1.F ht⟩) hW.2.2.2.2.1.2.2 hdg B.notSynchronized) ⟨hN, hK, hP, hD.self, va_S.rf, fun q h => Or.inr h⟩ (lv_entry [.ref h0] hlen)
theorem join_new {D : va_G} {A : Nat → Prop} {ws w1 : va_W} {h0 : Nat} {e0 : va_E} {H H1 : Heap} (hP : va_P D vwCl (ws ++ [(h0, e0)]) H) (hD : va_D A (ws ++ [(h0, e0)])) (hk : ∀ q : Nat, q < H.size → ¬ va_A [(h0, e0)] H.size q → H1[q]? = H[q]?) (hP1 : va_P D vwCl w1 H1) (hD1 : va_D (va_A [(h0, e0)] H.size) w1) (hF : ∀ q, va_A [(h0, e0)] H.size q → A q) : va_P D vwCl (ws ++ w1) H1 ∧ va_D A (ws ++ w1) := by
  have hlast : (ws ++ [(h0, e0)])[ws.length]? = some (h0, e0) := by simp
  have old : ∀ (k : Nat) (q : Nat × va_E), ws[k]? = some q → (ws ++ [(h0, e0)])[k]? = some q ∧ q.1 < H.size ∧ q.1 ≠ h0 ∧ k < ws.length := by
    intro k q hq
    have hkl := (List.getElem?_eq_some_iff.mp hq).1
    have h1 : (ws ++ [(h0, e0)])[k]? = some q := by rw [List.getElem?_append_left hkl]; exact hq
    refine ⟨h1, (hP k q h1).lt, fun e => ?_, hkl⟩
    have := hD.1 k ws.length q (h0, e0) h1 hlast e
    omega
  have inA : ∀ q, va_A [(h0, e0)] H.size q → q = h0 ∨ H.size ≤ q := by
    rintro q (⟨k, e, hq⟩ | hq)
    · cases k with
      | zero => left; simp at hq; exact hq.1.symm
      | succ k => simp at hq
    · exact Or.inr hq
  have sp : ∀ (k : Nat) (q : Nat × va_E), (ws ++ w1)[k]? = some q → (ws[k]? = some q) ∨ (ws.length ≤ k ∧ w1[k - ws.length]? = some q) := by
    intro k q hq
    by_cases hkl : k < ws.length
    · rw [List.getElem?_append_left hkl] at hq; exact Or.inl hq
    · rw [List.getElem?_append_right (by omega)] at hq; exact Or.inr ⟨by omega, hq⟩
  refine ⟨fun k q hq => ?_, fun i j x y hx hy hxy => ?_, fun k q hq => ?_⟩
  · rcases sp k q hq with h | ⟨-, h⟩
    · obtain ⟨o1, o2, o3, -⟩ := old k q h
      refine (hP k q o1).kept (hk q.1 o2 (fun z => ?_))
      rcases inA q.1 z with z | z
      · exact o3 z
      · omega
    · exact hP1 _ q h
  · rcases sp i x hx with h | ⟨hl, h⟩
    · obtain ⟨o1, o2, o3, o4⟩ := old i x h
      rcases sp j y hy with g | ⟨gl, g⟩
      · exact hD.1 i j x y o1 (old j y g).1 hxy
      · rcases inA y.1 (hD1.2 _ y g) with z | z
        · exact absurd (hxy.trans z) o3
        · omega
    · rcases sp j y hy with g | ⟨gl, g⟩
      · obtain ⟨o1, o2, o3, o4⟩ := old j y g
        rcases inA x.1 (hD1.2 _ x h) with z | z
        · exact absurd (hxy.symm.trans z) o3
        · omega
      · have := hD1.1 _ _ x y h g hxy
        omega
  · rcases sp k q hq with h | ⟨-, h⟩
    · exact hD.2 k q (old k q h).1
    · exact hF _ (hD1.2 _ q h)
theorem AtC.perm {D : va_G} {tys : List (ClassId × FieldType)} {A : Nat → Prop} {ws ws' : va_W} {s : State} {H : Heap} {locs : List Loc} (h : AtC D tys A ws s H locs) (is : List Nat) (hn : is.Nodup) (hd : va_nd is = true) (hs : is.map (fun i => ws[i]?) = ws'.map some) : AtC D tys A ws' s H locs := by
  obtain ⟨h1, -, -⟩ := h.cut is hs hn
  obtain ⟨hN, hK, hP, hD, hS, hA⟩ := h
  exact ⟨hN, hK, h1, hD.sub is hd hs, hS, hA⟩
theorem AtC.fcong {D : va_G} {tys : List (ClassId × FieldType)} {A : Nat → Prop} {ws : va_W} {s : State} {H : Heap} {locs : List Loc} (h : AtC D tys A ws s H locs) (q0 : Nat) {a n : Nat} {cA : ClassId} {f g : Nat → Option Nat} (he : ws[q0]? = some (a, .inl (cA, n, .inr (.inr (.inr (.inr f)))))) (hfg : ∀ j, j < n → f j = g j) : AtC D tys A (ws.set q0 (a, .inl (cA, n, .inr (.inr (.inr (.inr g)))))) s H locs := by
  obtain ⟨hN, hK, hP, hD, hS, hA⟩ := h
  refine ⟨hN, hK, fun k q hq => ?_, hD.set he, hS, hA⟩
  by_cases e : q0 = k
  · subst e
    rw [List.getElem?_set] at hq
    simp only [if_true] at hq
    split at hq
    · cases hq
      have h1 := hP q0 _ he
      show H[a]? = some (vp_cell _ _)
      have h2 : H[a]? = some (vp_cell cA (n, .inr (.inr (.inr (.inr f))))) := h1
      rw [h2, vp_cell_q, vp_cell_q]
      unfold arrV
      congr 3
      funext j
      show va_rf (f j.val) = va_rf (g j.val)
      rw [hfg j.val j.isLt]
    · cases hq
  · rw [List.getElem?_set_ne e] at hq; exact hP k q hq
section MADE
variable {p : Program} {l : Launch} {e : Env} {R : Room} {s : State} {m : MethodId} {args : Array Value} {below : List Frame} {meth : Method} {c : Code} {H : Heap} {locs : List Loc} {cells slots : Nat} {Q : State → Prop}
variable {cc : ByteArray} {nL pc : Nat} {ls : Array Slot} {rest : List Value} {D : va_G} {A : Nat → Prop} {a : Nat} {ws : va_W} {own : String} {cI cZ cN : ClassId}
theorem r_newI (S : CallFix p m c cc nL s args BW own) (hW : AtC D (tyG cI cZ cN) A ws s H locs) {n : Nat} (hn : n < 1000) (hcl : cells + 1 ≤ R.cells) (hsl : slots + n ≤ R.slots) (hdg : decode cc pc = .ok (.newarray .int, 2))
    (kk : ∀ (q : Nat) (H1 : Heap), AtC D (tyG cI cZ cN) A (ws ++ [(q, .inl (cI, n, .inl (fun _ => 0)))]) s H1 locs → W p l e R s m args below meth c H1 locs (cells + 1) (slots + n) Q (F0 m (pc + 2) ls (.ref q :: rest))) : W p l e R s m args below meth c H locs cells slots Q (F0 m pc ls (.int (nI n) :: rest)) := by
  obtain ⟨hx, hb, hml, hown, hts⟩ := S
  obtain ⟨hN, hK, hP, hD, hS, hA⟩ := hW
  refine va_newa (atype := .int) (ty := .int) (a0 := (n, .inl (fun _ => 0))) hx hb (hts _ mw51) rfl hK hP hD hS hA (fun cA => rfl) (nI_pos (by omega)) (nI_clamp (by omega)) (by show n * 4 ≤ _; omega) hcl hsl hdg (fun q cA H1 hK1 hP1 hD1 hS1 => ?_)
  have h1 : s.vm.findClass ("[" ++ FieldType.int.toString) = some cA := (hK1.2 3 (cA, .int) rfl).2
  have h2 : s.vm.findClass ("[" ++ FieldType.int.toString) = some cI := (hK.2 0 (cI, .int) rfl).2
  have e := Option.some.inj (h1.symm.trans h2)
  subst e
  exact kk q H1 ⟨hN, hK, hP1, hD1, hS1, hA⟩
theorem r_newZ (S : CallFix p m c cc nL s args BW own) (hW : AtC D (tyG cI cZ cN) A ws s H locs) {n : Nat} (hn : n < 1000) (hcl : cells + 1 ≤ R.cells) (hsl : slots + n ≤ R.slots) (hdg : decode cc pc = .ok (.newarray .boolean, 2))
    (kk : ∀ (q : Nat) (H1 : Heap), AtC D (tyG cI cZ cN) A (ws ++ [(q, .inl (cZ, n, .inl (fun _ => 0)))]) s H1 locs → W p l e R s m args below meth c H1 locs (cells + 1) (slots + n) Q (F0 m (pc + 2) ls (.ref q :: rest))) : W p l e R s m args below meth c H locs cells slots Q (F0 m pc ls (.int (nI n) :: rest)) := by
  obtain ⟨hx, hb, hml, hown, hts⟩ := S
  obtain ⟨hN, hK, hP, hD, hS, hA⟩ := hW
  refine va_newa (atype := .boolean) (ty := .boolean) (a0 := (n, .inl (fun _ => 0))) hx hb (hts _ mw43) rfl hK hP hD hS hA (fun cA => rfl) (nI_pos (by omega)) (nI_clamp (by omega)) (by show n * 1 ≤ _; omega) hcl hsl hdg (fun q cA H1 hK1 hP1 hD1 hS1 => ?_)
  have h1 : s.vm.findClass ("[" ++ FieldType.boolean.toString) = some cA := (hK1.2 3 (cA, .boolean) rfl).2
  have h2 : s.vm.findClass ("[" ++ FieldType.boolean.toString) = some cZ := (hK.2 1 (cZ, .boolean) rfl).2
  have e := Option.some.inj (h1.symm.trans h2)
  subst e
  exact kk q H1 ⟨hN, hK, hP1, hD1, hS1, hA⟩
theorem r_newQ (S : CallFix p m c cc nL s args BW own) (hO : va_AO "OneJohn$Now" s) (hW : AtC D (tyG cI cZ cN) A ws s H locs) {n : Nat} (hn : n < 1000) {idx : Nat} (hl : Cond.classLink own idx "OneJohn$Now" ∈ BW) (hcl : cells + 1 ≤ R.cells) (hsl : slots + n ≤ R.slots) (hdg : decode cc pc = .ok (.anewarray idx, 3))
    (kk : ∀ (q : Nat) (H1 : Heap), AtC D (tyG cI cZ cN) A (ws ++ [(q, .inl (cN, n, .inr (.inr (.inr (.inr (fun _ => none))))))]) s H1 locs → W p l e R s m args below meth c H1 locs (cells + 1) (slots + n) Q (F0 m (pc + 3) ls (.ref q :: rest))) : W p l e R s m args below meth c H locs cells slots Q (F0 m pc ls (.int (nI n) :: rest)) := by
  obtain ⟨hx, hb, hml, hown, hts⟩ := S
  obtain ⟨hN, hK, hP, hD, hS, hA⟩ := hW
  refine va_newq hx hb hown (hts _ hl) hO hK hP hD hS hA (nI_pos (by omega)) (nI_clamp (by omega)) (by omega) hcl hsl hdg (fun q cA H1 hK1 hP1 hD1 hS1 => ?_)
  obtain ⟨_, _, -, -, -, h1⟩ := (hK1.2 3 (cA, .object "OneJohn$Now") rfl).2
  obtain ⟨_, _, -, -, -, h2⟩ := (hK.2 2 (cN, .object "OneJohn$Now") rfl).2
  have e := Option.some.inj (h1.symm.trans h2)
  subst e
  exact kk q H1 ⟨hN, hK, hP1, hD1, hS1, hA⟩
theorem r_newO (S : CallFix p m c cc nL s args BW own) {tys : List (ClassId × FieldType)} (hW : AtC D tys A ws s H locs) {ci : Nat} {C : String} {T : u_T} {N : Nat} (hX : vwCl[ci]? = some (C, T, N)) (hin : ∀ w ∈ u_ws C T N, w ∈ BW) {ty : Nat → FieldType} (hty : ∀ k, k < N → parseFieldDescriptor (T k).2.2.1 = some (ty k)) {idx : Nat} (hl : Cond.classLink own idx C ∈ BW) (hi : Cond.instantiable C N ∈ BW) (hini : Cond.initialized C ∈ BW) {fs : List Value} (hfs : ∀ j, j < N → defaultValue (ty j) = vp_V fs j) (hcl : cells + 1 ≤ R.cells) (hsl : slots + N ≤ R.slots) (hdg : decode cc pc = .ok (.new idx, 3))
    (kk : ∀ (q : Nat) (H1 : Heap), AtC D tys A (ws ++ [(q, .inr (ci, fs))]) s H1 locs → W p l e R s m args below meth c H1 locs (cells + 1) (slots + N) Q (F0 m (pc + 3) ls (.ref q :: rest))) : W p l e R s m args below meth c H locs cells slots Q (F0 m pc ls rest) := by
  obtain ⟨hx, hb, hml, hown, hts⟩ := S
  obtain ⟨hN, hK, hP, hD, hS, hA⟩ := hW
  exact va_new hx hb hts hin ty hty hown (hts _ hl) (hts _ hi) (hts _ hini) hK hP hD hS hA hX hfs hcl hsl hdg (fun q H1 hP1 hD1 hS1 => kk q H1 ⟨hN, hK, hP1, hD1, hS1, hA⟩)
theorem r_putF (S : CallFix p m c cc nL s args BW own) (hin2 : meth.name = "<init>") {tys : List (ClassId × FieldType)} (hW : AtC D tys A ws s H locs) (q0 : Nat) {ci : Nat} {fs : List Value} (he : ws[q0]? = some (a, .inr (ci, fs))) {C : String} {T : u_T} {N : Nat} (hX : vwCl[ci]? = some (C, T, N)) (hin : ∀ w ∈ u_ws C T N, w ∈ BW) {ty0 : Nat → FieldType} (hty : ∀ k, k < N → parseFieldDescriptor (T k).2.2.1 = some (ty0 k)) (hnm : ∀ a, a < N → ∀ b, b < N → a ≠ b → (T a).2.1 ≠ (T b).2.1) (k : Nat) (hk : k < N) {v : Value} {idx : Nat} (hl : Cond.fieldLink own idx (T k).1 (T k).2.1 (T k).2.2.1 ∈ BW) (hfin : (T k).2.2.2 = true) (hdecl : (T k).1 = own) (hn : narrow (ty0 k) v = v) (hfit : fits (ty0 k) v = true) (hlen : k < fs.length) (hdg : decode cc pc = .ok (.putfield idx, 3))
    {ws' : va_W} (hw : ws.set q0 (a, .inr (ci, fs.set k v)) = ws')
    (kk : ∀ (H1 : Heap) (locs1 : List Loc), AtC D tys A ws' s H1 locs1 → W p l e R s m args below meth c H1 locs1 cells slots Q (F0 m (pc + 3) ls rest)) : W p l e R s m args below meth c H locs cells slots Q (F0 m pc ls (v :: .ref a :: rest)) := by
  obtain ⟨hx, hb, hml, hown, hts⟩ := S
  obtain ⟨hN, hK, hP, hD, hS, hA⟩ := hW
  subst hw
  exact va_putF hx hb hts hin ty0 hty hnm hown hK hP hD hS q0 he hX k hk (hts _ hl) (fun _ h => h) hfin hin2 hdecl (hty k hk) hn hfit hlen hdg (fun H1 locs1 h1 h2 h3 => kk H1 locs1 ⟨hN, hK, h1, h2, h3, hA⟩)
theorem r_objI (S : CallFix p m c cc nL s args BW own) {idx : Nat} (hl : Cond.methodLink own idx objectInit ∈ BW) (hsz : ls.size = nL) (hf : 1 ≤ R.frames) (hlo : (rest.map fun v => v.category).sum + 12 ≤ R.locals) (hdg : decode cc pc = .ok (.invokespecial idx, 3))
    (kk : W p l e R s m args below meth c H locs cells slots Q (F0 m (pc + 3) ls rest)) : W p l e R s m args below meth c H locs cells slots Q (F0 m pc ls (.ref a :: rest)) := by
  obtain ⟨hx, hb, hml, hown, hts⟩ := S
  exact W.objInit hx hb hown (hts _ hl) (hts _ mw10) (hts _ mw11) rfl (by rw [hml]; exact hsz) rfl hdg hf (by show 2 * 0 + _ + 12 ≤ _; omega) kk
theorem callIN (S : CallFix p m c cc nL s args BW own) (hO : va_AO "OneJohn$Now" s) {tys : List (ClassId × FieldType)} {ws' : va_W} {h0 : Nat} {e0 : va_E} (hW : AtC D tys A (ws' ++ [(h0, e0)]) s H locs) {y : MethodName} {b : ByteArray} {n fr mc ms : Nat} {post : va_W → Prop} (hM : CtN l y b n fr mc ms D tys h0 e0 post) (hi : Cond.instanceMethod y ∈ BW) (hini : Cond.initialized y.cls ∈ BW) (hco : Cond.code y b n none ∈ BW) (hyn : y.name = "<init>") (hd : y.cls ≠ "java/lang/invoke/MethodHandle" ∧ y.cls ≠ "java/lang/invoke/VarHandle" ∧ (parseMethodDescriptor y.desc).map (fun d => d.parameters.length) = some 0) {idx : Nat} {host : String} (j : Nat) (hl : nestL[j]? = some (own, idx, y, host))
    (hsz : ls.size = nL) (hro : (rest.map fun v => v.category).sum ≤ 8) (hR : fr + 1 ≤ R.frames ∧ 8 + (n + 11) + 40 * fr ≤ R.locals) (hf : cells + mc ≤ R.cells ∧ slots + ms ≤ R.slots) (hdg : decode cc pc = .ok (.invokespecial idx, 3))
    (kk : ∀ (w1 : va_W) (H1 : Heap) (locs1 : List Loc), post w1 → AtC D tys A (ws' ++ w1) s H1 locs1 → W p l e R s m args below meth c H1 locs1 (cells + mc) (slots + ms) Q (F0 m (pc + 3) ls rest)) : W p l e R s m args below meth c H locs cells slots Q (F0 m pc ls (.ref h0 :: rest)) := by
  have hC : [ws'.length].map (fun i => (ws' ++ [(h0, e0)])[i]?) = ([(h0, e0)] : va_W).map some := by simp
  obtain ⟨hPc, hDc, hFc⟩ := hW.cut [ws'.length] hC (by simp)
  obtain ⟨hN, hK, hP, hD, hS, hA⟩ := hW
  refine va_callv (va_runIN (As := []) (rest := rest) (host := host) (b := h0) S (hM H.size) ⟨va_cnB (ws' := BW) 0 S.2.2.2.2 (giC hco) rfl rfl rfl (hN _ (List.mem_of_getElem? hl)) (S.2.2.2.2 _ hini) hd hR, hyn, S.2.2.2.2 _ hi⟩ ⟨PN.blind, fun U hU hW => ⟨rfl, by rw [hU], by rw [hU]; exact hPc, va_K.moved hW.alike hK, hDc, hN.warm hW, va_AO.moved hW.alike hO⟩⟩ rfl rfl hsz rfl (lv_room hro) hdg hf) hS (fun q _ h => hFc q h) hFc (fun u t H1 locs1 ht hvm hw hB hz1 hk1 hS1 => ?_)
  obtain ⟨hP1, hD1⟩ := hB
  rw [ht] at hP1
  obtain ⟨g1, g2⟩ := join_new hP hD hk1 hP1 hD1 hFc
  exact kk u H1 locs1 hw ⟨hN, hK, g1, g2, hS1, hA⟩
theorem callIL (S : CallFix p m c cc nL s args BW own) (hO : va_AO "OneJohn$Now" s) {tys : List (ClassId × FieldType)} {ws' : va_W} {h0 : Nat} {e0 : va_E} (hW : AtC D tys A (ws' ++ [(h0, e0)]) s H locs) {y : MethodName} {b : ByteArray} {n fr mc ms : Nat} {post : va_W → Prop} (hM : CtN l y b n fr mc ms D tys h0 e0 post) (hi : Cond.instanceMethod y ∈ BW) (hini : Cond.initialized y.cls ∈ BW) (hco : Cond.code y b n none ∈ BW) (hyn : y.name = "<init>") (hd : y.cls ≠ "java/lang/invoke/MethodHandle" ∧ y.cls ≠ "java/lang/invoke/VarHandle" ∧ (parseMethodDescriptor y.desc).map (fun d => d.parameters.length) = some 0) {idx : Nat} (hl : Cond.methodLink own idx y ∈ BW)
    (hsz : ls.size = nL) (hro : (rest.map fun v => v.category).sum ≤ 8) (hR : fr + 1 ≤ R.frames ∧ 8 + (n + 11) + 40 * fr ≤ R.locals) (hf : cells + mc ≤ R.cells ∧ slots + ms ≤ R.slots) (hdg : decode cc pc = .ok (.invokespecial idx, 3))
    (kk : ∀ (w1 : va_W) (H1 : Heap) (locs1 : List Loc), post w1 → AtC D tys A (ws' ++ w1) s H1 locs1 → W p l e R s m args below meth c H1 locs1 (cells + mc) (slots + ms) Q (F0 m (pc + 3) ls rest)) : W p l e R s m args below meth c H locs cells slots Q (F0 m pc ls (.ref h0 :: rest)) := by
  have hC : [ws'.length].map (fun i => (ws' ++ [(h0, e0)])[i]?) = ([(h0, e0)] : va_W).map some := by simp
  obtain ⟨hPc, hDc, hFc⟩ := hW.cut [ws'.length] hC (by simp)
  obtain ⟨hN, hK, hP, hD, hS, hA⟩ := hW
  refine va_callv (va_runI (As := []) (rest := rest) (b := h0) S (hM H.size) (cwI (ws' := BW) 0 S.2.2.2.2 (giC hco) rfl rfl rfl (S.2.2.2.2 _ hini) (S.2.2.2.2 _ hl) (S.2.2.2.2 _ hi) hyn hd hR) ⟨PN.blind, fun U hU hW => ⟨rfl, by rw [hU], by rw [hU]; exact hPc, va_K.moved hW.alike hK, hDc, hN.warm hW, va_AO.moved hW.alike hO⟩⟩ rfl rfl hsz rfl (lv_room hro) hdg hf) hS (fun q _ h => hFc q h) hFc (fun u t H1 locs1 ht hvm hw hB hz1 hk1 hS1 => ?_)
  obtain ⟨hP1, hD1⟩ := hB
  rw [ht] at hP1
  obtain ⟨g1, g2⟩ := join_new hP hD hk1 hP1 hD1 hFc
  exact kk u H1 locs1 hw ⟨hN, hK, g1, g2, hS1, hA⟩
theorem r_aastN (S : CallFix p m c cc nL s args BW own) (hW : AtC D (tyG cI cZ cN) A ws s H locs) (q0 qk : Nat) {n v : Nat} {vs : List Value} {f : Nat → Option Nat} (ha : ws[q0]? = some (a, .inl (cN, n, .inr (.inr (.inr (.inr f)))))) (hv : ws[qk]? = some (v, .inr (2, vs))) {i : Nat} (hi : i < n) (hn : n < 1000) (hdg : decode cc pc = .ok (.aastore, 1))
    {ws' : va_W} (hw : ws.set q0 (a, .inl (cN, n, .inr (.inr (.inr (.inr (va_up f i (some v))))))) = ws')
    (kk : ∀ (H1 : Heap) (locs1 : List Loc), AtC D (tyG cI cZ cN) A ws' s H1 locs1 → W p l e R s m args below meth c H1 locs1 cells slots Q (F0 m (pc + 1) ls rest)) : W p l e R s m args below meth c H locs cells slots Q (F0 m pc ls (.ref v :: .int (nI i) :: .ref a :: rest)) := by
  obtain ⟨hx, hb, hml, hown, hts⟩ := S
  obtain ⟨hN, hK, hP, hD, hS, hA⟩ := hW
  subst hw
  refine va_astq (r := (RX2, TX2, 7)) hx hb hK hP hD hS q0 2 qk 2 ha rfl hv rfl (vp_in_nI hi (by omega)) hdg (fun H1 locs1 h1 h2 h3 => ?_)
  rw [show (nI i).toNatClampNeg = i from nI_clamp (by omega)] at h1 h2
  exact kk H1 locs1 ⟨hN, hK, h1, h2, h3, hA⟩
end MADE
/-- all is naught -/
def zz : NV := fun _ _ => 0
def nw0 : NV := upA zz 3 (upd (fun _ => 0) 1 15)
def ld0 : NV := upA zz 3 (upd (fun _ => 0) 0 4)
def rd0 : NV := upA zz 0 (upd (fun _ => 0) 2 257)
def md0 : NV := upA (upA zz 2 (upd (fun _ => 0) 0 4)) 7 (upd (fun _ => 0) 22 15)
/-- rows of Nows, as they are made -/
def nows (cI : ClassId) (G : Nat → Nat → Nat) : Nat → va_W
  | 0 => []
  | i + 1 => nows cI G i ++ pNow cI (G i) nw0
theorem app_at {α : Type} (xs : List α) (y : α) (ys : List α) : (xs ++ (y :: ys))[xs.length]? = some y := by simp
