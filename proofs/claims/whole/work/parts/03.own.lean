/-! own rows: words, contracts, calls -/
/-- the nest mates' links -/
def NN (U : State) : Prop := ∀ q ∈ nestL, va_Nw (.methodLinkNest q.1 q.2.1 q.2.2.1 q.2.2.2) U
theorem NN.warm {s U : State} (hW : s.WarmedH U.vm) (h : NN s) : NN U := fun q hq => va_Nw.warmM hW (h q hq)
theorem NN.same {u U : State} (h : u.vm = U.vm) (hn : NN u) : NN U := fun q hq => va_Nw.same rfl h (hn q hq)
theorem gdB {w : Cond} (h : w ∈ BW) : (w.onTables && w.keeps) = true ∨ ∃ ty, w = .arrayClass ty := good_of_word (gd_BW w h)
theorem giB {ws : List Cond} (h : ∀ w ∈ ws, w ∈ BW) : GoodIn BW ws := fun w hw => ⟨h w hw, gdB (h w hw)⟩
theorem giC {y : MethodName} {b : ByteArray} {n : Nat} {rt : Option FieldType} (h : Cond.code y b n rt ∈ BW) : GoodIn BW (Cond.code y b n rt :: BW) := giB (fun w hw => (List.mem_cons.mp hw).elim (fun e => by rw [e]; exact h) id)
/-- what is put in place of some rows of a world -/
def putW : va_W → List Nat → va_W → va_W
  | ws, [], _ => ws
  | ws, _ :: _, [] => ws
  | ws, i :: is, e :: es => putW (ws.set i e) is es
theorem putW_get : ∀ (is : List Nat) (w1 ws : va_W) (k : Nat) (q : Nat × va_E), is.Nodup → is.length = w1.length → (putW ws is w1)[k]? = some q → (∃ j : Nat, is[j]? = some k ∧ w1[j]? = some q) ∨ (k ∉ is ∧ ws[k]? = some q) := by
  intro is
  induction is with
  | nil => intro w1 ws k q _ _ h; right; refine ⟨by simp, ?_⟩; simpa [putW] using h
  | cons i is ih =>
    intro w1 ws k q hn hl h
    cases w1 with
    | nil => simp at hl
    | cons e es =>
      rw [putW] at h
      rw [List.nodup_cons] at hn
      rcases ih es (ws.set i e) k q hn.2 (by simpa using hl) h with ⟨j, h1, h2⟩ | ⟨h1, h2⟩
      · exact Or.inl ⟨j + 1, by simpa using h1, by simpa using h2⟩
      · by_cases hk : i = k
        · subst hk
          left
          refine ⟨0, by simp, ?_⟩
          rw [List.getElem?_set] at h2
          simp only [if_true] at h2
          split at h2
          · simpa using h2
          · cases h2
        · right
          rw [List.getElem?_set_ne hk] at h2
          exact ⟨by simp [h1, Ne.symm hk], h2⟩
theorem putW_fst : ∀ (is : List Nat) (w1 ws : va_W), is.map (fun i => (ws[i]?).map Prod.fst) = w1.map (fun e => some e.1) → (putW ws is w1).map Prod.fst = ws.map Prod.fst := by
  intro is
  induction is with
  | nil => intro w1 ws _; simp [putW]
  | cons i is ih =>
    intro w1 ws h
    cases w1 with
    | nil => rfl
    | cons e es =>
      simp only [List.map_cons, List.cons.injEq] at h
      have key : (ws.set i e).map Prod.fst = ws.map Prod.fst := by
        apply List.ext_getElem?
        intro k
        simp only [List.getElem?_map]
        by_cases hk : i = k
        · subst hk
          rw [List.getElem?_set]
          cases hw : ws[i]? with
          | none => rw [hw] at h; simp at h
          | some z =>
            have hlt : i < ws.length := (List.getElem?_eq_some_iff.mp hw).1
            rw [hw] at h
            simp at h
            simp [hlt, h.1]
        · rw [List.getElem?_set_ne hk]
      rw [putW, ih es (ws.set i e) ?_, key]
      rw [← h.2]
      apply List.map_congr_left
      intro k _
      have := congrArg (fun l => l[k]?) key
      simpa only [List.getElem?_map] using this
theorem my_Dc {A : Nat → Prop} {ws ws' : va_W} (h : ws'.map Prod.fst = ws.map Prod.fst) (hD : va_D A ws) : va_D A ws' := by
  have key : ∀ (k : Nat) (q : Nat × va_E), ws'[k]? = some q → ∃ e, ws[k]? = some (q.1, e) := by
    intro k q hk
    have h1 := congrArg (fun l => l[k]?) h
    simp only [List.getElem?_map, hk] at h1
    cases hw : ws[k]? with
    | none => rw [hw] at h1; simp at h1
    | some z => rw [hw] at h1; simp at h1; exact ⟨z.2, by rw [h1]⟩
  refine ⟨fun i j p q hi hj e => ?_, fun k q hk => ?_⟩
  · obtain ⟨e1, h1⟩ := key i p hi
    obtain ⟨e2, h2⟩ := key j q hj
    exact hD.1 i j _ _ h1 h2 e
  · obtain ⟨e1, h1⟩ := key k q hk
    exact hD.2 k (q.1, e1) h1
theorem putW_P {D : va_G} {A : Nat → Prop} {ws wc w1 : va_W} {H H1 : Heap} (hP : va_P D vwCl ws H) (hD : va_D A ws) (isC : List Nat) (hC : isC.map (fun i => ws[i]?) = wc.map some) (hn : isC.Nodup) (hk : ∀ q : Nat, q < H.size → ¬ va_A wc H.size q → H1[q]? = H[q]?) (hP1 : va_P D vwCl w1 H1) (hf : w1.map Prod.fst = wc.map Prod.fst) : va_P D vwCl (putW ws isC w1) H1 ∧ (putW ws isC w1).map Prod.fst = ws.map Prod.fst := by
  have hl : isC.length = w1.length := by
    have h1 := congrArg List.length hC
    have h2 := congrArg List.length hf
    simp at h1 h2
    omega
  refine ⟨fun k q hkq => ?_, putW_fst isC w1 ws ?_⟩
  · rcases putW_get isC w1 ws k q hn hl hkq with ⟨j, h1, h2⟩ | ⟨h1, h2⟩
    · exact hP1 j q h2
    · refine (hP k q h2).kept (hk q.1 (hP k q h2).lt ?_)
      rintro (⟨j, e, hj⟩ | hj)
      · have h3 : (isC.map (fun i => ws[i]?))[j]? = some (some (q.1, e)) := by rw [hC, List.getElem?_map, hj]; rfl
        rw [List.getElem?_map] at h3
        cases hi : isC[j]? with
        | none => rw [hi] at h3; cases h3
        | some i =>
          rw [hi] at h3
          have h4 := hD.1 k i q (q.1, e) h2 (Option.some.inj h3) rfl
          subst h4
          exact h1 (List.mem_of_getElem? hi)
      · have := (hP k q h2).lt
        omega
  · have h1 : isC.map (fun i => (ws[i]?).map Prod.fst) = (isC.map (fun i => ws[i]?)).map (Option.map Prod.fst) := by rw [List.map_map]; rfl
    rw [h1, hC, List.map_map]
    have h2 : w1.map (fun e => some e.1) = (w1.map Prod.fst).map some := by rw [List.map_map]; rfl
    rw [h2, hf, List.map_map]
    rfl
/-- contracts that make nothing: before and behind, the same addresses -/
def PC (D : va_G) (tys : List (ClassId × FieldType)) (w0 : va_W) (sz : Nat) (av : List Value) : Array Value → State → Prop := va_Pc av (fun U => U.heap.size = sz ∧ va_P D vwCl w0 U.heap ∧ va_K D vwCl tys U ∧ va_D (fun _ => True) w0 ∧ NN U)
def Bw (D : va_G) (w0 : va_W) : va_W → State → Prop := fun w1 t => va_P D vwCl w1 t.heap ∧ w1.map Prod.fst = w0.map Prod.fst
abbrev rmN (fr : Nat) : Room := { frames := fr, cells := 0, slots := 0, locals := 40 * fr }
def CtI (l : Launch) (y : MethodName) (b : ByteArray) (n : Nat) (rt : Option FieldType) (fr : Nat) (D : va_G) (tys : List (ClassId × FieldType)) (av : List Value) (w0 : va_W) (post : Int32 → va_W → Prop) : Prop :=
  ∀ sz : Nat, Met l y (Cond.code y b n rt :: BW) (rmN fr) (PC D tys w0 sz av) (va_Qi post (Bw D w0) (va_A w0 sz)) 0 0 (va_A w0 sz)
def CtV (l : Launch) (y : MethodName) (b : ByteArray) (n : Nat) (fr : Nat) (D : va_G) (tys : List (ClassId × FieldType)) (av : List Value) (w0 : va_W) (post : va_W → Prop) : Prop :=
  ∀ sz : Nat, Met l y (Cond.code y b n none :: BW) (rmN fr) (PC D tys w0 sz av) (va_Qv post (Bw D w0) (va_A w0 sz)) 0 0 (va_A w0 sz)
def CtL (l : Launch) (y : MethodName) (b : ByteArray) (n : Nat) (fr : Nat) (D : va_G) (tys : List (ClassId × FieldType)) (av : List Value) (w0 : va_W) (post : Int64 → va_W → Prop) : Prop :=
  ∀ sz : Nat, Met l y (Cond.code y b n (some .long) :: BW) (rmN fr) (PC D tys w0 sz av) (va_Ql post (Bw D w0) (va_A w0 sz)) 0 0 (va_A w0 sz)
theorem PC.blind {D : va_G} {tys : List (ClassId × FieldType)} {w0 : va_W} {sz : Nat} {av : List Value} : FrameBlind (PC D tys w0 sz av) := by
  intro a U g mk q
  obtain ⟨q0, q1, qP, qK, qD, qN⟩ := q
  exact ⟨q0, q1, qP, va_K.moved (u := U) (U := U.calling g mk a) (Vm.Alike.refl U.vm) qK, qD, NN.same rfl qN⟩
/-- the world at a call -/
def AtC (D : va_G) (tys : List (ClassId × FieldType)) (A : Nat → Prop) (ws : va_W) (s : State) (H : Heap) (locs : List Loc) : Prop := NN s ∧ va_K D vwCl tys s ∧ va_P D vwCl ws H ∧ va_D A ws ∧ va_S A s.heap H locs ∧ ∀ q, s.heap.size ≤ q → A q
/-- from a method's entry -/
theorem bodyW {l : Launch} {y : MethodName} {b : ByteArray} {n : Nat} {rt : Option FieldType} {fr : Nat} {D : va_G} {tys : List (ClassId × FieldType)} {av : List Value} {w0 : va_W} {sz : Nat} {Qc : Array Value → State → Outcome → State → Prop} (hy : plainName y.cls = true) (hlen : (lg_sl av).length ≤ n)
    (h : ∀ (p : Program) (e : Env) (s : State) (m : MethodId) (below : List Frame) (meth : Method) (c : Code) (ls : Array Slot), s.heap.size = sz → CallFix p m c b n s av.toArray BW y.cls → meth.sig.returnType = rt → meth.locks = false → AtC D tys (va_A w0 s.heap.size) w0 s s.heap [] → lv_has ls n (lv_args 0 av) →
      W p l e (rmN fr) s m av.toArray below meth c s.heap [] 0 0 (MQ below Qc av.toArray s 0 0 (va_A w0 sz)) (F0 m 0 ls [])) : Met l y (Cond.code y b n rt :: BW) (rmN fr) (PC D tys w0 sz av) Qc 0 0 (va_A w0 sz) := by
  refine Met.ofW (cc := b) (maxL := n) (ret := rt) hy rfl ?_
  intro p e s m args below meth c s₁ B hml hv
  obtain ⟨rfl, hsz, hP, hK, hD, hN⟩ := hv
  have hts := atoms_spec (ws := Cond.code y b n rt :: BW) B.pre
  have hown : s.vm.findClass y.cls = some m.cls := findClass_of_methodNamed B.named
  rw [lg_entry_eq]
  exact h p e s m below meth c _ hsz ⟨B.exec, B.bytes, hml, hown, fun w hw => hts w (List.mem_cons_of_mem _ hw)⟩ B.returns B.notSynchronized ⟨hN, hK, hP, hD.self, va_S.rf, fun q h => Or.inr h⟩ (lv_entry av hlen)
theorem CtI.of {l : Launch} {y : MethodName} {b : ByteArray} {n : Nat} {ty : FieldType} {fr : Nat} {D : va_G} {tys : List (ClassId × FieldType)} {av : List Value} {w0 : va_W} {post : Int32 → va_W → Prop} (hy : plainName y.cls = true) (hlen : (lg_sl av).length ≤ n)
    (h : ∀ (p : Program) (e : Env) (s : State) (m : MethodId) (args : Array Value) (below : List Frame) (meth : Method) (c : Code) (ls : Array Slot) (Q : State → Prop) (A : Nat → Prop), CallFix p m c b n s args BW y.cls →
      (∀ (H : Heap) (locs : List Loc) (pc : Nat) (ls : Array Slot) (v : Int32) (w1 : va_W), AtC D tys A w1 s H locs → w1.map Prod.fst = w0.map Prod.fst → narrow ty (.int v) = .int v → decode b pc = .ok (.ireturn, 1) → post v w1 → W p l e (rmN fr) s m args below meth c H locs 0 0 Q (F0 m pc ls [.int v])) →
      AtC D tys A w0 s s.heap [] → lv_has ls n (lv_args 0 av) → W p l e (rmN fr) s m args below meth c s.heap [] 0 0 Q (F0 m 0 ls [])) : CtI l y b n (some ty) fr D tys av w0 post := by
  intro sz
  refine bodyW hy hlen ?_
  intro p e s m below meth c ls hsz S hr hlk hW hl
  subst hsz
  exact h p e s m _ below meth c ls _ _ S (fun H locs pc ls v w1 hW hf hn hdg hp => W.zret S.1 S.2.1 hr hn (fun t ht _ => ⟨⟨v, w1, rfl, hp, by rw [ht]; exact hW.2.2.1, hf⟩, hW.2.2.2.2.1.F ht⟩) hW.2.2.2.2.1.2.2 hdg hlk) hW hl
theorem CtV.of {l : Launch} {y : MethodName} {b : ByteArray} {n : Nat} {fr : Nat} {D : va_G} {tys : List (ClassId × FieldType)} {av : List Value} {w0 : va_W} {post : va_W → Prop} (hy : plainName y.cls = true) (hlen : (lg_sl av).length ≤ n)
    (h : ∀ (p : Program) (e : Env) (s : State) (m : MethodId) (args : Array Value) (below : List Frame) (meth : Method) (c : Code) (ls : Array Slot) (Q : State → Prop) (A : Nat → Prop), CallFix p m c b n s args BW y.cls →
      (∀ (H : Heap) (locs : List Loc) (pc : Nat) (ls : Array Slot) (w1 : va_W), AtC D tys A w1 s H locs → w1.map Prod.fst = w0.map Prod.fst → decode b pc = .ok (.return_, 1) → post w1 → W p l e (rmN fr) s m args below meth c H locs 0 0 Q (F0 m pc ls [])) →
      AtC D tys A w0 s s.heap [] → lv_has ls n (lv_args 0 av) → W p l e (rmN fr) s m args below meth c s.heap [] 0 0 Q (F0 m 0 ls [])) : CtV l y b n fr D tys av w0 post := by
  intro sz
  refine bodyW hy hlen ?_
  intro p e s m below meth c ls hsz S hr hlk hW hl
  subst hsz
  exact h p e s m _ below meth c ls _ _ S (fun H locs pc ls w1 hW hf hdg hp => W.vret S.1 S.2.1 hr (fun t ht _ => ⟨⟨w1, rfl, hp, by rw [ht]; exact hW.2.2.1, hf⟩, hW.2.2.2.2.1.F ht⟩) hW.2.2.2.2.1.2.2 hdg hlk) hW hl
theorem CtL.of {l : Launch} {y : MethodName} {b : ByteArray} {n : Nat} {fr : Nat} {D : va_G} {tys : List (ClassId × FieldType)} {av : List Value} {w0 : va_W} {post : Int64 → va_W → Prop} (hy : plainName y.cls = true) (hlen : (lg_sl av).length ≤ n)
    (h : ∀ (p : Program) (e : Env) (s : State) (m : MethodId) (args : Array Value) (below : List Frame) (meth : Method) (c : Code) (ls : Array Slot) (Q : State → Prop) (A : Nat → Prop), CallFix p m c b n s args BW y.cls →
      (∀ (H : Heap) (locs : List Loc) (pc : Nat) (ls : Array Slot) (v : Int64) (w1 : va_W), AtC D tys A w1 s H locs → w1.map Prod.fst = w0.map Prod.fst → decode b pc = .ok (.lreturn, 1) → post v w1 → W p l e (rmN fr) s m args below meth c H locs 0 0 Q (F0 m pc ls [.long v])) →
      AtC D tys A w0 s s.heap [] → lv_has ls n (lv_args 0 av) → W p l e (rmN fr) s m args below meth c s.heap [] 0 0 Q (F0 m 0 ls [])) : CtL l y b n fr D tys av w0 post := by
  intro sz
  refine bodyW hy hlen ?_
  intro p e s m below meth c ls hsz S hr hlk hW hl
  subst hsz
  exact h p e s m _ below meth c ls _ _ S (fun H locs pc ls v w1 hW hf hdg hp => W.lret S.1 S.2.1 hr (fun t ht _ => ⟨⟨v, w1, rfl, hp, by rw [ht]; exact hW.2.2.1, hf⟩, hW.2.2.2.2.1.F ht⟩) hW.2.2.2.2.1.2.2 hdg hlk) hW hl
/-- what a method of a class is: its words -/
def VM (C : String) (y : MethodName) (b : ByteArray) (n : Nat) (rt : Option FieldType) (k : Nat) : Prop := Cond.instanceMethod y ∈ BW ∧ Cond.selects C y y ∈ BW ∧ Cond.initialized C ∈ BW ∧ Cond.code y b n rt ∈ BW ∧ y.cls = C ∧ y.cls ≠ "java/lang/invoke/MethodHandle" ∧ y.cls ≠ "java/lang/invoke/VarHandle" ∧ (parseMethodDescriptor y.desc).map (fun d => d.parameters.length) = some k
def SM (y : MethodName) (b : ByteArray) (n : Nat) (rt : Option FieldType) (k : Nat) : Prop := Cond.static y ∈ BW ∧ Cond.initialized y.cls ∈ BW ∧ Cond.code y b n rt ∈ BW ∧ y.cls ≠ "java/lang/invoke/MethodHandle" ∧ y.cls ≠ "java/lang/invoke/VarHandle" ∧ (parseMethodDescriptor y.desc).map (fun d => d.parameters.length) = some k
section OWN
variable {p : Program} {l : Launch} {e : Env} {R : Room} {s : State} {m : MethodId} {args : Array Value} {below : List Frame} {meth : Method} {c : Code} {H : Heap} {locs : List Loc} {cells slots : Nat} {Q : State → Prop}
variable {cc : ByteArray} {nL pc : Nat} {ls : Array Slot} {rest : List Value} {D : va_G} {A : Nat → Prop} {a : Nat} {tys : List (ClassId × FieldType)} {ws : va_W} {own : String}
theorem r_get (S : CallFix p m c cc nL s args BW own) (hW : AtC D tys A ws s H locs) (q0 : Nat) {ci : Nat} {fs : List Value} (he : ws[q0]? = some (a, .inr (ci, fs))) {C : String} {T : u_T} {N : Nat} (hX : vwCl[ci]? = some (C, T, N)) (hin : ∀ w ∈ u_ws C T N, w ∈ BW) (k : Nat) (hk : k < N) {v : Value} (hv : fs[k]? = some v) {idx : Nat} (hl : Cond.fieldLink own idx (T k).1 (T k).2.1 (T k).2.2.1 ∈ BW) (hdg : decode cc pc = .ok (.getfield idx, 3))
    (kk : W p l e R s m args below meth c H locs cells slots Q (F0 m (pc + 3) ls (v :: rest))) : W p l e R s m args below meth c H locs cells slots Q (F0 m pc ls (.ref a :: rest)) := by
  obtain ⟨hx, hb, hml, hown, hts⟩ := S
  obtain ⟨hN, hK, hP, hD, hS, hA⟩ := hW
  exact va_get hx hb hts hin hown hK hP q0 he hX k hk (hts _ hl) (fun _ h => h) hv hdg kk
theorem r_put (S : CallFix p m c cc nL s args BW own) (hW : AtC D tys A ws s H locs) (q0 : Nat) {ci : Nat} {fs : List Value} (he : ws[q0]? = some (a, .inr (ci, fs))) {C : String} {T : u_T} {N : Nat} (hX : vwCl[ci]? = some (C, T, N)) (hin : ∀ w ∈ u_ws C T N, w ∈ BW) {ty0 : Nat → FieldType} (hty : ∀ k, k < N → parseFieldDescriptor (T k).2.2.1 = some (ty0 k)) (hnm : ∀ a, a < N → ∀ b, b < N → a ≠ b → (T a).2.1 ≠ (T b).2.1) (k : Nat) (hk : k < N) {v : Value} {idx : Nat} (hl : Cond.fieldLink own idx (T k).1 (T k).2.1 (T k).2.2.1 ∈ BW) (hfin : (T k).2.2.2 = false) (hn : narrow (ty0 k) v = v) (hfit : fits (ty0 k) v = true) (hlen : k < fs.length) (hdg : decode cc pc = .ok (.putfield idx, 3))
    {ws' : va_W} (hw : ws.set q0 (a, .inr (ci, fs.set k v)) = ws')
    (kk : ∀ (H1 : Heap) (locs1 : List Loc), AtC D tys A ws' s H1 locs1 → W p l e R s m args below meth c H1 locs1 cells slots Q (F0 m (pc + 3) ls rest)) : W p l e R s m args below meth c H locs cells slots Q (F0 m pc ls (v :: .ref a :: rest)) := by
  obtain ⟨hx, hb, hml, hown, hts⟩ := S
  subst hw
  obtain ⟨hN, hK, hP, hD, hS, hA⟩ := hW
  exact va_put hx hb hts hin ty0 hty hnm hown hK hP hD hS q0 he hX k hk (hts _ hl) (fun _ h => h) hfin (hty k hk) hn hfit hlen hdg (fun H1 locs1 h1 h2 h3 => kk H1 locs1 ⟨hN, hK, h1, h2, h3, hA⟩)
theorem r_iald (S : CallFix p m c cc nL s args BW own) (hW : AtC D tys A ws s H locs) (q0 t0 : Nat) {cA : ClassId} {n : Nat} {f : Nat → Int32} (ha : ws[q0]? = some (a, .inl (cA, n, .inl f))) (ht : tys[t0]? = some (cA, .int)) {i : Int32} {j : Nat} (hi : i = nI j) (hj : j < n) (hn : n < 2 ^ 31) (hdg : decode cc pc = .ok (.iaload, 1))
    (kk : W p l e R s m args below meth c H locs cells slots Q (F0 m (pc + 1) ls (.int (f j) :: rest))) : W p l e R s m args below meth c H locs cells slots Q (F0 m pc ls (.int i :: .ref a :: rest)) := by
  subst hi
  obtain ⟨hN, hK, hP, hD, hS, hA⟩ := hW
  refine va_iald S.1 S.2.1 hK hP q0 t0 ha ht (vp_in_nI hj hn) hdg ?_
  rw [nI_clamp (by omega)]
  exact kk
theorem r_zald (S : CallFix p m c cc nL s args BW own) (hW : AtC D tys A ws s H locs) (q0 t0 : Nat) {cA : ClassId} {n : Nat} {f : Nat → Int32} (ha : ws[q0]? = some (a, .inl (cA, n, .inl f))) (ht : tys[t0]? = some (cA, .boolean)) {i : Int32} {j : Nat} (hi : i = nI j) (hj : j < n) (hn : n < 2 ^ 31) (hdg : decode cc pc = .ok (.baload, 1))
    (kk : W p l e R s m args below meth c H locs cells slots Q (F0 m (pc + 1) ls (.int (f j) :: rest))) : W p l e R s m args below meth c H locs cells slots Q (F0 m pc ls (.int i :: .ref a :: rest)) := by
  subst hi
  obtain ⟨hN, hK, hP, hD, hS, hA⟩ := hW
  refine va_zald S.1 S.2.1 hK hP q0 t0 ha ht (vp_in_nI hj hn) hdg ?_
  rw [nI_clamp (by omega)]
  exact kk
theorem r_iast (S : CallFix p m c cc nL s args BW own) (hW : AtC D tys A ws s H locs) (q0 t0 : Nat) {cA : ClassId} {n : Nat} {f : Nat → Int32} (ha : ws[q0]? = some (a, .inl (cA, n, .inl f))) (ht : tys[t0]? = some (cA, .int)) {i x : Int32} {j : Nat} (hi : i = nI j) (hj : j < n) (hn : n < 2 ^ 31) (hdg : decode cc pc = .ok (.iastore, 1))
    {ws' : va_W} (hw : ws.set q0 (a, .inl (cA, n, .inl (upd f j x))) = ws')
    (kk : ∀ (H1 : Heap) (locs1 : List Loc), AtC D tys A ws' s H1 locs1 → W p l e R s m args below meth c H1 locs1 cells slots Q (F0 m (pc + 1) ls rest)) : W p l e R s m args below meth c H locs cells slots Q (F0 m pc ls (.int x :: .int i :: .ref a :: rest)) := by
  subst hi
  subst hw
  have e : (nI j).toNatClampNeg = j := nI_clamp (by omega)
  obtain ⟨hN, hK, hP, hD, hS, hA⟩ := hW
  refine va_iast S.1 S.2.1 hK hP hD hS q0 t0 ha ht (vp_in_nI hj hn) hdg (fun H1 locs1 h1 h2 h3 => ?_)
  rw [e] at h1 h2
  exact kk H1 locs1 ⟨hN, hK, h1, h2, h3, hA⟩
theorem r_zast (S : CallFix p m c cc nL s args BW own) (hW : AtC D tys A ws s H locs) (q0 t0 : Nat) {cA : ClassId} {n : Nat} {f : Nat → Int32} (ha : ws[q0]? = some (a, .inl (cA, n, .inl f))) (ht : tys[t0]? = some (cA, .boolean)) {i x : Int32} {j : Nat} (hi : i = nI j) (hj : j < n) (hn : n < 2 ^ 31) (hz : vp_nar .boolean x = x) (hdg : decode cc pc = .ok (.bastore, 1))
    {ws' : va_W} (hw : ws.set q0 (a, .inl (cA, n, .inl (upd f j x))) = ws')
    (kk : ∀ (H1 : Heap) (locs1 : List Loc), AtC D tys A ws' s H1 locs1 → W p l e R s m args below meth c H1 locs1 cells slots Q (F0 m (pc + 1) ls rest)) : W p l e R s m args below meth c H locs cells slots Q (F0 m pc ls (.int x :: .int i :: .ref a :: rest)) := by
  subst hi
  subst hw
  have e : (nI j).toNatClampNeg = j := nI_clamp (by omega)
  obtain ⟨hN, hK, hP, hD, hS, hA⟩ := hW
  refine va_zast S.1 S.2.1 hK hP hD hS q0 t0 ha ht (vp_in_nI hj hn) hdg (fun H1 locs1 h1 h2 h3 => ?_)
  rw [e, hz] at h1 h2
  exact kk H1 locs1 ⟨hN, hK, h1, h2, h3, hA⟩
/-- the top of the stack by another word -/
theorem r_eq {x y : Int32} (h : x = y) (k : W p l e R s m args below meth c H locs cells slots Q (F0 m pc ls (.int y :: rest))) : W p l e R s m args below meth c H locs cells slots Q (F0 m pc ls (.int x :: rest)) := h ▸ k
theorem AtC.cut {wc : va_W} (h : AtC D tys A ws s H locs) (isC : List Nat) (hC : isC.map (fun i => ws[i]?) = wc.map some) (hn : isC.Nodup) : va_P D vwCl wc H ∧ va_D (fun _ => True) wc ∧ ∀ q, va_A wc H.size q → A q := by
  obtain ⟨hN, hK, hP, hD, hS, hA⟩ := h
  have at' : ∀ (k : Nat) (q : Nat × va_E), wc[k]? = some q → ∃ i, isC[k]? = some i ∧ ws[i]? = some q := by
    intro k q hq
    have h1 : (isC.map (fun i => ws[i]?))[k]? = some (some q) := by rw [hC, List.getElem?_map, hq]; rfl
    rw [List.getElem?_map] at h1
    cases hi : isC[k]? with
    | none => rw [hi] at h1; cases h1
    | some i => rw [hi] at h1; exact ⟨i, rfl, Option.some.inj h1⟩
  refine ⟨fun k q hk => ?_, ⟨fun i j x y hx hy hxy => ?_, fun _ _ _ => trivial⟩, va_free hD hS hA isC hC⟩
  · obtain ⟨i, h1, h2⟩ := at' k q hk
    exact hP i q h2
  · obtain ⟨i1, h1, h2⟩ := at' i x hx
    obtain ⟨j1, h3, h4⟩ := at' j y hy
    have e := hD.1 i1 j1 x y h2 h4 hxy
    subst e
    have hi := (List.getElem?_eq_some_iff.mp h1)
    have hj := (List.getElem?_eq_some_iff.mp h3)
    exact (List.getElem_inj hn).mp (hi.2.trans hj.2.symm)
theorem AtC.pre {wc : va_W} {av : List Value} (h : AtC D tys A ws s H locs) (isC : List Nat) (hC : isC.map (fun i => ws[i]?) = wc.map some) (hn : isC.Nodup) : ∀ U : State, U.heap = H → s.WarmedH U.vm → PC D tys wc H.size av av.toArray U := by
  obtain ⟨h1, h2, -⟩ := h.cut isC hC hn
  obtain ⟨hN, hK, hP, hD, hS, hA⟩ := h
  exact fun U hU hW => ⟨rfl, by rw [hU], by rw [hU]; exact h1, va_K.moved hW.alike hK, h2, hN.warm hW⟩
theorem callVI (S : CallFix p m c cc nL s args BW own) (hW : AtC D tys A ws s H locs) {y : MethodName} {b : ByteArray} {n : Nat} {rt : Option FieldType} {fr b0 : Nat} {As : List Value} {wc : va_W} {post : Int32 → va_W → Prop} (hM : CtI l y b n rt fr D tys (.ref b0 :: As) wc post) {C : String} {k : Nat} (hV : VM C y b n rt k) {idx : Nat} (hl : Cond.methodLink own idx y ∈ BW) (isC : List Nat) (hC : isC.map (fun i => ws[i]?) = wc.map some) (hn : isC.Nodup) (q0 : Nat) {ci : Nat} {T : u_T} {N : Nat} {fs : List Value} (hc : vwCl[ci]? = some (C, T, N)) (he : wc[q0]? = some (b0, .inr (ci, fs)))
    (hk : As.length = k) {st : List Value} (hst : st = As.reverse ++ .ref b0 :: rest) (hsz : ls.size = nL) (hro : (rest.map fun v => v.category).sum ≤ 8) (hR : fr + 1 ≤ R.frames ∧ 8 + (n + 11) + 40 * fr ≤ R.locals) (hf : cells ≤ R.cells ∧ slots ≤ R.slots) (hdg : decode cc pc = .ok (.invokevirtual idx, 3))
    (kk : ∀ (r : Int32) (w1 : va_W) (H1 : Heap) (locs1 : List Loc), post r w1 → AtC D tys A (putW ws isC w1) s H1 locs1 → W p l e R s m args below meth c H1 locs1 cells slots Q (F0 m (pc + 3) ls (.int r :: rest))) : W p l e R s m args below meth c H locs cells slots Q (F0 m pc ls st) := by
  subst hst
  obtain ⟨hPc, hDc, hFc⟩ := hW.cut isC hC hn
  have hpre := hW.pre (av := .ref b0 :: As) isC hC hn
  obtain ⟨hN, hK, hP, hD, hS, hA⟩ := hW
  obtain ⟨v1, v2, v3, v4, v5, v6, v7, v8⟩ := hV
  refine va_calli (va_runV (As := As) (rest := rest) S (hM H.size) (cwV (ws' := BW) k S.2.2.2.2 (giB (fun w hw => by
    unfold wsV at hw
    rcases List.mem_append.mp hw with h | h
    · simp at h
      rcases h with rfl | rfl | rfl | rfl
      · exact hl
      · exact v1
      · exact v2
      · exact v3
    · exact (List.mem_cons.mp h).elim (fun e => by rw [e]; exact v4) id)) rfl rfl rfl ⟨v5, v6, v7, v8⟩ hR) ⟨PC.blind, va_recv hK hPc hc he, hpre⟩ rfl hk hsz rfl (lv_room hro) hdg ⟨by simpa using hf.1, by simpa using hf.2⟩) hS (fun q _ h => hFc q h) hFc (fun r u t H1 locs1 ht hvm hw hB hz1 hk1 hS1 => ?_)
  obtain ⟨hP1, hf1⟩ := hB
  rw [ht] at hP1
  obtain ⟨g1, g2⟩ := putW_P hP hD isC hC hn hk1 hP1 hf1
  exact kk r u H1 locs1 hw ⟨hN, hK, g1, my_Dc g2 hD, hS1, hA⟩
theorem callVV (S : CallFix p m c cc nL s args BW own) (hW : AtC D tys A ws s H locs) {y : MethodName} {b : ByteArray} {n : Nat} {fr b0 : Nat} {As : List Value} {wc : va_W} {post : va_W → Prop} (hM : CtV l y b n fr D tys (.ref b0 :: As) wc post) {C : String} {k : Nat} (hV : VM C y b n none k) {idx : Nat} (hl : Cond.methodLink own idx y ∈ BW) (isC : List Nat) (hC : isC.map (fun i => ws[i]?) = wc.map some) (hn : isC.Nodup) (q0 : Nat) {ci : Nat} {T : u_T} {N : Nat} {fs : List Value} (hc : vwCl[ci]? = some (C, T, N)) (he : wc[q0]? = some (b0, .inr (ci, fs)))
    (hk : As.length = k) {st : List Value} (hst : st = As.reverse ++ .ref b0 :: rest) (hsz : ls.size = nL) (hro : (rest.map fun v => v.category).sum ≤ 8) (hR : fr + 1 ≤ R.frames ∧ 8 + (n + 11) + 40 * fr ≤ R.locals) (hf : cells ≤ R.cells ∧ slots ≤ R.slots) (hdg : decode cc pc = .ok (.invokevirtual idx, 3))
    (kk : ∀ (w1 : va_W) (H1 : Heap) (locs1 : List Loc), post w1 → AtC D tys A (putW ws isC w1) s H1 locs1 → W p l e R s m args below meth c H1 locs1 cells slots Q (F0 m (pc + 3) ls rest)) : W p l e R s m args below meth c H locs cells slots Q (F0 m pc ls st) := by
  subst hst
  obtain ⟨hPc, hDc, hFc⟩ := hW.cut isC hC hn
  have hpre := hW.pre (av := .ref b0 :: As) isC hC hn
  obtain ⟨hN, hK, hP, hD, hS, hA⟩ := hW
  obtain ⟨v1, v2, v3, v4, v5, v6, v7, v8⟩ := hV
  refine va_callv (va_runV (As := As) (rest := rest) S (hM H.size) (cwV (ws' := BW) k S.2.2.2.2 (giB (fun w hw => by
    unfold wsV at hw
    rcases List.mem_append.mp hw with h | h
    · simp at h
      rcases h with rfl | rfl | rfl | rfl
      · exact hl
      · exact v1
      · exact v2
      · exact v3
    · exact (List.mem_cons.mp h).elim (fun e => by rw [e]; exact v4) id)) rfl rfl rfl ⟨v5, v6, v7, v8⟩ hR) ⟨PC.blind, va_recv hK hPc hc he, hpre⟩ rfl hk hsz rfl (lv_room hro) hdg ⟨by simpa using hf.1, by simpa using hf.2⟩) hS (fun q _ h => hFc q h) hFc (fun u t H1 locs1 ht hvm hw hB hz1 hk1 hS1 => ?_)
  obtain ⟨hP1, hf1⟩ := hB
  rw [ht] at hP1
  obtain ⟨g1, g2⟩ := putW_P hP hD isC hC hn hk1 hP1 hf1
  exact kk u H1 locs1 hw ⟨hN, hK, g1, my_Dc g2 hD, hS1, hA⟩
/-- a static method of the same class or of the JDK: no cells -/
theorem callSI (S : CallFix p m c cc nL s args BW own) (hW : AtC D tys A ws s H locs) {y : MethodName} {b : ByteArray} {n : Nat} {rt : Option FieldType} {fr : Nat} {As : List Value} {post : Int32 → va_W → Prop} (hM : CtI l y b n rt fr D tys As [] post) {k : Nat} (hV : SM y b n rt k) {idx : Nat} (hl : Cond.methodLink own idx y ∈ BW)
    (hk : As.length = k) {st : List Value} (hst : st = As.reverse ++ rest) (hsz : ls.size = nL) (hro : (rest.map fun v => v.category).sum ≤ 8) (hR : fr + 1 ≤ R.frames ∧ 8 + (n + 11) + 40 * fr ≤ R.locals) (hf : cells ≤ R.cells ∧ slots ≤ R.slots) (hdg : decode cc pc = .ok (.invokestatic idx, 3))
    (kk : ∀ (r : Int32) (H1 : Heap) (locs1 : List Loc), post r [] → AtC D tys A ws s H1 locs1 → W p l e R s m args below meth c H1 locs1 cells slots Q (F0 m (pc + 3) ls (.int r :: rest))) : W p l e R s m args below meth c H locs cells slots Q (F0 m pc ls st) := by
  subst hst
  have hC : ([] : List Nat).map (fun i => ws[i]?) = ([] : va_W).map some := rfl
  obtain ⟨hPc, hDc, hFc⟩ := hW.cut [] hC List.nodup_nil
  have hpre := hW.pre (av := As) [] hC List.nodup_nil
  obtain ⟨hN, hK, hP, hD, hS, hA⟩ := hW
  obtain ⟨v1, v2, v3, v5, v6, v7⟩ := hV
  refine va_calli (va_runS (As := As) (rest := rest) S (hM H.size) (va_cwS (ws' := BW) k S.2.2.2.2 (giB (fun w hw => by
    unfold va_wsS at hw
    rcases List.mem_append.mp hw with h | h
    · simp at h
      rcases h with rfl | rfl | rfl
      · exact hl
      · exact v1
      · exact v2
    · exact (List.mem_cons.mp h).elim (fun e => by rw [e]; exact v3) id)) rfl rfl rfl ⟨v5, v6, v7⟩ hR) ⟨PC.blind, hpre⟩ rfl hk hsz rfl (lv_room hro) hdg ⟨by simpa using hf.1, by simpa using hf.2⟩) hS (fun q _ h => hFc q h) hFc (fun r u t H1 locs1 ht hvm hw hB hz1 hk1 hS1 => ?_)
  obtain ⟨hP1, hf1⟩ := hB
  have hu : u = [] := by simpa using hf1
  subst hu
  rw [ht] at hP1
  obtain ⟨g1, g2⟩ := putW_P (w1 := []) hP hD [] hC List.nodup_nil hk1 hP1 hf1
  exact kk r H1 locs1 hw ⟨hN, hK, g1, my_Dc g2 hD, hS1, hA⟩
/-- a nest mate's static method: no cells -/
theorem callNI (S : CallFix p m c cc nL s args BW own) (hW : AtC D tys A ws s H locs) {y : MethodName} {b : ByteArray} {n : Nat} {rt : Option FieldType} {fr : Nat} {As : List Value} {post : Int32 → va_W → Prop} (hM : CtI l y b n rt fr D tys As [] post) {k : Nat} (hV : SM y b n rt k) {idx : Nat} {host : String} (j : Nat) (hl : nestL[j]? = some (own, idx, y, host))
    (hk : As.length = k) {st : List Value} (hst : st = As.reverse ++ rest) (hsz : ls.size = nL) (hro : (rest.map fun v => v.category).sum ≤ 8) (hR : fr + 1 ≤ R.frames ∧ 8 + (n + 11) + 40 * fr ≤ R.locals) (hf : cells ≤ R.cells ∧ slots ≤ R.slots) (hdg : decode cc pc = .ok (.invokestatic idx, 3))
    (kk : ∀ (r : Int32) (H1 : Heap) (locs1 : List Loc), post r [] → AtC D tys A ws s H1 locs1 → W p l e R s m args below meth c H1 locs1 cells slots Q (F0 m (pc + 3) ls (.int r :: rest))) : W p l e R s m args below meth c H locs cells slots Q (F0 m pc ls st) := by
  subst hst
  have hC : ([] : List Nat).map (fun i => ws[i]?) = ([] : va_W).map some := rfl
  obtain ⟨hPc, hDc, hFc⟩ := hW.cut [] hC List.nodup_nil
  have hpre := hW.pre (av := As) [] hC List.nodup_nil
  obtain ⟨hN, hK, hP, hD, hS, hA⟩ := hW
  obtain ⟨v1, v2, v3, v5, v6, v7⟩ := hV
  refine va_calli (va_runSN (As := As) (rest := rest) (host := host) S (hM H.size) ⟨va_cnB (ws' := BW) k S.2.2.2.2 (giC v3) rfl rfl rfl (hN _ (List.mem_of_getElem? hl)) (S.2.2.2.2 _ v2) ⟨v5, v6, v7⟩ hR, S.2.2.2.2 _ v1, trivial⟩ ⟨PC.blind, hpre⟩ rfl hk hsz rfl (lv_room hro) hdg ⟨by simpa using hf.1, by simpa using hf.2⟩) hS (fun q _ h => hFc q h) hFc (fun r u t H1 locs1 ht hvm hw hB hz1 hk1 hS1 => ?_)
  obtain ⟨hP1, hf1⟩ := hB
  have hu : u = [] := by simpa using hf1
  subst hu
  rw [ht] at hP1
  obtain ⟨g1, g2⟩ := putW_P (w1 := []) hP hD [] hC List.nodup_nil hk1 hP1 hf1
  exact kk r H1 locs1 hw ⟨hN, hK, g1, my_Dc g2 hD, hS1, hA⟩
theorem r_copy (S : CallFix p m c cc nL s args BW own) (hW : AtC D tys A ws s H locs) (q0 q1 : Nat) {a0 : Nat} {cA : ClassId} {n0 n1 : Nat} {f g : Nat → Int32} (ha0 : ws[q0]? = some (a0, .inl (cA, n0, .inl f))) (ha1 : ws[q1]? = some (a, .inl (cA, n1, .inl g))) (t0 : Nat) (ht0 : tys[t0]? = some (cA, .int)) {idx : Nat} (hl : Cond.methodLink own idx arraycopyName ∈ BW) (hnat : Cond.native arraycopyName ∈ BW) (hst : Cond.static arraycopyName ∈ BW) (hini : Cond.initialized "java/lang/System" ∈ BW) (n : Nat) (h4 : n ≤ n0) (h5 : n ≤ n1) (hn : n < 2 ^ 31) (hsz : ls.size = nL) (hf : 1 ≤ R.frames) (hlo : (rest.map fun v => v.category).sum + (nativeFrameWords "java/lang/System" "arraycopy" 5 + 11) ≤ R.locals) (hdg : decode cc pc = .ok (.invokestatic idx, 3))
    {ws' : va_W} (hw : ws.set q1 (a, .inl (cA, n1, .inl (va_cpy f g 0 0 n))) = ws')
    (kk : ∀ (H1 : Heap) (locs1 : List Loc), AtC D tys A ws' s H1 locs1 → W p l e R s m args below meth c H1 locs1 cells slots Q (F0 m (pc + 3) ls rest)) : W p l e R s m args below meth c H locs cells slots Q (F0 m pc ls (.int (nI n) :: .int 0 :: .ref a :: .int 0 :: .ref a0 :: rest)) := by
  obtain ⟨hx, hb, hml, hown, hts⟩ := S
  obtain ⟨hN, hK, hP, hD, hS, hA⟩ := hW
  subst hw
  have e : (nI n).toNatClampNeg = n := nI_clamp hn
  have e0 : (0 : Int32).toNatClampNeg = 0 := rfl
  refine va_copyi hx hb (by rw [hml]; exact hsz.symm) hown (hts _ hl) (hts _ hnat) (hts _ hst) (hts _ hini) hK hP hD hS q0 q1 t0 t0 ha0 ha1 ht0 ht0 rfl (by decide) (by decide) (nI_pos hn) (by rw [e, e0]; omega) (by rw [e, e0]; omega) (fun i _ => rfl) hf hlo hdg (fun H1 locs1 h1 h2 h3 => ?_)
  rw [e, e0] at h1 h2
  exact kk H1 locs1 ⟨hN, hK, h1, h2, h3, hA⟩
theorem r_max (S : CallFix p m c cc nL s args BW own) {idx : Nat} (hl : Cond.methodLink own idx Lib.Math.max.name ∈ BW) (hst : Cond.static Lib.Math.max.name ∈ BW) (hini : Cond.initialized "java/lang/Math" ∈ BW) (hco : Cond.code Lib.Math.max.name Lib.Math.max.code 2 (some .int) ∈ BW) (hsz : ls.size = nL) (hf : 1 ≤ R.frames) (hlo : (rest.map fun v => v.category).sum + 13 ≤ R.locals) (hc : cells ≤ R.cells ∧ slots ≤ R.slots) {x y : Int32} (hdg : decode cc pc = .ok (.invokestatic idx, 3))
    (kk : W p l e R s m args below meth c H locs cells slots Q (F0 m (pc + 3) ls (.int (if x < y then y else x) :: rest))) : W p l e R s m args below meth c H locs cells slots Q (F0 m pc ls (.int y :: .int x :: rest)) := by
  obtain ⟨hx, hb, hml, hown, hts⟩ := S
  exact va_mmax hx hb (by rw [hml]; exact hsz.symm) hown (hts _ hl) (hts _ hst) (hts _ hini) (hts _ hco) hf hlo hc.1 hc.2 hdg kk
theorem r_min (S : CallFix p m c cc nL s args BW own) {idx : Nat} (hl : Cond.methodLink own idx Lib.Math.min.name ∈ BW) (hst : Cond.static Lib.Math.min.name ∈ BW) (hini : Cond.initialized "java/lang/Math" ∈ BW) (hco : Cond.code Lib.Math.min.name Lib.Math.min.code 2 (some .int) ∈ BW) (hsz : ls.size = nL) (hf : 1 ≤ R.frames) (hlo : (rest.map fun v => v.category).sum + 13 ≤ R.locals) (hc : cells ≤ R.cells ∧ slots ≤ R.slots) {x y : Int32} (hdg : decode cc pc = .ok (.invokestatic idx, 3))
    (kk : W p l e R s m args below meth c H locs cells slots Q (F0 m (pc + 3) ls (.int (if y < x then y else x) :: rest))) : W p l e R s m args below meth c H locs cells slots Q (F0 m pc ls (.int y :: .int x :: rest)) := by
  obtain ⟨hx, hb, hml, hown, hts⟩ := S
  exact va_mmin hx hb (by rw [hml]; exact hsz.symm) hown (hts _ hl) (hts _ hst) (hts _ hini) (hts _ hco) hf hlo hc.1 hc.2 hdg kk
theorem r_ldc (S : CallFix p m c cc nL s args BW own) {idx : Nat} {v : Int32} (hl : Cond.constant own idx v ∈ BW) (hdg : decode cc pc = .ok (.ldc idx, 2)) (kk : W p l e R s m args below meth c H locs cells slots Q (F0 m (pc + 2) ls (.int v :: rest))) : W p l e R s m args below meth c H locs cells slots Q (F0 m pc ls rest) := lv_ldc S.1 S.2.1 S.2.2.2.1 (S.2.2.2.2 _ hl) hdg kk
theorem r_ldcw (S : CallFix p m c cc nL s args BW own) {idx : Nat} {v : Int32} (hl : Cond.constant own idx v ∈ BW) (hdg : decode cc pc = .ok (.ldc_w idx, 3)) (kk : W p l e R s m args below meth c H locs cells slots Q (F0 m (pc + 3) ls (.int v :: rest))) : W p l e R s m args below meth c H locs cells slots Q (F0 m pc ls rest) := lv_ldcw S.1 S.2.1 S.2.2.2.1 (S.2.2.2.2 _ hl) hdg kk
theorem r_ldc2 (S : CallFix p m c cc nL s args BW own) {idx : Nat} {v : Int64} (hl : Cond.constantLong own idx v ∈ BW) (hdg : decode cc pc = .ok (.ldc2_w idx, 3)) (kk : W p l e R s m args below meth c H locs cells slots Q (F0 m (pc + 3) ls (.long v :: rest))) : W p l e R s m args below meth c H locs cells slots Q (F0 m pc ls rest) := lv_ldc2 S.1 S.2.1 S.2.2.2.1 (S.2.2.2.2 _ hl) hdg kk
end OWN
