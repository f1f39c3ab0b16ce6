/-! the raw words of Land -/
def br (f : Nat → Int32) (k : Int32) : Nat → Int32
  | 0 => 0
  | i + 1 => if f i = k then br f k i ||| ((1 : Int32) <<< (nI i &&& 31)) else br f k i
def wo (g : Int32) (f : Nat → Int32) : Nat → Int32
  | 0 => 0
  | i + 1 => wo g f i + bitI g (nI i) * f i
def lmp (f : Nat → Int32) (N : Nat) (hurt : Int32) : Nat → Int32
  | 0 => 0
  | k + 1 => if br f (nI k) N &&& hurt = 0 then lmp f N hurt k else lmp f N hurt k ||| br f (nI k) N
def lmpI (f : Nat → Int32) (N C : Nat) (hurt laws : Int32) : Int32 := if laws &&& 1 = 0 then hurt else lmp f N hurt C
def fm (f g : Nat → Int32) (k : Int32) : Nat → Int32
  | 0 => 0
  | i + 1 => if f i = k then fm f g k i + g i else fm f g k i
def fmI (f g : Nat → Int32) (N : Nat) (laws : Int32) (P : Nat) : Int32 := if laws &&& 8 = 0 then g P else fm f g (f P) N
def mx1 (y : Int32) : Int32 := if 1 < y then y else 1
theorem mx1_ne (y : Int32) : ¬ mx1 y = 0 := by
  unfold mx1
  split
  · intro h; subst h; rename_i h; revert h; decide
  · decide
def txB (f g : Nat → Int32) (N : Nat) (P : Nat) (k : Int32) : Int32 := wo (br f k N ||| ((1 : Int32) <<< (nI P &&& 31))) g N / mx1 (bcI (br f k N ||| ((1 : Int32) <<< (nI P &&& 31)))) / 10
def txI (f g : Nat → Int32) (N : Nat) (laws : Int32) (P : Nat) (k : Int32) : Int32 := if laws &&& 4 = 0 then g P / 10 else txB f g N P k
def chp (t : Int32 → Int32) : Nat → Int32
  | 0 => 0
  | j + 1 => if t (nI (j + 1)) < t (chp t j) then nI (j + 1) else chp t j
def rsl (t : Nat → Int32 → Int32) (nm : Nat → Int32) (C : Nat) : Nat → Int32
  | 0 => 0
  | i + 1 => if t i (chp (t i) (C - 1)) < t i (nm i) then rsl t nm C i ||| ((1 : Int32) <<< (nI i &&& 31)) else rsl t nm C i
def alo (f : Nat → Int32) (N : Nat) : Nat → Int32
  | 0 => 0
  | k + 1 => if bcI (br f (nI k) N) = 1 then alo f N k ||| br f (nI k) N else alo f N k
def qrI (fo : Nat → Int32) (P : Nat) (q : Int32) : Int32 := if bitI (fo P) q = 1 then 1 else 0
def boI (fo nm : Nat → Int32) (P : Nat) (t : Int32) : Nat → Int32
  | 0 => t
  | j + 1 => if bitI (fo P) (nI (P + 1 + j)) = 1 then (if nm P = nm (P + 1 + j) then boI fo nm P t j + 1 else boI fo nm P t j) else boI fo nm P t j
def boO (fo nm : Nat → Int32) (N : Nat) : Nat → Int32
  | 0 => 0
  | i + 1 => boI fo nm i (boO fo nm N i) (N - (i + 1))
def sy (fv : Nat → Int32) (b side : Int32) : Nat → Int32
  | 0 => 0
  | i + 1 => if bitI (fv i) b = side then sy fv b side i ||| ((1 : Int32) <<< (nI i &&& 31)) else sy fv b side i
def vt (f : Nat → Int32) (N : Nat) (sa ot laws wi : Int32) : Nat → Int32
  | 0 => 0
  | k + 1 => if nI k = wi then vt f N sa ot laws wi k else vt f N sa ot laws wi k + (if laws &&& 2 = 0 then bcI (br f (nI k) N &&& sa) else if bcI (br f (nI k) N &&& sa) ≤ bcI (br f (nI k) N &&& ot) then 0 else 1)
def yesI (fv f : Nat → Int32) (N C : Nat) (b laws wi : Int32) : Int32 := vt f N (sy fv b 1 N) (sy fv b 0 N) laws wi C
def noI (fv f : Nat → Int32) (N C : Nat) (b laws wi : Int32) : Int32 := vt f N (sy fv b 0 N) (sy fv b 1 N) laws wi C
def psI (fv f : Nat → Int32) (N C : Nat) (b laws wi : Int32) : Int32 := if yesI fv f N C b laws wi ≤ noI fv f N C b laws wi then 0 else 1
def psg (fv f : Nat → Int32) (N C : Nat) (laws : Int32) : Nat → Int32
  | 0 => 0
  | b + 1 => if psI fv f N C (nI b) laws (-9) = 0 then psg fv f N C laws b else psg fv f N C laws b ||| ((1 : Int32) <<< (nI b &&& 31))
def swy (fv f : Nat → Int32) (N C : Nat) (b laws : Int32) : Nat → Int32
  | 0 => 0
  | k + 1 => if psI fv f N C b laws (nI k) = psI fv f N C b laws (-9) then swy fv f N C b laws k else swy fv f N C b laws k ||| ((1 : Int32) <<< (nI k &&& 31))

set_option maxHeartbeats 4000000 in
set_option maxRecDepth 100000 in
theorem c_X1_hasPerson (l : Launch) (D : va_G) (cI cZ cN : ClassId) (a : Nat → Nat) (L V : NV) (p0 : Int32) (N C : Nat) (hN : L 3 1 = nI N) (hN7 : N ≤ 7) (hC : L 3 0 = nI C) (hC4 : C ≤ 4) : CtI l yX1_hasPerson cX1_hasPerson 2 (some .boolean) 1 D (tyG cI cZ cN) [.ref (a 0), .int p0] (pLand cI a L V) (fun r w => r = inI p0 0 (nI N - 1) ∧ w = (pLand cI a L V)) := by
  refine CtI.of rfl (Nat.le_of_ble_eq_true rfl) ?_
  intro p e s m args below meth c ls Q A S hret hW hl
  have hx := S.1
  have hb := S.2.1
  have hl : lv_has ls 2 [(0, .ref (a 0)), (1, .int p0)] := hl
  refine lv_iload_n hx hb dX1_hasPerson_0 rfl (lv_at hl 1 rfl) ?_
  refine lv_iconst (v := (0 : Int32)) hx hb dX1_hasPerson_1 rfl ?_
  refine lv_aload_n hx hb dX1_hasPerson_2 rfl (lv_at hl 0 rfl) ?_
  refine r_get S hW 0 rfl rfl bw_wsX10 5 (by decide) (v := .int (L 3 1)) rfl mw73 dX1_hasPerson_3 ?_
  refine r_eq (y := (nI N)) hN ?_
  refine lv_iconst (v := (1 : Int32)) hx hb dX1_hasPerson_6 rfl ?_
  refine lv_isub hx hb dX1_hasPerson_7 ?_
  refine callNI S hW (c_X8_within l D cI cZ cN p0 (0 : Int32) ((nI N) - (1 : Int32))) smX8_within 11 rfl (As := [.int p0, .int (0 : Int32), .int ((nI N) - (1 : Int32))]) (rest := []) rfl rfl hl.1 (Nat.le_of_ble_eq_true rfl) ⟨Nat.le_of_ble_eq_true rfl, Nat.le_of_ble_eq_true rfl⟩ ⟨Nat.le_refl _, Nat.le_refl _⟩ dX1_hasPerson_8 (fun r H locs hq hW => ?_)
  obtain ⟨rfl, -⟩ := hq
  exact hret _ _ _ _ _ _ hW rfl (inI_nar _ _ _) dX1_hasPerson_11 (⟨rfl, rfl⟩)

set_option maxHeartbeats 4000000 in
set_option maxRecDepth 100000 in
theorem c_X1_hasName (l : Launch) (D : va_G) (cI cZ cN : ClassId) (a : Nat → Nat) (L V : NV) (p0 : Int32) (N C : Nat) (hN : L 3 1 = nI N) (hN7 : N ≤ 7) (hC : L 3 0 = nI C) (hC4 : C ≤ 4) : CtI l yX1_hasName cX1_hasName 2 (some .boolean) 1 D (tyG cI cZ cN) [.ref (a 0), .int p0] (pLand cI a L V) (fun r w => r = inI p0 0 (nI C - 1) ∧ w = (pLand cI a L V)) := by
  refine CtI.of rfl (Nat.le_of_ble_eq_true rfl) ?_
  intro p e s m args below meth c ls Q A S hret hW hl
  have hx := S.1
  have hb := S.2.1
  have hl : lv_has ls 2 [(0, .ref (a 0)), (1, .int p0)] := hl
  refine lv_iload_n hx hb dX1_hasName_0 rfl (lv_at hl 1 rfl) ?_
  refine lv_iconst (v := (0 : Int32)) hx hb dX1_hasName_1 rfl ?_
  refine lv_aload_n hx hb dX1_hasName_2 rfl (lv_at hl 0 rfl) ?_
  refine r_get S hW 0 rfl rfl bw_wsX10 4 (by decide) (v := .int (L 3 0)) rfl mw72 dX1_hasName_3 ?_
  refine r_eq (y := (nI C)) hC ?_
  refine lv_iconst (v := (1 : Int32)) hx hb dX1_hasName_6 rfl ?_
  refine lv_isub hx hb dX1_hasName_7 ?_
  refine callNI S hW (c_X8_within l D cI cZ cN p0 (0 : Int32) ((nI C) - (1 : Int32))) smX8_within 11 rfl (As := [.int p0, .int (0 : Int32), .int ((nI C) - (1 : Int32))]) (rest := []) rfl rfl hl.1 (Nat.le_of_ble_eq_true rfl) ⟨Nat.le_of_ble_eq_true rfl, Nat.le_of_ble_eq_true rfl⟩ ⟨Nat.le_refl _, Nat.le_refl _⟩ dX1_hasName_8 (fun r H locs hq hW => ?_)
  obtain ⟨rfl, -⟩ := hq
  exact hret _ _ _ _ _ _ hW rfl (inI_nar _ _ _) dX1_hasName_11 (⟨rfl, rfl⟩)

set_option maxHeartbeats 4000000 in
set_option maxRecDepth 100000 in
theorem c_X1_quarrel (l : Launch) (D : va_G) (cI cZ cN : ClassId) (a : Nat → Nat) (L V : NV) (P : Nat) (q : Int32) (N C : Nat) (hN : L 3 1 = nI N) (hN7 : N ≤ 7) (hC : L 3 0 = nI C) (hC4 : C ≤ 4) (hP : P < N) : CtI l yX1_quarrel cX1_quarrel 3 (some .boolean) 1 D (tyG cI cZ cN) [.ref (a 0), .int (nI P), .int q] (pLand cI a L V) (fun r w => r = qrI (L 1) P q ∧ w = (pLand cI a L V)) := by
  refine CtI.of rfl (Nat.le_of_ble_eq_true rfl) ?_
  intro p e s m args below meth c ls Q A S hret hW hl
  have hx := S.1
  have hb := S.2.1
  have hl : lv_has ls 3 [(0, .ref (a 0)), (1, .int (nI P)), (2, .int q)] := hl
  refine lv_aload_n hx hb dX1_quarrel_0 rfl (lv_at hl 0 rfl) ?_
  refine r_get S hW 0 rfl rfl bw_wsX10 1 (by decide) (v := .ref (a 2)) rfl mw68 dX1_quarrel_1 ?_
  refine lv_iload_n hx hb dX1_quarrel_4 rfl (lv_at hl 1 rfl) ?_
  refine r_iald S hW 2 0 rfl rfl (j := P) rfl (by omega) (by decide) dX1_quarrel_5 ?_
  refine lv_iload_n hx hb dX1_quarrel_6 rfl (lv_at hl 2 rfl) ?_
  refine callNI S hW (c_X8_bit l D cI cZ cN ((L 1) P) q) smX8_bit 12 rfl (As := [.int ((L 1) P), .int q]) (rest := []) rfl rfl hl.1 (Nat.le_of_ble_eq_true rfl) ⟨Nat.le_of_ble_eq_true rfl, Nat.le_of_ble_eq_true rfl⟩ ⟨Nat.le_refl _, Nat.le_refl _⟩ dX1_quarrel_7 (fun r H locs hq hW => ?_)
  obtain ⟨rfl, -⟩ := hq
  refine lv_iconst (v := (1 : Int32)) hx hb dX1_quarrel_10 rfl ?_
  refine lv_icmp_ne (tgt := 18) hx hb dX1_quarrel_11 rfl (fun c_11 => ?_) (fun c_11 => ?_)
  · refine lv_iconst (v := (0 : Int32)) hx hb dX1_quarrel_18 rfl ?_
    exact hret _ _ _ _ _ _ hW rfl rfl dX1_quarrel_19 (⟨by simp [qrI, c_11], rfl⟩)
  · refine lv_iconst (v := (1 : Int32)) hx hb dX1_quarrel_14 rfl ?_
    refine lv_goto (tgt := 19) hx hb dX1_quarrel_15 rfl ?_
    exact hret _ _ _ _ _ _ hW rfl rfl dX1_quarrel_19 (⟨by simp [qrI, c_11], rfl⟩)

set_option maxHeartbeats 4000000 in
set_option maxRecDepth 100000 in
theorem c_X1_bearers (l : Launch) (D : va_G) (cI cZ cN : ClassId) (a : Nat → Nat) (L V : NV) (k : Int32) (N C : Nat) (hN : L 3 1 = nI N) (hN7 : N ≤ 7) (hC : L 3 0 = nI C) (hC4 : C ≤ 4) : CtI l yX1_bearers cX1_bearers 4 (some .int) 0 D (tyG cI cZ cN) [.ref (a 0), .int k] (pLand cI a L V) (fun r w => r = br (V 0) k N ∧ w = (pLand cI a L V)) := by
  refine CtI.of rfl (Nat.le_of_ble_eq_true rfl) ?_
  intro p e s m args below meth c ls Q A S hret hW hl
  have hx := S.1
  have hb := S.2.1
  have hl : lv_has ls 4 [(0, .ref (a 0)), (1, .int k)] := hl
  refine lv_iconst (v := (0 : Int32)) hx hb dX1_bearers_0 rfl ?_
  refine lv_istore_n (lv' := [(2, .int (0 : Int32)), (0, .ref (a 0)), (1, .int k)]) hx hb dX1_bearers_1 rfl hl (by decide) rfl (fun ls hl => ?_)
  refine lv_iconst (v := (0 : Int32)) hx hb dX1_bearers_2 rfl ?_
  refine lv_istore_n (lv' := [(3, .int (0 : Int32)), (2, .int (0 : Int32)), (0, .ref (a 0)), (1, .int k)]) hx hb dX1_bearers_3 rfl hl (by decide) rfl (fun ls hl => ?_)
  have lp_4 : ∀ (n : Nat) (i : Nat), ((i ≤ N)) → ((N + 1 ≤ i + n)) → ∀ (H : Heap) (locs : List Loc) (ls : Array Slot), AtC D (tyG cI cZ cN) A (pLand cI a L V) s H locs → lv_has ls 4 [(0, .ref (a 0)), (1, .int k), (2, .int (br (V 0) k i)), (3, .int (nI i))] → W p l e (rmN 0) s m args below meth c H locs 0 0 Q (F0 m 4 ls []) := by
    intro n
    induction n with
    | zero =>
      intro i hi_4 hn_4 H locs ls hW hl
      exact absurd hn_4 (by omega)
    | succ n ih4 =>
      intro i hi_4 hn_4 H locs ls hW hl
      refine lv_iload_n hx hb dX1_bearers_4 rfl (lv_at hl 3 rfl) ?_
      refine lv_aload_n hx hb dX1_bearers_5 rfl (lv_at hl 0 rfl) ?_
      refine r_get S hW 0 rfl rfl bw_wsX10 5 (by decide) (v := .int (L 3 1)) rfl mw73 dX1_bearers_6 ?_
      refine r_eq (y := (nI N)) hN ?_
      refine lv_icmp_ge (tgt := 37) hx hb dX1_bearers_9 rfl (fun c_9 => ?_) (fun c_9 => ?_)
      · have ge_9 : N ≤ i := (nI_leI (by omega) (by omega)).mp c_9
        have ee_9 : N = i := by omega
        subst ee_9
        refine lv_iload_n hx hb dX1_bearers_37 rfl (lv_at hl 2 rfl) ?_
        exact hret _ _ _ _ _ _ hW rfl rfl dX1_bearers_38 (⟨rfl, rfl⟩)
      · have lt_9 : i < N := Nat.not_le.mp (fun h => c_9 ((nI_leI (by omega) (by omega)).mpr h))
        refine lv_aload_n hx hb dX1_bearers_12 rfl (lv_at hl 0 rfl) ?_
        refine r_get S hW 0 rfl rfl bw_wsX10 3 (by decide) (v := .ref (a 4)) rfl mw71 dX1_bearers_13 ?_
        refine r_get S hW 4 rfl rfl bw_wsX20 0 (by decide) (v := .ref (a 5)) rfl mw215 dX1_bearers_16 ?_
        refine lv_iload_n hx hb dX1_bearers_19 rfl (lv_at hl 3 rfl) ?_
        refine r_iald S hW 5 0 rfl rfl (j := i) rfl (by omega) (by decide) dX1_bearers_20 ?_
        refine lv_iload_n hx hb dX1_bearers_21 rfl (lv_at hl 1 rfl) ?_
        refine lv_icmp_ne (tgt := 31) hx hb dX1_bearers_22 rfl (fun c_22 => ?_) (fun c_22 => ?_)
        · refine lv_iinc (v := (nI (i + 1))) (lv' := [(3, .int (nI (i + 1))), (0, .ref (a 0)), (1, .int k), (2, .int (br (V 0) k i))]) hx hb dX1_bearers_31 hl (k := 3) rfl (inc_n i 1) (by decide) rfl (fun ls hl => ?_)
          refine lv_goto (tgt := 4) hx hb dX1_bearers_34 rfl ?_
          have hl_1 : lv_has ls 4 [(0, .ref (a 0)), (1, .int k), (2, .int (br (V 0) k (i + 1))), (3, .int (nI (i + 1)))] := by
            rw [show (br (V 0) k (i + 1)) = (br (V 0) k i) from by simp [br, c_9, c_22]]
            exact lv_sub hl [1, 2, 3, 0] rfl
          exact ih4 (i + 1) (by omega) (by omega) _ _ _ hW hl_1
        · refine lv_iload_n hx hb dX1_bearers_25 rfl (lv_at hl 2 rfl) ?_
          refine lv_iconst (v := (1 : Int32)) hx hb dX1_bearers_26 rfl ?_
          refine lv_iload_n hx hb dX1_bearers_27 rfl (lv_at hl 3 rfl) ?_
          refine lv_ishl hx hb dX1_bearers_28 ?_
          refine lv_ior hx hb dX1_bearers_29 ?_
          refine lv_istore_n (lv' := [(2, .int ((br (V 0) k i) ||| ((1 : Int32) <<< ((nI i) &&& 31)))), (0, .ref (a 0)), (1, .int k), (3, .int (nI i))]) hx hb dX1_bearers_30 rfl hl (by decide) rfl (fun ls hl => ?_)
          refine lv_iinc (v := (nI (i + 1))) (lv' := [(3, .int (nI (i + 1))), (2, .int ((br (V 0) k i) ||| ((1 : Int32) <<< ((nI i) &&& 31)))), (0, .ref (a 0)), (1, .int k)]) hx hb dX1_bearers_31 hl (k := 3) rfl (inc_n i 1) (by decide) rfl (fun ls hl => ?_)
          refine lv_goto (tgt := 4) hx hb dX1_bearers_34 rfl ?_
          have hl_2 : lv_has ls 4 [(0, .ref (a 0)), (1, .int k), (2, .int (br (V 0) k (i + 1))), (3, .int (nI (i + 1)))] := by
            rw [show (br (V 0) k (i + 1)) = ((br (V 0) k i) ||| ((1 : Int32) <<< ((nI i) &&& 31))) from by simp [br, c_9, c_22]]
            exact lv_sub hl [2, 3, 1, 0] rfl
          exact ih4 (i + 1) (by omega) (by omega) _ _ _ hW hl_2
  exact lp_4 (N + 1) 0 (by omega) (by omega) _ _ _ hW (lv_sub hl [2, 3, 1, 0] rfl)

set_option maxHeartbeats 4000000 in
set_option maxRecDepth 100000 in
theorem c_X1_wealthOf (l : Launch) (D : va_G) (cI cZ cN : ClassId) (a : Nat → Nat) (L V : NV) (g : Int32) (N C : Nat) (hN : L 3 1 = nI N) (hN7 : N ≤ 7) (hC : L 3 0 = nI C) (hC4 : C ≤ 4) : CtI l yX1_wealthOf cX1_wealthOf 4 (some .int) 1 D (tyG cI cZ cN) [.ref (a 0), .int g] (pLand cI a L V) (fun r w => r = wo g (V 1) N ∧ w = (pLand cI a L V)) := by
  refine CtI.of rfl (Nat.le_of_ble_eq_true rfl) ?_
  intro p e s m args below meth c ls Q A S hret hW hl
  have hx := S.1
  have hb := S.2.1
  have hl : lv_has ls 4 [(0, .ref (a 0)), (1, .int g)] := hl
  refine lv_iconst (v := (0 : Int32)) hx hb dX1_wealthOf_0 rfl ?_
  refine lv_istore_n (lv' := [(2, .int (0 : Int32)), (0, .ref (a 0)), (1, .int g)]) hx hb dX1_wealthOf_1 rfl hl (by decide) rfl (fun ls hl => ?_)
  refine lv_iconst (v := (0 : Int32)) hx hb dX1_wealthOf_2 rfl ?_
  refine lv_istore_n (lv' := [(3, .int (0 : Int32)), (2, .int (0 : Int32)), (0, .ref (a 0)), (1, .int g)]) hx hb dX1_wealthOf_3 rfl hl (by decide) rfl (fun ls hl => ?_)
  have lp_4 : ∀ (n : Nat) (i : Nat), ((i ≤ N)) → ((N + 1 ≤ i + n)) → ∀ (H : Heap) (locs : List Loc) (ls : Array Slot), AtC D (tyG cI cZ cN) A (pLand cI a L V) s H locs → lv_has ls 4 [(0, .ref (a 0)), (1, .int g), (2, .int (wo g (V 1) i)), (3, .int (nI i))] → W p l e (rmN 1) s m args below meth c H locs 0 0 Q (F0 m 4 ls []) := by
    intro n
    induction n with
    | zero =>
      intro i hi_4 hn_4 H locs ls hW hl
      exact absurd hn_4 (by omega)
    | succ n ih4 =>
      intro i hi_4 hn_4 H locs ls hW hl
      refine lv_iload_n hx hb dX1_wealthOf_4 rfl (lv_at hl 3 rfl) ?_
      refine lv_aload_n hx hb dX1_wealthOf_5 rfl (lv_at hl 0 rfl) ?_
      refine r_get S hW 0 rfl rfl bw_wsX10 5 (by decide) (v := .int (L 3 1)) rfl mw73 dX1_wealthOf_6 ?_
      refine r_eq (y := (nI N)) hN ?_
      refine lv_icmp_ge (tgt := 36) hx hb dX1_wealthOf_9 rfl (fun c_9 => ?_) (fun c_9 => ?_)
      · have ge_9 : N ≤ i := (nI_leI (by omega) (by omega)).mp c_9
        have ee_9 : N = i := by omega
        subst ee_9
        refine lv_iload_n hx hb dX1_wealthOf_36 rfl (lv_at hl 2 rfl) ?_
        exact hret _ _ _ _ _ _ hW rfl rfl dX1_wealthOf_37 (⟨rfl, rfl⟩)
      · have lt_9 : i < N := Nat.not_le.mp (fun h => c_9 ((nI_leI (by omega) (by omega)).mpr h))
        refine lv_iload_n hx hb dX1_wealthOf_12 rfl (lv_at hl 2 rfl) ?_
        refine lv_iload_n hx hb dX1_wealthOf_13 rfl (lv_at hl 1 rfl) ?_
        refine lv_iload_n hx hb dX1_wealthOf_14 rfl (lv_at hl 3 rfl) ?_
        refine callNI S hW (c_X8_bit l D cI cZ cN g (nI i)) smX8_bit 12 rfl (As := [.int g, .int (nI i)]) (rest := [.int (wo g (V 1) i)]) rfl rfl hl.1 (Nat.le_of_ble_eq_true rfl) ⟨Nat.le_of_ble_eq_true rfl, Nat.le_of_ble_eq_true rfl⟩ ⟨Nat.le_refl _, Nat.le_refl _⟩ dX1_wealthOf_15 (fun r H locs hq hW => ?_)
        obtain ⟨rfl, -⟩ := hq
        refine lv_aload_n hx hb dX1_wealthOf_18 rfl (lv_at hl 0 rfl) ?_
        refine r_get S hW 0 rfl rfl bw_wsX10 3 (by decide) (v := .ref (a 4)) rfl mw71 dX1_wealthOf_19 ?_
        refine r_get S hW 4 rfl rfl bw_wsX20 1 (by decide) (v := .ref (a 6)) rfl mw216 dX1_wealthOf_22 ?_
        refine lv_iload_n hx hb dX1_wealthOf_25 rfl (lv_at hl 3 rfl) ?_
        refine r_iald S hW 6 0 rfl rfl (j := i) rfl (by omega) (by decide) dX1_wealthOf_26 ?_
        refine lv_imul hx hb dX1_wealthOf_27 ?_
        refine lv_iadd hx hb dX1_wealthOf_28 ?_
        refine lv_istore_n (lv' := [(2, .int ((wo g (V 1) i) + ((bitI g (nI i)) * ((V 1) i)))), (0, .ref (a 0)), (1, .int g), (3, .int (nI i))]) hx hb dX1_wealthOf_29 rfl hl (by decide) rfl (fun ls hl => ?_)
        refine lv_iinc (v := (nI (i + 1))) (lv' := [(3, .int (nI (i + 1))), (2, .int ((wo g (V 1) i) + ((bitI g (nI i)) * ((V 1) i)))), (0, .ref (a 0)), (1, .int g)]) hx hb dX1_wealthOf_30 hl (k := 3) rfl (inc_n i 1) (by decide) rfl (fun ls hl => ?_)
        refine lv_goto (tgt := 4) hx hb dX1_wealthOf_33 rfl ?_
        exact ih4 (i + 1) (by omega) (by omega) _ _ _ hW (lv_sub hl [2, 3, 1, 0] rfl)
  exact lp_4 (N + 1) 0 (by omega) (by omega) _ _ _ hW (lv_sub hl [2, 3, 1, 0] rfl)

set_option maxHeartbeats 4000000 in
set_option maxRecDepth 100000 in
theorem c_X1_limpingIf (l : Launch) (D : va_G) (cI cZ cN : ClassId) (a : Nat → Nat) (L V : NV) (hu : Int32) (la : Int32) (N C : Nat) (hN : L 3 1 = nI N) (hN7 : N ≤ 7) (hC : L 3 0 = nI C) (hC4 : C ≤ 4) : CtI l yX1_limpingIf cX1_limpingIf 6 (some .int) 1 D (tyG cI cZ cN) [.ref (a 0), .int hu, .int la] (pLand cI a L V) (fun r w => r = lmpI (V 0) N C hu la ∧ w = (pLand cI a L V)) := by
  refine CtI.of rfl (Nat.le_of_ble_eq_true rfl) ?_
  intro p e s m args below meth c ls Q A S hret hW hl
  have hx := S.1
  have hb := S.2.1
  have hl : lv_has ls 6 [(0, .ref (a 0)), (1, .int hu), (2, .int la)] := hl
  refine lv_iload_n hx hb dX1_limpingIf_0 rfl (lv_at hl 2 rfl) ?_
  refine lv_iconst (v := (1 : Int32)) hx hb dX1_limpingIf_1 rfl ?_
  refine lv_iand hx hb dX1_limpingIf_2 ?_
  refine lv_if_ne (tgt := 8) hx hb dX1_limpingIf_3 rfl (fun c_3 => ?_) (fun c_3 => ?_)
  · refine lv_iconst (v := (0 : Int32)) hx hb dX1_limpingIf_8 rfl ?_
    refine lv_istore_n (lv' := [(3, .int (0 : Int32)), (0, .ref (a 0)), (1, .int hu), (2, .int la)]) hx hb dX1_limpingIf_9 rfl hl (by decide) rfl (fun ls hl => ?_)
    refine lv_iconst (v := (0 : Int32)) hx hb dX1_limpingIf_10 rfl ?_
    refine lv_istore (lv' := [(4, .int (0 : Int32)), (3, .int (0 : Int32)), (0, .ref (a 0)), (1, .int hu), (2, .int la)]) hx hb dX1_limpingIf_11 hl (by decide) rfl (fun ls hl => ?_)
    have lp_13 : ∀ (n : Nat) (j : Nat), ((j ≤ C)) → ((C + 1 ≤ j + n)) → ∀ (H : Heap) (locs : List Loc) (ls : Array Slot), AtC D (tyG cI cZ cN) A (pLand cI a L V) s H locs → lv_has ls 6 [(0, .ref (a 0)), (1, .int hu), (2, .int la), (3, .int (lmp (V 0) N hu j)), (4, .int (nI j))] → W p l e (rmN 1) s m args below meth c H locs 0 0 Q (F0 m 13 ls []) := by
      intro n
      induction n with
      | zero =>
        intro j hj_13 hn_13 H locs ls hW hl
        exact absurd hn_13 (by omega)
      | succ n ih13 =>
        intro j hj_13 hn_13 H locs ls hW hl
        refine lv_iload hx hb dX1_limpingIf_13 (lv_at hl 4 rfl) ?_
        refine lv_aload_n hx hb dX1_limpingIf_15 rfl (lv_at hl 0 rfl) ?_
        refine r_get S hW 0 rfl rfl bw_wsX10 4 (by decide) (v := .int (L 3 0)) rfl mw72 dX1_limpingIf_16 ?_
        refine r_eq (y := (nI C)) hC ?_
        refine lv_icmp_ge (tgt := 48) hx hb dX1_limpingIf_19 rfl (fun c_19 => ?_) (fun c_19 => ?_)
        · have ge_19 : C ≤ j := (nI_leI (by omega) (by omega)).mp c_19
          have ee_19 : C = j := by omega
          subst ee_19
          refine lv_iload_n hx hb dX1_limpingIf_48 rfl (lv_at hl 3 rfl) ?_
          exact hret _ _ _ _ _ _ hW rfl rfl dX1_limpingIf_49 (⟨by simp [lmpI, c_3, c_19], rfl⟩)
        · have lt_19 : j < C := Nat.not_le.mp (fun h => c_19 ((nI_leI (by omega) (by omega)).mpr h))
          refine lv_aload_n hx hb dX1_limpingIf_22 rfl (lv_at hl 0 rfl) ?_
          refine lv_iload hx hb dX1_limpingIf_23 (lv_at hl 4 rfl) ?_
          refine callVI S hW (c_X1_bearers l D cI cZ cN a L V (nI j) N C hN hN7 hC hC4 ) vmX1_bearers mw312 [0, 1, 2, 3, 4, 5, 6, 7] rfl (by decide) 0 rfl rfl (As := [.int (nI j)]) (rest := []) rfl rfl hl.1 (Nat.le_of_ble_eq_true rfl) ⟨Nat.le_of_ble_eq_true rfl, Nat.le_of_ble_eq_true rfl⟩ ⟨Nat.le_refl _, Nat.le_refl _⟩ dX1_limpingIf_25 (fun r w1 H locs hq hW => ?_)
          obtain ⟨rfl, rfl⟩ := hq
          have hW : AtC D (tyG cI cZ cN) A (pLand cI a L V) s H locs := hW
          refine lv_istore (lv' := [(5, .int (br (V 0) ((nI j)) (N))), (0, .ref (a 0)), (1, .int hu), (2, .int la), (3, .int (lmp (V 0) N hu j)), (4, .int (nI j))]) hx hb dX1_limpingIf_28 hl (by decide) rfl (fun ls hl => ?_)
          refine lv_iload hx hb dX1_limpingIf_30 (lv_at hl 0 rfl) ?_
          refine lv_iload_n hx hb dX1_limpingIf_32 rfl (lv_at hl 2 rfl) ?_
          refine lv_iand hx hb dX1_limpingIf_33 ?_
          refine lv_if_eq (tgt := 42) hx hb dX1_limpingIf_34 rfl (fun c_34 => ?_) (fun c_34 => ?_)
          · refine lv_iinc (v := (nI (j + 1))) (lv' := [(4, .int (nI (j + 1))), (5, .int (br (V 0) ((nI j)) (N))), (0, .ref (a 0)), (1, .int hu), (2, .int la), (3, .int (lmp (V 0) N hu j))]) hx hb dX1_limpingIf_42 hl (k := 5) rfl (inc_n j 1) (by decide) rfl (fun ls hl => ?_)
            refine lv_goto (tgt := 13) hx hb dX1_limpingIf_45 rfl ?_
            have hl_1 : lv_has ls 6 [(0, .ref (a 0)), (1, .int hu), (2, .int la), (3, .int (lmp (V 0) N hu (j + 1))), (4, .int (nI (j + 1)))] := by
              rw [show (lmp (V 0) N hu (j + 1)) = (lmp (V 0) N hu j) from by simp [lmp, c_3, c_19, c_34]]
              exact lv_sub hl [2, 3, 4, 5, 0] rfl
            exact ih13 (j + 1) (by omega) (by omega) _ _ _ hW hl_1
          · refine lv_iload_n hx hb dX1_limpingIf_37 rfl (lv_at hl 4 rfl) ?_
            refine lv_iload hx hb dX1_limpingIf_38 (lv_at hl 0 rfl) ?_
            refine lv_ior hx hb dX1_limpingIf_40 ?_
            refine lv_istore_n (lv' := [(3, .int ((lmp (V 0) N hu j) ||| (br (V 0) ((nI j)) (N)))), (5, .int (br (V 0) ((nI j)) (N))), (0, .ref (a 0)), (1, .int hu), (2, .int la), (4, .int (nI j))]) hx hb dX1_limpingIf_41 rfl hl (by decide) rfl (fun ls hl => ?_)
            refine lv_iinc (v := (nI (j + 1))) (lv' := [(4, .int (nI (j + 1))), (3, .int ((lmp (V 0) N hu j) ||| (br (V 0) ((nI j)) (N)))), (5, .int (br (V 0) ((nI j)) (N))), (0, .ref (a 0)), (1, .int hu), (2, .int la)]) hx hb dX1_limpingIf_42 hl (k := 5) rfl (inc_n j 1) (by decide) rfl (fun ls hl => ?_)
            refine lv_goto (tgt := 13) hx hb dX1_limpingIf_45 rfl ?_
            have hl_2 : lv_has ls 6 [(0, .ref (a 0)), (1, .int hu), (2, .int la), (3, .int (lmp (V 0) N hu (j + 1))), (4, .int (nI (j + 1)))] := by
              rw [show (lmp (V 0) N hu (j + 1)) = ((lmp (V 0) N hu j) ||| (br (V 0) ((nI j)) (N))) from by simp [lmp, c_3, c_19, c_34]]
              exact lv_sub hl [3, 4, 5, 1, 0] rfl
            exact ih13 (j + 1) (by omega) (by omega) _ _ _ hW hl_2
    exact lp_13 (C + 1) 0 (by omega) (by omega) _ _ _ hW (lv_sub hl [2, 3, 4, 1, 0] rfl)
  · refine lv_iload_n hx hb dX1_limpingIf_6 rfl (lv_at hl 1 rfl) ?_
    exact hret _ _ _ _ _ _ hW rfl rfl dX1_limpingIf_7 (⟨by simp [lmpI, c_3], rfl⟩)

set_option maxHeartbeats 4000000 in
set_option maxRecDepth 100000 in
theorem c_X1_limping (l : Launch) (D : va_G) (cI cZ cN : ClassId) (a : Nat → Nat) (L V : NV) (N C : Nat) (hN : L 3 1 = nI N) (hN7 : N ≤ 7) (hC : L 3 0 = nI C) (hC4 : C ≤ 4) : CtI l yX1_limping cX1_limping 1 (some .int) 2 D (tyG cI cZ cN) [.ref (a 0)] (pLand cI a L V) (fun r w => r = lmpI (V 0) N C (V 3 0) (V 3 1) ∧ w = (pLand cI a L V)) := by
  refine CtI.of rfl (Nat.le_of_ble_eq_true rfl) ?_
  intro p e s m args below meth c ls Q A S hret hW hl
  have hx := S.1
  have hb := S.2.1
  have hl : lv_has ls 1 [(0, .ref (a 0))] := hl
  refine lv_aload_n hx hb dX1_limping_0 rfl (lv_at hl 0 rfl) ?_
  refine lv_aload_n hx hb dX1_limping_1 rfl (lv_at hl 0 rfl) ?_
  refine r_get S hW 0 rfl rfl bw_wsX10 3 (by decide) (v := .ref (a 4)) rfl mw71 dX1_limping_2 ?_
  refine r_get S hW 4 rfl rfl bw_wsX20 3 (by decide) (v := .int (V 3 0)) rfl mw172 dX1_limping_5 ?_
  refine lv_aload_n hx hb dX1_limping_8 rfl (lv_at hl 0 rfl) ?_
  refine r_get S hW 0 rfl rfl bw_wsX10 3 (by decide) (v := .ref (a 4)) rfl mw71 dX1_limping_9 ?_
  refine r_get S hW 4 rfl rfl bw_wsX20 4 (by decide) (v := .int (V 3 1)) rfl mw173 dX1_limping_12 ?_
  refine callVI S hW (c_X1_limpingIf l D cI cZ cN a L V (V 3 0) (V 3 1) N C hN hN7 hC hC4 ) vmX1_limpingIf mw308 [0, 1, 2, 3, 4, 5, 6, 7] rfl (by decide) 0 rfl rfl (As := [.int (V 3 0), .int (V 3 1)]) (rest := []) rfl rfl hl.1 (Nat.le_of_ble_eq_true rfl) ⟨Nat.le_of_ble_eq_true rfl, Nat.le_of_ble_eq_true rfl⟩ ⟨Nat.le_refl _, Nat.le_refl _⟩ dX1_limping_15 (fun r w1 H locs hq hW => ?_)
  obtain ⟨rfl, rfl⟩ := hq
  have hW : AtC D (tyG cI cZ cN) A (pLand cI a L V) s H locs := hW
  exact hret _ _ _ _ _ _ hW rfl rfl dX1_limping_18 (⟨rfl, rfl⟩)

set_option maxHeartbeats 4000000 in
set_option maxRecDepth 100000 in
theorem c_X1_fame (l : Launch) (D : va_G) (cI cZ cN : ClassId) (a : Nat → Nat) (L V : NV) (P : Nat) (N C : Nat) (hN : L 3 1 = nI N) (hN7 : N ≤ 7) (hC : L 3 0 = nI C) (hC4 : C ≤ 4) (hP : P < N) : CtI l yX1_fame cX1_fame 4 (some .int) 0 D (tyG cI cZ cN) [.ref (a 0), .int (nI P)] (pLand cI a L V) (fun r w => r = fmI (V 0) (V 2) N (V 3 1) P ∧ w = (pLand cI a L V)) := by
  refine CtI.of rfl (Nat.le_of_ble_eq_true rfl) ?_
  intro p e s m args below meth c ls Q A S hret hW hl
  have hx := S.1
  have hb := S.2.1
  have hl : lv_has ls 4 [(0, .ref (a 0)), (1, .int (nI P))] := hl
  refine lv_aload_n hx hb dX1_fame_0 rfl (lv_at hl 0 rfl) ?_
  refine r_get S hW 0 rfl rfl bw_wsX10 3 (by decide) (v := .ref (a 4)) rfl mw71 dX1_fame_1 ?_
  refine r_get S hW 4 rfl rfl bw_wsX20 4 (by decide) (v := .int (V 3 1)) rfl mw173 dX1_fame_4 ?_
  refine lv_bipush (v := (8 : Int32)) hx hb dX1_fame_7 rfl ?_
  refine lv_iand hx hb dX1_fame_9 ?_
  refine lv_if_ne (tgt := 23) hx hb dX1_fame_10 rfl (fun c_10 => ?_) (fun c_10 => ?_)
  · refine lv_iconst (v := (0 : Int32)) hx hb dX1_fame_23 rfl ?_
    refine lv_istore_n (lv' := [(2, .int (0 : Int32)), (0, .ref (a 0)), (1, .int (nI P))]) hx hb dX1_fame_24 rfl hl (by decide) rfl (fun ls hl => ?_)
    refine lv_iconst (v := (0 : Int32)) hx hb dX1_fame_25 rfl ?_
    refine lv_istore_n (lv' := [(3, .int (0 : Int32)), (2, .int (0 : Int32)), (0, .ref (a 0)), (1, .int (nI P))]) hx hb dX1_fame_26 rfl hl (by decide) rfl (fun ls hl => ?_)
    have lp_27 : ∀ (n : Nat) (i : Nat), ((i ≤ N)) → ((N + 1 ≤ i + n)) → ∀ (H : Heap) (locs : List Loc) (ls : Array Slot), AtC D (tyG cI cZ cN) A (pLand cI a L V) s H locs → lv_has ls 4 [(0, .ref (a 0)), (1, .int (nI P)), (2, .int (fm (V 0) (V 2) (V 0 P) i)), (3, .int (nI i))] → W p l e (rmN 0) s m args below meth c H locs 0 0 Q (F0 m 27 ls []) := by
      intro n
      induction n with
      | zero =>
        intro i hi_27 hn_27 H locs ls hW hl
        exact absurd hn_27 (by omega)
      | succ n ih27 =>
        intro i hi_27 hn_27 H locs ls hW hl
        refine lv_iload_n hx hb dX1_fame_27 rfl (lv_at hl 3 rfl) ?_
        refine lv_aload_n hx hb dX1_fame_28 rfl (lv_at hl 0 rfl) ?_
        refine r_get S hW 0 rfl rfl bw_wsX10 5 (by decide) (v := .int (L 3 1)) rfl mw73 dX1_fame_29 ?_
        refine r_eq (y := (nI N)) hN ?_
        refine lv_icmp_ge (tgt := 74) hx hb dX1_fame_32 rfl (fun c_32 => ?_) (fun c_32 => ?_)
        · have ge_32 : N ≤ i := (nI_leI (by omega) (by omega)).mp c_32
          have ee_32 : N = i := by omega
          subst ee_32
          refine lv_iload_n hx hb dX1_fame_74 rfl (lv_at hl 2 rfl) ?_
          exact hret _ _ _ _ _ _ hW rfl rfl dX1_fame_75 (⟨by simp [fmI, c_10, c_32], rfl⟩)
        · have lt_32 : i < N := Nat.not_le.mp (fun h => c_32 ((nI_leI (by omega) (by omega)).mpr h))
          refine lv_aload_n hx hb dX1_fame_35 rfl (lv_at hl 0 rfl) ?_
          refine r_get S hW 0 rfl rfl bw_wsX10 3 (by decide) (v := .ref (a 4)) rfl mw71 dX1_fame_36 ?_
          refine r_get S hW 4 rfl rfl bw_wsX20 0 (by decide) (v := .ref (a 5)) rfl mw215 dX1_fame_39 ?_
          refine lv_iload_n hx hb dX1_fame_42 rfl (lv_at hl 3 rfl) ?_
          refine r_iald S hW 5 0 rfl rfl (j := i) rfl (by omega) (by decide) dX1_fame_43 ?_
          refine lv_aload_n hx hb dX1_fame_44 rfl (lv_at hl 0 rfl) ?_
          refine r_get S hW 0 rfl rfl bw_wsX10 3 (by decide) (v := .ref (a 4)) rfl mw71 dX1_fame_45 ?_
          refine r_get S hW 4 rfl rfl bw_wsX20 0 (by decide) (v := .ref (a 5)) rfl mw215 dX1_fame_48 ?_
          refine lv_iload_n hx hb dX1_fame_51 rfl (lv_at hl 1 rfl) ?_
          refine r_iald S hW 5 0 rfl rfl (j := P) rfl (by omega) (by decide) dX1_fame_52 ?_
          refine lv_icmp_ne (tgt := 68) hx hb dX1_fame_53 rfl (fun c_53 => ?_) (fun c_53 => ?_)
          · refine lv_iinc (v := (nI (i + 1))) (lv' := [(3, .int (nI (i + 1))), (0, .ref (a 0)), (1, .int (nI P)), (2, .int (fm (V 0) (V 2) (V 0 P) i))]) hx hb dX1_fame_68 hl (k := 3) rfl (inc_n i 1) (by decide) rfl (fun ls hl => ?_)
            refine lv_goto (tgt := 27) hx hb dX1_fame_71 rfl ?_
            have hl_1 : lv_has ls 4 [(0, .ref (a 0)), (1, .int (nI P)), (2, .int (fm (V 0) (V 2) (V 0 P) (i + 1))), (3, .int (nI (i + 1)))] := by
              rw [show (fm (V 0) (V 2) (V 0 P) (i + 1)) = (fm (V 0) (V 2) (V 0 P) i) from by simp [fm, c_10, c_32, c_53]]
              exact lv_sub hl [1, 2, 3, 0] rfl
            exact ih27 (i + 1) (by omega) (by omega) _ _ _ hW hl_1
          · refine lv_iload_n hx hb dX1_fame_56 rfl (lv_at hl 2 rfl) ?_
            refine lv_aload_n hx hb dX1_fame_57 rfl (lv_at hl 0 rfl) ?_
            refine r_get S hW 0 rfl rfl bw_wsX10 3 (by decide) (v := .ref (a 4)) rfl mw71 dX1_fame_58 ?_
            refine r_get S hW 4 rfl rfl bw_wsX20 2 (by decide) (v := .ref (a 7)) rfl mw217 dX1_fame_61 ?_
            refine lv_iload_n hx hb dX1_fame_64 rfl (lv_at hl 3 rfl) ?_
            refine r_iald S hW 7 0 rfl rfl (j := i) rfl (by omega) (by decide) dX1_fame_65 ?_
            refine lv_iadd hx hb dX1_fame_66 ?_
            refine lv_istore_n (lv' := [(2, .int ((fm (V 0) (V 2) (V 0 P) i) + ((V 2) i))), (0, .ref (a 0)), (1, .int (nI P)), (3, .int (nI i))]) hx hb dX1_fame_67 rfl hl (by decide) rfl (fun ls hl => ?_)
            refine lv_iinc (v := (nI (i + 1))) (lv' := [(3, .int (nI (i + 1))), (2, .int ((fm (V 0) (V 2) (V 0 P) i) + ((V 2) i))), (0, .ref (a 0)), (1, .int (nI P))]) hx hb dX1_fame_68 hl (k := 3) rfl (inc_n i 1) (by decide) rfl (fun ls hl => ?_)
            refine lv_goto (tgt := 27) hx hb dX1_fame_71 rfl ?_
            have hl_2 : lv_has ls 4 [(0, .ref (a 0)), (1, .int (nI P)), (2, .int (fm (V 0) (V 2) (V 0 P) (i + 1))), (3, .int (nI (i + 1)))] := by
              rw [show (fm (V 0) (V 2) (V 0 P) (i + 1)) = ((fm (V 0) (V 2) (V 0 P) i) + ((V 2) i)) from by simp [fm, c_10, c_32, c_53]]
              exact lv_sub hl [2, 3, 1, 0] rfl
            exact ih27 (i + 1) (by omega) (by omega) _ _ _ hW hl_2
    exact lp_27 (N + 1) 0 (by omega) (by omega) _ _ _ hW (lv_sub hl [2, 3, 1, 0] rfl)
  · refine lv_aload_n hx hb dX1_fame_13 rfl (lv_at hl 0 rfl) ?_
    refine r_get S hW 0 rfl rfl bw_wsX10 3 (by decide) (v := .ref (a 4)) rfl mw71 dX1_fame_14 ?_
    refine r_get S hW 4 rfl rfl bw_wsX20 2 (by decide) (v := .ref (a 7)) rfl mw217 dX1_fame_17 ?_
    refine lv_iload_n hx hb dX1_fame_20 rfl (lv_at hl 1 rfl) ?_
    refine r_iald S hW 7 0 rfl rfl (j := P) rfl (by omega) (by decide) dX1_fame_21 ?_
    exact hret _ _ _ _ _ _ hW rfl rfl dX1_fame_22 (⟨by simp [fmI, c_10], rfl⟩)

set_option maxHeartbeats 4000000 in
set_option maxRecDepth 100000 in
theorem c_X1_taxIfNamed (l : Launch) (D : va_G) (cI cZ cN : ClassId) (a : Nat → Nat) (L V : NV) (P : Nat) (k : Int32) (N C : Nat) (hN : L 3 1 = nI N) (hN7 : N ≤ 7) (hC : L 3 0 = nI C) (hC4 : C ≤ 4) (hP : P < N) : CtI l yX1_taxIfNamed cX1_taxIfNamed 5 (some .int) 2 D (tyG cI cZ cN) [.ref (a 0), .int (nI P), .int k] (pLand cI a L V) (fun r w => r = txI (V 0) (V 1) N (V 3 1) P k ∧ w = (pLand cI a L V)) := by
  refine CtI.of rfl (Nat.le_of_ble_eq_true rfl) ?_
  intro p e s m args below meth c ls Q A S hret hW hl
  have hx := S.1
  have hb := S.2.1
  have hl : lv_has ls 5 [(0, .ref (a 0)), (1, .int (nI P)), (2, .int k)] := hl
  refine lv_aload_n hx hb dX1_taxIfNamed_0 rfl (lv_at hl 0 rfl) ?_
  refine r_get S hW 0 rfl rfl bw_wsX10 3 (by decide) (v := .ref (a 4)) rfl mw71 dX1_taxIfNamed_1 ?_
  refine r_get S hW 4 rfl rfl bw_wsX20 4 (by decide) (v := .int (V 3 1)) rfl mw173 dX1_taxIfNamed_4 ?_
  refine lv_iconst (v := (4 : Int32)) hx hb dX1_taxIfNamed_7 rfl ?_
  refine lv_iand hx hb dX1_taxIfNamed_8 ?_
  refine lv_if_ne (tgt := 25) hx hb dX1_taxIfNamed_9 rfl (fun c_9 => ?_) (fun c_9 => ?_)
  · refine lv_aload_n hx hb dX1_taxIfNamed_25 rfl (lv_at hl 0 rfl) ?_
    refine lv_iload_n hx hb dX1_taxIfNamed_26 rfl (lv_at hl 2 rfl) ?_
    refine callVI S hW (c_X1_bearers l D cI cZ cN a L V k N C hN hN7 hC hC4 ) vmX1_bearers mw312 [0, 1, 2, 3, 4, 5, 6, 7] rfl (by decide) 0 rfl rfl (As := [.int k]) (rest := []) rfl rfl hl.1 (Nat.le_of_ble_eq_true rfl) ⟨Nat.le_of_ble_eq_true rfl, Nat.le_of_ble_eq_true rfl⟩ ⟨Nat.le_refl _, Nat.le_refl _⟩ dX1_taxIfNamed_27 (fun r w1 H locs hq hW => ?_)
    obtain ⟨rfl, rfl⟩ := hq
    have hW : AtC D (tyG cI cZ cN) A (pLand cI a L V) s H locs := hW
    refine lv_iconst (v := (1 : Int32)) hx hb dX1_taxIfNamed_30 rfl ?_
    refine lv_iload_n hx hb dX1_taxIfNamed_31 rfl (lv_at hl 1 rfl) ?_
    refine lv_ishl hx hb dX1_taxIfNamed_32 ?_
    refine lv_ior hx hb dX1_taxIfNamed_33 ?_
    refine lv_istore_n (lv' := [(3, .int ((br (V 0) (k) (N)) ||| ((1 : Int32) <<< ((nI P) &&& 31)))), (0, .ref (a 0)), (1, .int (nI P)), (2, .int k)]) hx hb dX1_taxIfNamed_34 rfl hl (by decide) rfl (fun ls hl => ?_)
    refine lv_iconst (v := (1 : Int32)) hx hb dX1_taxIfNamed_35 rfl ?_
    refine lv_iload_n hx hb dX1_taxIfNamed_36 rfl (lv_at hl 0 rfl) ?_
    refine callSI S hW (c_J6_bitCount l D cI cZ cN ((br (V 0) (k) (N)) ||| ((1 : Int32) <<< ((nI P) &&& 31)))) smJ6_bitCount_0f7a4 mw332 (As := [.int ((br (V 0) (k) (N)) ||| ((1 : Int32) <<< ((nI P) &&& 31)))]) (rest := [.int (1 : Int32)]) rfl rfl hl.1 (Nat.le_of_ble_eq_true rfl) ⟨Nat.le_of_ble_eq_true rfl, Nat.le_of_ble_eq_true rfl⟩ ⟨Nat.le_refl _, Nat.le_refl _⟩ dX1_taxIfNamed_37 (fun r H locs hq hW => ?_)
    obtain ⟨rfl, -⟩ := hq
    refine r_max S mw328 mw329 mw330 mw331 hl.1 (by decide) (Nat.le_of_ble_eq_true rfl) ⟨by decide, by decide⟩ dX1_taxIfNamed_40 ?_
    refine lv_istore (lv' := [(4, .int (if (1 : Int32) < (bcI ((br (V 0) (k) (N)) ||| ((1 : Int32) <<< ((nI P) &&& 31)))) then (bcI ((br (V 0) (k) (N)) ||| ((1 : Int32) <<< ((nI P) &&& 31)))) else (1 : Int32))), (3, .int ((br (V 0) (k) (N)) ||| ((1 : Int32) <<< ((nI P) &&& 31)))), (0, .ref (a 0)), (1, .int (nI P)), (2, .int k)]) hx hb dX1_taxIfNamed_43 hl (by decide) rfl (fun ls hl => ?_)
    refine lv_aload_n hx hb dX1_taxIfNamed_45 rfl (lv_at hl 2 rfl) ?_
    refine lv_iload_n hx hb dX1_taxIfNamed_46 rfl (lv_at hl 1 rfl) ?_
    refine callVI S hW (c_X1_wealthOf l D cI cZ cN a L V ((br (V 0) (k) (N)) ||| ((1 : Int32) <<< ((nI P) &&& 31))) N C hN hN7 hC hC4 ) vmX1_wealthOf mw339 [0, 1, 2, 3, 4, 5, 6, 7] rfl (by decide) 0 rfl rfl (As := [.int ((br (V 0) (k) (N)) ||| ((1 : Int32) <<< ((nI P) &&& 31)))]) (rest := []) rfl rfl hl.1 (Nat.le_of_ble_eq_true rfl) ⟨Nat.le_of_ble_eq_true rfl, Nat.le_of_ble_eq_true rfl⟩ ⟨Nat.le_refl _, Nat.le_refl _⟩ dX1_taxIfNamed_47 (fun r w1 H locs hq hW => ?_)
    obtain ⟨rfl, rfl⟩ := hq
    have hW : AtC D (tyG cI cZ cN) A (pLand cI a L V) s H locs := hW
    refine lv_iload hx hb dX1_taxIfNamed_50 (lv_at hl 0 rfl) ?_
    refine lv_idiv hx hb dX1_taxIfNamed_52 (mx1_ne _) ?_
    refine lv_bipush (v := (10 : Int32)) hx hb dX1_taxIfNamed_53 rfl ?_
    refine lv_idiv hx hb dX1_taxIfNamed_55 (by decide) ?_
    exact hret _ _ _ _ _ _ hW rfl rfl dX1_taxIfNamed_56 (⟨by simp [txI, txB, mx1, c_9], rfl⟩)
  · refine lv_aload_n hx hb dX1_taxIfNamed_12 rfl (lv_at hl 0 rfl) ?_
    refine r_get S hW 0 rfl rfl bw_wsX10 3 (by decide) (v := .ref (a 4)) rfl mw71 dX1_taxIfNamed_13 ?_
    refine r_get S hW 4 rfl rfl bw_wsX20 1 (by decide) (v := .ref (a 6)) rfl mw216 dX1_taxIfNamed_16 ?_
    refine lv_iload_n hx hb dX1_taxIfNamed_19 rfl (lv_at hl 1 rfl) ?_
    refine r_iald S hW 6 0 rfl rfl (j := P) rfl (by omega) (by decide) dX1_taxIfNamed_20 ?_
    refine lv_bipush (v := (10 : Int32)) hx hb dX1_taxIfNamed_21 rfl ?_
    refine lv_idiv hx hb dX1_taxIfNamed_23 (by decide) ?_
    exact hret _ _ _ _ _ _ hW rfl rfl dX1_taxIfNamed_24 (⟨by simp [txI, txB, mx1, c_9], rfl⟩)

set_option maxHeartbeats 4000000 in
set_option maxRecDepth 100000 in
theorem c_X1_tax (l : Launch) (D : va_G) (cI cZ cN : ClassId) (a : Nat → Nat) (L V : NV) (P : Nat) (N C : Nat) (hN : L 3 1 = nI N) (hN7 : N ≤ 7) (hC : L 3 0 = nI C) (hC4 : C ≤ 4) (hP : P < N) : CtI l yX1_tax cX1_tax 2 (some .int) 3 D (tyG cI cZ cN) [.ref (a 0), .int (nI P)] (pLand cI a L V) (fun r w => r = txI (V 0) (V 1) N (V 3 1) P (V 0 P) ∧ w = (pLand cI a L V)) := by
  refine CtI.of rfl (Nat.le_of_ble_eq_true rfl) ?_
  intro p e s m args below meth c ls Q A S hret hW hl
  have hx := S.1
  have hb := S.2.1
  have hl : lv_has ls 2 [(0, .ref (a 0)), (1, .int (nI P))] := hl
  refine lv_aload_n hx hb dX1_tax_0 rfl (lv_at hl 0 rfl) ?_
  refine lv_iload_n hx hb dX1_tax_1 rfl (lv_at hl 1 rfl) ?_
  refine lv_aload_n hx hb dX1_tax_2 rfl (lv_at hl 0 rfl) ?_
  refine r_get S hW 0 rfl rfl bw_wsX10 3 (by decide) (v := .ref (a 4)) rfl mw71 dX1_tax_3 ?_
  refine r_get S hW 4 rfl rfl bw_wsX20 0 (by decide) (v := .ref (a 5)) rfl mw215 dX1_tax_6 ?_
  refine lv_iload_n hx hb dX1_tax_9 rfl (lv_at hl 1 rfl) ?_
  refine r_iald S hW 5 0 rfl rfl (j := P) rfl (by omega) (by decide) dX1_tax_10 ?_
  refine callVI S hW (c_X1_taxIfNamed l D cI cZ cN a L V P ((V 0) P) N C hN hN7 hC hC4 (by omega)) vmX1_taxIfNamed mw324 [0, 1, 2, 3, 4, 5, 6, 7] rfl (by decide) 0 rfl rfl (As := [.int (nI P), .int ((V 0) P)]) (rest := []) rfl rfl hl.1 (Nat.le_of_ble_eq_true rfl) ⟨Nat.le_of_ble_eq_true rfl, Nat.le_of_ble_eq_true rfl⟩ ⟨Nat.le_refl _, Nat.le_refl _⟩ dX1_tax_11 (fun r w1 H locs hq hW => ?_)
  obtain ⟨rfl, rfl⟩ := hq
  have hW : AtC D (tyG cI cZ cN) A (pLand cI a L V) s H locs := hW
  exact hret _ _ _ _ _ _ hW rfl rfl dX1_tax_14 (⟨rfl, rfl⟩)
