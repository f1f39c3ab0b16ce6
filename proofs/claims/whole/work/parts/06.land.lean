/-! the raw words of Land -/
def br (f : Nat → Int32) (k : Int32) : Nat → Int32
  | 0 => 0
  | i + 1 => if f i = k then br f k i ||| ((1 : Int32) <<< (nI i &&& 31)) else br f k i
def wo (g : Int32) (f : Nat → Int32) : Nat → Int32
  | 0 => 0
  | i + 1 => wo g f i + bitI g (nI i) * f i
def lmp (f : Nat → Int32) (N : Nat) (hurt : Int32) : Nat → Int32
  | 0 => 0
  | k + 1 => if br f (nI k) N &&& hurt = 0 then lmp f N hurt k else lmp f N hurt k ||| br f (nI k) N
def lmpI (f : Nat → Int32) (N C : Nat) (hurt laws : Int32) : Int32 := if laws &&& 1 = 0 then hurt else lmp f N hurt C
def fm (f g : Nat → Int32) (k : Int32) : Nat → Int32
  | 0 => 0
  | i + 1 => if f i = k then fm f g k i + g i else fm f g k i
def fmI (f g : Nat → Int32) (N : Nat) (laws : Int32) (P : Nat) : Int32 := if laws &&& 8 = 0 then g P else fm f g (f P) N
def mx1 (y : Int32) : Int32 := if 1 < y then y else 1
theorem mx1_ne (y : Int32) : ¬ mx1 y = 0 := by
  unfold mx1
  split
  · intro h; subst h; rename_i h; revert h; decide
  · decide
def txB (f g : Nat → Int32) (N : Nat) (P : Nat) (k : Int32) : Int32 := wo (br f k N ||| ((1 : Int32) <<< (nI P &&& 31))) g N / mx1 (bcI (br f k N ||| ((1 : Int32) <<< (nI P &&& 31)))) / 10
def txI (f g : Nat → Int32) (N : Nat) (laws : Int32) (P : Nat) (k : Int32) : Int32 := if laws &&& 4 = 0 then g P / 10 else txB f g N P k
def chp (t : Int32 → Int32) : Nat → Int32
  | 0 => 0
  | j + 1 => if t (nI (j + 1)) < t (chp t j) then nI (j + 1) else chp t j
def rsl (t : Nat → Int32 → Int32) (nm : Nat → Int32) (C : Nat) : Nat → Int32
  | 0 => 0
  | i + 1 => if t i (chp (t i) (C - 1)) < t i (nm i) then rsl t nm C i ||| ((1 : Int32) <<< (nI i &&& 31)) else rsl t nm C i
def alo (f : Nat → Int32) (N : Nat) : Nat → Int32
  | 0 => 0
  | k + 1 => if bcI (br f (nI k) N) = 1 then alo f N k ||| br f (nI k) N else alo f N k
def qrI (fo : Nat → Int32) (P : Nat) (q : Int32) : Int32 := if bitI (fo P) q = 1 then 1 else 0
theorem fa_nlt {x y : Int32} : (x < y) = ¬ (y ≤ x) := by
  rw [eq_iff_iff, Int32.not_le]
theorem qrI_0 {fo : Nat → Int32} {P : Nat} {q : Int32} (h : qrI fo P q = 0) : ¬ bitI (fo P) q = 1 := by
  intro h2; simp [qrI, h2] at h
theorem qrI_1 {fo : Nat → Int32} {P : Nat} {q : Int32} (h : ¬ qrI fo P q = 0) : bitI (fo P) q = 1 := by
  by_cases h2 : bitI (fo P) q = 1
  · exact h2
  · simp [qrI, h2] at h
def boI (fo nm : Nat → Int32) (P : Nat) (t : Int32) : Nat → Int32
  | 0 => t
  | j + 1 => if bitI (fo P) (nI (P + 1 + j)) = 1 then (if nm P = nm (P + 1 + j) then boI fo nm P t j + 1 else boI fo nm P t j) else boI fo nm P t j
def boO (fo nm : Nat → Int32) (N : Nat) : Nat → Int32
  | 0 => 0
  | i + 1 => boI fo nm i (boO fo nm N i) (N - (i + 1))
def sy (fv : Nat → Int32) (b side : Int32) : Nat → Int32
  | 0 => 0
  | i + 1 => if bitI (fv i) b = side then sy fv b side i ||| ((1 : Int32) <<< (nI i &&& 31)) else sy fv b side i
def vt (f : Nat → Int32) (N : Nat) (sa ot laws wi : Int32) : Nat → Int32
  | 0 => 0
  | k + 1 => if nI k = wi then vt f N sa ot laws wi k else vt f N sa ot laws wi k + (if laws &&& 2 = 0 then bcI (br f (nI k) N &&& sa) else if bcI (br f (nI k) N &&& sa) ≤ bcI (br f (nI k) N &&& ot) then 0 else 1)
def yesI (fv f : Nat → Int32) (N C : Nat) (b laws wi : Int32) : Int32 := vt f N (sy fv b 1 N) (sy fv b 0 N) laws wi C
def noI (fv f : Nat → Int32) (N C : Nat) (b laws wi : Int32) : Int32 := vt f N (sy fv b 0 N) (sy fv b 1 N) laws wi C
def psI (fv f : Nat → Int32) (N C : Nat) (b laws wi : Int32) : Int32 := if yesI fv f N C b laws wi ≤ noI fv f N C b laws wi then 0 else 1
def psg (fv f : Nat → Int32) (N C : Nat) (laws : Int32) : Nat → Int32
  | 0 => 0
  | b + 1 => if psI fv f N C (nI b) laws (-9) = 0 then psg fv f N C laws b else psg fv f N C laws b ||| ((1 : Int32) <<< (nI b &&& 31))
def swy (fv f : Nat → Int32) (N C : Nat) (b laws : Int32) : Nat → Int32
  | 0 => 0
  | k + 1 => if psI fv f N C b laws (nI k) = psI fv f N C b laws (-9) then swy fv f N C b laws k else swy fv f N C b laws k ||| ((1 : Int32) <<< (nI k &&& 31))

set_option maxHeartbeats 4000000 in
set_option maxRecDepth 100000 in
theorem c_X1_hasPerson (l : Launch) (D : va_G) (cI cZ cN : ClassId) (a : Nat → Nat) (L V : NV) (p0 : Int32) (N C : Nat) (hN : L 3 1 = nI N) (hN7 : N ≤ 7) (hC : L 3 0 = nI C) (hC4 : C ≤ 4) (hC1 : 1 ≤ C) : CtI l yX1_hasPerson cX1_hasPerson 2 (some .boolean) 1 D (tyG cI cZ cN) [.ref (a 0), .int p0] (pLand cI a L V) (fun r w => r = inI p0 0 (nI N - 1) ∧ w = (pLand cI a L V)) := by
  refine CtI.of rfl (Nat.le_of_ble_eq_true rfl) ?_
  intro pg ev sx mx ax bx mt cx ls Qx Ax Sx hret hW hl
  have hx := Sx.1
  have hb := Sx.2.1
  have hl : lv_has ls 2 [(0, .ref (a 0)), (1, .int p0)] := hl
  refine lv_iload_n hx hb dX1_hasPerson_0 rfl (lv_at hl 1 rfl) ?_
  refine lv_iconst (v := (0 : Int32)) hx hb dX1_hasPerson_1 rfl ?_
  refine lv_aload_n hx hb dX1_hasPerson_2 rfl (lv_at hl 0 rfl) ?_
  refine r_get Sx hW 0 rfl rfl bw_wsX10 5 (by decide) (v := .int (L 3 1)) rfl mw73 dX1_hasPerson_3 ?_
  refine r_eq (y := (nI N)) hN ?_
  refine lv_iconst (v := (1 : Int32)) hx hb dX1_hasPerson_6 rfl ?_
  refine lv_isub hx hb dX1_hasPerson_7 ?_
  refine callNI Sx hW (c_X8_within l D cI cZ cN p0 (0 : Int32) ((nI N) - (1 : Int32))) smX8_within 11 rfl (As := [.int p0, .int (0 : Int32), .int ((nI N) - (1 : Int32))]) (rest := []) rfl rfl hl.1 (Nat.le_of_ble_eq_true rfl) ⟨Nat.le_of_ble_eq_true rfl, Nat.le_of_ble_eq_true rfl⟩ ⟨Nat.le_refl _, Nat.le_refl _⟩ dX1_hasPerson_8 (fun rx H locs hqx hW => ?_)
  obtain ⟨hrx, -⟩ := hqx
  refine r_eq (y := (inI p0 (0 : Int32) ((nI N) - (1 : Int32)))) hrx ?_
  exact hret _ _ _ _ _ _ hW rfl (inI_nar _ _ _) dX1_hasPerson_11 (⟨rfl, rfl⟩)

set_option maxHeartbeats 4000000 in
set_option maxRecDepth 100000 in
theorem c_X1_hasName (l : Launch) (D : va_G) (cI cZ cN : ClassId) (a : Nat → Nat) (L V : NV) (p0 : Int32) (N C : Nat) (hN : L 3 1 = nI N) (hN7 : N ≤ 7) (hC : L 3 0 = nI C) (hC4 : C ≤ 4) (hC1 : 1 ≤ C) : CtI l yX1_hasName cX1_hasName 2 (some .boolean) 1 D (tyG cI cZ cN) [.ref (a 0), .int p0] (pLand cI a L V) (fun r w => r = inI p0 0 (nI C - 1) ∧ w = (pLand cI a L V)) := by
  refine CtI.of rfl (Nat.le_of_ble_eq_true rfl) ?_
  intro pg ev sx mx ax bx mt cx ls Qx Ax Sx hret hW hl
  have hx := Sx.1
  have hb := Sx.2.1
  have hl : lv_has ls 2 [(0, .ref (a 0)), (1, .int p0)] := hl
  refine lv_iload_n hx hb dX1_hasName_0 rfl (lv_at hl 1 rfl) ?_
  refine lv_iconst (v := (0 : Int32)) hx hb dX1_hasName_1 rfl ?_
  refine lv_aload_n hx hb dX1_hasName_2 rfl (lv_at hl 0 rfl) ?_
  refine r_get Sx hW 0 rfl rfl bw_wsX10 4 (by decide) (v := .int (L 3 0)) rfl mw72 dX1_hasName_3 ?_
  refine r_eq (y := (nI C)) hC ?_
  refine lv_iconst (v := (1 : Int32)) hx hb dX1_hasName_6 rfl ?_
  refine lv_isub hx hb dX1_hasName_7 ?_
  refine callNI Sx hW (c_X8_within l D cI cZ cN p0 (0 : Int32) ((nI C) - (1 : Int32))) smX8_within 11 rfl (As := [.int p0, .int (0 : Int32), .int ((nI C) - (1 : Int32))]) (rest := []) rfl rfl hl.1 (Nat.le_of_ble_eq_true rfl) ⟨Nat.le_of_ble_eq_true rfl, Nat.le_of_ble_eq_true rfl⟩ ⟨Nat.le_refl _, Nat.le_refl _⟩ dX1_hasName_8 (fun rx H locs hqx hW => ?_)
  obtain ⟨hrx, -⟩ := hqx
  refine r_eq (y := (inI p0 (0 : Int32) ((nI C) - (1 : Int32)))) hrx ?_
  exact hret _ _ _ _ _ _ hW rfl (inI_nar _ _ _) dX1_hasName_11 (⟨rfl, rfl⟩)

set_option maxHeartbeats 4000000 in
set_option maxRecDepth 100000 in
theorem c_X1_quarrel (l : Launch) (D : va_G) (cI cZ cN : ClassId) (a : Nat → Nat) (L V : NV) (P : Nat) (q : Int32) (N C : Nat) (hN : L 3 1 = nI N) (hN7 : N ≤ 7) (hC : L 3 0 = nI C) (hC4 : C ≤ 4) (hC1 : 1 ≤ C) (hP : P < N) : CtI l yX1_quarrel cX1_quarrel 3 (some .boolean) 1 D (tyG cI cZ cN) [.ref (a 0), .int (nI P), .int q] (pLand cI a L V) (fun r w => r = qrI (L 1) P q ∧ w = (pLand cI a L V)) := by
  refine CtI.of rfl (Nat.le_of_ble_eq_true rfl) ?_
  intro pg ev sx mx ax bx mt cx ls Qx Ax Sx hret hW hl
  have hx := Sx.1
  have hb := Sx.2.1
  have hl : lv_has ls 3 [(0, .ref (a 0)), (1, .int (nI P)), (2, .int q)] := hl
  refine lv_aload_n hx hb dX1_quarrel_0 rfl (lv_at hl 0 rfl) ?_
  refine r_get Sx hW 0 rfl rfl bw_wsX10 1 (by decide) (v := .ref (a 2)) rfl mw68 dX1_quarrel_1 ?_
  refine lv_iload_n hx hb dX1_quarrel_4 rfl (lv_at hl 1 rfl) ?_
  refine r_iald Sx hW 2 0 rfl rfl (j := P) rfl (by omega) (by decide) dX1_quarrel_5 ?_
  refine lv_iload_n hx hb dX1_quarrel_6 rfl (lv_at hl 2 rfl) ?_
  refine callNI Sx hW (c_X8_bit l D cI cZ cN ((L 1) P) q) smX8_bit 12 rfl (As := [.int ((L 1) P), .int q]) (rest := []) rfl rfl hl.1 (Nat.le_of_ble_eq_true rfl) ⟨Nat.le_of_ble_eq_true rfl, Nat.le_of_ble_eq_true rfl⟩ ⟨Nat.le_refl _, Nat.le_refl _⟩ dX1_quarrel_7 (fun rx H locs hqx hW => ?_)
  obtain ⟨hrx, -⟩ := hqx
  refine r_eq (y := (bitI ((L 1) P) q)) hrx ?_
  refine lv_iconst (v := (1 : Int32)) hx hb dX1_quarrel_10 rfl ?_
  refine lv_icmp_ne (tgt := 18) hx hb dX1_quarrel_11 rfl (fun c_11 => ?_) (fun c_11 => ?_)
  · refine lv_iconst (v := (0 : Int32)) hx hb dX1_quarrel_18 rfl ?_
    exact hret _ _ _ _ _ _ hW rfl rfl dX1_quarrel_19 (⟨by simp [qrI, c_11], rfl⟩)
  · refine lv_iconst (v := (1 : Int32)) hx hb dX1_quarrel_14 rfl ?_
    refine lv_goto (tgt := 19) hx hb dX1_quarrel_15 rfl ?_
    exact hret _ _ _ _ _ _ hW rfl rfl dX1_quarrel_19 (⟨by simp [qrI, c_11], rfl⟩)

set_option maxHeartbeats 4000000 in
set_option maxRecDepth 100000 in
theorem c_X1_bearers (l : Launch) (D : va_G) (cI cZ cN : ClassId) (a : Nat → Nat) (L V : NV) (k : Int32) (N C : Nat) (hN : L 3 1 = nI N) (hN7 : N ≤ 7) (hC : L 3 0 = nI C) (hC4 : C ≤ 4) (hC1 : 1 ≤ C) : CtI l yX1_bearers cX1_bearers 4 (some .int) 0 D (tyG cI cZ cN) [.ref (a 0), .int k] (pLand cI a L V) (fun r w => r = br (V 0) k N ∧ w = (pLand cI a L V)) := by
  refine CtI.of rfl (Nat.le_of_ble_eq_true rfl) ?_
  intro pg ev sx mx ax bx mt cx ls Qx Ax Sx hret hW hl
  have hx := Sx.1
  have hb := Sx.2.1
  have hl : lv_has ls 4 [(0, .ref (a 0)), (1, .int k)] := hl
  refine lv_iconst (v := (0 : Int32)) hx hb dX1_bearers_0 rfl ?_
  refine lv_istore_n (lv' := [(2, .int (0 : Int32)), (0, .ref (a 0)), (1, .int k)]) hx hb dX1_bearers_1 rfl hl (by decide) rfl (fun ls hl => ?_)
  refine lv_iconst (v := (0 : Int32)) hx hb dX1_bearers_2 rfl ?_
  refine lv_istore_n (lv' := [(3, .int (0 : Int32)), (2, .int (0 : Int32)), (0, .ref (a 0)), (1, .int k)]) hx hb dX1_bearers_3 rfl hl (by decide) rfl (fun ls hl => ?_)
  have lp_4 : ∀ (n : Nat) (i : Nat), ((i ≤ N)) → ((N + 1 ≤ i + n)) → ∀ (H : Heap) (locs : List Loc) (ls : Array Slot), AtC D (tyG cI cZ cN) Ax (pLand cI a L V) sx H locs → lv_has ls 4 [(0, .ref (a 0)), (1, .int k), (2, .int (br (V 0) k i)), (3, .int (nI i))] → W pg l ev (rmN 0) sx mx ax bx mt cx H locs 0 0 Qx (F0 mx 4 ls []) := by
    intro n
    induction n with
    | zero =>
      intro i hi_4 hn_4 H locs ls hW hl
      exact absurd hn_4 (by omega)
    | succ n ih4 =>
      intro i hi_4 hn_4 H locs ls hW hl
      refine lv_iload_n hx hb dX1_bearers_4 rfl (lv_at hl 3 rfl) ?_
      refine lv_aload_n hx hb dX1_bearers_5 rfl (lv_at hl 0 rfl) ?_
      refine r_get Sx hW 0 rfl rfl bw_wsX10 5 (by decide) (v := .int (L 3 1)) rfl mw73 dX1_bearers_6 ?_
      refine r_eq (y := (nI N)) hN ?_
      refine lv_icmp_ge (tgt := 37) hx hb dX1_bearers_9 rfl (fun c_9 => ?_) (fun c_9 => ?_)
      · have ge_9 : N ≤ i := (nI_leI (a := N) (b := i) (by omega) (by omega)).mp c_9
        have ee_9 : N = i := by omega
        subst ee_9
        refine lv_iload_n hx hb dX1_bearers_37 rfl (lv_at hl 2 rfl) ?_
        exact hret _ _ _ _ _ _ hW rfl rfl dX1_bearers_38 (⟨rfl, rfl⟩)
      · have lt_9 : i < N := Nat.not_le.mp (fun h => c_9 ((nI_leI (a := N) (b := i) (by omega) (by omega)).mpr h))
        refine lv_aload_n hx hb dX1_bearers_12 rfl (lv_at hl 0 rfl) ?_
        refine r_get Sx hW 0 rfl rfl bw_wsX10 3 (by decide) (v := .ref (a 4)) rfl mw71 dX1_bearers_13 ?_
        refine r_get Sx hW 4 rfl rfl bw_wsX20 0 (by decide) (v := .ref (a 5)) rfl mw215 dX1_bearers_16 ?_
        refine lv_iload_n hx hb dX1_bearers_19 rfl (lv_at hl 3 rfl) ?_
        refine r_iald Sx hW 5 0 rfl rfl (j := i) rfl (by omega) (by decide) dX1_bearers_20 ?_
        refine lv_iload_n hx hb dX1_bearers_21 rfl (lv_at hl 1 rfl) ?_
        refine lv_icmp_ne (tgt := 31) hx hb dX1_bearers_22 rfl (fun c_22 => ?_) (fun c_22 => ?_)
        · refine lv_iinc (v := (nI (i + 1))) (lv' := [(3, .int (nI (i + 1))), (0, .ref (a 0)), (1, .int k), (2, .int (br (V 0) k i))]) hx hb dX1_bearers_31 hl (k := 3) rfl (inc_n i 1) (by decide) rfl (fun ls hl => ?_)
          refine lv_goto (tgt := 4) hx hb dX1_bearers_34 rfl ?_
          have hl_1 : lv_has ls 4 [(0, .ref (a 0)), (1, .int k), (2, .int (br (V 0) k (i + 1))), (3, .int (nI (i + 1)))] := by
            rw [show (br (V 0) k (i + 1)) = (br (V 0) k i) from by simp [br, c_9, c_22]]
            exact lv_sub hl [1, 2, 3, 0] rfl
          exact ih4 (i + 1) (by omega) (by omega) _ _ _ hW hl_1
        · refine lv_iload_n hx hb dX1_bearers_25 rfl (lv_at hl 2 rfl) ?_
          refine lv_iconst (v := (1 : Int32)) hx hb dX1_bearers_26 rfl ?_
          refine lv_iload_n hx hb dX1_bearers_27 rfl (lv_at hl 3 rfl) ?_
          refine lv_ishl hx hb dX1_bearers_28 ?_
          refine lv_ior hx hb dX1_bearers_29 ?_
          refine lv_istore_n (lv' := [(2, .int ((br (V 0) k i) ||| ((1 : Int32) <<< ((nI i) &&& 31)))), (0, .ref (a 0)), (1, .int k), (3, .int (nI i))]) hx hb dX1_bearers_30 rfl hl (by decide) rfl (fun ls hl => ?_)
          refine lv_iinc (v := (nI (i + 1))) (lv' := [(3, .int (nI (i + 1))), (2, .int ((br (V 0) k i) ||| ((1 : Int32) <<< ((nI i) &&& 31)))), (0, .ref (a 0)), (1, .int k)]) hx hb dX1_bearers_31 hl (k := 3) rfl (inc_n i 1) (by decide) rfl (fun ls hl => ?_)
          refine lv_goto (tgt := 4) hx hb dX1_bearers_34 rfl ?_
          have hl_2 : lv_has ls 4 [(0, .ref (a 0)), (1, .int k), (2, .int (br (V 0) k (i + 1))), (3, .int (nI (i + 1)))] := by
            rw [show (br (V 0) k (i + 1)) = ((br (V 0) k i) ||| ((1 : Int32) <<< ((nI i) &&& 31))) from by simp [br, c_9, c_22]]
            exact lv_sub hl [2, 3, 1, 0] rfl
          exact ih4 (i + 1) (by omega) (by omega) _ _ _ hW hl_2
  exact lp_4 (N + 1) 0 (by omega) (by omega) _ _ _ hW (lv_sub hl [2, 3, 1, 0] rfl)

set_option maxHeartbeats 4000000 in
set_option maxRecDepth 100000 in
theorem c_X1_wealthOf (l : Launch) (D : va_G) (cI cZ cN : ClassId) (a : Nat → Nat) (L V : NV) (g : Int32) (N C : Nat) (hN : L 3 1 = nI N) (hN7 : N ≤ 7) (hC : L 3 0 = nI C) (hC4 : C ≤ 4) (hC1 : 1 ≤ C) : CtI l yX1_wealthOf cX1_wealthOf 4 (some .int) 1 D (tyG cI cZ cN) [.ref (a 0), .int g] (pLand cI a L V) (fun r w => r = wo g (V 1) N ∧ w = (pLand cI a L V)) := by
  refine CtI.of rfl (Nat.le_of_ble_eq_true rfl) ?_
  intro pg ev sx mx ax bx mt cx ls Qx Ax Sx hret hW hl
  have hx := Sx.1
  have hb := Sx.2.1
  have hl : lv_has ls 4 [(0, .ref (a 0)), (1, .int g)] := hl
  refine lv_iconst (v := (0 : Int32)) hx hb dX1_wealthOf_0 rfl ?_
  refine lv_istore_n (lv' := [(2, .int (0 : Int32)), (0, .ref (a 0)), (1, .int g)]) hx hb dX1_wealthOf_1 rfl hl (by decide) rfl (fun ls hl => ?_)
  refine lv_iconst (v := (0 : Int32)) hx hb dX1_wealthOf_2 rfl ?_
  refine lv_istore_n (lv' := [(3, .int (0 : Int32)), (2, .int (0 : Int32)), (0, .ref (a 0)), (1, .int g)]) hx hb dX1_wealthOf_3 rfl hl (by decide) rfl (fun ls hl => ?_)
  have lp_4 : ∀ (n : Nat) (i : Nat), ((i ≤ N)) → ((N + 1 ≤ i + n)) → ∀ (H : Heap) (locs : List Loc) (ls : Array Slot), AtC D (tyG cI cZ cN) Ax (pLand cI a L V) sx H locs → lv_has ls 4 [(0, .ref (a 0)), (1, .int g), (2, .int (wo g (V 1) i)), (3, .int (nI i))] → W pg l ev (rmN 1) sx mx ax bx mt cx H locs 0 0 Qx (F0 mx 4 ls []) := by
    intro n
    induction n with
    | zero =>
      intro i hi_4 hn_4 H locs ls hW hl
      exact absurd hn_4 (by omega)
    | succ n ih4 =>
      intro i hi_4 hn_4 H locs ls hW hl
      refine lv_iload_n hx hb dX1_wealthOf_4 rfl (lv_at hl 3 rfl) ?_
      refine lv_aload_n hx hb dX1_wealthOf_5 rfl (lv_at hl 0 rfl) ?_
      refine r_get Sx hW 0 rfl rfl bw_wsX10 5 (by decide) (v := .int (L 3 1)) rfl mw73 dX1_wealthOf_6 ?_
      refine r_eq (y := (nI N)) hN ?_
      refine lv_icmp_ge (tgt := 36) hx hb dX1_wealthOf_9 rfl (fun c_9 => ?_) (fun c_9 => ?_)
      · have ge_9 : N ≤ i := (nI_leI (a := N) (b := i) (by omega) (by omega)).mp c_9
        have ee_9 : N = i := by omega
        subst ee_9
        refine lv_iload_n hx hb dX1_wealthOf_36 rfl (lv_at hl 2 rfl) ?_
        exact hret _ _ _ _ _ _ hW rfl rfl dX1_wealthOf_37 (⟨rfl, rfl⟩)
      · have lt_9 : i < N := Nat.not_le.mp (fun h => c_9 ((nI_leI (a := N) (b := i) (by omega) (by omega)).mpr h))
        refine lv_iload_n hx hb dX1_wealthOf_12 rfl (lv_at hl 2 rfl) ?_
        refine lv_iload_n hx hb dX1_wealthOf_13 rfl (lv_at hl 1 rfl) ?_
        refine lv_iload_n hx hb dX1_wealthOf_14 rfl (lv_at hl 3 rfl) ?_
        refine callNI Sx hW (c_X8_bit l D cI cZ cN g (nI i)) smX8_bit 12 rfl (As := [.int g, .int (nI i)]) (rest := [.int (wo g (V 1) i)]) rfl rfl hl.1 (Nat.le_of_ble_eq_true rfl) ⟨Nat.le_of_ble_eq_true rfl, Nat.le_of_ble_eq_true rfl⟩ ⟨Nat.le_refl _, Nat.le_refl _⟩ dX1_wealthOf_15 (fun rx H locs hqx hW => ?_)
        obtain ⟨hrx, -⟩ := hqx
        refine r_eq (y := (bitI g (nI i))) hrx ?_
        refine lv_aload_n hx hb dX1_wealthOf_18 rfl (lv_at hl 0 rfl) ?_
        refine r_get Sx hW 0 rfl rfl bw_wsX10 3 (by decide) (v := .ref (a 4)) rfl mw71 dX1_wealthOf_19 ?_
        refine r_get Sx hW 4 rfl rfl bw_wsX20 1 (by decide) (v := .ref (a 6)) rfl mw216 dX1_wealthOf_22 ?_
        refine lv_iload_n hx hb dX1_wealthOf_25 rfl (lv_at hl 3 rfl) ?_
        refine r_iald Sx hW 6 0 rfl rfl (j := i) rfl (by omega) (by decide) dX1_wealthOf_26 ?_
        refine lv_imul hx hb dX1_wealthOf_27 ?_
        refine lv_iadd hx hb dX1_wealthOf_28 ?_
        refine lv_istore_n (lv' := [(2, .int ((wo g (V 1) i) + ((bitI g (nI i)) * ((V 1) i)))), (0, .ref (a 0)), (1, .int g), (3, .int (nI i))]) hx hb dX1_wealthOf_29 rfl hl (by decide) rfl (fun ls hl => ?_)
        refine lv_iinc (v := (nI (i + 1))) (lv' := [(3, .int (nI (i + 1))), (2, .int ((wo g (V 1) i) + ((bitI g (nI i)) * ((V 1) i)))), (0, .ref (a 0)), (1, .int g)]) hx hb dX1_wealthOf_30 hl (k := 3) rfl (inc_n i 1) (by decide) rfl (fun ls hl => ?_)
        refine lv_goto (tgt := 4) hx hb dX1_wealthOf_33 rfl ?_
        exact ih4 (i + 1) (by omega) (by omega) _ _ _ hW (lv_sub hl [2, 3, 1, 0] rfl)
  exact lp_4 (N + 1) 0 (by omega) (by omega) _ _ _ hW (lv_sub hl [2, 3, 1, 0] rfl)

set_option maxHeartbeats 4000000 in
set_option maxRecDepth 100000 in
theorem c_X1_limpingIf (l : Launch) (D : va_G) (cI cZ cN : ClassId) (a : Nat → Nat) (L V : NV) (hu : Int32) (la : Int32) (N C : Nat) (hN : L 3 1 = nI N) (hN7 : N ≤ 7) (hC : L 3 0 = nI C) (hC4 : C ≤ 4) (hC1 : 1 ≤ C) : CtI l yX1_limpingIf cX1_limpingIf 6 (some .int) 1 D (tyG cI cZ cN) [.ref (a 0), .int hu, .int la] (pLand cI a L V) (fun r w => r = lmpI (V 0) N C hu la ∧ w = (pLand cI a L V)) := by
  refine CtI.of rfl (Nat.le_of_ble_eq_true rfl) ?_
  intro pg ev sx mx ax bx mt cx ls Qx Ax Sx hret hW hl
  have hx := Sx.1
  have hb := Sx.2.1
  have hl : lv_has ls 6 [(0, .ref (a 0)), (1, .int hu), (2, .int la)] := hl
  refine lv_iload_n hx hb dX1_limpingIf_0 rfl (lv_at hl 2 rfl) ?_
  refine lv_iconst (v := (1 : Int32)) hx hb dX1_limpingIf_1 rfl ?_
  refine lv_iand hx hb dX1_limpingIf_2 ?_
  refine lv_if_ne (tgt := 8) hx hb dX1_limpingIf_3 rfl (fun c_3 => ?_) (fun c_3 => ?_)
  · refine lv_iconst (v := (0 : Int32)) hx hb dX1_limpingIf_8 rfl ?_
    refine lv_istore_n (lv' := [(3, .int (0 : Int32)), (0, .ref (a 0)), (1, .int hu), (2, .int la)]) hx hb dX1_limpingIf_9 rfl hl (by decide) rfl (fun ls hl => ?_)
    refine lv_iconst (v := (0 : Int32)) hx hb dX1_limpingIf_10 rfl ?_
    refine lv_istore (lv' := [(4, .int (0 : Int32)), (3, .int (0 : Int32)), (0, .ref (a 0)), (1, .int hu), (2, .int la)]) hx hb dX1_limpingIf_11 hl (by decide) rfl (fun ls hl => ?_)
    have lp_13 : ∀ (n : Nat) (j : Nat), ((j ≤ C)) → ((C + 1 ≤ j + n)) → ∀ (H : Heap) (locs : List Loc) (ls : Array Slot), AtC D (tyG cI cZ cN) Ax (pLand cI a L V) sx H locs → lv_has ls 6 [(0, .ref (a 0)), (1, .int hu), (2, .int la), (3, .int (lmp (V 0) N hu j)), (4, .int (nI j))] → W pg l ev (rmN 1) sx mx ax bx mt cx H locs 0 0 Qx (F0 mx 13 ls []) := by
      intro n
      induction n with
      | zero =>
        intro j hj_13 hn_13 H locs ls hW hl
        exact absurd hn_13 (by omega)
      | succ n ih13 =>
        intro j hj_13 hn_13 H locs ls hW hl
        refine lv_iload hx hb dX1_limpingIf_13 (lv_at hl 4 rfl) ?_
        refine lv_aload_n hx hb dX1_limpingIf_15 rfl (lv_at hl 0 rfl) ?_
        refine r_get Sx hW 0 rfl rfl bw_wsX10 4 (by decide) (v := .int (L 3 0)) rfl mw72 dX1_limpingIf_16 ?_
        refine r_eq (y := (nI C)) hC ?_
        refine lv_icmp_ge (tgt := 48) hx hb dX1_limpingIf_19 rfl (fun c_19 => ?_) (fun c_19 => ?_)
        · have ge_19 : C ≤ j := (nI_leI (a := C) (b := j) (by omega) (by omega)).mp c_19
          have ee_19 : C = j := by omega
          subst ee_19
          refine lv_iload_n hx hb dX1_limpingIf_48 rfl (lv_at hl 3 rfl) ?_
          exact hret _ _ _ _ _ _ hW rfl rfl dX1_limpingIf_49 (⟨by simp [lmpI, c_3, c_19], rfl⟩)
        · have lt_19 : j < C := Nat.not_le.mp (fun h => c_19 ((nI_leI (a := C) (b := j) (by omega) (by omega)).mpr h))
          refine lv_aload_n hx hb dX1_limpingIf_22 rfl (lv_at hl 0 rfl) ?_
          refine lv_iload hx hb dX1_limpingIf_23 (lv_at hl 4 rfl) ?_
          refine callVI Sx hW (c_X1_bearers l D cI cZ cN a L V (nI j) N C hN hN7 hC hC4 hC1 ) vmX1_bearers mw312 [0, 1, 2, 3, 4, 5, 6, 7] rfl (by decide) 0 rfl rfl (As := [.int (nI j)]) (rest := []) rfl rfl hl.1 (Nat.le_of_ble_eq_true rfl) ⟨Nat.le_of_ble_eq_true rfl, Nat.le_of_ble_eq_true rfl⟩ ⟨Nat.le_refl _, Nat.le_refl _⟩ dX1_limpingIf_25 (fun rx wx H locs hqx hW => ?_)
          obtain ⟨hrx, rfl⟩ := hqx
          have hW : AtC D (tyG cI cZ cN) Ax (pLand cI a L V) sx H locs := hW
          refine r_eq (y := (br (V 0) ((nI j)) (N))) hrx ?_
          refine lv_istore (lv' := [(5, .int (br (V 0) ((nI j)) (N))), (0, .ref (a 0)), (1, .int hu), (2, .int la), (3, .int (lmp (V 0) N hu j)), (4, .int (nI j))]) hx hb dX1_limpingIf_28 hl (by decide) rfl (fun ls hl => ?_)
          refine lv_iload hx hb dX1_limpingIf_30 (lv_at hl 0 rfl) ?_
          refine lv_iload_n hx hb dX1_limpingIf_32 rfl (lv_at hl 2 rfl) ?_
          refine lv_iand hx hb dX1_limpingIf_33 ?_
          refine lv_if_eq (tgt := 42) hx hb dX1_limpingIf_34 rfl (fun c_34 => ?_) (fun c_34 => ?_)
          · refine lv_iinc (v := (nI (j + 1))) (lv' := [(4, .int (nI (j + 1))), (5, .int (br (V 0) ((nI j)) (N))), (0, .ref (a 0)), (1, .int hu), (2, .int la), (3, .int (lmp (V 0) N hu j))]) hx hb dX1_limpingIf_42 hl (k := 5) rfl (inc_n j 1) (by decide) rfl (fun ls hl => ?_)
            refine lv_goto (tgt := 13) hx hb dX1_limpingIf_45 rfl ?_
            have hl_1 : lv_has ls 6 [(0, .ref (a 0)), (1, .int hu), (2, .int la), (3, .int (lmp (V 0) N hu (j + 1))), (4, .int (nI (j + 1)))] := by
              rw [show (lmp (V 0) N hu (j + 1)) = (lmp (V 0) N hu j) from by simp [lmp, c_3, c_19, c_34]]
              exact lv_sub hl [2, 3, 4, 5, 0] rfl
            exact ih13 (j + 1) (by omega) (by omega) _ _ _ hW hl_1
          · refine lv_iload_n hx hb dX1_limpingIf_37 rfl (lv_at hl 4 rfl) ?_
            refine lv_iload hx hb dX1_limpingIf_38 (lv_at hl 0 rfl) ?_
            refine lv_ior hx hb dX1_limpingIf_40 ?_
            refine lv_istore_n (lv' := [(3, .int ((lmp (V 0) N hu j) ||| (br (V 0) ((nI j)) (N)))), (5, .int (br (V 0) ((nI j)) (N))), (0, .ref (a 0)), (1, .int hu), (2, .int la), (4, .int (nI j))]) hx hb dX1_limpingIf_41 rfl hl (by decide) rfl (fun ls hl => ?_)
            refine lv_iinc (v := (nI (j + 1))) (lv' := [(4, .int (nI (j + 1))), (3, .int ((lmp (V 0) N hu j) ||| (br (V 0) ((nI j)) (N)))), (5, .int (br (V 0) ((nI j)) (N))), (0, .ref (a 0)), (1, .int hu), (2, .int la)]) hx hb dX1_limpingIf_42 hl (k := 5) rfl (inc_n j 1) (by decide) rfl (fun ls hl => ?_)
            refine lv_goto (tgt := 13) hx hb dX1_limpingIf_45 rfl ?_
            have hl_2 : lv_has ls 6 [(0, .ref (a 0)), (1, .int hu), (2, .int la), (3, .int (lmp (V 0) N hu (j + 1))), (4, .int (nI (j + 1)))] := by
              rw [show (lmp (V 0) N hu (j + 1)) = ((lmp (V 0) N hu j) ||| (br (V 0) ((nI j)) (N))) from by simp [lmp, c_3, c_19, c_34]]
              exact lv_sub hl [3, 4, 5, 1, 0] rfl
            exact ih13 (j + 1) (by omega) (by omega) _ _ _ hW hl_2
    exact lp_13 (C + 1) 0 (by omega) (by omega) _ _ _ hW (lv_sub hl [2, 3, 4, 1, 0] rfl)
  · refine lv_iload_n hx hb dX1_limpingIf_6 rfl (lv_at hl 1 rfl) ?_
    exact hret _ _ _ _ _ _ hW rfl rfl dX1_limpingIf_7 (⟨by simp [lmpI, c_3], rfl⟩)

set_option maxHeartbeats 4000000 in
set_option maxRecDepth 100000 in
theorem c_X1_limping (l : Launch) (D : va_G) (cI cZ cN : ClassId) (a : Nat → Nat) (L V : NV) (N C : Nat) (hN : L 3 1 = nI N) (hN7 : N ≤ 7) (hC : L 3 0 = nI C) (hC4 : C ≤ 4) (hC1 : 1 ≤ C) : CtI l yX1_limping cX1_limping 1 (some .int) 2 D (tyG cI cZ cN) [.ref (a 0)] (pLand cI a L V) (fun r w => r = lmpI (V 0) N C (V 3 0) (V 3 1) ∧ w = (pLand cI a L V)) := by
  refine CtI.of rfl (Nat.le_of_ble_eq_true rfl) ?_
  intro pg ev sx mx ax bx mt cx ls Qx Ax Sx hret hW hl
  have hx := Sx.1
  have hb := Sx.2.1
  have hl : lv_has ls 1 [(0, .ref (a 0))] := hl
  refine lv_aload_n hx hb dX1_limping_0 rfl (lv_at hl 0 rfl) ?_
  refine lv_aload_n hx hb dX1_limping_1 rfl (lv_at hl 0 rfl) ?_
  refine r_get Sx hW 0 rfl rfl bw_wsX10 3 (by decide) (v := .ref (a 4)) rfl mw71 dX1_limping_2 ?_
  refine r_get Sx hW 4 rfl rfl bw_wsX20 3 (by decide) (v := .int (V 3 0)) rfl mw172 dX1_limping_5 ?_
  refine lv_aload_n hx hb dX1_limping_8 rfl (lv_at hl 0 rfl) ?_
  refine r_get Sx hW 0 rfl rfl bw_wsX10 3 (by decide) (v := .ref (a 4)) rfl mw71 dX1_limping_9 ?_
  refine r_get Sx hW 4 rfl rfl bw_wsX20 4 (by decide) (v := .int (V 3 1)) rfl mw173 dX1_limping_12 ?_
  refine callVI Sx hW (c_X1_limpingIf l D cI cZ cN a L V (V 3 0) (V 3 1) N C hN hN7 hC hC4 hC1 ) vmX1_limpingIf mw308 [0, 1, 2, 3, 4, 5, 6, 7] rfl (by decide) 0 rfl rfl (As := [.int (V 3 0), .int (V 3 1)]) (rest := []) rfl rfl hl.1 (Nat.le_of_ble_eq_true rfl) ⟨Nat.le_of_ble_eq_true rfl, Nat.le_of_ble_eq_true rfl⟩ ⟨Nat.le_refl _, Nat.le_refl _⟩ dX1_limping_15 (fun rx wx H locs hqx hW => ?_)
  obtain ⟨hrx, rfl⟩ := hqx
  have hW : AtC D (tyG cI cZ cN) Ax (pLand cI a L V) sx H locs := hW
  refine r_eq (y := (lmpI (V 0) (N) (C) ((V 3 0)) ((V 3 1)))) hrx ?_
  exact hret _ _ _ _ _ _ hW rfl rfl dX1_limping_18 (⟨rfl, rfl⟩)

set_option maxHeartbeats 4000000 in
set_option maxRecDepth 100000 in
theorem c_X1_fame (l : Launch) (D : va_G) (cI cZ cN : ClassId) (a : Nat → Nat) (L V : NV) (P : Nat) (N C : Nat) (hN : L 3 1 = nI N) (hN7 : N ≤ 7) (hC : L 3 0 = nI C) (hC4 : C ≤ 4) (hC1 : 1 ≤ C) (hP : P < N) : CtI l yX1_fame cX1_fame 4 (some .int) 0 D (tyG cI cZ cN) [.ref (a 0), .int (nI P)] (pLand cI a L V) (fun r w => r = fmI (V 0) (V 2) N (V 3 1) P ∧ w = (pLand cI a L V)) := by
  refine CtI.of rfl (Nat.le_of_ble_eq_true rfl) ?_
  intro pg ev sx mx ax bx mt cx ls Qx Ax Sx hret hW hl
  have hx := Sx.1
  have hb := Sx.2.1
  have hl : lv_has ls 4 [(0, .ref (a 0)), (1, .int (nI P))] := hl
  refine lv_aload_n hx hb dX1_fame_0 rfl (lv_at hl 0 rfl) ?_
  refine r_get Sx hW 0 rfl rfl bw_wsX10 3 (by decide) (v := .ref (a 4)) rfl mw71 dX1_fame_1 ?_
  refine r_get Sx hW 4 rfl rfl bw_wsX20 4 (by decide) (v := .int (V 3 1)) rfl mw173 dX1_fame_4 ?_
  refine lv_bipush (v := (8 : Int32)) hx hb dX1_fame_7 rfl ?_
  refine lv_iand hx hb dX1_fame_9 ?_
  refine lv_if_ne (tgt := 23) hx hb dX1_fame_10 rfl (fun c_10 => ?_) (fun c_10 => ?_)
  · refine lv_iconst (v := (0 : Int32)) hx hb dX1_fame_23 rfl ?_
    refine lv_istore_n (lv' := [(2, .int (0 : Int32)), (0, .ref (a 0)), (1, .int (nI P))]) hx hb dX1_fame_24 rfl hl (by decide) rfl (fun ls hl => ?_)
    refine lv_iconst (v := (0 : Int32)) hx hb dX1_fame_25 rfl ?_
    refine lv_istore_n (lv' := [(3, .int (0 : Int32)), (2, .int (0 : Int32)), (0, .ref (a 0)), (1, .int (nI P))]) hx hb dX1_fame_26 rfl hl (by decide) rfl (fun ls hl => ?_)
    have lp_27 : ∀ (n : Nat) (i : Nat), ((i ≤ N)) → ((N + 1 ≤ i + n)) → ∀ (H : Heap) (locs : List Loc) (ls : Array Slot), AtC D (tyG cI cZ cN) Ax (pLand cI a L V) sx H locs → lv_has ls 4 [(0, .ref (a 0)), (1, .int (nI P)), (2, .int (fm (V 0) (V 2) (V 0 P) i)), (3, .int (nI i))] → W pg l ev (rmN 0) sx mx ax bx mt cx H locs 0 0 Qx (F0 mx 27 ls []) := by
      intro n
      induction n with
      | zero =>
        intro i hi_27 hn_27 H locs ls hW hl
        exact absurd hn_27 (by omega)
      | succ n ih27 =>
        intro i hi_27 hn_27 H locs ls hW hl
        refine lv_iload_n hx hb dX1_fame_27 rfl (lv_at hl 3 rfl) ?_
        refine lv_aload_n hx hb dX1_fame_28 rfl (lv_at hl 0 rfl) ?_
        refine r_get Sx hW 0 rfl rfl bw_wsX10 5 (by decide) (v := .int (L 3 1)) rfl mw73 dX1_fame_29 ?_
        refine r_eq (y := (nI N)) hN ?_
        refine lv_icmp_ge (tgt := 74) hx hb dX1_fame_32 rfl (fun c_32 => ?_) (fun c_32 => ?_)
        · have ge_32 : N ≤ i := (nI_leI (a := N) (b := i) (by omega) (by omega)).mp c_32
          have ee_32 : N = i := by omega
          subst ee_32
          refine lv_iload_n hx hb dX1_fame_74 rfl (lv_at hl 2 rfl) ?_
          exact hret _ _ _ _ _ _ hW rfl rfl dX1_fame_75 (⟨by simp [fmI, c_10, c_32], rfl⟩)
        · have lt_32 : i < N := Nat.not_le.mp (fun h => c_32 ((nI_leI (a := N) (b := i) (by omega) (by omega)).mpr h))
          refine lv_aload_n hx hb dX1_fame_35 rfl (lv_at hl 0 rfl) ?_
          refine r_get Sx hW 0 rfl rfl bw_wsX10 3 (by decide) (v := .ref (a 4)) rfl mw71 dX1_fame_36 ?_
          refine r_get Sx hW 4 rfl rfl bw_wsX20 0 (by decide) (v := .ref (a 5)) rfl mw215 dX1_fame_39 ?_
          refine lv_iload_n hx hb dX1_fame_42 rfl (lv_at hl 3 rfl) ?_
          refine r_iald Sx hW 5 0 rfl rfl (j := i) rfl (by omega) (by decide) dX1_fame_43 ?_
          refine lv_aload_n hx hb dX1_fame_44 rfl (lv_at hl 0 rfl) ?_
          refine r_get Sx hW 0 rfl rfl bw_wsX10 3 (by decide) (v := .ref (a 4)) rfl mw71 dX1_fame_45 ?_
          refine r_get Sx hW 4 rfl rfl bw_wsX20 0 (by decide) (v := .ref (a 5)) rfl mw215 dX1_fame_48 ?_
          refine lv_iload_n hx hb dX1_fame_51 rfl (lv_at hl 1 rfl) ?_
          refine r_iald Sx hW 5 0 rfl rfl (j := P) rfl (by omega) (by decide) dX1_fame_52 ?_
          refine lv_icmp_ne (tgt := 68) hx hb dX1_fame_53 rfl (fun c_53 => ?_) (fun c_53 => ?_)
          · refine lv_iinc (v := (nI (i + 1))) (lv' := [(3, .int (nI (i + 1))), (0, .ref (a 0)), (1, .int (nI P)), (2, .int (fm (V 0) (V 2) (V 0 P) i))]) hx hb dX1_fame_68 hl (k := 3) rfl (inc_n i 1) (by decide) rfl (fun ls hl => ?_)
            refine lv_goto (tgt := 27) hx hb dX1_fame_71 rfl ?_
            have hl_1 : lv_has ls 4 [(0, .ref (a 0)), (1, .int (nI P)), (2, .int (fm (V 0) (V 2) (V 0 P) (i + 1))), (3, .int (nI (i + 1)))] := by
              rw [show (fm (V 0) (V 2) (V 0 P) (i + 1)) = (fm (V 0) (V 2) (V 0 P) i) from by simp [fm, c_10, c_32, c_53]]
              exact lv_sub hl [1, 2, 3, 0] rfl
            exact ih27 (i + 1) (by omega) (by omega) _ _ _ hW hl_1
          · refine lv_iload_n hx hb dX1_fame_56 rfl (lv_at hl 2 rfl) ?_
            refine lv_aload_n hx hb dX1_fame_57 rfl (lv_at hl 0 rfl) ?_
            refine r_get Sx hW 0 rfl rfl bw_wsX10 3 (by decide) (v := .ref (a 4)) rfl mw71 dX1_fame_58 ?_
            refine r_get Sx hW 4 rfl rfl bw_wsX20 2 (by decide) (v := .ref (a 7)) rfl mw217 dX1_fame_61 ?_
            refine lv_iload_n hx hb dX1_fame_64 rfl (lv_at hl 3 rfl) ?_
            refine r_iald Sx hW 7 0 rfl rfl (j := i) rfl (by omega) (by decide) dX1_fame_65 ?_
            refine lv_iadd hx hb dX1_fame_66 ?_
            refine lv_istore_n (lv' := [(2, .int ((fm (V 0) (V 2) (V 0 P) i) + ((V 2) i))), (0, .ref (a 0)), (1, .int (nI P)), (3, .int (nI i))]) hx hb dX1_fame_67 rfl hl (by decide) rfl (fun ls hl => ?_)
            refine lv_iinc (v := (nI (i + 1))) (lv' := [(3, .int (nI (i + 1))), (2, .int ((fm (V 0) (V 2) (V 0 P) i) + ((V 2) i))), (0, .ref (a 0)), (1, .int (nI P))]) hx hb dX1_fame_68 hl (k := 3) rfl (inc_n i 1) (by decide) rfl (fun ls hl => ?_)
            refine lv_goto (tgt := 27) hx hb dX1_fame_71 rfl ?_
            have hl_2 : lv_has ls 4 [(0, .ref (a 0)), (1, .int (nI P)), (2, .int (fm (V 0) (V 2) (V 0 P) (i + 1))), (3, .int (nI (i + 1)))] := by
              rw [show (fm (V 0) (V 2) (V 0 P) (i + 1)) = ((fm (V 0) (V 2) (V 0 P) i) + ((V 2) i)) from by simp [fm, c_10, c_32, c_53]]
              exact lv_sub hl [2, 3, 1, 0] rfl
            exact ih27 (i + 1) (by omega) (by omega) _ _ _ hW hl_2
    exact lp_27 (N + 1) 0 (by omega) (by omega) _ _ _ hW (lv_sub hl [2, 3, 1, 0] rfl)
  · refine lv_aload_n hx hb dX1_fame_13 rfl (lv_at hl 0 rfl) ?_
    refine r_get Sx hW 0 rfl rfl bw_wsX10 3 (by decide) (v := .ref (a 4)) rfl mw71 dX1_fame_14 ?_
    refine r_get Sx hW 4 rfl rfl bw_wsX20 2 (by decide) (v := .ref (a 7)) rfl mw217 dX1_fame_17 ?_
    refine lv_iload_n hx hb dX1_fame_20 rfl (lv_at hl 1 rfl) ?_
    refine r_iald Sx hW 7 0 rfl rfl (j := P) rfl (by omega) (by decide) dX1_fame_21 ?_
    exact hret _ _ _ _ _ _ hW rfl rfl dX1_fame_22 (⟨by simp [fmI, c_10], rfl⟩)

set_option maxHeartbeats 4000000 in
set_option maxRecDepth 100000 in
theorem c_X1_taxIfNamed (l : Launch) (D : va_G) (cI cZ cN : ClassId) (a : Nat → Nat) (L V : NV) (P : Nat) (k : Int32) (N C : Nat) (hN : L 3 1 = nI N) (hN7 : N ≤ 7) (hC : L 3 0 = nI C) (hC4 : C ≤ 4) (hC1 : 1 ≤ C) (hP : P < N) : CtI l yX1_taxIfNamed cX1_taxIfNamed 5 (some .int) 2 D (tyG cI cZ cN) [.ref (a 0), .int (nI P), .int k] (pLand cI a L V) (fun r w => r = txI (V 0) (V 1) N (V 3 1) P k ∧ w = (pLand cI a L V)) := by
  refine CtI.of rfl (Nat.le_of_ble_eq_true rfl) ?_
  intro pg ev sx mx ax bx mt cx ls Qx Ax Sx hret hW hl
  have hx := Sx.1
  have hb := Sx.2.1
  have hl : lv_has ls 5 [(0, .ref (a 0)), (1, .int (nI P)), (2, .int k)] := hl
  refine lv_aload_n hx hb dX1_taxIfNamed_0 rfl (lv_at hl 0 rfl) ?_
  refine r_get Sx hW 0 rfl rfl bw_wsX10 3 (by decide) (v := .ref (a 4)) rfl mw71 dX1_taxIfNamed_1 ?_
  refine r_get Sx hW 4 rfl rfl bw_wsX20 4 (by decide) (v := .int (V 3 1)) rfl mw173 dX1_taxIfNamed_4 ?_
  refine lv_iconst (v := (4 : Int32)) hx hb dX1_taxIfNamed_7 rfl ?_
  refine lv_iand hx hb dX1_taxIfNamed_8 ?_
  refine lv_if_ne (tgt := 25) hx hb dX1_taxIfNamed_9 rfl (fun c_9 => ?_) (fun c_9 => ?_)
  · refine lv_aload_n hx hb dX1_taxIfNamed_25 rfl (lv_at hl 0 rfl) ?_
    refine lv_iload_n hx hb dX1_taxIfNamed_26 rfl (lv_at hl 2 rfl) ?_
    refine callVI Sx hW (c_X1_bearers l D cI cZ cN a L V k N C hN hN7 hC hC4 hC1 ) vmX1_bearers mw312 [0, 1, 2, 3, 4, 5, 6, 7] rfl (by decide) 0 rfl rfl (As := [.int k]) (rest := []) rfl rfl hl.1 (Nat.le_of_ble_eq_true rfl) ⟨Nat.le_of_ble_eq_true rfl, Nat.le_of_ble_eq_true rfl⟩ ⟨Nat.le_refl _, Nat.le_refl _⟩ dX1_taxIfNamed_27 (fun rx wx H locs hqx hW => ?_)
    obtain ⟨hrx, rfl⟩ := hqx
    have hW : AtC D (tyG cI cZ cN) Ax (pLand cI a L V) sx H locs := hW
    refine r_eq (y := (br (V 0) (k) (N))) hrx ?_
    refine lv_iconst (v := (1 : Int32)) hx hb dX1_taxIfNamed_30 rfl ?_
    refine lv_iload_n hx hb dX1_taxIfNamed_31 rfl (lv_at hl 1 rfl) ?_
    refine lv_ishl hx hb dX1_taxIfNamed_32 ?_
    refine lv_ior hx hb dX1_taxIfNamed_33 ?_
    refine lv_istore_n (lv' := [(3, .int ((br (V 0) (k) (N)) ||| ((1 : Int32) <<< ((nI P) &&& 31)))), (0, .ref (a 0)), (1, .int (nI P)), (2, .int k)]) hx hb dX1_taxIfNamed_34 rfl hl (by decide) rfl (fun ls hl => ?_)
    refine lv_iconst (v := (1 : Int32)) hx hb dX1_taxIfNamed_35 rfl ?_
    refine lv_iload_n hx hb dX1_taxIfNamed_36 rfl (lv_at hl 0 rfl) ?_
    refine callSI Sx hW (c_J6_bitCount l D cI cZ cN ((br (V 0) (k) (N)) ||| ((1 : Int32) <<< ((nI P) &&& 31)))) smJ6_bitCount_0f7a4 mw332 (As := [.int ((br (V 0) (k) (N)) ||| ((1 : Int32) <<< ((nI P) &&& 31)))]) (rest := [.int (1 : Int32)]) rfl rfl hl.1 (Nat.le_of_ble_eq_true rfl) ⟨Nat.le_of_ble_eq_true rfl, Nat.le_of_ble_eq_true rfl⟩ ⟨Nat.le_refl _, Nat.le_refl _⟩ dX1_taxIfNamed_37 (fun rx H locs hqx hW => ?_)
    obtain ⟨hrx, -⟩ := hqx
    refine r_eq (y := (bcI ((br (V 0) (k) (N)) ||| ((1 : Int32) <<< ((nI P) &&& 31))))) hrx ?_
    refine r_max Sx mw328 mw329 mw330 mw331 hl.1 (by decide) (Nat.le_of_ble_eq_true rfl) ⟨by decide, by decide⟩ dX1_taxIfNamed_40 ?_
    refine lv_istore (lv' := [(4, .int (if (1 : Int32) < (bcI ((br (V 0) (k) (N)) ||| ((1 : Int32) <<< ((nI P) &&& 31)))) then (bcI ((br (V 0) (k) (N)) ||| ((1 : Int32) <<< ((nI P) &&& 31)))) else (1 : Int32))), (3, .int ((br (V 0) (k) (N)) ||| ((1 : Int32) <<< ((nI P) &&& 31)))), (0, .ref (a 0)), (1, .int (nI P)), (2, .int k)]) hx hb dX1_taxIfNamed_43 hl (by decide) rfl (fun ls hl => ?_)
    refine lv_aload_n hx hb dX1_taxIfNamed_45 rfl (lv_at hl 2 rfl) ?_
    refine lv_iload_n hx hb dX1_taxIfNamed_46 rfl (lv_at hl 1 rfl) ?_
    refine callVI Sx hW (c_X1_wealthOf l D cI cZ cN a L V ((br (V 0) (k) (N)) ||| ((1 : Int32) <<< ((nI P) &&& 31))) N C hN hN7 hC hC4 hC1 ) vmX1_wealthOf mw339 [0, 1, 2, 3, 4, 5, 6, 7] rfl (by decide) 0 rfl rfl (As := [.int ((br (V 0) (k) (N)) ||| ((1 : Int32) <<< ((nI P) &&& 31)))]) (rest := []) rfl rfl hl.1 (Nat.le_of_ble_eq_true rfl) ⟨Nat.le_of_ble_eq_true rfl, Nat.le_of_ble_eq_true rfl⟩ ⟨Nat.le_refl _, Nat.le_refl _⟩ dX1_taxIfNamed_47 (fun rx wx H locs hqx hW => ?_)
    obtain ⟨hrx, rfl⟩ := hqx
    have hW : AtC D (tyG cI cZ cN) Ax (pLand cI a L V) sx H locs := hW
    refine r_eq (y := (wo (((br (V 0) (k) (N)) ||| ((1 : Int32) <<< ((nI P) &&& 31)))) (V 1) (N))) hrx ?_
    refine lv_iload hx hb dX1_taxIfNamed_50 (lv_at hl 0 rfl) ?_
    refine lv_idiv hx hb dX1_taxIfNamed_52 (mx1_ne _) ?_
    refine lv_bipush (v := (10 : Int32)) hx hb dX1_taxIfNamed_53 rfl ?_
    refine lv_idiv hx hb dX1_taxIfNamed_55 (by decide) ?_
    exact hret _ _ _ _ _ _ hW rfl rfl dX1_taxIfNamed_56 (⟨by simp [txI, txB, mx1, c_9], rfl⟩)
  · refine lv_aload_n hx hb dX1_taxIfNamed_12 rfl (lv_at hl 0 rfl) ?_
    refine r_get Sx hW 0 rfl rfl bw_wsX10 3 (by decide) (v := .ref (a 4)) rfl mw71 dX1_taxIfNamed_13 ?_
    refine r_get Sx hW 4 rfl rfl bw_wsX20 1 (by decide) (v := .ref (a 6)) rfl mw216 dX1_taxIfNamed_16 ?_
    refine lv_iload_n hx hb dX1_taxIfNamed_19 rfl (lv_at hl 1 rfl) ?_
    refine r_iald Sx hW 6 0 rfl rfl (j := P) rfl (by omega) (by decide) dX1_taxIfNamed_20 ?_
    refine lv_bipush (v := (10 : Int32)) hx hb dX1_taxIfNamed_21 rfl ?_
    refine lv_idiv hx hb dX1_taxIfNamed_23 (by decide) ?_
    exact hret _ _ _ _ _ _ hW rfl rfl dX1_taxIfNamed_24 (⟨by simp [txI, txB, mx1, c_9], rfl⟩)

set_option maxHeartbeats 4000000 in
set_option maxRecDepth 100000 in
theorem c_X1_tax (l : Launch) (D : va_G) (cI cZ cN : ClassId) (a : Nat → Nat) (L V : NV) (P : Nat) (N C : Nat) (hN : L 3 1 = nI N) (hN7 : N ≤ 7) (hC : L 3 0 = nI C) (hC4 : C ≤ 4) (hC1 : 1 ≤ C) (hP : P < N) : CtI l yX1_tax cX1_tax 2 (some .int) 3 D (tyG cI cZ cN) [.ref (a 0), .int (nI P)] (pLand cI a L V) (fun r w => r = txI (V 0) (V 1) N (V 3 1) P (V 0 P) ∧ w = (pLand cI a L V)) := by
  refine CtI.of rfl (Nat.le_of_ble_eq_true rfl) ?_
  intro pg ev sx mx ax bx mt cx ls Qx Ax Sx hret hW hl
  have hx := Sx.1
  have hb := Sx.2.1
  have hl : lv_has ls 2 [(0, .ref (a 0)), (1, .int (nI P))] := hl
  refine lv_aload_n hx hb dX1_tax_0 rfl (lv_at hl 0 rfl) ?_
  refine lv_iload_n hx hb dX1_tax_1 rfl (lv_at hl 1 rfl) ?_
  refine lv_aload_n hx hb dX1_tax_2 rfl (lv_at hl 0 rfl) ?_
  refine r_get Sx hW 0 rfl rfl bw_wsX10 3 (by decide) (v := .ref (a 4)) rfl mw71 dX1_tax_3 ?_
  refine r_get Sx hW 4 rfl rfl bw_wsX20 0 (by decide) (v := .ref (a 5)) rfl mw215 dX1_tax_6 ?_
  refine lv_iload_n hx hb dX1_tax_9 rfl (lv_at hl 1 rfl) ?_
  refine r_iald Sx hW 5 0 rfl rfl (j := P) rfl (by omega) (by decide) dX1_tax_10 ?_
  refine callVI Sx hW (c_X1_taxIfNamed l D cI cZ cN a L V P ((V 0) P) N C hN hN7 hC hC4 hC1 (by omega)) vmX1_taxIfNamed mw324 [0, 1, 2, 3, 4, 5, 6, 7] rfl (by decide) 0 rfl rfl (As := [.int (nI P), .int ((V 0) P)]) (rest := []) rfl rfl hl.1 (Nat.le_of_ble_eq_true rfl) ⟨Nat.le_of_ble_eq_true rfl, Nat.le_of_ble_eq_true rfl⟩ ⟨Nat.le_refl _, Nat.le_refl _⟩ dX1_tax_11 (fun rx wx H locs hqx hW => ?_)
  obtain ⟨hrx, rfl⟩ := hqx
  have hW : AtC D (tyG cI cZ cN) Ax (pLand cI a L V) sx H locs := hW
  refine r_eq (y := (txI (V 0) (V 1) (N) (V 3 1) (P) (((V 0) P)))) hrx ?_
  exact hret _ _ _ _ _ _ hW rfl rfl dX1_tax_14 (⟨rfl, rfl⟩)

set_option maxHeartbeats 4000000 in
set_option maxRecDepth 100000 in
theorem c_X1_cheapestName (l : Launch) (D : va_G) (cI cZ cN : ClassId) (a : Nat → Nat) (L V : NV) (P : Nat) (N C : Nat) (hN : L 3 1 = nI N) (hN7 : N ≤ 7) (hC : L 3 0 = nI C) (hC4 : C ≤ 4) (hC1 : 1 ≤ C) (hP : P < N) : CtI l yX1_cheapestName cX1_cheapestName 4 (some .int) 3 D (tyG cI cZ cN) [.ref (a 0), .int (nI P)] (pLand cI a L V) (fun r w => r = chp (txI (V 0) (V 1) N (V 3 1) P) (C - 1) ∧ w = (pLand cI a L V)) := by
  refine CtI.of rfl (Nat.le_of_ble_eq_true rfl) ?_
  intro pg ev sx mx ax bx mt cx ls Qx Ax Sx hret hW hl
  have hx := Sx.1
  have hb := Sx.2.1
  have hl : lv_has ls 4 [(0, .ref (a 0)), (1, .int (nI P))] := hl
  refine lv_iconst (v := (0 : Int32)) hx hb dX1_cheapestName_0 rfl ?_
  refine lv_istore_n (lv' := [(2, .int (0 : Int32)), (0, .ref (a 0)), (1, .int (nI P))]) hx hb dX1_cheapestName_1 rfl hl (by decide) rfl (fun ls hl => ?_)
  refine lv_iconst (v := (1 : Int32)) hx hb dX1_cheapestName_2 rfl ?_
  refine lv_istore_n (lv' := [(3, .int (1 : Int32)), (2, .int (0 : Int32)), (0, .ref (a 0)), (1, .int (nI P))]) hx hb dX1_cheapestName_3 rfl hl (by decide) rfl (fun ls hl => ?_)
  have lp_4 : ∀ (n : Nat) (j : Nat), ((j + 1 ≤ C)) → ((C + 1 ≤ j + 1 + n)) → ∀ (H : Heap) (locs : List Loc) (ls : Array Slot), AtC D (tyG cI cZ cN) Ax (pLand cI a L V) sx H locs → lv_has ls 4 [(0, .ref (a 0)), (1, .int (nI P)), (2, .int (chp (txI (V 0) (V 1) N (V 3 1) P) j)), (3, .int (nI (j + 1)))] → W pg l ev (rmN 3) sx mx ax bx mt cx H locs 0 0 Qx (F0 mx 4 ls []) := by
    intro n
    induction n with
    | zero =>
      intro j hj_4 hn_4 H locs ls hW hl
      exact absurd hn_4 (by omega)
    | succ n ih4 =>
      intro j hj_4 hn_4 H locs ls hW hl
      refine lv_iload_n hx hb dX1_cheapestName_4 rfl (lv_at hl 3 rfl) ?_
      refine lv_aload_n hx hb dX1_cheapestName_5 rfl (lv_at hl 0 rfl) ?_
      refine r_get Sx hW 0 rfl rfl bw_wsX10 4 (by decide) (v := .int (L 3 0)) rfl mw72 dX1_cheapestName_6 ?_
      refine r_eq (y := (nI C)) hC ?_
      refine lv_icmp_ge (tgt := 35) hx hb dX1_cheapestName_9 rfl (fun c_9 => ?_) (fun c_9 => ?_)
      · have ge_9 : C ≤ j + 1 := (nI_leI (a := C) (b := j + 1) (by omega) (by omega)).mp c_9
        have ee_9 : C - 1 = j := by omega
        subst ee_9
        refine lv_iload_n hx hb dX1_cheapestName_35 rfl (lv_at hl 2 rfl) ?_
        exact hret _ _ _ _ _ _ hW rfl rfl dX1_cheapestName_36 (⟨rfl, rfl⟩)
      · have lt_9 : j + 1 < C := Nat.not_le.mp (fun h => c_9 ((nI_leI (a := C) (b := j + 1) (by omega) (by omega)).mpr h))
        refine lv_aload_n hx hb dX1_cheapestName_12 rfl (lv_at hl 0 rfl) ?_
        refine lv_iload_n hx hb dX1_cheapestName_13 rfl (lv_at hl 1 rfl) ?_
        refine lv_iload_n hx hb dX1_cheapestName_14 rfl (lv_at hl 3 rfl) ?_
        refine callVI Sx hW (c_X1_taxIfNamed l D cI cZ cN a L V P (nI (j + 1)) N C hN hN7 hC hC4 hC1 (by omega)) vmX1_taxIfNamed mw324 [0, 1, 2, 3, 4, 5, 6, 7] rfl (by decide) 0 rfl rfl (As := [.int (nI P), .int (nI (j + 1))]) (rest := []) rfl rfl hl.1 (Nat.le_of_ble_eq_true rfl) ⟨Nat.le_of_ble_eq_true rfl, Nat.le_of_ble_eq_true rfl⟩ ⟨Nat.le_refl _, Nat.le_refl _⟩ dX1_cheapestName_15 (fun rx wx H locs hqx hW => ?_)
        obtain ⟨hrx, rfl⟩ := hqx
        have hW : AtC D (tyG cI cZ cN) Ax (pLand cI a L V) sx H locs := hW
        refine r_eq (y := (txI (V 0) (V 1) (N) (V 3 1) (P) ((nI (j + 1))))) hrx ?_
        refine lv_aload_n hx hb dX1_cheapestName_18 rfl (lv_at hl 0 rfl) ?_
        refine lv_iload_n hx hb dX1_cheapestName_19 rfl (lv_at hl 1 rfl) ?_
        refine lv_iload_n hx hb dX1_cheapestName_20 rfl (lv_at hl 2 rfl) ?_
        refine callVI Sx hW (c_X1_taxIfNamed l D cI cZ cN a L V P (chp (txI (V 0) (V 1) N (V 3 1) P) j) N C hN hN7 hC hC4 hC1 (by omega)) vmX1_taxIfNamed mw324 [0, 1, 2, 3, 4, 5, 6, 7] rfl (by decide) 0 rfl rfl (As := [.int (nI P), .int (chp (txI (V 0) (V 1) N (V 3 1) P) j)]) (rest := [.int (txI (V 0) (V 1) (N) (V 3 1) (P) ((nI (j + 1))))]) rfl rfl hl.1 (Nat.le_of_ble_eq_true rfl) ⟨Nat.le_of_ble_eq_true rfl, Nat.le_of_ble_eq_true rfl⟩ ⟨Nat.le_refl _, Nat.le_refl _⟩ dX1_cheapestName_21 (fun rx wx H locs hqx hW => ?_)
        obtain ⟨hrx, rfl⟩ := hqx
        have hW : AtC D (tyG cI cZ cN) Ax (pLand cI a L V) sx H locs := hW
        refine r_eq (y := (txI (V 0) (V 1) (N) (V 3 1) (P) ((chp (txI (V 0) (V 1) N (V 3 1) P) j)))) hrx ?_
        refine lv_icmp_ge (tgt := 29) hx hb dX1_cheapestName_24 rfl (fun c_24 => ?_) (fun c_24 => ?_)
        · refine lv_iinc (v := (nI ((j + 1) + 1))) (lv' := [(3, .int (nI ((j + 1) + 1))), (0, .ref (a 0)), (1, .int (nI P)), (2, .int (chp (txI (V 0) (V 1) N (V 3 1) P) j))]) hx hb dX1_cheapestName_29 hl (k := 3) rfl (inc_n (j + 1) 1) (by decide) rfl (fun ls hl => ?_)
          refine lv_goto (tgt := 4) hx hb dX1_cheapestName_32 rfl ?_
          have hl_1 : lv_has ls 4 [(0, .ref (a 0)), (1, .int (nI P)), (2, .int (chp (txI (V 0) (V 1) N (V 3 1) P) (j + 1))), (3, .int (nI ((j + 1) + 1)))] := by
            rw [show (chp (txI (V 0) (V 1) N (V 3 1) P) (j + 1)) = (chp (txI (V 0) (V 1) N (V 3 1) P) j) from by simp [chp, fa_nlt, c_9, c_24]]
            exact lv_sub hl [1, 2, 3, 0] rfl
          exact ih4 (j + 1) (by omega) (by omega) _ _ _ hW hl_1
        · refine lv_iload_n hx hb dX1_cheapestName_27 rfl (lv_at hl 3 rfl) ?_
          refine lv_istore_n (lv' := [(2, .int (nI (j + 1))), (0, .ref (a 0)), (1, .int (nI P)), (3, .int (nI (j + 1)))]) hx hb dX1_cheapestName_28 rfl hl (by decide) rfl (fun ls hl => ?_)
          refine lv_iinc (v := (nI ((j + 1) + 1))) (lv' := [(3, .int (nI ((j + 1) + 1))), (2, .int (nI (j + 1))), (0, .ref (a 0)), (1, .int (nI P))]) hx hb dX1_cheapestName_29 hl (k := 3) rfl (inc_n (j + 1) 1) (by decide) rfl (fun ls hl => ?_)
          refine lv_goto (tgt := 4) hx hb dX1_cheapestName_32 rfl ?_
          have hl_2 : lv_has ls 4 [(0, .ref (a 0)), (1, .int (nI P)), (2, .int (chp (txI (V 0) (V 1) N (V 3 1) P) (j + 1))), (3, .int (nI ((j + 1) + 1)))] := by
            rw [show (chp (txI (V 0) (V 1) N (V 3 1) P) (j + 1)) = (nI (j + 1)) from by simp [chp, fa_nlt, c_9, c_24]]
            exact lv_sub hl [2, 3, 1, 0] rfl
          exact ih4 (j + 1) (by omega) (by omega) _ _ _ hW hl_2
  exact lp_4 (C + 1) 0 (by omega) (by omega) _ _ _ hW (lv_sub hl [2, 3, 1, 0] rfl)

set_option maxHeartbeats 4000000 in
set_option maxRecDepth 100000 in
theorem c_X1_restless (l : Launch) (D : va_G) (cI cZ cN : ClassId) (a : Nat → Nat) (L V : NV) (N C : Nat) (hN : L 3 1 = nI N) (hN7 : N ≤ 7) (hC : L 3 0 = nI C) (hC4 : C ≤ 4) (hC1 : 1 ≤ C) : CtI l yX1_restless cX1_restless 3 (some .int) 4 D (tyG cI cZ cN) [.ref (a 0)] (pLand cI a L V) (fun r w => r = rsl (txI (V 0) (V 1) N (V 3 1)) (V 0) C N ∧ w = (pLand cI a L V)) := by
  refine CtI.of rfl (Nat.le_of_ble_eq_true rfl) ?_
  intro pg ev sx mx ax bx mt cx ls Qx Ax Sx hret hW hl
  have hx := Sx.1
  have hb := Sx.2.1
  have hl : lv_has ls 3 [(0, .ref (a 0))] := hl
  refine lv_iconst (v := (0 : Int32)) hx hb dX1_restless_0 rfl ?_
  refine lv_istore_n (lv' := [(1, .int (0 : Int32)), (0, .ref (a 0))]) hx hb dX1_restless_1 rfl hl (by decide) rfl (fun ls hl => ?_)
  refine lv_iconst (v := (0 : Int32)) hx hb dX1_restless_2 rfl ?_
  refine lv_istore_n (lv' := [(2, .int (0 : Int32)), (1, .int (0 : Int32)), (0, .ref (a 0))]) hx hb dX1_restless_3 rfl hl (by decide) rfl (fun ls hl => ?_)
  have lp_4 : ∀ (n : Nat) (i : Nat), ((i ≤ N)) → ((N + 1 ≤ i + n)) → ∀ (H : Heap) (locs : List Loc) (ls : Array Slot), AtC D (tyG cI cZ cN) Ax (pLand cI a L V) sx H locs → lv_has ls 3 [(0, .ref (a 0)), (1, .int (rsl (txI (V 0) (V 1) N (V 3 1)) (V 0) C i)), (2, .int (nI i))] → W pg l ev (rmN 4) sx mx ax bx mt cx H locs 0 0 Qx (F0 mx 4 ls []) := by
    intro n
    induction n with
    | zero =>
      intro i hi_4 hn_4 H locs ls hW hl
      exact absurd hn_4 (by omega)
    | succ n ih4 =>
      intro i hi_4 hn_4 H locs ls hW hl
      refine lv_iload_n hx hb dX1_restless_4 rfl (lv_at hl 2 rfl) ?_
      refine lv_aload_n hx hb dX1_restless_5 rfl (lv_at hl 0 rfl) ?_
      refine r_get Sx hW 0 rfl rfl bw_wsX10 5 (by decide) (v := .int (L 3 1)) rfl mw73 dX1_restless_6 ?_
      refine r_eq (y := (nI N)) hN ?_
      refine lv_icmp_ge (tgt := 42) hx hb dX1_restless_9 rfl (fun c_9 => ?_) (fun c_9 => ?_)
      · have ge_9 : N ≤ i := (nI_leI (a := N) (b := i) (by omega) (by omega)).mp c_9
        have ee_9 : N = i := by omega
        subst ee_9
        refine lv_iload_n hx hb dX1_restless_42 rfl (lv_at hl 1 rfl) ?_
        exact hret _ _ _ _ _ _ hW rfl rfl dX1_restless_43 (⟨rfl, rfl⟩)
      · have lt_9 : i < N := Nat.not_le.mp (fun h => c_9 ((nI_leI (a := N) (b := i) (by omega) (by omega)).mpr h))
        refine lv_aload_n hx hb dX1_restless_12 rfl (lv_at hl 0 rfl) ?_
        refine lv_iload_n hx hb dX1_restless_13 rfl (lv_at hl 2 rfl) ?_
        refine lv_aload_n hx hb dX1_restless_14 rfl (lv_at hl 0 rfl) ?_
        refine lv_iload_n hx hb dX1_restless_15 rfl (lv_at hl 2 rfl) ?_
        refine callVI Sx hW (c_X1_cheapestName l D cI cZ cN a L V i N C hN hN7 hC hC4 hC1 (by omega)) vmX1_cheapestName mw496 [0, 1, 2, 3, 4, 5, 6, 7] rfl (by decide) 0 rfl rfl (As := [.int (nI i)]) (rest := [.int (nI i), .ref (a 0)]) rfl rfl hl.1 (Nat.le_of_ble_eq_true rfl) ⟨Nat.le_of_ble_eq_true rfl, Nat.le_of_ble_eq_true rfl⟩ ⟨Nat.le_refl _, Nat.le_refl _⟩ dX1_restless_16 (fun rx wx H locs hqx hW => ?_)
        obtain ⟨hrx, rfl⟩ := hqx
        have hW : AtC D (tyG cI cZ cN) Ax (pLand cI a L V) sx H locs := hW
        refine r_eq (y := (chp (txI (V 0) (V 1) (N) (V 3 1) (i)) ((C) - 1))) hrx ?_
        refine callVI Sx hW (c_X1_taxIfNamed l D cI cZ cN a L V i (chp (txI (V 0) (V 1) (N) (V 3 1) (i)) ((C) - 1)) N C hN hN7 hC hC4 hC1 (by omega)) vmX1_taxIfNamed mw324 [0, 1, 2, 3, 4, 5, 6, 7] rfl (by decide) 0 rfl rfl (As := [.int (nI i), .int (chp (txI (V 0) (V 1) (N) (V 3 1) (i)) ((C) - 1))]) (rest := []) rfl rfl hl.1 (Nat.le_of_ble_eq_true rfl) ⟨Nat.le_of_ble_eq_true rfl, Nat.le_of_ble_eq_true rfl⟩ ⟨Nat.le_refl _, Nat.le_refl _⟩ dX1_restless_19 (fun rx wx H locs hqx hW => ?_)
        obtain ⟨hrx, rfl⟩ := hqx
        have hW : AtC D (tyG cI cZ cN) Ax (pLand cI a L V) sx H locs := hW
        refine r_eq (y := (txI (V 0) (V 1) (N) (V 3 1) (i) ((chp (txI (V 0) (V 1) (N) (V 3 1) (i)) ((C) - 1))))) hrx ?_
        refine lv_aload_n hx hb dX1_restless_22 rfl (lv_at hl 0 rfl) ?_
        refine lv_iload_n hx hb dX1_restless_23 rfl (lv_at hl 2 rfl) ?_
        refine callVI Sx hW (c_X1_tax l D cI cZ cN a L V i N C hN hN7 hC hC4 hC1 (by omega)) vmX1_tax mw500 [0, 1, 2, 3, 4, 5, 6, 7] rfl (by decide) 0 rfl rfl (As := [.int (nI i)]) (rest := [.int (txI (V 0) (V 1) (N) (V 3 1) (i) ((chp (txI (V 0) (V 1) (N) (V 3 1) (i)) ((C) - 1))))]) rfl rfl hl.1 (Nat.le_of_ble_eq_true rfl) ⟨Nat.le_of_ble_eq_true rfl, Nat.le_of_ble_eq_true rfl⟩ ⟨Nat.le_refl _, Nat.le_refl _⟩ dX1_restless_24 (fun rx wx H locs hqx hW => ?_)
        obtain ⟨hrx, rfl⟩ := hqx
        have hW : AtC D (tyG cI cZ cN) Ax (pLand cI a L V) sx H locs := hW
        refine r_eq (y := (txI (V 0) (V 1) (N) (V 3 1) (i) (V 0 (i)))) hrx ?_
        refine lv_icmp_ge (tgt := 36) hx hb dX1_restless_27 rfl (fun c_27 => ?_) (fun c_27 => ?_)
        · refine lv_iinc (v := (nI (i + 1))) (lv' := [(2, .int (nI (i + 1))), (0, .ref (a 0)), (1, .int (rsl (txI (V 0) (V 1) N (V 3 1)) (V 0) C i))]) hx hb dX1_restless_36 hl (k := 2) rfl (inc_n i 1) (by decide) rfl (fun ls hl => ?_)
          refine lv_goto (tgt := 4) hx hb dX1_restless_39 rfl ?_
          have hl_1 : lv_has ls 3 [(0, .ref (a 0)), (1, .int (rsl (txI (V 0) (V 1) N (V 3 1)) (V 0) C (i + 1))), (2, .int (nI (i + 1)))] := by
            rw [show (rsl (txI (V 0) (V 1) N (V 3 1)) (V 0) C (i + 1)) = (rsl (txI (V 0) (V 1) N (V 3 1)) (V 0) C i) from by simp [rsl, fa_nlt, c_9, c_27]]
            exact lv_sub hl [1, 2, 0] rfl
          exact ih4 (i + 1) (by omega) (by omega) _ _ _ hW hl_1
        · refine lv_iload_n hx hb dX1_restless_30 rfl (lv_at hl 1 rfl) ?_
          refine lv_iconst (v := (1 : Int32)) hx hb dX1_restless_31 rfl ?_
          refine lv_iload_n hx hb dX1_restless_32 rfl (lv_at hl 2 rfl) ?_
          refine lv_ishl hx hb dX1_restless_33 ?_
          refine lv_ior hx hb dX1_restless_34 ?_
          refine lv_istore_n (lv' := [(1, .int ((rsl (txI (V 0) (V 1) N (V 3 1)) (V 0) C i) ||| ((1 : Int32) <<< ((nI i) &&& 31)))), (0, .ref (a 0)), (2, .int (nI i))]) hx hb dX1_restless_35 rfl hl (by decide) rfl (fun ls hl => ?_)
          refine lv_iinc (v := (nI (i + 1))) (lv' := [(2, .int (nI (i + 1))), (1, .int ((rsl (txI (V 0) (V 1) N (V 3 1)) (V 0) C i) ||| ((1 : Int32) <<< ((nI i) &&& 31)))), (0, .ref (a 0))]) hx hb dX1_restless_36 hl (k := 2) rfl (inc_n i 1) (by decide) rfl (fun ls hl => ?_)
          refine lv_goto (tgt := 4) hx hb dX1_restless_39 rfl ?_
          have hl_2 : lv_has ls 3 [(0, .ref (a 0)), (1, .int (rsl (txI (V 0) (V 1) N (V 3 1)) (V 0) C (i + 1))), (2, .int (nI (i + 1)))] := by
            rw [show (rsl (txI (V 0) (V 1) N (V 3 1)) (V 0) C (i + 1)) = ((rsl (txI (V 0) (V 1) N (V 3 1)) (V 0) C i) ||| ((1 : Int32) <<< ((nI i) &&& 31))) from by simp [rsl, fa_nlt, c_9, c_27]]
            exact lv_sub hl [2, 1, 0] rfl
          exact ih4 (i + 1) (by omega) (by omega) _ _ _ hW hl_2
  exact lp_4 (N + 1) 0 (by omega) (by omega) _ _ _ hW (lv_sub hl [2, 1, 0] rfl)

set_option maxHeartbeats 4000000 in
set_option maxRecDepth 100000 in
theorem c_X1_alone (l : Launch) (D : va_G) (cI cZ cN : ClassId) (a : Nat → Nat) (L V : NV) (N C : Nat) (hN : L 3 1 = nI N) (hN7 : N ≤ 7) (hC : L 3 0 = nI C) (hC4 : C ≤ 4) (hC1 : 1 ≤ C) : CtI l yX1_alone cX1_alone 4 (some .int) 1 D (tyG cI cZ cN) [.ref (a 0)] (pLand cI a L V) (fun r w => r = alo (V 0) N C ∧ w = (pLand cI a L V)) := by
  refine CtI.of rfl (Nat.le_of_ble_eq_true rfl) ?_
  intro pg ev sx mx ax bx mt cx ls Qx Ax Sx hret hW hl
  have hx := Sx.1
  have hb := Sx.2.1
  have hl : lv_has ls 4 [(0, .ref (a 0))] := hl
  refine lv_iconst (v := (0 : Int32)) hx hb dX1_alone_0 rfl ?_
  refine lv_istore_n (lv' := [(1, .int (0 : Int32)), (0, .ref (a 0))]) hx hb dX1_alone_1 rfl hl (by decide) rfl (fun ls hl => ?_)
  refine lv_iconst (v := (0 : Int32)) hx hb dX1_alone_2 rfl ?_
  refine lv_istore_n (lv' := [(2, .int (0 : Int32)), (1, .int (0 : Int32)), (0, .ref (a 0))]) hx hb dX1_alone_3 rfl hl (by decide) rfl (fun ls hl => ?_)
  have lp_4 : ∀ (n : Nat) (j : Nat), ((j ≤ C)) → ((C + 1 ≤ j + n)) → ∀ (H : Heap) (locs : List Loc) (ls : Array Slot), AtC D (tyG cI cZ cN) Ax (pLand cI a L V) sx H locs → lv_has ls 4 [(0, .ref (a 0)), (1, .int (alo (V 0) N j)), (2, .int (nI j))] → W pg l ev (rmN 1) sx mx ax bx mt cx H locs 0 0 Qx (F0 mx 4 ls []) := by
    intro n
    induction n with
    | zero =>
      intro j hj_4 hn_4 H locs ls hW hl
      exact absurd hn_4 (by omega)
    | succ n ih4 =>
      intro j hj_4 hn_4 H locs ls hW hl
      refine lv_iload_n hx hb dX1_alone_4 rfl (lv_at hl 2 rfl) ?_
      refine lv_aload_n hx hb dX1_alone_5 rfl (lv_at hl 0 rfl) ?_
      refine r_get Sx hW 0 rfl rfl bw_wsX10 4 (by decide) (v := .int (L 3 0)) rfl mw72 dX1_alone_6 ?_
      refine r_eq (y := (nI C)) hC ?_
      refine lv_icmp_ge (tgt := 36) hx hb dX1_alone_9 rfl (fun c_9 => ?_) (fun c_9 => ?_)
      · have ge_9 : C ≤ j := (nI_leI (a := C) (b := j) (by omega) (by omega)).mp c_9
        have ee_9 : C = j := by omega
        subst ee_9
        refine lv_iload_n hx hb dX1_alone_36 rfl (lv_at hl 1 rfl) ?_
        exact hret _ _ _ _ _ _ hW rfl rfl dX1_alone_37 (⟨rfl, rfl⟩)
      · have lt_9 : j < C := Nat.not_le.mp (fun h => c_9 ((nI_leI (a := C) (b := j) (by omega) (by omega)).mpr h))
        refine lv_aload_n hx hb dX1_alone_12 rfl (lv_at hl 0 rfl) ?_
        refine lv_iload_n hx hb dX1_alone_13 rfl (lv_at hl 2 rfl) ?_
        refine callVI Sx hW (c_X1_bearers l D cI cZ cN a L V (nI j) N C hN hN7 hC hC4 hC1 ) vmX1_bearers mw312 [0, 1, 2, 3, 4, 5, 6, 7] rfl (by decide) 0 rfl rfl (As := [.int (nI j)]) (rest := []) rfl rfl hl.1 (Nat.le_of_ble_eq_true rfl) ⟨Nat.le_of_ble_eq_true rfl, Nat.le_of_ble_eq_true rfl⟩ ⟨Nat.le_refl _, Nat.le_refl _⟩ dX1_alone_14 (fun rx wx H locs hqx hW => ?_)
        obtain ⟨hrx, rfl⟩ := hqx
        have hW : AtC D (tyG cI cZ cN) Ax (pLand cI a L V) sx H locs := hW
        refine r_eq (y := (br (V 0) ((nI j)) (N))) hrx ?_
        refine lv_istore_n (lv' := [(3, .int (br (V 0) ((nI j)) (N))), (0, .ref (a 0)), (1, .int (alo (V 0) N j)), (2, .int (nI j))]) hx hb dX1_alone_17 rfl hl (by decide) rfl (fun ls hl => ?_)
        refine lv_iload_n hx hb dX1_alone_18 rfl (lv_at hl 0 rfl) ?_
        refine callSI Sx hW (c_J6_bitCount l D cI cZ cN (br (V 0) ((nI j)) (N))) smJ6_bitCount_0f7a4 mw332 (As := [.int (br (V 0) ((nI j)) (N))]) (rest := []) rfl rfl hl.1 (Nat.le_of_ble_eq_true rfl) ⟨Nat.le_of_ble_eq_true rfl, Nat.le_of_ble_eq_true rfl⟩ ⟨Nat.le_refl _, Nat.le_refl _⟩ dX1_alone_19 (fun rx H locs hqx hW => ?_)
        obtain ⟨hrx, -⟩ := hqx
        refine r_eq (y := (bcI (br (V 0) ((nI j)) (N)))) hrx ?_
        refine lv_iconst (v := (1 : Int32)) hx hb dX1_alone_22 rfl ?_
        refine lv_icmp_ne (tgt := 30) hx hb dX1_alone_23 rfl (fun c_23 => ?_) (fun c_23 => ?_)
        · refine lv_iinc (v := (nI (j + 1))) (lv' := [(2, .int (nI (j + 1))), (3, .int (br (V 0) ((nI j)) (N))), (0, .ref (a 0)), (1, .int (alo (V 0) N j))]) hx hb dX1_alone_30 hl (k := 3) rfl (inc_n j 1) (by decide) rfl (fun ls hl => ?_)
          refine lv_goto (tgt := 4) hx hb dX1_alone_33 rfl ?_
          have hl_1 : lv_has ls 4 [(0, .ref (a 0)), (1, .int (alo (V 0) N (j + 1))), (2, .int (nI (j + 1)))] := by
            rw [show (alo (V 0) N (j + 1)) = (alo (V 0) N j) from by simp [alo, c_9, c_23]]
            exact lv_sub hl [2, 3, 0] rfl
          exact ih4 (j + 1) (by omega) (by omega) _ _ _ hW hl_1
        · refine lv_iload_n hx hb dX1_alone_26 rfl (lv_at hl 2 rfl) ?_
          refine lv_iload_n hx hb dX1_alone_27 rfl (lv_at hl 0 rfl) ?_
          refine lv_ior hx hb dX1_alone_28 ?_
          refine lv_istore_n (lv' := [(1, .int ((alo (V 0) N j) ||| (br (V 0) ((nI j)) (N)))), (3, .int (br (V 0) ((nI j)) (N))), (0, .ref (a 0)), (2, .int (nI j))]) hx hb dX1_alone_29 rfl hl (by decide) rfl (fun ls hl => ?_)
          refine lv_iinc (v := (nI (j + 1))) (lv' := [(2, .int (nI (j + 1))), (1, .int ((alo (V 0) N j) ||| (br (V 0) ((nI j)) (N)))), (3, .int (br (V 0) ((nI j)) (N))), (0, .ref (a 0))]) hx hb dX1_alone_30 hl (k := 3) rfl (inc_n j 1) (by decide) rfl (fun ls hl => ?_)
          refine lv_goto (tgt := 4) hx hb dX1_alone_33 rfl ?_
          have hl_2 : lv_has ls 4 [(0, .ref (a 0)), (1, .int (alo (V 0) N (j + 1))), (2, .int (nI (j + 1)))] := by
            rw [show (alo (V 0) N (j + 1)) = ((alo (V 0) N j) ||| (br (V 0) ((nI j)) (N))) from by simp [alo, c_9, c_23]]
            exact lv_sub hl [3, 1, 0] rfl
          exact ih4 (j + 1) (by omega) (by omega) _ _ _ hW hl_2
  exact lp_4 (C + 1) 0 (by omega) (by omega) _ _ _ hW (lv_sub hl [2, 1, 0] rfl)

set_option maxHeartbeats 4000000 in
set_option maxRecDepth 100000 in
theorem c_X1_badOnes (l : Launch) (D : va_G) (cI cZ cN : ClassId) (a : Nat → Nat) (L V : NV) (N C : Nat) (hN : L 3 1 = nI N) (hN7 : N ≤ 7) (hC : L 3 0 = nI C) (hC4 : C ≤ 4) (hC1 : 1 ≤ C) : CtI l yX1_badOnes cX1_badOnes 4 (some .int) 2 D (tyG cI cZ cN) [.ref (a 0)] (pLand cI a L V) (fun r w => r = boO (L 1) (V 0) N N ∧ w = (pLand cI a L V)) := by
  refine CtI.of rfl (Nat.le_of_ble_eq_true rfl) ?_
  intro pg ev sx mx ax bx mt cx ls Qx Ax Sx hret hW hl
  have hx := Sx.1
  have hb := Sx.2.1
  have hl : lv_has ls 4 [(0, .ref (a 0))] := hl
  refine lv_iconst (v := (0 : Int32)) hx hb dX1_badOnes_0 rfl ?_
  refine lv_istore_n (lv' := [(1, .int (0 : Int32)), (0, .ref (a 0))]) hx hb dX1_badOnes_1 rfl hl (by decide) rfl (fun ls hl => ?_)
  refine lv_iconst (v := (0 : Int32)) hx hb dX1_badOnes_2 rfl ?_
  refine lv_istore_n (lv' := [(2, .int (0 : Int32)), (1, .int (0 : Int32)), (0, .ref (a 0))]) hx hb dX1_badOnes_3 rfl hl (by decide) rfl (fun ls hl => ?_)
  have lp_4 : ∀ (n : Nat) (i : Nat), ((i ≤ N)) → ((N + 1 ≤ i + n)) → ∀ (H : Heap) (locs : List Loc) (ls : Array Slot), AtC D (tyG cI cZ cN) Ax (pLand cI a L V) sx H locs → lv_has ls 4 [(0, .ref (a 0)), (1, .int (boO (L 1) (V 0) N i)), (2, .int (nI i))] → W pg l ev (rmN 2) sx mx ax bx mt cx H locs 0 0 Qx (F0 mx 4 ls []) := by
    intro n
    induction n with
    | zero =>
      intro i hi_4 hn_4 H locs ls hW hl
      exact absurd hn_4 (by omega)
    | succ n ih4 =>
      intro i hi_4 hn_4 H locs ls hW hl
      refine lv_iload_n hx hb dX1_badOnes_4 rfl (lv_at hl 2 rfl) ?_
      refine lv_aload_n hx hb dX1_badOnes_5 rfl (lv_at hl 0 rfl) ?_
      refine r_get Sx hW 0 rfl rfl bw_wsX10 5 (by decide) (v := .int (L 3 1)) rfl mw73 dX1_badOnes_6 ?_
      refine r_eq (y := (nI N)) hN ?_
      refine lv_icmp_ge (tgt := 69) hx hb dX1_badOnes_9 rfl (fun c_9 => ?_) (fun c_9 => ?_)
      · have ge_9 : N ≤ i := (nI_leI (a := N) (b := i) (by omega) (by omega)).mp c_9
        have ee_9 : N = i := by omega
        subst ee_9
        refine lv_iload_n hx hb dX1_badOnes_69 rfl (lv_at hl 1 rfl) ?_
        exact hret _ _ _ _ _ _ hW rfl rfl dX1_badOnes_70 (⟨rfl, rfl⟩)
      · have lt_9 : i < N := Nat.not_le.mp (fun h => c_9 ((nI_leI (a := N) (b := i) (by omega) (by omega)).mpr h))
        refine lv_iload_n hx hb dX1_badOnes_12 rfl (lv_at hl 2 rfl) ?_
        refine lv_iconst (v := (1 : Int32)) hx hb dX1_badOnes_13 rfl ?_
        refine lv_iadd hx hb dX1_badOnes_14 ?_
        refine r_eq (y := (nI (i + 1))) (nI_add i 1) ?_
        refine lv_istore_n (lv' := [(3, .int (nI (i + 1))), (0, .ref (a 0)), (1, .int (boO (L 1) (V 0) N i)), (2, .int (nI i))]) hx hb dX1_badOnes_15 rfl hl (by decide) rfl (fun ls hl => ?_)
        have lp_16 : ∀ (n : Nat) (j : Nat), ((i + 1 + j ≤ N)) → ((N + 1 ≤ i + 1 + j + n)) → ∀ (H : Heap) (locs : List Loc) (ls : Array Slot), AtC D (tyG cI cZ cN) Ax (pLand cI a L V) sx H locs → lv_has ls 4 [(0, .ref (a 0)), (1, .int (boI (L 1) (V 0) i (boO (L 1) (V 0) N i) j)), (2, .int (nI i)), (3, .int (nI (i + 1 + j)))] → W pg l ev (rmN 2) sx mx ax bx mt cx H locs 0 0 Qx (F0 mx 16 ls []) := by
          intro n
          induction n with
          | zero =>
            intro j hj_16 hn_16 H locs ls hW hl
            exact absurd hn_16 (by omega)
          | succ n ih16 =>
            intro j hj_16 hn_16 H locs ls hW hl
            refine lv_iload_n hx hb dX1_badOnes_16 rfl (lv_at hl 3 rfl) ?_
            refine lv_aload_n hx hb dX1_badOnes_17 rfl (lv_at hl 0 rfl) ?_
            refine r_get Sx hW 0 rfl rfl bw_wsX10 5 (by decide) (v := .int (L 3 1)) rfl mw73 dX1_badOnes_18 ?_
            refine r_eq (y := (nI N)) hN ?_
            refine lv_icmp_ge (tgt := 63) hx hb dX1_badOnes_21 rfl (fun c_21 => ?_) (fun c_21 => ?_)
            · have ge_21 : N ≤ i + 1 + j := (nI_leI (a := N) (b := i + 1 + j) (by omega) (by omega)).mp c_21
              have ee_21 : N - (i + 1) = j := by omega
              subst ee_21
              refine lv_iinc (v := (nI (i + 1))) (lv' := [(2, .int (nI (i + 1))), (0, .ref (a 0)), (1, .int (boI (L 1) (V 0) i (boO (L 1) (V 0) N i) (N - (i + 1)))), (3, .int (nI (i + 1 + (N - (i + 1)))))]) hx hb dX1_badOnes_63 hl (k := 2) rfl (inc_n i 1) (by decide) rfl (fun ls hl => ?_)
              refine lv_goto (tgt := 4) hx hb dX1_badOnes_66 rfl ?_
              exact ih4 (i + 1) (by omega) (by omega) _ _ _ hW (lv_sub hl [1, 2, 0] rfl)
            · have lt_21 : i + 1 + j < N := Nat.not_le.mp (fun h => c_21 ((nI_leI (a := N) (b := i + 1 + j) (by omega) (by omega)).mpr h))
              refine lv_aload_n hx hb dX1_badOnes_24 rfl (lv_at hl 0 rfl) ?_
              refine lv_iload_n hx hb dX1_badOnes_25 rfl (lv_at hl 2 rfl) ?_
              refine lv_iload_n hx hb dX1_badOnes_26 rfl (lv_at hl 3 rfl) ?_
              refine callVI Sx hW (c_X1_quarrel l D cI cZ cN a L V i (nI (i + 1 + j)) N C hN hN7 hC hC4 hC1 (by omega)) vmX1_quarrel mw484 [0, 1, 2, 3, 4, 5, 6, 7] rfl (by decide) 0 rfl rfl (As := [.int (nI i), .int (nI (i + 1 + j))]) (rest := []) rfl rfl hl.1 (Nat.le_of_ble_eq_true rfl) ⟨Nat.le_of_ble_eq_true rfl, Nat.le_of_ble_eq_true rfl⟩ ⟨Nat.le_refl _, Nat.le_refl _⟩ dX1_badOnes_27 (fun rx wx H locs hqx hW => ?_)
              obtain ⟨hrx, rfl⟩ := hqx
              have hW : AtC D (tyG cI cZ cN) Ax (pLand cI a L V) sx H locs := hW
              refine r_eq (y := (qrI (L 1) (i) ((nI (i + 1 + j))))) hrx ?_
              refine lv_if_eq (tgt := 57) hx hb dX1_badOnes_30 rfl (fun c_30 => ?_) (fun c_30 => ?_)
              · have c_30 := qrI_0 c_30
                refine lv_iinc (v := (nI ((i + 1 + j) + 1))) (lv' := [(3, .int (nI ((i + 1 + j) + 1))), (0, .ref (a 0)), (1, .int (boI (L 1) (V 0) i (boO (L 1) (V 0) N i) j)), (2, .int (nI i))]) hx hb dX1_badOnes_57 hl (k := 3) rfl (inc_n (i + 1 + j) 1) (by decide) rfl (fun ls hl => ?_)
                refine lv_goto (tgt := 16) hx hb dX1_badOnes_60 rfl ?_
                have hl_1 : lv_has ls 4 [(0, .ref (a 0)), (1, .int (boI (L 1) (V 0) i (boO (L 1) (V 0) N i) (j + 1))), (2, .int (nI i)), (3, .int (nI (i + 1 + (j + 1))))] := by
                  rw [show (boI (L 1) (V 0) i (boO (L 1) (V 0) N i) (j + 1)) = (boI (L 1) (V 0) i (boO (L 1) (V 0) N i) j) from by simp [boI, c_9, c_21, c_30]]
                  exact lv_sub hl [1, 2, 3, 0] rfl
                exact ih16 (j + 1) (by omega) (by omega) _ _ _ hW hl_1
              · have c_30 := qrI_1 c_30
                refine lv_aload_n hx hb dX1_badOnes_33 rfl (lv_at hl 0 rfl) ?_
                refine r_get Sx hW 0 rfl rfl bw_wsX10 3 (by decide) (v := .ref (a 4)) rfl mw71 dX1_badOnes_34 ?_
                refine r_get Sx hW 4 rfl rfl bw_wsX20 0 (by decide) (v := .ref (a 5)) rfl mw215 dX1_badOnes_37 ?_
                refine lv_iload_n hx hb dX1_badOnes_40 rfl (lv_at hl 2 rfl) ?_
                refine r_iald Sx hW 5 0 rfl rfl (j := i) rfl (by omega) (by decide) dX1_badOnes_41 ?_
                refine lv_aload_n hx hb dX1_badOnes_42 rfl (lv_at hl 0 rfl) ?_
                refine r_get Sx hW 0 rfl rfl bw_wsX10 3 (by decide) (v := .ref (a 4)) rfl mw71 dX1_badOnes_43 ?_
                refine r_get Sx hW 4 rfl rfl bw_wsX20 0 (by decide) (v := .ref (a 5)) rfl mw215 dX1_badOnes_46 ?_
                refine lv_iload_n hx hb dX1_badOnes_49 rfl (lv_at hl 3 rfl) ?_
                refine r_iald Sx hW 5 0 rfl rfl (j := i + 1 + j) rfl (by omega) (by decide) dX1_badOnes_50 ?_
                refine lv_icmp_ne (tgt := 57) hx hb dX1_badOnes_51 rfl (fun c_51 => ?_) (fun c_51 => ?_)
                · refine lv_iinc (v := (nI ((i + 1 + j) + 1))) (lv' := [(3, .int (nI ((i + 1 + j) + 1))), (0, .ref (a 0)), (1, .int (boI (L 1) (V 0) i (boO (L 1) (V 0) N i) j)), (2, .int (nI i))]) hx hb dX1_badOnes_57 hl (k := 3) rfl (inc_n (i + 1 + j) 1) (by decide) rfl (fun ls hl => ?_)
                  refine lv_goto (tgt := 16) hx hb dX1_badOnes_60 rfl ?_
                  have hl_2 : lv_has ls 4 [(0, .ref (a 0)), (1, .int (boI (L 1) (V 0) i (boO (L 1) (V 0) N i) (j + 1))), (2, .int (nI i)), (3, .int (nI (i + 1 + (j + 1))))] := by
                    rw [show (boI (L 1) (V 0) i (boO (L 1) (V 0) N i) (j + 1)) = (boI (L 1) (V 0) i (boO (L 1) (V 0) N i) j) from by simp [boI, c_9, c_21, c_30, c_51]]
                    exact lv_sub hl [1, 2, 3, 0] rfl
                  exact ih16 (j + 1) (by omega) (by omega) _ _ _ hW hl_2
                · refine lv_iinc (v := ((boI (L 1) (V 0) i (boO (L 1) (V 0) N i) j) + 1)) (lv' := [(1, .int ((boI (L 1) (V 0) i (boO (L 1) (V 0) N i) j) + 1)), (0, .ref (a 0)), (2, .int (nI i)), (3, .int (nI (i + 1 + j)))]) hx hb dX1_badOnes_54 hl (k := 1) rfl rfl (by decide) rfl (fun ls hl => ?_)
                  refine lv_iinc (v := (nI ((i + 1 + j) + 1))) (lv' := [(3, .int (nI ((i + 1 + j) + 1))), (1, .int ((boI (L 1) (V 0) i (boO (L 1) (V 0) N i) j) + 1)), (0, .ref (a 0)), (2, .int (nI i))]) hx hb dX1_badOnes_57 hl (k := 3) rfl (inc_n (i + 1 + j) 1) (by decide) rfl (fun ls hl => ?_)
                  refine lv_goto (tgt := 16) hx hb dX1_badOnes_60 rfl ?_
                  have hl_3 : lv_has ls 4 [(0, .ref (a 0)), (1, .int (boI (L 1) (V 0) i (boO (L 1) (V 0) N i) (j + 1))), (2, .int (nI i)), (3, .int (nI (i + 1 + (j + 1))))] := by
                    rw [show (boI (L 1) (V 0) i (boO (L 1) (V 0) N i) (j + 1)) = ((boI (L 1) (V 0) i (boO (L 1) (V 0) N i) j) + 1) from by simp [boI, c_9, c_21, c_30, c_51]]
                    exact lv_sub hl [2, 1, 3, 0] rfl
                  exact ih16 (j + 1) (by omega) (by omega) _ _ _ hW hl_3
        exact lp_16 (N + 1) 0 (by omega) (by omega) _ _ _ hW (lv_sub hl [1, 2, 3, 0] rfl)
  exact lp_4 (N + 1) 0 (by omega) (by omega) _ _ _ hW (lv_sub hl [2, 1, 0] rfl)

set_option maxHeartbeats 4000000 in
set_option maxRecDepth 100000 in
theorem c_X1_sayers (l : Launch) (D : va_G) (cI cZ cN : ClassId) (a : Nat → Nat) (L V : NV) (b : Int32) (sd : Int32) (N C : Nat) (hN : L 3 1 = nI N) (hN7 : N ≤ 7) (hC : L 3 0 = nI C) (hC4 : C ≤ 4) (hC1 : 1 ≤ C) : CtI l yX1_sayers cX1_sayers 5 (some .int) 1 D (tyG cI cZ cN) [.ref (a 0), .int b, .int sd] (pLand cI a L V) (fun r w => r = sy (L 0) b sd N ∧ w = (pLand cI a L V)) := by
  refine CtI.of rfl (Nat.le_of_ble_eq_true rfl) ?_
  intro pg ev sx mx ax bx mt cx ls Qx Ax Sx hret hW hl
  have hx := Sx.1
  have hb := Sx.2.1
  have hl : lv_has ls 5 [(0, .ref (a 0)), (1, .int b), (2, .int sd)] := hl
  refine lv_iconst (v := (0 : Int32)) hx hb dX1_sayers_0 rfl ?_
  refine lv_istore_n (lv' := [(3, .int (0 : Int32)), (0, .ref (a 0)), (1, .int b), (2, .int sd)]) hx hb dX1_sayers_1 rfl hl (by decide) rfl (fun ls hl => ?_)
  refine lv_iconst (v := (0 : Int32)) hx hb dX1_sayers_2 rfl ?_
  refine lv_istore (lv' := [(4, .int (0 : Int32)), (3, .int (0 : Int32)), (0, .ref (a 0)), (1, .int b), (2, .int sd)]) hx hb dX1_sayers_3 hl (by decide) rfl (fun ls hl => ?_)
  have lp_5 : ∀ (n : Nat) (i : Nat), ((i ≤ N)) → ((N + 1 ≤ i + n)) → ∀ (H : Heap) (locs : List Loc) (ls : Array Slot), AtC D (tyG cI cZ cN) Ax (pLand cI a L V) sx H locs → lv_has ls 5 [(0, .ref (a 0)), (1, .int b), (2, .int sd), (3, .int (sy (L 0) b sd i)), (4, .int (nI i))] → W pg l ev (rmN 1) sx mx ax bx mt cx H locs 0 0 Qx (F0 mx 5 ls []) := by
    intro n
    induction n with
    | zero =>
      intro i hi_5 hn_5 H locs ls hW hl
      exact absurd hn_5 (by omega)
    | succ n ih5 =>
      intro i hi_5 hn_5 H locs ls hW hl
      refine lv_iload hx hb dX1_sayers_5 (lv_at hl 4 rfl) ?_
      refine lv_aload_n hx hb dX1_sayers_7 rfl (lv_at hl 0 rfl) ?_
      refine r_get Sx hW 0 rfl rfl bw_wsX10 5 (by decide) (v := .int (L 3 1)) rfl mw73 dX1_sayers_8 ?_
      refine r_eq (y := (nI N)) hN ?_
      refine lv_icmp_ge (tgt := 42) hx hb dX1_sayers_11 rfl (fun c_11 => ?_) (fun c_11 => ?_)
      · have ge_11 : N ≤ i := (nI_leI (a := N) (b := i) (by omega) (by omega)).mp c_11
        have ee_11 : N = i := by omega
        subst ee_11
        refine lv_iload_n hx hb dX1_sayers_42 rfl (lv_at hl 3 rfl) ?_
        exact hret _ _ _ _ _ _ hW rfl rfl dX1_sayers_43 (⟨rfl, rfl⟩)
      · have lt_11 : i < N := Nat.not_le.mp (fun h => c_11 ((nI_leI (a := N) (b := i) (by omega) (by omega)).mpr h))
        refine lv_aload_n hx hb dX1_sayers_14 rfl (lv_at hl 0 rfl) ?_
        refine r_get Sx hW 0 rfl rfl bw_wsX10 0 (by decide) (v := .ref (a 1)) rfl mw67 dX1_sayers_15 ?_
        refine lv_iload hx hb dX1_sayers_18 (lv_at hl 4 rfl) ?_
        refine r_iald Sx hW 1 0 rfl rfl (j := i) rfl (by omega) (by decide) dX1_sayers_20 ?_
        refine lv_iload_n hx hb dX1_sayers_21 rfl (lv_at hl 1 rfl) ?_
        refine callNI Sx hW (c_X8_bit l D cI cZ cN ((L 0) i) b) smX8_bit 12 rfl (As := [.int ((L 0) i), .int b]) (rest := []) rfl rfl hl.1 (Nat.le_of_ble_eq_true rfl) ⟨Nat.le_of_ble_eq_true rfl, Nat.le_of_ble_eq_true rfl⟩ ⟨Nat.le_refl _, Nat.le_refl _⟩ dX1_sayers_22 (fun rx H locs hqx hW => ?_)
        obtain ⟨hrx, -⟩ := hqx
        refine r_eq (y := (bitI ((L 0) i) b)) hrx ?_
        refine lv_iload_n hx hb dX1_sayers_25 rfl (lv_at hl 2 rfl) ?_
        refine lv_icmp_ne (tgt := 36) hx hb dX1_sayers_26 rfl (fun c_26 => ?_) (fun c_26 => ?_)
        · refine lv_iinc (v := (nI (i + 1))) (lv' := [(4, .int (nI (i + 1))), (0, .ref (a 0)), (1, .int b), (2, .int sd), (3, .int (sy (L 0) b sd i))]) hx hb dX1_sayers_36 hl (k := 4) rfl (inc_n i 1) (by decide) rfl (fun ls hl => ?_)
          refine lv_goto (tgt := 5) hx hb dX1_sayers_39 rfl ?_
          have hl_1 : lv_has ls 5 [(0, .ref (a 0)), (1, .int b), (2, .int sd), (3, .int (sy (L 0) b sd (i + 1))), (4, .int (nI (i + 1)))] := by
            rw [show (sy (L 0) b sd (i + 1)) = (sy (L 0) b sd i) from by simp [sy, c_11, c_26]]
            exact lv_sub hl [1, 2, 3, 4, 0] rfl
          exact ih5 (i + 1) (by omega) (by omega) _ _ _ hW hl_1
        · refine lv_iload_n hx hb dX1_sayers_29 rfl (lv_at hl 3 rfl) ?_
          refine lv_iconst (v := (1 : Int32)) hx hb dX1_sayers_30 rfl ?_
          refine lv_iload hx hb dX1_sayers_31 (lv_at hl 4 rfl) ?_
          refine lv_ishl hx hb dX1_sayers_33 ?_
          refine lv_ior hx hb dX1_sayers_34 ?_
          refine lv_istore_n (lv' := [(3, .int ((sy (L 0) b sd i) ||| ((1 : Int32) <<< ((nI i) &&& 31)))), (0, .ref (a 0)), (1, .int b), (2, .int sd), (4, .int (nI i))]) hx hb dX1_sayers_35 rfl hl (by decide) rfl (fun ls hl => ?_)
          refine lv_iinc (v := (nI (i + 1))) (lv' := [(4, .int (nI (i + 1))), (3, .int ((sy (L 0) b sd i) ||| ((1 : Int32) <<< ((nI i) &&& 31)))), (0, .ref (a 0)), (1, .int b), (2, .int sd)]) hx hb dX1_sayers_36 hl (k := 4) rfl (inc_n i 1) (by decide) rfl (fun ls hl => ?_)
          refine lv_goto (tgt := 5) hx hb dX1_sayers_39 rfl ?_
          have hl_2 : lv_has ls 5 [(0, .ref (a 0)), (1, .int b), (2, .int sd), (3, .int (sy (L 0) b sd (i + 1))), (4, .int (nI (i + 1)))] := by
            rw [show (sy (L 0) b sd (i + 1)) = ((sy (L 0) b sd i) ||| ((1 : Int32) <<< ((nI i) &&& 31))) from by simp [sy, c_11, c_26]]
            exact lv_sub hl [2, 3, 4, 1, 0] rfl
          exact ih5 (i + 1) (by omega) (by omega) _ _ _ hW hl_2
  exact lp_5 (N + 1) 0 (by omega) (by omega) _ _ _ hW (lv_sub hl [2, 3, 4, 1, 0] rfl)

set_option maxHeartbeats 4000000 in
set_option maxRecDepth 100000 in
theorem c_X1_votes (l : Launch) (D : va_G) (cI cZ cN : ClassId) (a : Nat → Nat) (L V : NV) (sa : Int32) (ot : Int32) (la : Int32) (wi : Int32) (N C : Nat) (hN : L 3 1 = nI N) (hN7 : N ≤ 7) (hC : L 3 0 = nI C) (hC4 : C ≤ 4) (hC1 : 1 ≤ C) : CtI l yX1_votes cX1_votes 11 (some .int) 1 D (tyG cI cZ cN) [.ref (a 0), .int sa, .int ot, .int la, .int wi] (pLand cI a L V) (fun r w => r = vt (V 0) N sa ot la wi C ∧ w = (pLand cI a L V)) := by
  refine CtI.of rfl (Nat.le_of_ble_eq_true rfl) ?_
  intro pg ev sx mx ax bx mt cx ls Qx Ax Sx hret hW hl
  have hx := Sx.1
  have hb := Sx.2.1
  have hl : lv_has ls 11 [(0, .ref (a 0)), (1, .int sa), (2, .int ot), (3, .int la), (4, .int wi)] := hl
  refine lv_iconst (v := (0 : Int32)) hx hb dX1_votes_0 rfl ?_
  refine lv_istore (lv' := [(5, .int (0 : Int32)), (0, .ref (a 0)), (1, .int sa), (2, .int ot), (3, .int la), (4, .int wi)]) hx hb dX1_votes_1 hl (by decide) rfl (fun ls hl => ?_)
  refine lv_iconst (v := (0 : Int32)) hx hb dX1_votes_3 rfl ?_
  refine lv_istore (lv' := [(6, .int (0 : Int32)), (5, .int (0 : Int32)), (0, .ref (a 0)), (1, .int sa), (2, .int ot), (3, .int la), (4, .int wi)]) hx hb dX1_votes_4 hl (by decide) rfl (fun ls hl => ?_)
  have lp_6 : ∀ (n : Nat) (j : Nat), ((j ≤ C)) → ((C + 1 ≤ j + n)) → ∀ (H : Heap) (locs : List Loc) (ls : Array Slot), AtC D (tyG cI cZ cN) Ax (pLand cI a L V) sx H locs → lv_has ls 11 [(0, .ref (a 0)), (1, .int sa), (2, .int ot), (3, .int la), (4, .int wi), (5, .int (vt (V 0) N sa ot la wi j)), (6, .int (nI j))] → W pg l ev (rmN 1) sx mx ax bx mt cx H locs 0 0 Qx (F0 mx 6 ls []) := by
    intro n
    induction n with
    | zero =>
      intro j hj_6 hn_6 H locs ls hW hl
      exact absurd hn_6 (by omega)
    | succ n ih6 =>
      intro j hj_6 hn_6 H locs ls hW hl
      refine lv_iload hx hb dX1_votes_6 (lv_at hl 6 rfl) ?_
      refine lv_aload_n hx hb dX1_votes_8 rfl (lv_at hl 0 rfl) ?_
      refine r_get Sx hW 0 rfl rfl bw_wsX10 4 (by decide) (v := .int (L 3 0)) rfl mw72 dX1_votes_9 ?_
      refine r_eq (y := (nI C)) hC ?_
      refine lv_icmp_ge (tgt := 94) hx hb dX1_votes_12 rfl (fun c_12 => ?_) (fun c_12 => ?_)
      · have ge_12 : C ≤ j := (nI_leI (a := C) (b := j) (by omega) (by omega)).mp c_12
        have ee_12 : C = j := by omega
        subst ee_12
        refine lv_iload hx hb dX1_votes_94 (lv_at hl 5 rfl) ?_
        exact hret _ _ _ _ _ _ hW rfl rfl dX1_votes_96 (⟨rfl, rfl⟩)
      · have lt_12 : j < C := Nat.not_le.mp (fun h => c_12 ((nI_leI (a := C) (b := j) (by omega) (by omega)).mpr h))
        refine lv_iload hx hb dX1_votes_15 (lv_at hl 6 rfl) ?_
        refine lv_iload hx hb dX1_votes_17 (lv_at hl 4 rfl) ?_
        refine lv_icmp_eq (tgt := 88) hx hb dX1_votes_19 rfl (fun c_19 => ?_) (fun c_19 => ?_)
        · refine lv_iinc (v := (nI (j + 1))) (lv' := [(6, .int (nI (j + 1))), (0, .ref (a 0)), (1, .int sa), (2, .int ot), (3, .int la), (4, .int wi), (5, .int (vt (V 0) N sa ot la wi j))]) hx hb dX1_votes_88 hl (k := 6) rfl (inc_n j 1) (by decide) rfl (fun ls hl => ?_)
          refine lv_goto (tgt := 6) hx hb dX1_votes_91 rfl ?_
          have hl_1 : lv_has ls 11 [(0, .ref (a 0)), (1, .int sa), (2, .int ot), (3, .int la), (4, .int wi), (5, .int (vt (V 0) N sa ot la wi (j + 1))), (6, .int (nI (j + 1)))] := by
            rw [show (vt (V 0) N sa ot la wi (j + 1)) = (vt (V 0) N sa ot la wi j) from by simp [vt, c_12, c_19]]
            exact lv_sub hl [1, 2, 3, 4, 5, 6, 0] rfl
          exact ih6 (j + 1) (by omega) (by omega) _ _ _ hW hl_1
        · refine lv_aload_n hx hb dX1_votes_22 rfl (lv_at hl 0 rfl) ?_
          refine lv_iload hx hb dX1_votes_23 (lv_at hl 6 rfl) ?_
          refine callVI Sx hW (c_X1_bearers l D cI cZ cN a L V (nI j) N C hN hN7 hC hC4 hC1 ) vmX1_bearers mw312 [0, 1, 2, 3, 4, 5, 6, 7] rfl (by decide) 0 rfl rfl (As := [.int (nI j)]) (rest := []) rfl rfl hl.1 (Nat.le_of_ble_eq_true rfl) ⟨Nat.le_of_ble_eq_true rfl, Nat.le_of_ble_eq_true rfl⟩ ⟨Nat.le_refl _, Nat.le_refl _⟩ dX1_votes_25 (fun rx wx H locs hqx hW => ?_)
          obtain ⟨hrx, rfl⟩ := hqx
          have hW : AtC D (tyG cI cZ cN) Ax (pLand cI a L V) sx H locs := hW
          refine r_eq (y := (br (V 0) ((nI j)) (N))) hrx ?_
          refine lv_istore (lv' := [(7, .int (br (V 0) ((nI j)) (N))), (0, .ref (a 0)), (1, .int sa), (2, .int ot), (3, .int la), (4, .int wi), (5, .int (vt (V 0) N sa ot la wi j)), (6, .int (nI j))]) hx hb dX1_votes_28 hl (by decide) rfl (fun ls hl => ?_)
          refine lv_iload hx hb dX1_votes_30 (lv_at hl 0 rfl) ?_
          refine lv_iload_n hx hb dX1_votes_32 rfl (lv_at hl 2 rfl) ?_
          refine lv_iand hx hb dX1_votes_33 ?_
          refine callSI Sx hW (c_J6_bitCount l D cI cZ cN ((br (V 0) ((nI j)) (N)) &&& sa)) smJ6_bitCount_0f7a4 mw332 (As := [.int ((br (V 0) ((nI j)) (N)) &&& sa)]) (rest := []) rfl rfl hl.1 (Nat.le_of_ble_eq_true rfl) ⟨Nat.le_of_ble_eq_true rfl, Nat.le_of_ble_eq_true rfl⟩ ⟨Nat.le_refl _, Nat.le_refl _⟩ dX1_votes_34 (fun rx H locs hqx hW => ?_)
          obtain ⟨hrx, -⟩ := hqx
          refine r_eq (y := (bcI ((br (V 0) ((nI j)) (N)) &&& sa))) hrx ?_
          refine lv_istore (lv' := [(8, .int (bcI ((br (V 0) ((nI j)) (N)) &&& sa))), (7, .int (br (V 0) ((nI j)) (N))), (0, .ref (a 0)), (1, .int sa), (2, .int ot), (3, .int la), (4, .int wi), (5, .int (vt (V 0) N sa ot la wi j)), (6, .int (nI j))]) hx hb dX1_votes_37 hl (by decide) rfl (fun ls hl => ?_)
          refine lv_iload hx hb dX1_votes_39 (lv_at hl 1 rfl) ?_
          refine lv_iload_n hx hb dX1_votes_41 rfl (lv_at hl 4 rfl) ?_
          refine lv_iand hx hb dX1_votes_42 ?_
          refine callSI Sx hW (c_J6_bitCount l D cI cZ cN ((br (V 0) ((nI j)) (N)) &&& ot)) smJ6_bitCount_0f7a4 mw332 (As := [.int ((br (V 0) ((nI j)) (N)) &&& ot)]) (rest := []) rfl rfl hl.1 (Nat.le_of_ble_eq_true rfl) ⟨Nat.le_of_ble_eq_true rfl, Nat.le_of_ble_eq_true rfl⟩ ⟨Nat.le_refl _, Nat.le_refl _⟩ dX1_votes_43 (fun rx H locs hqx hW => ?_)
          obtain ⟨hrx, -⟩ := hqx
          refine r_eq (y := (bcI ((br (V 0) ((nI j)) (N)) &&& ot))) hrx ?_
          refine lv_istore (lv' := [(9, .int (bcI ((br (V 0) ((nI j)) (N)) &&& ot))), (8, .int (bcI ((br (V 0) ((nI j)) (N)) &&& sa))), (7, .int (br (V 0) ((nI j)) (N))), (0, .ref (a 0)), (1, .int sa), (2, .int ot), (3, .int la), (4, .int wi), (5, .int (vt (V 0) N sa ot la wi j)), (6, .int (nI j))]) hx hb dX1_votes_46 hl (by decide) rfl (fun ls hl => ?_)
          refine lv_iload_n hx hb dX1_votes_48 rfl (lv_at hl 6 rfl) ?_
          refine lv_iconst (v := (2 : Int32)) hx hb dX1_votes_49 rfl ?_
          refine lv_iand hx hb dX1_votes_50 ?_
          refine lv_if_eq (tgt := 58) hx hb dX1_votes_51 rfl (fun c_51 => ?_) (fun c_51 => ?_)
          · refine lv_iconst (v := (0 : Int32)) hx hb dX1_votes_58 rfl ?_
            refine lv_istore (lv' := [(10, .int (0 : Int32)), (9, .int (bcI ((br (V 0) ((nI j)) (N)) &&& ot))), (8, .int (bcI ((br (V 0) ((nI j)) (N)) &&& sa))), (7, .int (br (V 0) ((nI j)) (N))), (0, .ref (a 0)), (1, .int sa), (2, .int ot), (3, .int la), (4, .int wi), (5, .int (vt (V 0) N sa ot la wi j)), (6, .int (nI j))]) hx hb dX1_votes_59 hl (by decide) rfl (fun ls hl => ?_)
            refine lv_iload hx hb dX1_votes_61 (lv_at hl 9 rfl) ?_
            refine lv_iload hx hb dX1_votes_63 (lv_at hl 0 rfl) ?_
            refine lv_if_eq (tgt := 83) hx hb dX1_votes_65 rfl (fun c_65 => ?_) (fun c_65 => ?_)
            · refine lv_iload hx hb dX1_votes_83 (lv_at hl 2 rfl) ?_
              refine lv_iadd hx hb dX1_votes_85 ?_
              refine lv_istore (lv' := [(5, .int ((vt (V 0) N sa ot la wi j) + (bcI ((br (V 0) ((nI j)) (N)) &&& sa)))), (10, .int (0 : Int32)), (9, .int (bcI ((br (V 0) ((nI j)) (N)) &&& ot))), (8, .int (bcI ((br (V 0) ((nI j)) (N)) &&& sa))), (7, .int (br (V 0) ((nI j)) (N))), (0, .ref (a 0)), (1, .int sa), (2, .int ot), (3, .int la), (4, .int wi), (6, .int (nI j))]) hx hb dX1_votes_86 hl (by decide) rfl (fun ls hl => ?_)
              refine lv_iinc (v := (nI (j + 1))) (lv' := [(6, .int (nI (j + 1))), (5, .int ((vt (V 0) N sa ot la wi j) + (bcI ((br (V 0) ((nI j)) (N)) &&& sa)))), (10, .int (0 : Int32)), (9, .int (bcI ((br (V 0) ((nI j)) (N)) &&& ot))), (8, .int (bcI ((br (V 0) ((nI j)) (N)) &&& sa))), (7, .int (br (V 0) ((nI j)) (N))), (0, .ref (a 0)), (1, .int sa), (2, .int ot), (3, .int la), (4, .int wi)]) hx hb dX1_votes_88 hl (k := 10) rfl (inc_n j 1) (by decide) rfl (fun ls hl => ?_)
              refine lv_goto (tgt := 6) hx hb dX1_votes_91 rfl ?_
              have hl_2 : lv_has ls 11 [(0, .ref (a 0)), (1, .int sa), (2, .int ot), (3, .int la), (4, .int wi), (5, .int (vt (V 0) N sa ot la wi (j + 1))), (6, .int (nI (j + 1)))] := by
                rw [show (vt (V 0) N sa ot la wi (j + 1)) = ((vt (V 0) N sa ot la wi j) + (bcI ((br (V 0) ((nI j)) (N)) &&& sa))) from by simp [vt, c_12, c_19, c_51, c_65]]
                exact lv_sub hl [6, 7, 8, 9, 10, 1, 0] rfl
              exact ih6 (j + 1) (by omega) (by omega) _ _ _ hW hl_2
            · exact absurd c_65 (by decide)
          · refine lv_iconst (v := (1 : Int32)) hx hb dX1_votes_54 rfl ?_
            refine lv_goto (tgt := 59) hx hb dX1_votes_55 rfl ?_
            refine lv_istore (lv' := [(10, .int (1 : Int32)), (9, .int (bcI ((br (V 0) ((nI j)) (N)) &&& ot))), (8, .int (bcI ((br (V 0) ((nI j)) (N)) &&& sa))), (7, .int (br (V 0) ((nI j)) (N))), (0, .ref (a 0)), (1, .int sa), (2, .int ot), (3, .int la), (4, .int wi), (5, .int (vt (V 0) N sa ot la wi j)), (6, .int (nI j))]) hx hb dX1_votes_59 hl (by decide) rfl (fun ls hl => ?_)
            refine lv_iload hx hb dX1_votes_61 (lv_at hl 9 rfl) ?_
            refine lv_iload hx hb dX1_votes_63 (lv_at hl 0 rfl) ?_
            refine lv_if_eq (tgt := 83) hx hb dX1_votes_65 rfl (fun c_65 => ?_) (fun c_65 => ?_)
            · exact absurd c_65 (by decide)
            · refine lv_iload hx hb dX1_votes_68 (lv_at hl 2 rfl) ?_
              refine lv_iload hx hb dX1_votes_70 (lv_at hl 1 rfl) ?_
              refine lv_icmp_le (tgt := 79) hx hb dX1_votes_72 rfl (fun c_72 => ?_) (fun c_72 => ?_)
              · refine lv_iconst (v := (0 : Int32)) hx hb dX1_votes_79 rfl ?_
                refine lv_goto (tgt := 85) hx hb dX1_votes_80 rfl ?_
                refine lv_iadd hx hb dX1_votes_85 ?_
                refine lv_istore (lv' := [(5, .int ((vt (V 0) N sa ot la wi j) + (0 : Int32))), (10, .int (1 : Int32)), (9, .int (bcI ((br (V 0) ((nI j)) (N)) &&& ot))), (8, .int (bcI ((br (V 0) ((nI j)) (N)) &&& sa))), (7, .int (br (V 0) ((nI j)) (N))), (0, .ref (a 0)), (1, .int sa), (2, .int ot), (3, .int la), (4, .int wi), (6, .int (nI j))]) hx hb dX1_votes_86 hl (by decide) rfl (fun ls hl => ?_)
                refine lv_iinc (v := (nI (j + 1))) (lv' := [(6, .int (nI (j + 1))), (5, .int ((vt (V 0) N sa ot la wi j) + (0 : Int32))), (10, .int (1 : Int32)), (9, .int (bcI ((br (V 0) ((nI j)) (N)) &&& ot))), (8, .int (bcI ((br (V 0) ((nI j)) (N)) &&& sa))), (7, .int (br (V 0) ((nI j)) (N))), (0, .ref (a 0)), (1, .int sa), (2, .int ot), (3, .int la), (4, .int wi)]) hx hb dX1_votes_88 hl (k := 10) rfl (inc_n j 1) (by decide) rfl (fun ls hl => ?_)
                refine lv_goto (tgt := 6) hx hb dX1_votes_91 rfl ?_
                have hl_3 : lv_has ls 11 [(0, .ref (a 0)), (1, .int sa), (2, .int ot), (3, .int la), (4, .int wi), (5, .int (vt (V 0) N sa ot la wi (j + 1))), (6, .int (nI (j + 1)))] := by
                  rw [show (vt (V 0) N sa ot la wi (j + 1)) = ((vt (V 0) N sa ot la wi j) + (0 : Int32)) from by simp [vt, c_12, c_19, c_51, c_65, c_72]]
                  exact lv_sub hl [6, 7, 8, 9, 10, 1, 0] rfl
                exact ih6 (j + 1) (by omega) (by omega) _ _ _ hW hl_3
              · refine lv_iconst (v := (1 : Int32)) hx hb dX1_votes_75 rfl ?_
                refine lv_goto (tgt := 85) hx hb dX1_votes_76 rfl ?_
                refine lv_iadd hx hb dX1_votes_85 ?_
                refine lv_istore (lv' := [(5, .int ((vt (V 0) N sa ot la wi j) + (1 : Int32))), (10, .int (1 : Int32)), (9, .int (bcI ((br (V 0) ((nI j)) (N)) &&& ot))), (8, .int (bcI ((br (V 0) ((nI j)) (N)) &&& sa))), (7, .int (br (V 0) ((nI j)) (N))), (0, .ref (a 0)), (1, .int sa), (2, .int ot), (3, .int la), (4, .int wi), (6, .int (nI j))]) hx hb dX1_votes_86 hl (by decide) rfl (fun ls hl => ?_)
                refine lv_iinc (v := (nI (j + 1))) (lv' := [(6, .int (nI (j + 1))), (5, .int ((vt (V 0) N sa ot la wi j) + (1 : Int32))), (10, .int (1 : Int32)), (9, .int (bcI ((br (V 0) ((nI j)) (N)) &&& ot))), (8, .int (bcI ((br (V 0) ((nI j)) (N)) &&& sa))), (7, .int (br (V 0) ((nI j)) (N))), (0, .ref (a 0)), (1, .int sa), (2, .int ot), (3, .int la), (4, .int wi)]) hx hb dX1_votes_88 hl (k := 10) rfl (inc_n j 1) (by decide) rfl (fun ls hl => ?_)
                refine lv_goto (tgt := 6) hx hb dX1_votes_91 rfl ?_
                have hl_4 : lv_has ls 11 [(0, .ref (a 0)), (1, .int sa), (2, .int ot), (3, .int la), (4, .int wi), (5, .int (vt (V 0) N sa ot la wi (j + 1))), (6, .int (nI (j + 1)))] := by
                  rw [show (vt (V 0) N sa ot la wi (j + 1)) = ((vt (V 0) N sa ot la wi j) + (1 : Int32)) from by simp [vt, c_12, c_19, c_51, c_65, c_72]]
                  exact lv_sub hl [6, 7, 8, 9, 10, 1, 0] rfl
                exact ih6 (j + 1) (by omega) (by omega) _ _ _ hW hl_4
  exact lp_6 (C + 1) 0 (by omega) (by omega) _ _ _ hW (lv_sub hl [2, 3, 4, 5, 6, 1, 0] rfl)

set_option maxHeartbeats 4000000 in
set_option maxRecDepth 100000 in
theorem c_X1_yes (l : Launch) (D : va_G) (cI cZ cN : ClassId) (a : Nat → Nat) (L V : NV) (b : Int32) (la : Int32) (wi : Int32) (N C : Nat) (hN : L 3 1 = nI N) (hN7 : N ≤ 7) (hC : L 3 0 = nI C) (hC4 : C ≤ 4) (hC1 : 1 ≤ C) : CtI l yX1_yes cX1_yes 4 (some .int) 2 D (tyG cI cZ cN) [.ref (a 0), .int b, .int la, .int wi] (pLand cI a L V) (fun r w => r = yesI (L 0) (V 0) N C b la wi ∧ w = (pLand cI a L V)) := by
  refine CtI.of rfl (Nat.le_of_ble_eq_true rfl) ?_
  intro pg ev sx mx ax bx mt cx ls Qx Ax Sx hret hW hl
  have hx := Sx.1
  have hb := Sx.2.1
  have hl : lv_has ls 4 [(0, .ref (a 0)), (1, .int b), (2, .int la), (3, .int wi)] := hl
  refine lv_aload_n hx hb dX1_yes_0 rfl (lv_at hl 0 rfl) ?_
  refine lv_aload_n hx hb dX1_yes_1 rfl (lv_at hl 0 rfl) ?_
  refine lv_iload_n hx hb dX1_yes_2 rfl (lv_at hl 1 rfl) ?_
  refine lv_iconst (v := (1 : Int32)) hx hb dX1_yes_3 rfl ?_
  refine callVI Sx hW (c_X1_sayers l D cI cZ cN a L V b (1 : Int32) N C hN hN7 hC hC4 hC1 ) vmX1_sayers mw427 [0, 1, 2, 3, 4, 5, 6, 7] rfl (by decide) 0 rfl rfl (As := [.int b, .int (1 : Int32)]) (rest := [.ref (a 0)]) rfl rfl hl.1 (Nat.le_of_ble_eq_true rfl) ⟨Nat.le_of_ble_eq_true rfl, Nat.le_of_ble_eq_true rfl⟩ ⟨Nat.le_refl _, Nat.le_refl _⟩ dX1_yes_4 (fun rx wx H locs hqx hW => ?_)
  obtain ⟨hrx, rfl⟩ := hqx
  have hW : AtC D (tyG cI cZ cN) Ax (pLand cI a L V) sx H locs := hW
  refine r_eq (y := (sy (L 0) (b) ((1 : Int32)) (N))) hrx ?_
  refine lv_aload_n hx hb dX1_yes_7 rfl (lv_at hl 0 rfl) ?_
  refine lv_iload_n hx hb dX1_yes_8 rfl (lv_at hl 1 rfl) ?_
  refine lv_iconst (v := (0 : Int32)) hx hb dX1_yes_9 rfl ?_
  refine callVI Sx hW (c_X1_sayers l D cI cZ cN a L V b (0 : Int32) N C hN hN7 hC hC4 hC1 ) vmX1_sayers mw427 [0, 1, 2, 3, 4, 5, 6, 7] rfl (by decide) 0 rfl rfl (As := [.int b, .int (0 : Int32)]) (rest := [.int (sy (L 0) (b) ((1 : Int32)) (N)), .ref (a 0)]) rfl rfl hl.1 (Nat.le_of_ble_eq_true rfl) ⟨Nat.le_of_ble_eq_true rfl, Nat.le_of_ble_eq_true rfl⟩ ⟨Nat.le_refl _, Nat.le_refl _⟩ dX1_yes_10 (fun rx wx H locs hqx hW => ?_)
  obtain ⟨hrx, rfl⟩ := hqx
  have hW : AtC D (tyG cI cZ cN) Ax (pLand cI a L V) sx H locs := hW
  refine r_eq (y := (sy (L 0) (b) ((0 : Int32)) (N))) hrx ?_
  refine lv_iload_n hx hb dX1_yes_13 rfl (lv_at hl 2 rfl) ?_
  refine lv_iload_n hx hb dX1_yes_14 rfl (lv_at hl 3 rfl) ?_
  refine callVI Sx hW (c_X1_votes l D cI cZ cN a L V (sy (L 0) (b) ((1 : Int32)) (N)) (sy (L 0) (b) ((0 : Int32)) (N)) la wi N C hN hN7 hC hC4 hC1 ) vmX1_votes mw431 [0, 1, 2, 3, 4, 5, 6, 7] rfl (by decide) 0 rfl rfl (As := [.int (sy (L 0) (b) ((1 : Int32)) (N)), .int (sy (L 0) (b) ((0 : Int32)) (N)), .int la, .int wi]) (rest := []) rfl rfl hl.1 (Nat.le_of_ble_eq_true rfl) ⟨Nat.le_of_ble_eq_true rfl, Nat.le_of_ble_eq_true rfl⟩ ⟨Nat.le_refl _, Nat.le_refl _⟩ dX1_yes_15 (fun rx wx H locs hqx hW => ?_)
  obtain ⟨hrx, rfl⟩ := hqx
  have hW : AtC D (tyG cI cZ cN) Ax (pLand cI a L V) sx H locs := hW
  refine r_eq (y := (vt (V 0) (N) ((sy (L 0) (b) ((1 : Int32)) (N))) ((sy (L 0) (b) ((0 : Int32)) (N))) (la) (wi) (C))) hrx ?_
  exact hret _ _ _ _ _ _ hW rfl rfl dX1_yes_18 (⟨rfl, rfl⟩)

set_option maxHeartbeats 4000000 in
set_option maxRecDepth 100000 in
theorem c_X1_no (l : Launch) (D : va_G) (cI cZ cN : ClassId) (a : Nat → Nat) (L V : NV) (b : Int32) (la : Int32) (wi : Int32) (N C : Nat) (hN : L 3 1 = nI N) (hN7 : N ≤ 7) (hC : L 3 0 = nI C) (hC4 : C ≤ 4) (hC1 : 1 ≤ C) : CtI l yX1_no cX1_no 4 (some .int) 2 D (tyG cI cZ cN) [.ref (a 0), .int b, .int la, .int wi] (pLand cI a L V) (fun r w => r = noI (L 0) (V 0) N C b la wi ∧ w = (pLand cI a L V)) := by
  refine CtI.of rfl (Nat.le_of_ble_eq_true rfl) ?_
  intro pg ev sx mx ax bx mt cx ls Qx Ax Sx hret hW hl
  have hx := Sx.1
  have hb := Sx.2.1
  have hl : lv_has ls 4 [(0, .ref (a 0)), (1, .int b), (2, .int la), (3, .int wi)] := hl
  refine lv_aload_n hx hb dX1_no_0 rfl (lv_at hl 0 rfl) ?_
  refine lv_aload_n hx hb dX1_no_1 rfl (lv_at hl 0 rfl) ?_
  refine lv_iload_n hx hb dX1_no_2 rfl (lv_at hl 1 rfl) ?_
  refine lv_iconst (v := (0 : Int32)) hx hb dX1_no_3 rfl ?_
  refine callVI Sx hW (c_X1_sayers l D cI cZ cN a L V b (0 : Int32) N C hN hN7 hC hC4 hC1 ) vmX1_sayers mw427 [0, 1, 2, 3, 4, 5, 6, 7] rfl (by decide) 0 rfl rfl (As := [.int b, .int (0 : Int32)]) (rest := [.ref (a 0)]) rfl rfl hl.1 (Nat.le_of_ble_eq_true rfl) ⟨Nat.le_of_ble_eq_true rfl, Nat.le_of_ble_eq_true rfl⟩ ⟨Nat.le_refl _, Nat.le_refl _⟩ dX1_no_4 (fun rx wx H locs hqx hW => ?_)
  obtain ⟨hrx, rfl⟩ := hqx
  have hW : AtC D (tyG cI cZ cN) Ax (pLand cI a L V) sx H locs := hW
  refine r_eq (y := (sy (L 0) (b) ((0 : Int32)) (N))) hrx ?_
  refine lv_aload_n hx hb dX1_no_7 rfl (lv_at hl 0 rfl) ?_
  refine lv_iload_n hx hb dX1_no_8 rfl (lv_at hl 1 rfl) ?_
  refine lv_iconst (v := (1 : Int32)) hx hb dX1_no_9 rfl ?_
  refine callVI Sx hW (c_X1_sayers l D cI cZ cN a L V b (1 : Int32) N C hN hN7 hC hC4 hC1 ) vmX1_sayers mw427 [0, 1, 2, 3, 4, 5, 6, 7] rfl (by decide) 0 rfl rfl (As := [.int b, .int (1 : Int32)]) (rest := [.int (sy (L 0) (b) ((0 : Int32)) (N)), .ref (a 0)]) rfl rfl hl.1 (Nat.le_of_ble_eq_true rfl) ⟨Nat.le_of_ble_eq_true rfl, Nat.le_of_ble_eq_true rfl⟩ ⟨Nat.le_refl _, Nat.le_refl _⟩ dX1_no_10 (fun rx wx H locs hqx hW => ?_)
  obtain ⟨hrx, rfl⟩ := hqx
  have hW : AtC D (tyG cI cZ cN) Ax (pLand cI a L V) sx H locs := hW
  refine r_eq (y := (sy (L 0) (b) ((1 : Int32)) (N))) hrx ?_
  refine lv_iload_n hx hb dX1_no_13 rfl (lv_at hl 2 rfl) ?_
  refine lv_iload_n hx hb dX1_no_14 rfl (lv_at hl 3 rfl) ?_
  refine callVI Sx hW (c_X1_votes l D cI cZ cN a L V (sy (L 0) (b) ((0 : Int32)) (N)) (sy (L 0) (b) ((1 : Int32)) (N)) la wi N C hN hN7 hC hC4 hC1 ) vmX1_votes mw431 [0, 1, 2, 3, 4, 5, 6, 7] rfl (by decide) 0 rfl rfl (As := [.int (sy (L 0) (b) ((0 : Int32)) (N)), .int (sy (L 0) (b) ((1 : Int32)) (N)), .int la, .int wi]) (rest := []) rfl rfl hl.1 (Nat.le_of_ble_eq_true rfl) ⟨Nat.le_of_ble_eq_true rfl, Nat.le_of_ble_eq_true rfl⟩ ⟨Nat.le_refl _, Nat.le_refl _⟩ dX1_no_15 (fun rx wx H locs hqx hW => ?_)
  obtain ⟨hrx, rfl⟩ := hqx
  have hW : AtC D (tyG cI cZ cN) Ax (pLand cI a L V) sx H locs := hW
  refine r_eq (y := (vt (V 0) (N) ((sy (L 0) (b) ((0 : Int32)) (N))) ((sy (L 0) (b) ((1 : Int32)) (N))) (la) (wi) (C))) hrx ?_
  exact hret _ _ _ _ _ _ hW rfl rfl dX1_no_18 (⟨rfl, rfl⟩)

set_option maxHeartbeats 4000000 in
set_option maxRecDepth 100000 in
theorem c_X1_passes (l : Launch) (D : va_G) (cI cZ cN : ClassId) (a : Nat → Nat) (L V : NV) (b : Int32) (la : Int32) (wi : Int32) (N C : Nat) (hN : L 3 1 = nI N) (hN7 : N ≤ 7) (hC : L 3 0 = nI C) (hC4 : C ≤ 4) (hC1 : 1 ≤ C) : CtI l yX1_passes cX1_passes 4 (some .boolean) 3 D (tyG cI cZ cN) [.ref (a 0), .int b, .int la, .int wi] (pLand cI a L V) (fun r w => r = psI (L 0) (V 0) N C b la wi ∧ w = (pLand cI a L V)) := by
  refine CtI.of rfl (Nat.le_of_ble_eq_true rfl) ?_
  intro pg ev sx mx ax bx mt cx ls Qx Ax Sx hret hW hl
  have hx := Sx.1
  have hb := Sx.2.1
  have hl : lv_has ls 4 [(0, .ref (a 0)), (1, .int b), (2, .int la), (3, .int wi)] := hl
  refine lv_aload_n hx hb dX1_passes_0 rfl (lv_at hl 0 rfl) ?_
  refine lv_iload_n hx hb dX1_passes_1 rfl (lv_at hl 1 rfl) ?_
  refine lv_iload_n hx hb dX1_passes_2 rfl (lv_at hl 2 rfl) ?_
  refine lv_iload_n hx hb dX1_passes_3 rfl (lv_at hl 3 rfl) ?_
  refine callVI Sx hW (c_X1_yes l D cI cZ cN a L V b la wi N C hN hN7 hC hC4 hC1 ) vmX1_yes mw443 [0, 1, 2, 3, 4, 5, 6, 7] rfl (by decide) 0 rfl rfl (As := [.int b, .int la, .int wi]) (rest := []) rfl rfl hl.1 (Nat.le_of_ble_eq_true rfl) ⟨Nat.le_of_ble_eq_true rfl, Nat.le_of_ble_eq_true rfl⟩ ⟨Nat.le_refl _, Nat.le_refl _⟩ dX1_passes_4 (fun rx wx H locs hqx hW => ?_)
  obtain ⟨hrx, rfl⟩ := hqx
  have hW : AtC D (tyG cI cZ cN) Ax (pLand cI a L V) sx H locs := hW
  refine r_eq (y := (yesI (L 0) (V 0) (N) (C) (b) (la) (wi))) hrx ?_
  refine lv_aload_n hx hb dX1_passes_7 rfl (lv_at hl 0 rfl) ?_
  refine lv_iload_n hx hb dX1_passes_8 rfl (lv_at hl 1 rfl) ?_
  refine lv_iload_n hx hb dX1_passes_9 rfl (lv_at hl 2 rfl) ?_
  refine lv_iload_n hx hb dX1_passes_10 rfl (lv_at hl 3 rfl) ?_
  refine callVI Sx hW (c_X1_no l D cI cZ cN a L V b la wi N C hN hN7 hC hC4 hC1 ) vmX1_no mw444 [0, 1, 2, 3, 4, 5, 6, 7] rfl (by decide) 0 rfl rfl (As := [.int b, .int la, .int wi]) (rest := [.int (yesI (L 0) (V 0) (N) (C) (b) (la) (wi))]) rfl rfl hl.1 (Nat.le_of_ble_eq_true rfl) ⟨Nat.le_of_ble_eq_true rfl, Nat.le_of_ble_eq_true rfl⟩ ⟨Nat.le_refl _, Nat.le_refl _⟩ dX1_passes_11 (fun rx wx H locs hqx hW => ?_)
  obtain ⟨hrx, rfl⟩ := hqx
  have hW : AtC D (tyG cI cZ cN) Ax (pLand cI a L V) sx H locs := hW
  refine r_eq (y := (noI (L 0) (V 0) (N) (C) (b) (la) (wi))) hrx ?_
  refine lv_icmp_le (tgt := 21) hx hb dX1_passes_14 rfl (fun c_14 => ?_) (fun c_14 => ?_)
  · refine lv_iconst (v := (0 : Int32)) hx hb dX1_passes_21 rfl ?_
    exact hret _ _ _ _ _ _ hW rfl rfl dX1_passes_22 (⟨by simp [psI, c_14], rfl⟩)
  · refine lv_iconst (v := (1 : Int32)) hx hb dX1_passes_17 rfl ?_
    refine lv_goto (tgt := 22) hx hb dX1_passes_18 rfl ?_
    exact hret _ _ _ _ _ _ hW rfl rfl dX1_passes_22 (⟨by simp [psI, c_14], rfl⟩)

set_option maxHeartbeats 4000000 in
set_option maxRecDepth 100000 in
theorem c_X1_passing (l : Launch) (D : va_G) (cI cZ cN : ClassId) (a : Nat → Nat) (L V : NV) (la : Int32) (N C : Nat) (hN : L 3 1 = nI N) (hN7 : N ≤ 7) (hC : L 3 0 = nI C) (hC4 : C ≤ 4) (hC1 : 1 ≤ C) : CtI l yX1_passing cX1_passing 4 (some .int) 4 D (tyG cI cZ cN) [.ref (a 0), .int la] (pLand cI a L V) (fun r w => r = psg (L 0) (V 0) N C la 5 ∧ w = (pLand cI a L V)) := by
  refine CtI.of rfl (Nat.le_of_ble_eq_true rfl) ?_
  intro pg ev sx mx ax bx mt cx ls Qx Ax Sx hret hW hl
  have hx := Sx.1
  have hb := Sx.2.1
  have hl : lv_has ls 4 [(0, .ref (a 0)), (1, .int la)] := hl
  refine lv_iconst (v := (0 : Int32)) hx hb dX1_passing_0 rfl ?_
  refine lv_istore_n (lv' := [(2, .int (0 : Int32)), (0, .ref (a 0)), (1, .int la)]) hx hb dX1_passing_1 rfl hl (by decide) rfl (fun ls hl => ?_)
  refine lv_iconst (v := (0 : Int32)) hx hb dX1_passing_2 rfl ?_
  refine lv_istore_n (lv' := [(3, .int (0 : Int32)), (2, .int (0 : Int32)), (0, .ref (a 0)), (1, .int la)]) hx hb dX1_passing_3 rfl hl (by decide) rfl (fun ls hl => ?_)
  have lp_4 : ∀ (n : Nat) (j : Nat), ((j ≤ 5)) → ((5 + 1 ≤ j + n)) → ∀ (H : Heap) (locs : List Loc) (ls : Array Slot), AtC D (tyG cI cZ cN) Ax (pLand cI a L V) sx H locs → lv_has ls 4 [(0, .ref (a 0)), (1, .int la), (2, .int (psg (L 0) (V 0) N C la j)), (3, .int (nI j))] → W pg l ev (rmN 4) sx mx ax bx mt cx H locs 0 0 Qx (F0 mx 4 ls []) := by
    intro n
    induction n with
    | zero =>
      intro j hj_4 hn_4 H locs ls hW hl
      exact absurd hn_4 (by omega)
    | succ n ih4 =>
      intro j hj_4 hn_4 H locs ls hW hl
      refine lv_iload_n hx hb dX1_passing_4 rfl (lv_at hl 3 rfl) ?_
      refine lv_iconst (v := (5 : Int32)) hx hb dX1_passing_5 rfl ?_
      refine lv_icmp_ge (tgt := 32) hx hb dX1_passing_6 rfl (fun c_6 => ?_) (fun c_6 => ?_)
      · have ge_6 : 5 ≤ j := (nI_leI (a := 5) (b := j) (by omega) (by omega)).mp c_6
        have ee_6 : 5 = j := by omega
        subst ee_6
        refine lv_iload_n hx hb dX1_passing_32 rfl (lv_at hl 2 rfl) ?_
        exact hret _ _ _ _ _ _ hW rfl rfl dX1_passing_33 (⟨rfl, rfl⟩)
      · have lt_6 : j < 5 := Nat.not_le.mp (fun h => c_6 ((nI_leI (a := 5) (b := j) (by omega) (by omega)).mpr h))
        refine lv_aload_n hx hb dX1_passing_9 rfl (lv_at hl 0 rfl) ?_
        refine lv_iload_n hx hb dX1_passing_10 rfl (lv_at hl 3 rfl) ?_
        refine lv_iload_n hx hb dX1_passing_11 rfl (lv_at hl 1 rfl) ?_
        refine lv_bipush (v := (-9 : Int32)) hx hb dX1_passing_12 rfl ?_
        refine callVI Sx hW (c_X1_passes l D cI cZ cN a L V (nI j) la (-9 : Int32) N C hN hN7 hC hC4 hC1 ) vmX1_passes mw449 [0, 1, 2, 3, 4, 5, 6, 7] rfl (by decide) 0 rfl rfl (As := [.int (nI j), .int la, .int (-9 : Int32)]) (rest := []) rfl rfl hl.1 (Nat.le_of_ble_eq_true rfl) ⟨Nat.le_of_ble_eq_true rfl, Nat.le_of_ble_eq_true rfl⟩ ⟨Nat.le_refl _, Nat.le_refl _⟩ dX1_passing_14 (fun rx wx H locs hqx hW => ?_)
        obtain ⟨hrx, rfl⟩ := hqx
        have hW : AtC D (tyG cI cZ cN) Ax (pLand cI a L V) sx H locs := hW
        refine r_eq (y := (psI (L 0) (V 0) (N) (C) ((nI j)) (la) ((-9 : Int32)))) hrx ?_
        refine lv_if_eq (tgt := 26) hx hb dX1_passing_17 rfl (fun c_17 => ?_) (fun c_17 => ?_)
        · refine lv_iinc (v := (nI (j + 1))) (lv' := [(3, .int (nI (j + 1))), (0, .ref (a 0)), (1, .int la), (2, .int (psg (L 0) (V 0) N C la j))]) hx hb dX1_passing_26 hl (k := 3) rfl (inc_n j 1) (by decide) rfl (fun ls hl => ?_)
          refine lv_goto (tgt := 4) hx hb dX1_passing_29 rfl ?_
          have hl_1 : lv_has ls 4 [(0, .ref (a 0)), (1, .int la), (2, .int (psg (L 0) (V 0) N C la (j + 1))), (3, .int (nI (j + 1)))] := by
            rw [show (psg (L 0) (V 0) N C la (j + 1)) = (psg (L 0) (V 0) N C la j) from by simp [psg, c_6, c_17]]
            exact lv_sub hl [1, 2, 3, 0] rfl
          exact ih4 (j + 1) (by omega) (by omega) _ _ _ hW hl_1
        · refine lv_iload_n hx hb dX1_passing_20 rfl (lv_at hl 2 rfl) ?_
          refine lv_iconst (v := (1 : Int32)) hx hb dX1_passing_21 rfl ?_
          refine lv_iload_n hx hb dX1_passing_22 rfl (lv_at hl 3 rfl) ?_
          refine lv_ishl hx hb dX1_passing_23 ?_
          refine lv_ior hx hb dX1_passing_24 ?_
          refine lv_istore_n (lv' := [(2, .int ((psg (L 0) (V 0) N C la j) ||| ((1 : Int32) <<< ((nI j) &&& 31)))), (0, .ref (a 0)), (1, .int la), (3, .int (nI j))]) hx hb dX1_passing_25 rfl hl (by decide) rfl (fun ls hl => ?_)
          refine lv_iinc (v := (nI (j + 1))) (lv' := [(3, .int (nI (j + 1))), (2, .int ((psg (L 0) (V 0) N C la j) ||| ((1 : Int32) <<< ((nI j) &&& 31)))), (0, .ref (a 0)), (1, .int la)]) hx hb dX1_passing_26 hl (k := 3) rfl (inc_n j 1) (by decide) rfl (fun ls hl => ?_)
          refine lv_goto (tgt := 4) hx hb dX1_passing_29 rfl ?_
          have hl_2 : lv_has ls 4 [(0, .ref (a 0)), (1, .int la), (2, .int (psg (L 0) (V 0) N C la (j + 1))), (3, .int (nI (j + 1)))] := by
            rw [show (psg (L 0) (V 0) N C la (j + 1)) = ((psg (L 0) (V 0) N C la j) ||| ((1 : Int32) <<< ((nI j) &&& 31))) from by simp [psg, c_6, c_17]]
            exact lv_sub hl [2, 3, 1, 0] rfl
          exact ih4 (j + 1) (by omega) (by omega) _ _ _ hW hl_2
  exact lp_4 (5 + 1) 0 (by omega) (by omega) _ _ _ hW (lv_sub hl [2, 3, 1, 0] rfl)

set_option maxHeartbeats 4000000 in
set_option maxRecDepth 100000 in
theorem c_X1_sway (l : Launch) (D : va_G) (cI cZ cN : ClassId) (a : Nat → Nat) (L V : NV) (b : Int32) (N C : Nat) (hN : L 3 1 = nI N) (hN7 : N ≤ 7) (hC : L 3 0 = nI C) (hC4 : C ≤ 4) (hC1 : 1 ≤ C) : CtI l yX1_sway cX1_sway 5 (some .int) 4 D (tyG cI cZ cN) [.ref (a 0), .int b] (pLand cI a L V) (fun r w => r = swy (L 0) (V 0) N C b (V 3 1) C ∧ w = (pLand cI a L V)) := by
  refine CtI.of rfl (Nat.le_of_ble_eq_true rfl) ?_
  intro pg ev sx mx ax bx mt cx ls Qx Ax Sx hret hW hl
  have hx := Sx.1
  have hb := Sx.2.1
  have hl : lv_has ls 5 [(0, .ref (a 0)), (1, .int b)] := hl
  refine lv_aload_n hx hb dX1_sway_0 rfl (lv_at hl 0 rfl) ?_
  refine lv_iload_n hx hb dX1_sway_1 rfl (lv_at hl 1 rfl) ?_
  refine lv_aload_n hx hb dX1_sway_2 rfl (lv_at hl 0 rfl) ?_
  refine r_get Sx hW 0 rfl rfl bw_wsX10 3 (by decide) (v := .ref (a 4)) rfl mw71 dX1_sway_3 ?_
  refine r_get Sx hW 4 rfl rfl bw_wsX20 4 (by decide) (v := .int (V 3 1)) rfl mw173 dX1_sway_6 ?_
  refine lv_bipush (v := (-9 : Int32)) hx hb dX1_sway_9 rfl ?_
  refine callVI Sx hW (c_X1_passes l D cI cZ cN a L V b (V 3 1) (-9 : Int32) N C hN hN7 hC hC4 hC1 ) vmX1_passes mw449 [0, 1, 2, 3, 4, 5, 6, 7] rfl (by decide) 0 rfl rfl (As := [.int b, .int (V 3 1), .int (-9 : Int32)]) (rest := []) rfl rfl hl.1 (Nat.le_of_ble_eq_true rfl) ⟨Nat.le_of_ble_eq_true rfl, Nat.le_of_ble_eq_true rfl⟩ ⟨Nat.le_refl _, Nat.le_refl _⟩ dX1_sway_11 (fun rx wx H locs hqx hW => ?_)
  obtain ⟨hrx, rfl⟩ := hqx
  have hW : AtC D (tyG cI cZ cN) Ax (pLand cI a L V) sx H locs := hW
  refine r_eq (y := (psI (L 0) (V 0) (N) (C) (b) ((V 3 1)) ((-9 : Int32)))) hrx ?_
  refine lv_istore_n (lv' := [(2, .int (psI (L 0) (V 0) (N) (C) (b) ((V 3 1)) ((-9 : Int32)))), (0, .ref (a 0)), (1, .int b)]) hx hb dX1_sway_14 rfl hl (by decide) rfl (fun ls hl => ?_)
  refine lv_iconst (v := (0 : Int32)) hx hb dX1_sway_15 rfl ?_
  refine lv_istore_n (lv' := [(3, .int (0 : Int32)), (2, .int (psI (L 0) (V 0) (N) (C) (b) ((V 3 1)) ((-9 : Int32)))), (0, .ref (a 0)), (1, .int b)]) hx hb dX1_sway_16 rfl hl (by decide) rfl (fun ls hl => ?_)
  refine lv_iconst (v := (0 : Int32)) hx hb dX1_sway_17 rfl ?_
  refine lv_istore (lv' := [(4, .int (0 : Int32)), (3, .int (0 : Int32)), (2, .int (psI (L 0) (V 0) (N) (C) (b) ((V 3 1)) ((-9 : Int32)))), (0, .ref (a 0)), (1, .int b)]) hx hb dX1_sway_18 hl (by decide) rfl (fun ls hl => ?_)
  have lp_20 : ∀ (n : Nat) (j : Nat), ((j ≤ C)) → ((C + 1 ≤ j + n)) → ∀ (H : Heap) (locs : List Loc) (ls : Array Slot), AtC D (tyG cI cZ cN) Ax (pLand cI a L V) sx H locs → lv_has ls 5 [(0, .ref (a 0)), (1, .int b), (2, .int (psI (L 0) (V 0) (N) (C) (b) ((V 3 1)) ((-9 : Int32)))), (3, .int (swy (L 0) (V 0) N C b (V 3 1) j)), (4, .int (nI j))] → W pg l ev (rmN 4) sx mx ax bx mt cx H locs 0 0 Qx (F0 mx 20 ls []) := by
    intro n
    induction n with
    | zero =>
      intro j hj_20 hn_20 H locs ls hW hl
      exact absurd hn_20 (by omega)
    | succ n ih20 =>
      intro j hj_20 hn_20 H locs ls hW hl
      refine lv_iload hx hb dX1_sway_20 (lv_at hl 4 rfl) ?_
      refine lv_aload_n hx hb dX1_sway_22 rfl (lv_at hl 0 rfl) ?_
      refine r_get Sx hW 0 rfl rfl bw_wsX10 4 (by decide) (v := .int (L 3 0)) rfl mw72 dX1_sway_23 ?_
      refine r_eq (y := (nI C)) hC ?_
      refine lv_icmp_ge (tgt := 60) hx hb dX1_sway_26 rfl (fun c_26 => ?_) (fun c_26 => ?_)
      · have ge_26 : C ≤ j := (nI_leI (a := C) (b := j) (by omega) (by omega)).mp c_26
        have ee_26 : C = j := by omega
        subst ee_26
        refine lv_iload_n hx hb dX1_sway_60 rfl (lv_at hl 3 rfl) ?_
        exact hret _ _ _ _ _ _ hW rfl rfl dX1_sway_61 (⟨rfl, rfl⟩)
      · have lt_26 : j < C := Nat.not_le.mp (fun h => c_26 ((nI_leI (a := C) (b := j) (by omega) (by omega)).mpr h))
        refine lv_aload_n hx hb dX1_sway_29 rfl (lv_at hl 0 rfl) ?_
        refine lv_iload_n hx hb dX1_sway_30 rfl (lv_at hl 1 rfl) ?_
        refine lv_aload_n hx hb dX1_sway_31 rfl (lv_at hl 0 rfl) ?_
        refine r_get Sx hW 0 rfl rfl bw_wsX10 3 (by decide) (v := .ref (a 4)) rfl mw71 dX1_sway_32 ?_
        refine r_get Sx hW 4 rfl rfl bw_wsX20 4 (by decide) (v := .int (V 3 1)) rfl mw173 dX1_sway_35 ?_
        refine lv_iload hx hb dX1_sway_38 (lv_at hl 4 rfl) ?_
        refine callVI Sx hW (c_X1_passes l D cI cZ cN a L V b (V 3 1) (nI j) N C hN hN7 hC hC4 hC1 ) vmX1_passes mw449 [0, 1, 2, 3, 4, 5, 6, 7] rfl (by decide) 0 rfl rfl (As := [.int b, .int (V 3 1), .int (nI j)]) (rest := []) rfl rfl hl.1 (Nat.le_of_ble_eq_true rfl) ⟨Nat.le_of_ble_eq_true rfl, Nat.le_of_ble_eq_true rfl⟩ ⟨Nat.le_refl _, Nat.le_refl _⟩ dX1_sway_40 (fun rx wx H locs hqx hW => ?_)
        obtain ⟨hrx, rfl⟩ := hqx
        have hW : AtC D (tyG cI cZ cN) Ax (pLand cI a L V) sx H locs := hW
        refine r_eq (y := (psI (L 0) (V 0) (N) (C) (b) ((V 3 1)) ((nI j)))) hrx ?_
        refine lv_iload_n hx hb dX1_sway_43 rfl (lv_at hl 2 rfl) ?_
        refine lv_icmp_eq (tgt := 54) hx hb dX1_sway_44 rfl (fun c_44 => ?_) (fun c_44 => ?_)
        · refine lv_iinc (v := (nI (j + 1))) (lv' := [(4, .int (nI (j + 1))), (0, .ref (a 0)), (1, .int b), (2, .int (psI (L 0) (V 0) (N) (C) (b) ((V 3 1)) ((-9 : Int32)))), (3, .int (swy (L 0) (V 0) N C b (V 3 1) j))]) hx hb dX1_sway_54 hl (k := 4) rfl (inc_n j 1) (by decide) rfl (fun ls hl => ?_)
          refine lv_goto (tgt := 20) hx hb dX1_sway_57 rfl ?_
          have hl_1 : lv_has ls 5 [(0, .ref (a 0)), (1, .int b), (2, .int (psI (L 0) (V 0) (N) (C) (b) ((V 3 1)) ((-9 : Int32)))), (3, .int (swy (L 0) (V 0) N C b (V 3 1) (j + 1))), (4, .int (nI (j + 1)))] := by
            rw [show (swy (L 0) (V 0) N C b (V 3 1) (j + 1)) = (swy (L 0) (V 0) N C b (V 3 1) j) from by simp [swy, c_26, c_44]]
            exact lv_sub hl [1, 2, 3, 4, 0] rfl
          exact ih20 (j + 1) (by omega) (by omega) _ _ _ hW hl_1
        · refine lv_iload_n hx hb dX1_sway_47 rfl (lv_at hl 3 rfl) ?_
          refine lv_iconst (v := (1 : Int32)) hx hb dX1_sway_48 rfl ?_
          refine lv_iload hx hb dX1_sway_49 (lv_at hl 4 rfl) ?_
          refine lv_ishl hx hb dX1_sway_51 ?_
          refine lv_ior hx hb dX1_sway_52 ?_
          refine lv_istore_n (lv' := [(3, .int ((swy (L 0) (V 0) N C b (V 3 1) j) ||| ((1 : Int32) <<< ((nI j) &&& 31)))), (0, .ref (a 0)), (1, .int b), (2, .int (psI (L 0) (V 0) (N) (C) (b) ((V 3 1)) ((-9 : Int32)))), (4, .int (nI j))]) hx hb dX1_sway_53 rfl hl (by decide) rfl (fun ls hl => ?_)
          refine lv_iinc (v := (nI (j + 1))) (lv' := [(4, .int (nI (j + 1))), (3, .int ((swy (L 0) (V 0) N C b (V 3 1) j) ||| ((1 : Int32) <<< ((nI j) &&& 31)))), (0, .ref (a 0)), (1, .int b), (2, .int (psI (L 0) (V 0) (N) (C) (b) ((V 3 1)) ((-9 : Int32))))]) hx hb dX1_sway_54 hl (k := 4) rfl (inc_n j 1) (by decide) rfl (fun ls hl => ?_)
          refine lv_goto (tgt := 20) hx hb dX1_sway_57 rfl ?_
          have hl_2 : lv_has ls 5 [(0, .ref (a 0)), (1, .int b), (2, .int (psI (L 0) (V 0) (N) (C) (b) ((V 3 1)) ((-9 : Int32)))), (3, .int (swy (L 0) (V 0) N C b (V 3 1) (j + 1))), (4, .int (nI (j + 1)))] := by
            rw [show (swy (L 0) (V 0) N C b (V 3 1) (j + 1)) = ((swy (L 0) (V 0) N C b (V 3 1) j) ||| ((1 : Int32) <<< ((nI j) &&& 31))) from by simp [swy, c_26, c_44]]
            exact lv_sub hl [2, 3, 4, 1, 0] rfl
          exact ih20 (j + 1) (by omega) (by omega) _ _ _ hW hl_2
  exact lp_20 (C + 1) 0 (by omega) (by omega) _ _ _ hW (lv_sub hl [3, 4, 2, 1, 0] rfl)
