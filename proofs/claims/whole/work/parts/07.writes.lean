/-! what the writing methods of Now, Land, Past, Claims make -/
def cpN (U V : NV) : NV := upA (upA (upA (upA V 0 (va_cpy (U 0) (V 0) 0 0 7)) 1 (va_cpy (U 1) (V 1) 0 0 7)) 2 (va_cpy (U 2) (V 2) 0 0 7)) 3 (upd (upd (upd (upd (V 3) 0 (U 3 0)) 1 (U 3 1)) 2 (U 3 2)) 3 (U 3 3))
def cpL (M L : NV) : NV := upA (upA (upA L 0 (va_cpy (M 0) (L 0) 0 0 7)) 1 (va_cpy (M 1) (L 1) 0 0 7)) 3 (upd (upd (L 3) 0 (M 3 0)) 1 (M 3 1))
def emL (L : NV) : NV := upA L 3 (upd (upd (L 3) 0 4) 1 0)
def emV (V : NV) : NV := upA V 3 (upd (upd (upd (upd (V 3) 0 0) 1 15) 2 0) 3 0)
def apL (L : NV) (N : Nat) (b : Int32) : NV := upA (upA (upA L 0 (upd (L 0) N b)) 1 (upd (L 1) N 0)) 3 (upd (L 3) 1 (nI (N + 1)))
def apV (V : NV) (N : Nat) (n w : Int32) : NV := upA (upA (upA V 0 (upd (V 0) N n)) 1 (upd (V 1) N w)) 2 (upd (V 2) N 0)
def duF (w t d : Nat → Int32) : Nat → (Nat → Int32)
  | 0 => d
  | i + 1 => upd (duF w t d i) i (if w i < t i then w i else t i)
def wlF (d w : Nat → Int32) : Nat → (Nat → Int32)
  | 0 => w
  | i + 1 => upd (wlF d w i) i (wlF d w i i - d i)
def pdF (d : Nat → Int32) : Nat → Int32
  | 0 => 0
  | i + 1 => pdF d i + d i
def duV (L V : NV) (N : Nat) : Nat → Int32 := duF (V 1) (fun i => txI (V 0) (V 1) N (V 3 1) i (V 0 i)) (L 2) N
def pyL (L V : NV) (N : Nat) : NV := upA L 2 (duV L V N)
def pyV (L V : NV) (N : Nat) : NV := upA (upA V 1 (wlF (duV L V N) (V 1) N)) 3 (upd (upd (V 3) 2 (if V 3 2 + pdF (duV L V N) N < 999999 then V 3 2 + pdF (duV L V N) N else 999999)) 3 (V 3 3 + 1))
def pastS (S : NV) (x y : Int32) : NV := upA S 0 (upd (upd (S 0) 0 x) 1 y)
def addR (z : Nat) : Int32 := if nI z < 6 then nI (z + 1) else -3
def addS (S : NV) (x y : Int32) (z : Nat) : NV := if nI z < 6 then upA (upA (upA S 0 (upd (S 0) z x)) 1 (upd (S 1) z y)) 2 (upd (S 2) 0 (nI (z + 1))) else S
def agI (b : Int32) (s t : Nat → Int32) : Nat → Int32
  | 0 => 1
  | i + 1 => if agI b s t i = 0 then 0 else if bitI b (s i) = t i then 1 else 0
theorem agI_01 (b : Int32) (s t : Nat → Int32) : ∀ n, agI b s t n = 0 ∨ agI b s t n = 1
  | 0 => Or.inr rfl
  | n + 1 => by rw [agI]; split; exact Or.inl rfl; split; exact Or.inr rfl; exact Or.inl rfl
theorem agI_mono (b : Int32) (s t : Nat → Int32) (i : Nat) (h : agI b s t i = 0) : ∀ k, agI b s t (i + k) = 0
  | 0 => h
  | k + 1 => by rw [← Nat.add_assoc, agI, if_pos (agI_mono b s t i h k)]
theorem agI_nar (b : Int32) (s t : Nat → Int32) (n : Nat) : narrow .boolean (.int (agI b s t n)) = .int (agI b s t n) := by
  rcases agI_01 b s t n with h | h <;> rw [h] <;> rfl

set_option maxHeartbeats 4000000 in
set_option maxRecDepth 100000 in
theorem c_X2_take (l : Launch) (D : va_G) (cI cZ cN : ClassId) (a b : Nat → Nat) (V U : NV) : CtV l yX2_take cX2_take 2 1 D (tyG cI cZ cN) [.ref (a 0), .ref (b 0)] ((pNow cI a V) ++ (pNow cI b U)) (fun w => w = pNow cI a (cpN U V) ++ pNow cI b U) := by
  refine CtV.of rfl (Nat.le_of_ble_eq_true rfl) ?_
  intro pg ev sx mx ax bx mt cx ls Qx Ax Sx hret hW hl
  have hx := Sx.1
  have hb := Sx.2.1
  have hl : lv_has ls 2 [(0, .ref (a 0)), (1, .ref (b 0))] := hl
  refine lv_aload_n hx hb dX2_take_0 rfl (lv_at hl 1 rfl) ?_
  refine r_get Sx hW 4 rfl rfl bw_wsX20 0 (by decide) (v := .ref (b 1)) rfl mw77 dX2_take_1 ?_
  refine lv_iconst (v := (0 : Int32)) hx hb dX2_take_4 rfl ?_
  refine lv_aload_n hx hb dX2_take_5 rfl (lv_at hl 0 rfl) ?_
  refine r_get Sx hW 0 rfl rfl bw_wsX20 0 (by decide) (v := .ref (a 1)) rfl mw77 dX2_take_6 ?_
  refine lv_iconst (v := (0 : Int32)) hx hb dX2_take_9 rfl ?_
  refine lv_bipush (v := (7 : Int32)) hx hb dX2_take_10 rfl ?_
  refine r_copy Sx hW 5 1 rfl rfl 0 rfl mw241 mw234 mw235 mw236 7 (by decide) (by decide) (by decide) hl.1 (by decide) (Nat.le_of_ble_eq_true rfl) dX2_take_12 (ws' := ((pNow cI a (upA V 0 (va_cpy (U 0) (V 0) 0 0 7))) ++ (pNow cI b U))) rfl (fun H locs hW => ?_)
  refine lv_aload_n hx hb dX2_take_15 rfl (lv_at hl 1 rfl) ?_
  refine r_get Sx hW 4 rfl rfl bw_wsX20 1 (by decide) (v := .ref (b 2)) rfl mw78 dX2_take_16 ?_
  refine lv_iconst (v := (0 : Int32)) hx hb dX2_take_19 rfl ?_
  refine lv_aload_n hx hb dX2_take_20 rfl (lv_at hl 0 rfl) ?_
  refine r_get Sx hW 0 rfl rfl bw_wsX20 1 (by decide) (v := .ref (a 2)) rfl mw78 dX2_take_21 ?_
  refine lv_iconst (v := (0 : Int32)) hx hb dX2_take_24 rfl ?_
  refine lv_bipush (v := (7 : Int32)) hx hb dX2_take_25 rfl ?_
  refine r_copy Sx hW 6 2 rfl rfl 0 rfl mw241 mw234 mw235 mw236 7 (by decide) (by decide) (by decide) hl.1 (by decide) (Nat.le_of_ble_eq_true rfl) dX2_take_27 (ws' := ((pNow cI a (upA (upA V 0 (va_cpy (U 0) (V 0) 0 0 7)) 1 (va_cpy (U 1) (V 1) 0 0 7))) ++ (pNow cI b U))) rfl (fun H locs hW => ?_)
  refine lv_aload_n hx hb dX2_take_30 rfl (lv_at hl 1 rfl) ?_
  refine r_get Sx hW 4 rfl rfl bw_wsX20 2 (by decide) (v := .ref (b 3)) rfl mw79 dX2_take_31 ?_
  refine lv_iconst (v := (0 : Int32)) hx hb dX2_take_34 rfl ?_
  refine lv_aload_n hx hb dX2_take_35 rfl (lv_at hl 0 rfl) ?_
  refine r_get Sx hW 0 rfl rfl bw_wsX20 2 (by decide) (v := .ref (a 3)) rfl mw79 dX2_take_36 ?_
  refine lv_iconst (v := (0 : Int32)) hx hb dX2_take_39 rfl ?_
  refine lv_bipush (v := (7 : Int32)) hx hb dX2_take_40 rfl ?_
  refine r_copy Sx hW 7 3 rfl rfl 0 rfl mw241 mw234 mw235 mw236 7 (by decide) (by decide) (by decide) hl.1 (by decide) (Nat.le_of_ble_eq_true rfl) dX2_take_42 (ws' := ((pNow cI a (upA (upA (upA V 0 (va_cpy (U 0) (V 0) 0 0 7)) 1 (va_cpy (U 1) (V 1) 0 0 7)) 2 (va_cpy (U 2) (V 2) 0 0 7))) ++ (pNow cI b U))) rfl (fun H locs hW => ?_)
  refine lv_aload_n hx hb dX2_take_45 rfl (lv_at hl 0 rfl) ?_
  refine lv_aload_n hx hb dX2_take_46 rfl (lv_at hl 1 rfl) ?_
  refine r_get Sx hW 4 rfl rfl bw_wsX20 3 (by decide) (v := .int (U 3 0)) rfl mw80 dX2_take_47 ?_
  refine r_put Sx hW 0 rfl rfl bw_wsX20 tyX2_ok nmX2 3 (by decide) mw80 rfl rfl rfl (Nat.le_of_ble_eq_true rfl) dX2_take_50 (ws' := ((pNow cI a (upA (upA (upA (upA V 0 (va_cpy (U 0) (V 0) 0 0 7)) 1 (va_cpy (U 1) (V 1) 0 0 7)) 2 (va_cpy (U 2) (V 2) 0 0 7)) 3 (upd (V 3) 0 (U 3 0)))) ++ (pNow cI b U))) rfl (fun H locs hW => ?_)
  refine lv_aload_n hx hb dX2_take_53 rfl (lv_at hl 0 rfl) ?_
  refine lv_aload_n hx hb dX2_take_54 rfl (lv_at hl 1 rfl) ?_
  refine r_get Sx hW 4 rfl rfl bw_wsX20 4 (by decide) (v := .int (U 3 1)) rfl mw81 dX2_take_55 ?_
  refine r_put Sx hW 0 rfl rfl bw_wsX20 tyX2_ok nmX2 4 (by decide) mw81 rfl rfl rfl (Nat.le_of_ble_eq_true rfl) dX2_take_58 (ws' := ((pNow cI a (upA (upA (upA (upA V 0 (va_cpy (U 0) (V 0) 0 0 7)) 1 (va_cpy (U 1) (V 1) 0 0 7)) 2 (va_cpy (U 2) (V 2) 0 0 7)) 3 (upd (upd (V 3) 0 (U 3 0)) 1 (U 3 1)))) ++ (pNow cI b U))) rfl (fun H locs hW => ?_)
  refine lv_aload_n hx hb dX2_take_61 rfl (lv_at hl 0 rfl) ?_
  refine lv_aload_n hx hb dX2_take_62 rfl (lv_at hl 1 rfl) ?_
  refine r_get Sx hW 4 rfl rfl bw_wsX20 5 (by decide) (v := .int (U 3 2)) rfl mw82 dX2_take_63 ?_
  refine r_put Sx hW 0 rfl rfl bw_wsX20 tyX2_ok nmX2 5 (by decide) mw82 rfl rfl rfl (Nat.le_of_ble_eq_true rfl) dX2_take_66 (ws' := ((pNow cI a (upA (upA (upA (upA V 0 (va_cpy (U 0) (V 0) 0 0 7)) 1 (va_cpy (U 1) (V 1) 0 0 7)) 2 (va_cpy (U 2) (V 2) 0 0 7)) 3 (upd (upd (upd (V 3) 0 (U 3 0)) 1 (U 3 1)) 2 (U 3 2)))) ++ (pNow cI b U))) rfl (fun H locs hW => ?_)
  refine lv_aload_n hx hb dX2_take_69 rfl (lv_at hl 0 rfl) ?_
  refine lv_aload_n hx hb dX2_take_70 rfl (lv_at hl 1 rfl) ?_
  refine r_get Sx hW 4 rfl rfl bw_wsX20 6 (by decide) (v := .int (U 3 3)) rfl mw83 dX2_take_71 ?_
  refine r_put Sx hW 0 rfl rfl bw_wsX20 tyX2_ok nmX2 6 (by decide) mw83 rfl rfl rfl (Nat.le_of_ble_eq_true rfl) dX2_take_74 (ws' := ((pNow cI a (upA (upA (upA (upA V 0 (va_cpy (U 0) (V 0) 0 0 7)) 1 (va_cpy (U 1) (V 1) 0 0 7)) 2 (va_cpy (U 2) (V 2) 0 0 7)) 3 (upd (upd (upd (upd (V 3) 0 (U 3 0)) 1 (U 3 1)) 2 (U 3 2)) 3 (U 3 3)))) ++ (pNow cI b U))) rfl (fun H locs hW => ?_)
  exact hret _ _ _ _ _ hW rfl dX2_take_77 rfl

set_option maxHeartbeats 4000000 in
set_option maxRecDepth 100000 in
theorem c_X1_take (l : Launch) (D : va_G) (cI cZ cN : ClassId) (a b : Nat → Nat) (L V M U : NV) : CtV l yX1_take cX1_take 2 2 D (tyG cI cZ cN) [.ref (a 0), .ref (b 0)] ((pLand cI a L V) ++ (pLand cI b M U)) (fun w => w = pLand cI a (cpL M L) (cpN U V) ++ pLand cI b M U) := by
  refine CtV.of rfl (Nat.le_of_ble_eq_true rfl) ?_
  intro pg ev sx mx ax bx mt cx ls Qx Ax Sx hret hW hl
  have hx := Sx.1
  have hb := Sx.2.1
  have hl : lv_has ls 2 [(0, .ref (a 0)), (1, .ref (b 0))] := hl
  refine lv_aload_n hx hb dX1_take_0 rfl (lv_at hl 1 rfl) ?_
  refine r_get Sx hW 8 rfl rfl bw_wsX10 0 (by decide) (v := .ref (b 1)) rfl mw67 dX1_take_1 ?_
  refine lv_iconst (v := (0 : Int32)) hx hb dX1_take_4 rfl ?_
  refine lv_aload_n hx hb dX1_take_5 rfl (lv_at hl 0 rfl) ?_
  refine r_get Sx hW 0 rfl rfl bw_wsX10 0 (by decide) (v := .ref (a 1)) rfl mw67 dX1_take_6 ?_
  refine lv_iconst (v := (0 : Int32)) hx hb dX1_take_9 rfl ?_
  refine lv_bipush (v := (7 : Int32)) hx hb dX1_take_10 rfl ?_
  refine r_copy Sx hW 9 1 rfl rfl 0 rfl mw233 mw234 mw235 mw236 7 (by decide) (by decide) (by decide) hl.1 (by decide) (Nat.le_of_ble_eq_true rfl) dX1_take_12 (ws' := ((pLand cI a (upA L 0 (va_cpy (M 0) (L 0) 0 0 7)) V) ++ (pLand cI b M U))) rfl (fun H locs hW => ?_)
  refine lv_aload_n hx hb dX1_take_15 rfl (lv_at hl 1 rfl) ?_
  refine r_get Sx hW 8 rfl rfl bw_wsX10 1 (by decide) (v := .ref (b 2)) rfl mw68 dX1_take_16 ?_
  refine lv_iconst (v := (0 : Int32)) hx hb dX1_take_19 rfl ?_
  refine lv_aload_n hx hb dX1_take_20 rfl (lv_at hl 0 rfl) ?_
  refine r_get Sx hW 0 rfl rfl bw_wsX10 1 (by decide) (v := .ref (a 2)) rfl mw68 dX1_take_21 ?_
  refine lv_iconst (v := (0 : Int32)) hx hb dX1_take_24 rfl ?_
  refine lv_bipush (v := (7 : Int32)) hx hb dX1_take_25 rfl ?_
  refine r_copy Sx hW 10 2 rfl rfl 0 rfl mw233 mw234 mw235 mw236 7 (by decide) (by decide) (by decide) hl.1 (by decide) (Nat.le_of_ble_eq_true rfl) dX1_take_27 (ws' := ((pLand cI a (upA (upA L 0 (va_cpy (M 0) (L 0) 0 0 7)) 1 (va_cpy (M 1) (L 1) 0 0 7)) V) ++ (pLand cI b M U))) rfl (fun H locs hW => ?_)
  refine lv_aload_n hx hb dX1_take_30 rfl (lv_at hl 0 rfl) ?_
  refine r_get Sx hW 0 rfl rfl bw_wsX10 3 (by decide) (v := .ref (a 4)) rfl mw71 dX1_take_31 ?_
  refine lv_aload_n hx hb dX1_take_34 rfl (lv_at hl 1 rfl) ?_
  refine r_get Sx hW 8 rfl rfl bw_wsX10 3 (by decide) (v := .ref (b 4)) rfl mw71 dX1_take_35 ?_
  refine callVV Sx hW (c_X2_take l D cI cZ cN (fun i => a (i + 4)) (fun i => b (i + 4)) V U) vmX2_take mw237 [4, 5, 6, 7, 12, 13, 14, 15] rfl (by decide) 0 rfl rfl (As := [.ref (b 4)]) (rest := []) rfl rfl hl.1 (Nat.le_of_ble_eq_true rfl) ⟨Nat.le_of_ble_eq_true rfl, Nat.le_of_ble_eq_true rfl⟩ ⟨Nat.le_refl _, Nat.le_refl _⟩ dX1_take_38 (fun wx H locs hqx hW => ?_)
  obtain rfl := hqx
  have hW : AtC D (tyG cI cZ cN) Ax ((pLand cI a (upA (upA L 0 (va_cpy (M 0) (L 0) 0 0 7)) 1 (va_cpy (M 1) (L 1) 0 0 7)) (cpN U V)) ++ (pLand cI b M U)) sx H locs := hW.re [0, 1, 2, 3, 8, 9, 10, 11] 16 (by decide) rfl rfl ⟨rfl, rfl, rfl, rfl, rfl, rfl, rfl, rfl, trivial⟩ (by decide +kernel) rfl rfl
  refine lv_aload_n hx hb dX1_take_41 rfl (lv_at hl 0 rfl) ?_
  refine lv_aload_n hx hb dX1_take_42 rfl (lv_at hl 1 rfl) ?_
  refine r_get Sx hW 8 rfl rfl bw_wsX10 4 (by decide) (v := .int (M 3 0)) rfl mw72 dX1_take_43 ?_
  refine r_put Sx hW 0 rfl rfl bw_wsX10 tyX1_ok nmX1 4 (by decide) mw72 rfl rfl rfl (Nat.le_of_ble_eq_true rfl) dX1_take_46 (ws' := ((pLand cI a (upA (upA (upA L 0 (va_cpy (M 0) (L 0) 0 0 7)) 1 (va_cpy (M 1) (L 1) 0 0 7)) 3 (upd (L 3) 0 (M 3 0))) (cpN U V)) ++ (pLand cI b M U))) rfl (fun H locs hW => ?_)
  refine lv_aload_n hx hb dX1_take_49 rfl (lv_at hl 0 rfl) ?_
  refine lv_aload_n hx hb dX1_take_50 rfl (lv_at hl 1 rfl) ?_
  refine r_get Sx hW 8 rfl rfl bw_wsX10 5 (by decide) (v := .int (M 3 1)) rfl mw73 dX1_take_51 ?_
  refine r_put Sx hW 0 rfl rfl bw_wsX10 tyX1_ok nmX1 5 (by decide) mw73 rfl rfl rfl (Nat.le_of_ble_eq_true rfl) dX1_take_54 (ws' := ((pLand cI a (upA (upA (upA L 0 (va_cpy (M 0) (L 0) 0 0 7)) 1 (va_cpy (M 1) (L 1) 0 0 7)) 3 (upd (upd (L 3) 0 (M 3 0)) 1 (M 3 1))) (cpN U V)) ++ (pLand cI b M U))) rfl (fun H locs hW => ?_)
  exact hret _ _ _ _ _ hW rfl dX1_take_57 rfl

set_option maxHeartbeats 4000000 in
set_option maxRecDepth 100000 in
theorem c_X1_empty (l : Launch) (D : va_G) (cI cZ cN : ClassId) (a : Nat → Nat) (L V : NV) : CtV l yX1_empty cX1_empty 1 0 D (tyG cI cZ cN) [.ref (a 0)] (pLand cI a L V) (fun w => w = pLand cI a (emL L) (emV V)) := by
  refine CtV.of rfl (Nat.le_of_ble_eq_true rfl) ?_
  intro pg ev sx mx ax bx mt cx ls Qx Ax Sx hret hW hl
  have hx := Sx.1
  have hb := Sx.2.1
  have hl : lv_has ls 1 [(0, .ref (a 0))] := hl
  refine lv_aload_n hx hb dX1_empty_0 rfl (lv_at hl 0 rfl) ?_
  refine lv_iconst (v := (4 : Int32)) hx hb dX1_empty_1 rfl ?_
  refine r_put Sx hW 0 rfl rfl bw_wsX10 tyX1_ok nmX1 4 (by decide) mw72 rfl rfl rfl (Nat.le_of_ble_eq_true rfl) dX1_empty_2 (ws' := (pLand cI a (upA L 3 (upd (L 3) 0 (4 : Int32))) V)) rfl (fun H locs hW => ?_)
  refine lv_aload_n hx hb dX1_empty_5 rfl (lv_at hl 0 rfl) ?_
  refine lv_iconst (v := (0 : Int32)) hx hb dX1_empty_6 rfl ?_
  refine r_put Sx hW 0 rfl rfl bw_wsX10 tyX1_ok nmX1 5 (by decide) mw73 rfl rfl rfl (Nat.le_of_ble_eq_true rfl) dX1_empty_7 (ws' := (pLand cI a (upA L 3 (upd (upd (L 3) 0 (4 : Int32)) 1 (0 : Int32))) V)) rfl (fun H locs hW => ?_)
  refine lv_aload_n hx hb dX1_empty_10 rfl (lv_at hl 0 rfl) ?_
  refine r_get Sx hW 0 rfl rfl bw_wsX10 3 (by decide) (v := .ref (a 4)) rfl mw71 dX1_empty_11 ?_
  refine lv_iconst (v := (0 : Int32)) hx hb dX1_empty_14 rfl ?_
  refine r_put Sx hW 4 rfl rfl bw_wsX20 tyX2_ok nmX2 3 (by decide) mw172 rfl rfl rfl (Nat.le_of_ble_eq_true rfl) dX1_empty_15 (ws' := (pLand cI a (upA L 3 (upd (upd (L 3) 0 (4 : Int32)) 1 (0 : Int32))) (upA V 3 (upd (V 3) 0 (0 : Int32))))) rfl (fun H locs hW => ?_)
  refine lv_aload_n hx hb dX1_empty_18 rfl (lv_at hl 0 rfl) ?_
  refine r_get Sx hW 0 rfl rfl bw_wsX10 3 (by decide) (v := .ref (a 4)) rfl mw71 dX1_empty_19 ?_
  refine lv_bipush (v := (15 : Int32)) hx hb dX1_empty_22 rfl ?_
  refine r_put Sx hW 4 rfl rfl bw_wsX20 tyX2_ok nmX2 4 (by decide) mw173 rfl rfl rfl (Nat.le_of_ble_eq_true rfl) dX1_empty_24 (ws' := (pLand cI a (upA L 3 (upd (upd (L 3) 0 (4 : Int32)) 1 (0 : Int32))) (upA V 3 (upd (upd (V 3) 0 (0 : Int32)) 1 (15 : Int32))))) rfl (fun H locs hW => ?_)
  refine lv_aload_n hx hb dX1_empty_27 rfl (lv_at hl 0 rfl) ?_
  refine r_get Sx hW 0 rfl rfl bw_wsX10 3 (by decide) (v := .ref (a 4)) rfl mw71 dX1_empty_28 ?_
  refine lv_iconst (v := (0 : Int32)) hx hb dX1_empty_31 rfl ?_
  refine r_put Sx hW 4 rfl rfl bw_wsX20 tyX2_ok nmX2 5 (by decide) mw174 rfl rfl rfl (Nat.le_of_ble_eq_true rfl) dX1_empty_32 (ws' := (pLand cI a (upA L 3 (upd (upd (L 3) 0 (4 : Int32)) 1 (0 : Int32))) (upA V 3 (upd (upd (upd (V 3) 0 (0 : Int32)) 1 (15 : Int32)) 2 (0 : Int32))))) rfl (fun H locs hW => ?_)
  refine lv_aload_n hx hb dX1_empty_35 rfl (lv_at hl 0 rfl) ?_
  refine r_get Sx hW 0 rfl rfl bw_wsX10 3 (by decide) (v := .ref (a 4)) rfl mw71 dX1_empty_36 ?_
  refine lv_iconst (v := (0 : Int32)) hx hb dX1_empty_39 rfl ?_
  refine r_put Sx hW 4 rfl rfl bw_wsX20 tyX2_ok nmX2 6 (by decide) mw175 rfl rfl rfl (Nat.le_of_ble_eq_true rfl) dX1_empty_40 (ws' := (pLand cI a (upA L 3 (upd (upd (L 3) 0 (4 : Int32)) 1 (0 : Int32))) (upA V 3 (upd (upd (upd (upd (V 3) 0 (0 : Int32)) 1 (15 : Int32)) 2 (0 : Int32)) 3 (0 : Int32))))) rfl (fun H locs hW => ?_)
  exact hret _ _ _ _ _ hW rfl dX1_empty_43 rfl

set_option maxHeartbeats 4000000 in
set_option maxRecDepth 100000 in
theorem c_X1_addPerson (l : Launch) (D : va_G) (cI cZ cN : ClassId) (a : Nat → Nat) (L V : NV) (n w b : Int32) (N : Nat) (hN : L 3 1 = nI N) (hlt : N < 7) : CtV l yX1_addPerson cX1_addPerson 4 0 D (tyG cI cZ cN) [.ref (a 0), .int n, .int w, .int b] (pLand cI a L V) (fun z => z = pLand cI a (apL L N b) (apV V N n w)) := by
  refine CtV.of rfl (Nat.le_of_ble_eq_true rfl) ?_
  intro pg ev sx mx ax bx mt cx ls Qx Ax Sx hret hW hl
  have hx := Sx.1
  have hb := Sx.2.1
  have hl : lv_has ls 4 [(0, .ref (a 0)), (1, .int n), (2, .int w), (3, .int b)] := hl
  refine lv_aload_n hx hb dX1_addPerson_0 rfl (lv_at hl 0 rfl) ?_
  refine r_get Sx hW 0 rfl rfl bw_wsX10 5 (by decide) (v := .int (L 3 1)) rfl mw73 dX1_addPerson_1 ?_
  refine r_eq (y := (nI N)) hN ?_
  refine lv_bipush (v := (7 : Int32)) hx hb dX1_addPerson_4 rfl ?_
  refine lv_icmp_lt (tgt := 10) hx hb dX1_addPerson_6 rfl (fun c_6 => ?_) (fun c_6 => ?_)
  · refine lv_aload_n hx hb dX1_addPerson_10 rfl (lv_at hl 0 rfl) ?_
    refine r_get Sx hW 0 rfl rfl bw_wsX10 3 (by decide) (v := .ref (a 4)) rfl mw71 dX1_addPerson_11 ?_
    refine r_get Sx hW 4 rfl rfl bw_wsX20 0 (by decide) (v := .ref (a 5)) rfl mw215 dX1_addPerson_14 ?_
    refine lv_aload_n hx hb dX1_addPerson_17 rfl (lv_at hl 0 rfl) ?_
    refine r_get Sx hW 0 rfl rfl bw_wsX10 5 (by decide) (v := .int (L 3 1)) rfl mw73 dX1_addPerson_18 ?_
    refine r_eq (y := (nI N)) hN ?_
    refine lv_iload_n hx hb dX1_addPerson_21 rfl (lv_at hl 1 rfl) ?_
    refine r_iast Sx hW 5 0 rfl rfl (j := N) rfl (by omega) (by decide) dX1_addPerson_22 (ws' := (pLand cI a L (upA V 0 (upd (V 0) N n)))) rfl (fun H locs hW => ?_)
    refine lv_aload_n hx hb dX1_addPerson_23 rfl (lv_at hl 0 rfl) ?_
    refine r_get Sx hW 0 rfl rfl bw_wsX10 3 (by decide) (v := .ref (a 4)) rfl mw71 dX1_addPerson_24 ?_
    refine r_get Sx hW 4 rfl rfl bw_wsX20 1 (by decide) (v := .ref (a 6)) rfl mw216 dX1_addPerson_27 ?_
    refine lv_aload_n hx hb dX1_addPerson_30 rfl (lv_at hl 0 rfl) ?_
    refine r_get Sx hW 0 rfl rfl bw_wsX10 5 (by decide) (v := .int (L 3 1)) rfl mw73 dX1_addPerson_31 ?_
    refine r_eq (y := (nI N)) hN ?_
    refine lv_iload_n hx hb dX1_addPerson_34 rfl (lv_at hl 2 rfl) ?_
    refine r_iast Sx hW 6 0 rfl rfl (j := N) rfl (by omega) (by decide) dX1_addPerson_35 (ws' := (pLand cI a L (upA (upA V 0 (upd (V 0) N n)) 1 (upd (V 1) N w)))) rfl (fun H locs hW => ?_)
    refine lv_aload_n hx hb dX1_addPerson_36 rfl (lv_at hl 0 rfl) ?_
    refine r_get Sx hW 0 rfl rfl bw_wsX10 3 (by decide) (v := .ref (a 4)) rfl mw71 dX1_addPerson_37 ?_
    refine r_get Sx hW 4 rfl rfl bw_wsX20 2 (by decide) (v := .ref (a 7)) rfl mw217 dX1_addPerson_40 ?_
    refine lv_aload_n hx hb dX1_addPerson_43 rfl (lv_at hl 0 rfl) ?_
    refine r_get Sx hW 0 rfl rfl bw_wsX10 5 (by decide) (v := .int (L 3 1)) rfl mw73 dX1_addPerson_44 ?_
    refine r_eq (y := (nI N)) hN ?_
    refine lv_iconst (v := (0 : Int32)) hx hb dX1_addPerson_47 rfl ?_
    refine r_iast Sx hW 7 0 rfl rfl (j := N) rfl (by omega) (by decide) dX1_addPerson_48 (ws' := (pLand cI a L (upA (upA (upA V 0 (upd (V 0) N n)) 1 (upd (V 1) N w)) 2 (upd (V 2) N (0 : Int32))))) rfl (fun H locs hW => ?_)
    refine lv_aload_n hx hb dX1_addPerson_49 rfl (lv_at hl 0 rfl) ?_
    refine r_get Sx hW 0 rfl rfl bw_wsX10 0 (by decide) (v := .ref (a 1)) rfl mw67 dX1_addPerson_50 ?_
    refine lv_aload_n hx hb dX1_addPerson_53 rfl (lv_at hl 0 rfl) ?_
    refine r_get Sx hW 0 rfl rfl bw_wsX10 5 (by decide) (v := .int (L 3 1)) rfl mw73 dX1_addPerson_54 ?_
    refine r_eq (y := (nI N)) hN ?_
    refine lv_iload_n hx hb dX1_addPerson_57 rfl (lv_at hl 3 rfl) ?_
    refine r_iast Sx hW 1 0 rfl rfl (j := N) rfl (by omega) (by decide) dX1_addPerson_58 (ws' := (pLand cI a (upA L 0 (upd (L 0) N b)) (upA (upA (upA V 0 (upd (V 0) N n)) 1 (upd (V 1) N w)) 2 (upd (V 2) N (0 : Int32))))) rfl (fun H locs hW => ?_)
    refine lv_aload_n hx hb dX1_addPerson_59 rfl (lv_at hl 0 rfl) ?_
    refine r_get Sx hW 0 rfl rfl bw_wsX10 1 (by decide) (v := .ref (a 2)) rfl mw68 dX1_addPerson_60 ?_
    refine lv_aload_n hx hb dX1_addPerson_63 rfl (lv_at hl 0 rfl) ?_
    refine r_get Sx hW 0 rfl rfl bw_wsX10 5 (by decide) (v := .int (L 3 1)) rfl mw73 dX1_addPerson_64 ?_
    refine r_eq (y := (nI N)) hN ?_
    refine lv_iconst (v := (0 : Int32)) hx hb dX1_addPerson_67 rfl ?_
    refine r_iast Sx hW 2 0 rfl rfl (j := N) rfl (by omega) (by decide) dX1_addPerson_68 (ws' := (pLand cI a (upA (upA L 0 (upd (L 0) N b)) 1 (upd (L 1) N (0 : Int32))) (upA (upA (upA V 0 (upd (V 0) N n)) 1 (upd (V 1) N w)) 2 (upd (V 2) N (0 : Int32))))) rfl (fun H locs hW => ?_)
    refine lv_aload_n hx hb dX1_addPerson_69 rfl (lv_at hl 0 rfl) ?_
    refine lv_dup hx hb dX1_addPerson_70 rfl ?_
    refine r_get Sx hW 0 rfl rfl bw_wsX10 5 (by decide) (v := .int (L 3 1)) rfl mw73 dX1_addPerson_71 ?_
    refine r_eq (y := (nI N)) hN ?_
    refine lv_iconst (v := (1 : Int32)) hx hb dX1_addPerson_74 rfl ?_
    refine lv_iadd hx hb dX1_addPerson_75 ?_
    refine r_eq (y := (nI (N + 1))) (nI_add N 1) ?_
    refine r_put Sx hW 0 rfl rfl bw_wsX10 tyX1_ok nmX1 5 (by decide) mw73 rfl rfl rfl (Nat.le_of_ble_eq_true rfl) dX1_addPerson_76 (ws' := (pLand cI a (upA (upA (upA L 0 (upd (L 0) N b)) 1 (upd (L 1) N (0 : Int32))) 3 (upd (L 3) 1 (nI (N + 1)))) (upA (upA (upA V 0 (upd (V 0) N n)) 1 (upd (V 1) N w)) 2 (upd (V 2) N (0 : Int32))))) rfl (fun H locs hW => ?_)
    exact hret _ _ _ _ _ hW rfl dX1_addPerson_79 rfl
  · exact absurd (nI_lt (a := N) (b := 7) hlt (by decide)) c_6

set_option maxHeartbeats 4000000 in
set_option maxRecDepth 100000 in
theorem c_X1_payTax (l : Launch) (D : va_G) (cI cZ cN : ClassId) (a : Nat → Nat) (L V : NV) (N C : Nat) (hN : L 3 1 = nI N) (hN7 : N ≤ 7) (hC : L 3 0 = nI C) (hC4 : C ≤ 4) (hC1 : 1 ≤ C) : CtI l yX1_payTax cX1_payTax 3 (some .int) 4 D (tyG cI cZ cN) [.ref (a 0)] (pLand cI a L V) (fun r w => r = pdF (duV L V N) N ∧ w = (pLand cI a (pyL L V N) (pyV L V N))) := by
  refine CtI.of rfl (Nat.le_of_ble_eq_true rfl) ?_
  intro pg ev sx mx ax bx mt cx ls Qx Ax Sx hret hW hl
  have hx := Sx.1
  have hb := Sx.2.1
  have hl : lv_has ls 3 [(0, .ref (a 0))] := hl
  refine lv_iconst (v := (0 : Int32)) hx hb dX1_payTax_0 rfl ?_
  refine lv_istore_n (lv' := [(1, .int (0 : Int32)), (0, .ref (a 0))]) hx hb dX1_payTax_1 rfl hl (by decide) rfl (fun ls hl => ?_)
  have lp_2 : ∀ (n : Nat) (i : Nat), ((i ≤ N)) → ((N + 1 ≤ i + n)) → ∀ (H : Heap) (locs : List Loc) (ls : Array Slot), AtC D (tyG cI cZ cN) Ax (pLand cI a (upA L 2 (duF (V 1) (fun i => txI (V 0) (V 1) N (V 3 1) i (V 0 i)) (L 2) i)) V) sx H locs → lv_has ls 3 [(0, .ref (a 0)), (1, .int (nI i))] → W pg l ev (rmN 4) sx mx ax bx mt cx H locs 0 0 Qx (F0 mx 2 ls []) := by
    intro n
    induction n with
    | zero =>
      intro i hi_2 hn_2 H locs ls hW hl
      exact absurd hn_2 (by omega)
    | succ n ih2 =>
      intro i hi_2 hn_2 H locs ls hW hl
      refine lv_iload_n hx hb dX1_payTax_2 rfl (lv_at hl 1 rfl) ?_
      refine lv_aload_n hx hb dX1_payTax_3 rfl (lv_at hl 0 rfl) ?_
      refine r_get Sx hW 0 rfl rfl bw_wsX10 5 (by decide) (v := .int (L 3 1)) rfl mw73 dX1_payTax_4 ?_
      refine r_eq (y := (nI N)) hN ?_
      refine lv_icmp_ge (tgt := 39) hx hb dX1_payTax_7 rfl (fun c_7 => ?_) (fun c_7 => ?_)
      · have ge_7 : N ≤ i := (nI_leI (a := N) (b := i) (by omega) (by omega)).mp c_7
        have ee_7 : N = i := by omega
        subst ee_7
        refine lv_iconst (v := (0 : Int32)) hx hb dX1_payTax_39 rfl ?_
        refine lv_istore_n (lv' := [(1, .int (0 : Int32)), (0, .ref (a 0))]) hx hb dX1_payTax_40 rfl hl (by decide) rfl (fun ls hl => ?_)
        refine lv_iconst (v := (0 : Int32)) hx hb dX1_payTax_41 rfl ?_
        refine lv_istore_n (lv' := [(2, .int (0 : Int32)), (1, .int (0 : Int32)), (0, .ref (a 0))]) hx hb dX1_payTax_42 rfl hl (by decide) rfl (fun ls hl => ?_)
        have lp_43 : ∀ (n : Nat) (i : Nat), ((i ≤ N)) → ((N + 1 ≤ i + n)) → ∀ (H : Heap) (locs : List Loc) (ls : Array Slot), AtC D (tyG cI cZ cN) Ax (pLand cI a (pyL L V N) (upA V 1 (wlF (duV L V N) (V 1) i))) sx H locs → lv_has ls 3 [(0, .ref (a 0)), (1, .int (pdF (duV L V N) i)), (2, .int (nI i))] → W pg l ev (rmN 4) sx mx ax bx mt cx H locs 0 0 Qx (F0 mx 43 ls []) := by
          intro n
          induction n with
          | zero =>
            intro i hi_43 hn_43 H locs ls hW hl
            exact absurd hn_43 (by omega)
          | succ n ih43 =>
            intro i hi_43 hn_43 H locs ls hW hl
            refine lv_iload_n hx hb dX1_payTax_43 rfl (lv_at hl 2 rfl) ?_
            refine lv_aload_n hx hb dX1_payTax_44 rfl (lv_at hl 0 rfl) ?_
            refine r_get Sx hW 0 rfl rfl bw_wsX10 5 (by decide) (v := .int ((pyL L V N) 3 1)) rfl mw73 dX1_payTax_45 ?_
            refine r_eq (y := (nI N)) hN ?_
            refine lv_icmp_ge (tgt := 84) hx hb dX1_payTax_48 rfl (fun c_48 => ?_) (fun c_48 => ?_)
            · have ge_48 : N ≤ i := (nI_leI (a := N) (b := i) (by omega) (by omega)).mp c_48
              have ee_48 : N = i := by omega
              subst ee_48
              refine lv_aload_n hx hb dX1_payTax_84 rfl (lv_at hl 0 rfl) ?_
              refine r_get Sx hW 0 rfl rfl bw_wsX10 3 (by decide) (v := .ref (a 4)) rfl mw71 dX1_payTax_85 ?_
              refine r_ldc Sx (v := (999999 : Int32)) mw595 dX1_payTax_88 ?_
              refine lv_aload_n hx hb dX1_payTax_90 rfl (lv_at hl 0 rfl) ?_
              refine r_get Sx hW 0 rfl rfl bw_wsX10 3 (by decide) (v := .ref (a 4)) rfl mw71 dX1_payTax_91 ?_
              refine r_get Sx hW 4 rfl rfl bw_wsX20 5 (by decide) (v := .int (V 3 2)) rfl mw174 dX1_payTax_94 ?_
              refine lv_iload_n hx hb dX1_payTax_97 rfl (lv_at hl 1 rfl) ?_
              refine lv_iadd hx hb dX1_payTax_98 ?_
              refine r_min Sx mw594 mw542 mw330 mw543 hl.1 (by decide) (Nat.le_of_ble_eq_true rfl) ⟨by decide, by decide⟩ dX1_payTax_99 ?_
              refine r_put Sx hW 4 rfl rfl bw_wsX20 tyX2_ok nmX2 5 (by decide) mw174 rfl rfl rfl (Nat.le_of_ble_eq_true rfl) dX1_payTax_102 (ws' := (pLand cI a (pyL L V N) (upA (upA V 1 (wlF (duV L V N) (V 1) N)) 3 (upd (V 3) 2 (if ((V 3 2) + (pdF (duV L V N) N)) < (999999 : Int32) then ((V 3 2) + (pdF (duV L V N) N)) else (999999 : Int32)))))) rfl (fun H locs hW => ?_)
              refine lv_aload_n hx hb dX1_payTax_105 rfl (lv_at hl 0 rfl) ?_
              refine r_get Sx hW 0 rfl rfl bw_wsX10 3 (by decide) (v := .ref (a 4)) rfl mw71 dX1_payTax_106 ?_
              refine lv_dup hx hb dX1_payTax_109 rfl ?_
              refine r_get Sx hW 4 rfl rfl bw_wsX20 6 (by decide) (v := .int (V 3 3)) rfl mw175 dX1_payTax_110 ?_
              refine lv_iconst (v := (1 : Int32)) hx hb dX1_payTax_113 rfl ?_
              refine lv_iadd hx hb dX1_payTax_114 ?_
              refine r_put Sx hW 4 rfl rfl bw_wsX20 tyX2_ok nmX2 6 (by decide) mw175 rfl rfl rfl (Nat.le_of_ble_eq_true rfl) dX1_payTax_115 (ws' := (pLand cI a (pyL L V N) (upA (upA V 1 (wlF (duV L V N) (V 1) N)) 3 (upd (upd (V 3) 2 (if ((V 3 2) + (pdF (duV L V N) N)) < (999999 : Int32) then ((V 3 2) + (pdF (duV L V N) N)) else (999999 : Int32))) 3 ((V 3 3) + (1 : Int32)))))) rfl (fun H locs hW => ?_)
              refine lv_iload_n hx hb dX1_payTax_118 rfl (lv_at hl 1 rfl) ?_
              exact hret _ _ _ _ _ _ hW rfl rfl dX1_payTax_119 (⟨rfl, rfl⟩)
            · have lt_48 : i < N := Nat.not_le.mp (fun h => c_48 ((nI_leI (a := N) (b := i) (by omega) (by omega)).mpr h))
              refine lv_aload_n hx hb dX1_payTax_51 rfl (lv_at hl 0 rfl) ?_
              refine r_get Sx hW 0 rfl rfl bw_wsX10 3 (by decide) (v := .ref (a 4)) rfl mw71 dX1_payTax_52 ?_
              refine r_get Sx hW 4 rfl rfl bw_wsX20 1 (by decide) (v := .ref (a 6)) rfl mw216 dX1_payTax_55 ?_
              refine lv_iload_n hx hb dX1_payTax_58 rfl (lv_at hl 2 rfl) ?_
              refine lv_dup2_11 hx hb dX1_payTax_59 rfl rfl ?_
              refine r_iald Sx hW 6 0 (f := (wlF (duV L V N) (V 1) i)) rfl rfl (j := i) rfl (by omega) (by decide) dX1_payTax_60 ?_
              refine lv_aload_n hx hb dX1_payTax_61 rfl (lv_at hl 0 rfl) ?_
              refine r_get Sx hW 0 rfl rfl bw_wsX10 2 (by decide) (v := .ref (a 3)) rfl mw69 dX1_payTax_62 ?_
              refine lv_iload_n hx hb dX1_payTax_65 rfl (lv_at hl 2 rfl) ?_
              refine r_iald Sx hW 3 0 rfl rfl (j := i) rfl (by omega) (by decide) dX1_payTax_66 ?_
              refine lv_isub hx hb dX1_payTax_67 ?_
              refine r_iast Sx hW 6 0 rfl rfl (j := i) rfl (by omega) (by decide) dX1_payTax_68 (ws' := (pLand cI a (pyL L V N) (upA V 1 (upd (wlF (duV L V N) (V 1) i) i (((wlF (duV L V N) (V 1) i) i) - (((pyL L V N) 2) i)))))) rfl (fun H locs hW => ?_)
              refine lv_iload_n hx hb dX1_payTax_69 rfl (lv_at hl 1 rfl) ?_
              refine lv_aload_n hx hb dX1_payTax_70 rfl (lv_at hl 0 rfl) ?_
              refine r_get Sx hW 0 rfl rfl bw_wsX10 2 (by decide) (v := .ref (a 3)) rfl mw69 dX1_payTax_71 ?_
              refine lv_iload_n hx hb dX1_payTax_74 rfl (lv_at hl 2 rfl) ?_
              refine r_iald Sx hW 3 0 rfl rfl (j := i) rfl (by omega) (by decide) dX1_payTax_75 ?_
              refine lv_iadd hx hb dX1_payTax_76 ?_
              refine lv_istore_n (lv' := [(1, .int ((pdF (duV L V N) i) + (((pyL L V N) 2) i))), (0, .ref (a 0)), (2, .int (nI i))]) hx hb dX1_payTax_77 rfl hl (by decide) rfl (fun ls hl => ?_)
              refine lv_iinc (v := (nI (i + 1))) (lv' := [(2, .int (nI (i + 1))), (1, .int ((pdF (duV L V N) i) + (((pyL L V N) 2) i))), (0, .ref (a 0))]) hx hb dX1_payTax_78 hl (k := 2) rfl (inc_n i 1) (by decide) rfl (fun ls hl => ?_)
              refine lv_goto (tgt := 43) hx hb dX1_payTax_81 rfl ?_
              exact ih43 (i + 1) (by omega) (by omega) _ _ _ hW (lv_sub hl [2, 1, 0] rfl)
        exact lp_43 (N + 1) 0 (by omega) (by omega) _ _ _ hW (lv_sub hl [2, 1, 0] rfl)
      · have lt_7 : i < N := Nat.not_le.mp (fun h => c_7 ((nI_leI (a := N) (b := i) (by omega) (by omega)).mpr h))
        refine lv_aload_n hx hb dX1_payTax_10 rfl (lv_at hl 0 rfl) ?_
        refine r_get Sx hW 0 rfl rfl bw_wsX10 2 (by decide) (v := .ref (a 3)) rfl mw69 dX1_payTax_11 ?_
        refine lv_iload_n hx hb dX1_payTax_14 rfl (lv_at hl 1 rfl) ?_
        refine lv_aload_n hx hb dX1_payTax_15 rfl (lv_at hl 0 rfl) ?_
        refine lv_iload_n hx hb dX1_payTax_16 rfl (lv_at hl 1 rfl) ?_
        refine callVI Sx hW (c_X1_tax l D cI cZ cN a (upA L 2 (duF (V 1) (fun i => txI (V 0) (V 1) N (V 3 1) i (V 0 i)) (L 2) i)) V i N C hN hN7 hC hC4 hC1 (by omega)) vmX1_tax mw500 [0, 1, 2, 3, 4, 5, 6, 7] rfl (by decide) 0 rfl rfl (As := [.int (nI i)]) (rest := [.int (nI i), .ref (a 3)]) rfl rfl hl.1 (Nat.le_of_ble_eq_true rfl) ⟨Nat.le_of_ble_eq_true rfl, Nat.le_of_ble_eq_true rfl⟩ ⟨Nat.le_refl _, Nat.le_refl _⟩ dX1_payTax_17 (fun rx wx H locs hqx hW => ?_)
        obtain ⟨hrx, rfl⟩ := hqx
        have hW : AtC D (tyG cI cZ cN) Ax (pLand cI a (upA L 2 (duF (V 1) (fun i => txI (V 0) (V 1) N (V 3 1) i (V 0 i)) (L 2) i)) V) sx H locs := hW
        refine r_eq (y := (txI (V 0) (V 1) (N) (V 3 1) (i) (V 0 (i)))) hrx ?_
        refine lv_aload_n hx hb dX1_payTax_20 rfl (lv_at hl 0 rfl) ?_
        refine r_get Sx hW 0 rfl rfl bw_wsX10 3 (by decide) (v := .ref (a 4)) rfl mw71 dX1_payTax_21 ?_
        refine r_get Sx hW 4 rfl rfl bw_wsX20 1 (by decide) (v := .ref (a 6)) rfl mw216 dX1_payTax_24 ?_
        refine lv_iload_n hx hb dX1_payTax_27 rfl (lv_at hl 1 rfl) ?_
        refine r_iald Sx hW 6 0 rfl rfl (j := i) rfl (by omega) (by decide) dX1_payTax_28 ?_
        refine r_min Sx mw594 mw542 mw330 mw543 hl.1 (by decide) (Nat.le_of_ble_eq_true rfl) ⟨by decide, by decide⟩ dX1_payTax_29 ?_
        refine r_iast Sx hW 3 0 rfl rfl (j := i) rfl (by omega) (by decide) dX1_payTax_32 (ws' := (pLand cI a (upA L 2 (upd (duF (V 1) (fun i => txI (V 0) (V 1) N (V 3 1) i (V 0 i)) (L 2) i) i (if ((V 1) i) < (txI (V 0) (V 1) (N) (V 3 1) (i) (V 0 (i))) then ((V 1) i) else (txI (V 0) (V 1) (N) (V 3 1) (i) (V 0 (i)))))) V)) rfl (fun H locs hW => ?_)
        refine lv_iinc (v := (nI (i + 1))) (lv' := [(1, .int (nI (i + 1))), (0, .ref (a 0))]) hx hb dX1_payTax_33 hl (k := 1) rfl (inc_n i 1) (by decide) rfl (fun ls hl => ?_)
        refine lv_goto (tgt := 2) hx hb dX1_payTax_36 rfl ?_
        exact ih2 (i + 1) (by omega) (by omega) _ _ _ hW (lv_sub hl [1, 0] rfl)
  exact lp_2 (N + 1) 0 (by omega) (by omega) _ _ _ hW (lv_sub hl [1, 0] rfl)

theorem min10 (z : Nat) (h : z ≤ 10) : (if nI (z + 1) < 10 then nI (z + 1) else (10 : Int32)) = nI (min 10 (z + 1)) := by
  have e : (nI (z + 1) < (10 : Int32)) ↔ z + 1 < 10 := nI_ltI (a := z + 1) (b := 10) (by omega) (by decide)
  by_cases h2 : z + 1 < 10
  · rw [if_pos (e.mpr h2), Nat.min_eq_right (by omega)]
  · rw [if_neg (fun q => h2 (e.mp q)), Nat.min_eq_left (by omega)]; rfl

set_option maxHeartbeats 4000000 in
set_option maxRecDepth 100000 in
theorem c_X3_remember_0 (l : Launch) (D : va_G) (cI cZ cN : ClassId) (a b : Nat → Nat) (S : NV) (R : Nat → NV) (U : NV) (z : Nat) (hk : S 0 0 = nI 0) (hz : S 0 1 = nI z ∧ z ≤ 10) : CtV l yX3_remember cX3_remember 2 2 D (tyG cI cZ cN) [.ref (a 0), .ref (b 0)] ((pPast cI cN a S R) ++ (pNow cI b U)) (fun w => w = pPast cI cN a (pastS S (nI ((0 + 1) % 10)) (nI (min 10 (z + 1)))) (upR R 0 (cpN U (R 0))) ++ pNow cI b U) := by
  refine CtV.of rfl (Nat.le_of_ble_eq_true rfl) ?_
  intro pg ev sx mx ax bx mt cx ls Qx Ax Sx hret hW hl
  have hx := Sx.1
  have hb := Sx.2.1
  have hl : lv_has ls 2 [(0, .ref (a 0)), (1, .ref (b 0))] := hl
  refine lv_aload_n hx hb dX3_remember_0 rfl (lv_at hl 0 rfl) ?_
  refine r_get Sx hW 0 rfl rfl bw_wsX30 0 (by decide) (v := .ref (a 1)) rfl mw89 dX3_remember_1 ?_
  refine lv_aload_n hx hb dX3_remember_4 rfl (lv_at hl 0 rfl) ?_
  refine r_get Sx hW 0 rfl rfl bw_wsX30 1 (by decide) (v := .int (S 0 0)) rfl mw90 dX3_remember_5 ?_
  refine r_eq (y := (nI 0)) hk ?_
  refine r_aald Sx hW 1 2 rfl rfl (j := 0) rfl (by decide) (by decide) (v := (a 2)) rfl dX3_remember_8 ?_
  refine lv_aload_n hx hb dX3_remember_9 rfl (lv_at hl 1 rfl) ?_
  refine callVV Sx hW (c_X2_take l D cI cZ cN (fun i => a (i + 2)) b (R 0) U) vmX2_take mw544 [2, 3, 4, 5, 42, 43, 44, 45] rfl (by decide) 0 rfl rfl (As := [.ref (b 0)]) (rest := []) rfl rfl hl.1 (Nat.le_of_ble_eq_true rfl) ⟨Nat.le_of_ble_eq_true rfl, Nat.le_of_ble_eq_true rfl⟩ ⟨Nat.le_refl _, Nat.le_refl _⟩ dX3_remember_10 (fun wx H locs hqx hW => ?_)
  obtain rfl := hqx
  have hW : AtC D (tyG cI cZ cN) Ax ((pPast cI cN a S (upR R 0 (cpN U (R 0)))) ++ (pNow cI b U)) sx H locs := hW.re [0, 1, 6, 7, 8, 9, 10, 11, 12, 13, 14, 15, 16, 17, 18, 19, 20, 21, 22, 23, 24, 25, 26, 27, 28, 29, 30, 31, 32, 33, 34, 35, 36, 37, 38, 39, 40, 41] 46 (by decide) rfl rfl ⟨rfl, rfl, rfl, rfl, rfl, rfl, rfl, rfl, rfl, rfl, rfl, rfl, rfl, rfl, rfl, rfl, rfl, rfl, rfl, rfl, rfl, rfl, rfl, rfl, rfl, rfl, rfl, rfl, rfl, rfl, rfl, rfl, rfl, rfl, rfl, rfl, rfl, rfl, trivial⟩ (by decide +kernel) rfl rfl
  refine lv_aload_n hx hb dX3_remember_13 rfl (lv_at hl 0 rfl) ?_
  refine lv_aload_n hx hb dX3_remember_14 rfl (lv_at hl 0 rfl) ?_
  refine r_get Sx hW 0 rfl rfl bw_wsX30 1 (by decide) (v := .int (S 0 0)) rfl mw90 dX3_remember_15 ?_
  refine r_eq (y := (nI 0)) hk ?_
  refine lv_iconst (v := (1 : Int32)) hx hb dX3_remember_18 rfl ?_
  refine lv_iadd hx hb dX3_remember_19 ?_
  refine r_eq (y := (nI 1)) ((nI_add 0 1).trans (congrArg nI (Nat.zero_add 1))) ?_
  refine lv_bipush (v := (10 : Int32)) hx hb dX3_remember_20 rfl ?_
  refine lv_irem hx hb dX3_remember_22 (by decide) ?_
  refine r_eq (y := (nI 1)) (by decide) ?_
  refine r_put Sx hW 0 rfl rfl bw_wsX30 tyX3_ok nmX3 1 (by decide) mw90 rfl rfl rfl (Nat.le_of_ble_eq_true rfl) dX3_remember_23 (ws' := ((pPast cI cN a (upA S 0 (upd (S 0) 0 (nI 1))) (upR R 0 (cpN U (R 0)))) ++ (pNow cI b U))) rfl (fun H locs hW => ?_)
  refine lv_aload_n hx hb dX3_remember_26 rfl (lv_at hl 0 rfl) ?_
  refine lv_bipush (v := (10 : Int32)) hx hb dX3_remember_27 rfl ?_
  refine lv_aload_n hx hb dX3_remember_29 rfl (lv_at hl 0 rfl) ?_
  refine r_get Sx hW 0 rfl rfl bw_wsX30 2 (by decide) (v := .int (S 0 1)) rfl mw91 dX3_remember_30 ?_
  refine r_eq (y := (nI z)) hz.1 ?_
  refine lv_iconst (v := (1 : Int32)) hx hb dX3_remember_33 rfl ?_
  refine lv_iadd hx hb dX3_remember_34 ?_
  refine r_eq (y := (nI (z + 1))) (nI_add z 1) ?_
  refine r_min Sx mw541 mw542 mw330 mw543 hl.1 (by decide) (Nat.le_of_ble_eq_true rfl) ⟨by decide, by decide⟩ dX3_remember_35 ?_
  refine r_eq (y := (nI (min 10 (z + 1)))) (min10 z hz.2) ?_
  refine r_put Sx hW 0 rfl rfl bw_wsX30 tyX3_ok nmX3 2 (by decide) mw91 rfl rfl rfl (Nat.le_of_ble_eq_true rfl) dX3_remember_38 (ws' := ((pPast cI cN a (upA S 0 (upd (upd (S 0) 0 (nI 1)) 1 (nI (min 10 (z + 1))))) (upR R 0 (cpN U (R 0)))) ++ (pNow cI b U))) rfl (fun H locs hW => ?_)
  exact hret _ _ _ _ _ hW rfl dX3_remember_41 rfl

set_option maxHeartbeats 4000000 in
set_option maxRecDepth 100000 in
theorem c_X3_remember_1 (l : Launch) (D : va_G) (cI cZ cN : ClassId) (a b : Nat → Nat) (S : NV) (R : Nat → NV) (U : NV) (z : Nat) (hk : S 0 0 = nI 1) (hz : S 0 1 = nI z ∧ z ≤ 10) : CtV l yX3_remember cX3_remember 2 2 D (tyG cI cZ cN) [.ref (a 0), .ref (b 0)] ((pPast cI cN a S R) ++ (pNow cI b U)) (fun w => w = pPast cI cN a (pastS S (nI ((1 + 1) % 10)) (nI (min 10 (z + 1)))) (upR R 1 (cpN U (R 1))) ++ pNow cI b U) := by
  refine CtV.of rfl (Nat.le_of_ble_eq_true rfl) ?_
  intro pg ev sx mx ax bx mt cx ls Qx Ax Sx hret hW hl
  have hx := Sx.1
  have hb := Sx.2.1
  have hl : lv_has ls 2 [(0, .ref (a 0)), (1, .ref (b 0))] := hl
  refine lv_aload_n hx hb dX3_remember_0 rfl (lv_at hl 0 rfl) ?_
  refine r_get Sx hW 0 rfl rfl bw_wsX30 0 (by decide) (v := .ref (a 1)) rfl mw89 dX3_remember_1 ?_
  refine lv_aload_n hx hb dX3_remember_4 rfl (lv_at hl 0 rfl) ?_
  refine r_get Sx hW 0 rfl rfl bw_wsX30 1 (by decide) (v := .int (S 0 0)) rfl mw90 dX3_remember_5 ?_
  refine r_eq (y := (nI 1)) hk ?_
  refine r_aald Sx hW 1 2 rfl rfl (j := 1) rfl (by decide) (by decide) (v := (a 6)) rfl dX3_remember_8 ?_
  refine lv_aload_n hx hb dX3_remember_9 rfl (lv_at hl 1 rfl) ?_
  refine callVV Sx hW (c_X2_take l D cI cZ cN (fun i => a (i + 6)) b (R 1) U) vmX2_take mw544 [6, 7, 8, 9, 42, 43, 44, 45] rfl (by decide) 0 rfl rfl (As := [.ref (b 0)]) (rest := []) rfl rfl hl.1 (Nat.le_of_ble_eq_true rfl) ⟨Nat.le_of_ble_eq_true rfl, Nat.le_of_ble_eq_true rfl⟩ ⟨Nat.le_refl _, Nat.le_refl _⟩ dX3_remember_10 (fun wx H locs hqx hW => ?_)
  obtain rfl := hqx
  have hW : AtC D (tyG cI cZ cN) Ax ((pPast cI cN a S (upR R 1 (cpN U (R 1)))) ++ (pNow cI b U)) sx H locs := hW.re [0, 1, 2, 3, 4, 5, 10, 11, 12, 13, 14, 15, 16, 17, 18, 19, 20, 21, 22, 23, 24, 25, 26, 27, 28, 29, 30, 31, 32, 33, 34, 35, 36, 37, 38, 39, 40, 41] 46 (by decide) rfl rfl ⟨rfl, rfl, rfl, rfl, rfl, rfl, rfl, rfl, rfl, rfl, rfl, rfl, rfl, rfl, rfl, rfl, rfl, rfl, rfl, rfl, rfl, rfl, rfl, rfl, rfl, rfl, rfl, rfl, rfl, rfl, rfl, rfl, rfl, rfl, rfl, rfl, rfl, rfl, trivial⟩ (by decide +kernel) rfl rfl
  refine lv_aload_n hx hb dX3_remember_13 rfl (lv_at hl 0 rfl) ?_
  refine lv_aload_n hx hb dX3_remember_14 rfl (lv_at hl 0 rfl) ?_
  refine r_get Sx hW 0 rfl rfl bw_wsX30 1 (by decide) (v := .int (S 0 0)) rfl mw90 dX3_remember_15 ?_
  refine r_eq (y := (nI 1)) hk ?_
  refine lv_iconst (v := (1 : Int32)) hx hb dX3_remember_18 rfl ?_
  refine lv_iadd hx hb dX3_remember_19 ?_
  refine r_eq (y := (nI (1 + 1))) (nI_add 1 1) ?_
  refine lv_bipush (v := (10 : Int32)) hx hb dX3_remember_20 rfl ?_
  refine lv_irem hx hb dX3_remember_22 (by decide) ?_
  refine r_eq (y := (nI 2)) (by decide) ?_
  refine r_put Sx hW 0 rfl rfl bw_wsX30 tyX3_ok nmX3 1 (by decide) mw90 rfl rfl rfl (Nat.le_of_ble_eq_true rfl) dX3_remember_23 (ws' := ((pPast cI cN a (upA S 0 (upd (S 0) 0 (nI 2))) (upR R 1 (cpN U (R 1)))) ++ (pNow cI b U))) rfl (fun H locs hW => ?_)
  refine lv_aload_n hx hb dX3_remember_26 rfl (lv_at hl 0 rfl) ?_
  refine lv_bipush (v := (10 : Int32)) hx hb dX3_remember_27 rfl ?_
  refine lv_aload_n hx hb dX3_remember_29 rfl (lv_at hl 0 rfl) ?_
  refine r_get Sx hW 0 rfl rfl bw_wsX30 2 (by decide) (v := .int (S 0 1)) rfl mw91 dX3_remember_30 ?_
  refine r_eq (y := (nI z)) hz.1 ?_
  refine lv_iconst (v := (1 : Int32)) hx hb dX3_remember_33 rfl ?_
  refine lv_iadd hx hb dX3_remember_34 ?_
  refine r_eq (y := (nI (z + 1))) (nI_add z 1) ?_
  refine r_min Sx mw541 mw542 mw330 mw543 hl.1 (by decide) (Nat.le_of_ble_eq_true rfl) ⟨by decide, by decide⟩ dX3_remember_35 ?_
  refine r_eq (y := (nI (min 10 (z + 1)))) (min10 z hz.2) ?_
  refine r_put Sx hW 0 rfl rfl bw_wsX30 tyX3_ok nmX3 2 (by decide) mw91 rfl rfl rfl (Nat.le_of_ble_eq_true rfl) dX3_remember_38 (ws' := ((pPast cI cN a (upA S 0 (upd (upd (S 0) 0 (nI 2)) 1 (nI (min 10 (z + 1))))) (upR R 1 (cpN U (R 1)))) ++ (pNow cI b U))) rfl (fun H locs hW => ?_)
  exact hret _ _ _ _ _ hW rfl dX3_remember_41 rfl

set_option maxHeartbeats 4000000 in
set_option maxRecDepth 100000 in
theorem c_X3_remember_2 (l : Launch) (D : va_G) (cI cZ cN : ClassId) (a b : Nat → Nat) (S : NV) (R : Nat → NV) (U : NV) (z : Nat) (hk : S 0 0 = nI 2) (hz : S 0 1 = nI z ∧ z ≤ 10) : CtV l yX3_remember cX3_remember 2 2 D (tyG cI cZ cN) [.ref (a 0), .ref (b 0)] ((pPast cI cN a S R) ++ (pNow cI b U)) (fun w => w = pPast cI cN a (pastS S (nI ((2 + 1) % 10)) (nI (min 10 (z + 1)))) (upR R 2 (cpN U (R 2))) ++ pNow cI b U) := by
  refine CtV.of rfl (Nat.le_of_ble_eq_true rfl) ?_
  intro pg ev sx mx ax bx mt cx ls Qx Ax Sx hret hW hl
  have hx := Sx.1
  have hb := Sx.2.1
  have hl : lv_has ls 2 [(0, .ref (a 0)), (1, .ref (b 0))] := hl
  refine lv_aload_n hx hb dX3_remember_0 rfl (lv_at hl 0 rfl) ?_
  refine r_get Sx hW 0 rfl rfl bw_wsX30 0 (by decide) (v := .ref (a 1)) rfl mw89 dX3_remember_1 ?_
  refine lv_aload_n hx hb dX3_remember_4 rfl (lv_at hl 0 rfl) ?_
  refine r_get Sx hW 0 rfl rfl bw_wsX30 1 (by decide) (v := .int (S 0 0)) rfl mw90 dX3_remember_5 ?_
  refine r_eq (y := (nI 2)) hk ?_
  refine r_aald Sx hW 1 2 rfl rfl (j := 2) rfl (by decide) (by decide) (v := (a 10)) rfl dX3_remember_8 ?_
  refine lv_aload_n hx hb dX3_remember_9 rfl (lv_at hl 1 rfl) ?_
  refine callVV Sx hW (c_X2_take l D cI cZ cN (fun i => a (i + 10)) b (R 2) U) vmX2_take mw544 [10, 11, 12, 13, 42, 43, 44, 45] rfl (by decide) 0 rfl rfl (As := [.ref (b 0)]) (rest := []) rfl rfl hl.1 (Nat.le_of_ble_eq_true rfl) ⟨Nat.le_of_ble_eq_true rfl, Nat.le_of_ble_eq_true rfl⟩ ⟨Nat.le_refl _, Nat.le_refl _⟩ dX3_remember_10 (fun wx H locs hqx hW => ?_)
  obtain rfl := hqx
  have hW : AtC D (tyG cI cZ cN) Ax ((pPast cI cN a S (upR R 2 (cpN U (R 2)))) ++ (pNow cI b U)) sx H locs := hW.re [0, 1, 2, 3, 4, 5, 6, 7, 8, 9, 14, 15, 16, 17, 18, 19, 20, 21, 22, 23, 24, 25, 26, 27, 28, 29, 30, 31, 32, 33, 34, 35, 36, 37, 38, 39, 40, 41] 46 (by decide) rfl rfl ⟨rfl, rfl, rfl, rfl, rfl, rfl, rfl, rfl, rfl, rfl, rfl, rfl, rfl, rfl, rfl, rfl, rfl, rfl, rfl, rfl, rfl, rfl, rfl, rfl, rfl, rfl, rfl, rfl, rfl, rfl, rfl, rfl, rfl, rfl, rfl, rfl, rfl, rfl, trivial⟩ (by decide +kernel) rfl rfl
  refine lv_aload_n hx hb dX3_remember_13 rfl (lv_at hl 0 rfl) ?_
  refine lv_aload_n hx hb dX3_remember_14 rfl (lv_at hl 0 rfl) ?_
  refine r_get Sx hW 0 rfl rfl bw_wsX30 1 (by decide) (v := .int (S 0 0)) rfl mw90 dX3_remember_15 ?_
  refine r_eq (y := (nI 2)) hk ?_
  refine lv_iconst (v := (1 : Int32)) hx hb dX3_remember_18 rfl ?_
  refine lv_iadd hx hb dX3_remember_19 ?_
  refine r_eq (y := (nI (2 + 1))) (nI_add 2 1) ?_
  refine lv_bipush (v := (10 : Int32)) hx hb dX3_remember_20 rfl ?_
  refine lv_irem hx hb dX3_remember_22 (by decide) ?_
  refine r_eq (y := (nI 3)) (by decide) ?_
  refine r_put Sx hW 0 rfl rfl bw_wsX30 tyX3_ok nmX3 1 (by decide) mw90 rfl rfl rfl (Nat.le_of_ble_eq_true rfl) dX3_remember_23 (ws' := ((pPast cI cN a (upA S 0 (upd (S 0) 0 (nI 3))) (upR R 2 (cpN U (R 2)))) ++ (pNow cI b U))) rfl (fun H locs hW => ?_)
  refine lv_aload_n hx hb dX3_remember_26 rfl (lv_at hl 0 rfl) ?_
  refine lv_bipush (v := (10 : Int32)) hx hb dX3_remember_27 rfl ?_
  refine lv_aload_n hx hb dX3_remember_29 rfl (lv_at hl 0 rfl) ?_
  refine r_get Sx hW 0 rfl rfl bw_wsX30 2 (by decide) (v := .int (S 0 1)) rfl mw91 dX3_remember_30 ?_
  refine r_eq (y := (nI z)) hz.1 ?_
  refine lv_iconst (v := (1 : Int32)) hx hb dX3_remember_33 rfl ?_
  refine lv_iadd hx hb dX3_remember_34 ?_
  refine r_eq (y := (nI (z + 1))) (nI_add z 1) ?_
  refine r_min Sx mw541 mw542 mw330 mw543 hl.1 (by decide) (Nat.le_of_ble_eq_true rfl) ⟨by decide, by decide⟩ dX3_remember_35 ?_
  refine r_eq (y := (nI (min 10 (z + 1)))) (min10 z hz.2) ?_
  refine r_put Sx hW 0 rfl rfl bw_wsX30 tyX3_ok nmX3 2 (by decide) mw91 rfl rfl rfl (Nat.le_of_ble_eq_true rfl) dX3_remember_38 (ws' := ((pPast cI cN a (upA S 0 (upd (upd (S 0) 0 (nI 3)) 1 (nI (min 10 (z + 1))))) (upR R 2 (cpN U (R 2)))) ++ (pNow cI b U))) rfl (fun H locs hW => ?_)
  exact hret _ _ _ _ _ hW rfl dX3_remember_41 rfl

set_option maxHeartbeats 4000000 in
set_option maxRecDepth 100000 in
theorem c_X3_remember_3 (l : Launch) (D : va_G) (cI cZ cN : ClassId) (a b : Nat → Nat) (S : NV) (R : Nat → NV) (U : NV) (z : Nat) (hk : S 0 0 = nI 3) (hz : S 0 1 = nI z ∧ z ≤ 10) : CtV l yX3_remember cX3_remember 2 2 D (tyG cI cZ cN) [.ref (a 0), .ref (b 0)] ((pPast cI cN a S R) ++ (pNow cI b U)) (fun w => w = pPast cI cN a (pastS S (nI ((3 + 1) % 10)) (nI (min 10 (z + 1)))) (upR R 3 (cpN U (R 3))) ++ pNow cI b U) := by
  refine CtV.of rfl (Nat.le_of_ble_eq_true rfl) ?_
  intro pg ev sx mx ax bx mt cx ls Qx Ax Sx hret hW hl
  have hx := Sx.1
  have hb := Sx.2.1
  have hl : lv_has ls 2 [(0, .ref (a 0)), (1, .ref (b 0))] := hl
  refine lv_aload_n hx hb dX3_remember_0 rfl (lv_at hl 0 rfl) ?_
  refine r_get Sx hW 0 rfl rfl bw_wsX30 0 (by decide) (v := .ref (a 1)) rfl mw89 dX3_remember_1 ?_
  refine lv_aload_n hx hb dX3_remember_4 rfl (lv_at hl 0 rfl) ?_
  refine r_get Sx hW 0 rfl rfl bw_wsX30 1 (by decide) (v := .int (S 0 0)) rfl mw90 dX3_remember_5 ?_
  refine r_eq (y := (nI 3)) hk ?_
  refine r_aald Sx hW 1 2 rfl rfl (j := 3) rfl (by decide) (by decide) (v := (a 14)) rfl dX3_remember_8 ?_
  refine lv_aload_n hx hb dX3_remember_9 rfl (lv_at hl 1 rfl) ?_
  refine callVV Sx hW (c_X2_take l D cI cZ cN (fun i => a (i + 14)) b (R 3) U) vmX2_take mw544 [14, 15, 16, 17, 42, 43, 44, 45] rfl (by decide) 0 rfl rfl (As := [.ref (b 0)]) (rest := []) rfl rfl hl.1 (Nat.le_of_ble_eq_true rfl) ⟨Nat.le_of_ble_eq_true rfl, Nat.le_of_ble_eq_true rfl⟩ ⟨Nat.le_refl _, Nat.le_refl _⟩ dX3_remember_10 (fun wx H locs hqx hW => ?_)
  obtain rfl := hqx
  have hW : AtC D (tyG cI cZ cN) Ax ((pPast cI cN a S (upR R 3 (cpN U (R 3)))) ++ (pNow cI b U)) sx H locs := hW.re [0, 1, 2, 3, 4, 5, 6, 7, 8, 9, 10, 11, 12, 13, 18, 19, 20, 21, 22, 23, 24, 25, 26, 27, 28, 29, 30, 31, 32, 33, 34, 35, 36, 37, 38, 39, 40, 41] 46 (by decide) rfl rfl ⟨rfl, rfl, rfl, rfl, rfl, rfl, rfl, rfl, rfl, rfl, rfl, rfl, rfl, rfl, rfl, rfl, rfl, rfl, rfl, rfl, rfl, rfl, rfl, rfl, rfl, rfl, rfl, rfl, rfl, rfl, rfl, rfl, rfl, rfl, rfl, rfl, rfl, rfl, trivial⟩ (by decide +kernel) rfl rfl
  refine lv_aload_n hx hb dX3_remember_13 rfl (lv_at hl 0 rfl) ?_
  refine lv_aload_n hx hb dX3_remember_14 rfl (lv_at hl 0 rfl) ?_
  refine r_get Sx hW 0 rfl rfl bw_wsX30 1 (by decide) (v := .int (S 0 0)) rfl mw90 dX3_remember_15 ?_
  refine r_eq (y := (nI 3)) hk ?_
  refine lv_iconst (v := (1 : Int32)) hx hb dX3_remember_18 rfl ?_
  refine lv_iadd hx hb dX3_remember_19 ?_
  refine r_eq (y := (nI (3 + 1))) (nI_add 3 1) ?_
  refine lv_bipush (v := (10 : Int32)) hx hb dX3_remember_20 rfl ?_
  refine lv_irem hx hb dX3_remember_22 (by decide) ?_
  refine r_eq (y := (nI 4)) (by decide) ?_
  refine r_put Sx hW 0 rfl rfl bw_wsX30 tyX3_ok nmX3 1 (by decide) mw90 rfl rfl rfl (Nat.le_of_ble_eq_true rfl) dX3_remember_23 (ws' := ((pPast cI cN a (upA S 0 (upd (S 0) 0 (nI 4))) (upR R 3 (cpN U (R 3)))) ++ (pNow cI b U))) rfl (fun H locs hW => ?_)
  refine lv_aload_n hx hb dX3_remember_26 rfl (lv_at hl 0 rfl) ?_
  refine lv_bipush (v := (10 : Int32)) hx hb dX3_remember_27 rfl ?_
  refine lv_aload_n hx hb dX3_remember_29 rfl (lv_at hl 0 rfl) ?_
  refine r_get Sx hW 0 rfl rfl bw_wsX30 2 (by decide) (v := .int (S 0 1)) rfl mw91 dX3_remember_30 ?_
  refine r_eq (y := (nI z)) hz.1 ?_
  refine lv_iconst (v := (1 : Int32)) hx hb dX3_remember_33 rfl ?_
  refine lv_iadd hx hb dX3_remember_34 ?_
  refine r_eq (y := (nI (z + 1))) (nI_add z 1) ?_
  refine r_min Sx mw541 mw542 mw330 mw543 hl.1 (by decide) (Nat.le_of_ble_eq_true rfl) ⟨by decide, by decide⟩ dX3_remember_35 ?_
  refine r_eq (y := (nI (min 10 (z + 1)))) (min10 z hz.2) ?_
  refine r_put Sx hW 0 rfl rfl bw_wsX30 tyX3_ok nmX3 2 (by decide) mw91 rfl rfl rfl (Nat.le_of_ble_eq_true rfl) dX3_remember_38 (ws' := ((pPast cI cN a (upA S 0 (upd (upd (S 0) 0 (nI 4)) 1 (nI (min 10 (z + 1))))) (upR R 3 (cpN U (R 3)))) ++ (pNow cI b U))) rfl (fun H locs hW => ?_)
  exact hret _ _ _ _ _ hW rfl dX3_remember_41 rfl

set_option maxHeartbeats 4000000 in
set_option maxRecDepth 100000 in
theorem c_X3_remember_4 (l : Launch) (D : va_G) (cI cZ cN : ClassId) (a b : Nat → Nat) (S : NV) (R : Nat → NV) (U : NV) (z : Nat) (hk : S 0 0 = nI 4) (hz : S 0 1 = nI z ∧ z ≤ 10) : CtV l yX3_remember cX3_remember 2 2 D (tyG cI cZ cN) [.ref (a 0), .ref (b 0)] ((pPast cI cN a S R) ++ (pNow cI b U)) (fun w => w = pPast cI cN a (pastS S (nI ((4 + 1) % 10)) (nI (min 10 (z + 1)))) (upR R 4 (cpN U (R 4))) ++ pNow cI b U) := by
  refine CtV.of rfl (Nat.le_of_ble_eq_true rfl) ?_
  intro pg ev sx mx ax bx mt cx ls Qx Ax Sx hret hW hl
  have hx := Sx.1
  have hb := Sx.2.1
  have hl : lv_has ls 2 [(0, .ref (a 0)), (1, .ref (b 0))] := hl
  refine lv_aload_n hx hb dX3_remember_0 rfl (lv_at hl 0 rfl) ?_
  refine r_get Sx hW 0 rfl rfl bw_wsX30 0 (by decide) (v := .ref (a 1)) rfl mw89 dX3_remember_1 ?_
  refine lv_aload_n hx hb dX3_remember_4 rfl (lv_at hl 0 rfl) ?_
  refine r_get Sx hW 0 rfl rfl bw_wsX30 1 (by decide) (v := .int (S 0 0)) rfl mw90 dX3_remember_5 ?_
  refine r_eq (y := (nI 4)) hk ?_
  refine r_aald Sx hW 1 2 rfl rfl (j := 4) rfl (by decide) (by decide) (v := (a 18)) rfl dX3_remember_8 ?_
  refine lv_aload_n hx hb dX3_remember_9 rfl (lv_at hl 1 rfl) ?_
  refine callVV Sx hW (c_X2_take l D cI cZ cN (fun i => a (i + 18)) b (R 4) U) vmX2_take mw544 [18, 19, 20, 21, 42, 43, 44, 45] rfl (by decide) 0 rfl rfl (As := [.ref (b 0)]) (rest := []) rfl rfl hl.1 (Nat.le_of_ble_eq_true rfl) ⟨Nat.le_of_ble_eq_true rfl, Nat.le_of_ble_eq_true rfl⟩ ⟨Nat.le_refl _, Nat.le_refl _⟩ dX3_remember_10 (fun wx H locs hqx hW => ?_)
  obtain rfl := hqx
  have hW : AtC D (tyG cI cZ cN) Ax ((pPast cI cN a S (upR R 4 (cpN U (R 4)))) ++ (pNow cI b U)) sx H locs := hW.re [0, 1, 2, 3, 4, 5, 6, 7, 8, 9, 10, 11, 12, 13, 14, 15, 16, 17, 22, 23, 24, 25, 26, 27, 28, 29, 30, 31, 32, 33, 34, 35, 36, 37, 38, 39, 40, 41] 46 (by decide) rfl rfl ⟨rfl, rfl, rfl, rfl, rfl, rfl, rfl, rfl, rfl, rfl, rfl, rfl, rfl, rfl, rfl, rfl, rfl, rfl, rfl, rfl, rfl, rfl, rfl, rfl, rfl, rfl, rfl, rfl, rfl, rfl, rfl, rfl, rfl, rfl, rfl, rfl, rfl, rfl, trivial⟩ (by decide +kernel) rfl rfl
  refine lv_aload_n hx hb dX3_remember_13 rfl (lv_at hl 0 rfl) ?_
  refine lv_aload_n hx hb dX3_remember_14 rfl (lv_at hl 0 rfl) ?_
  refine r_get Sx hW 0 rfl rfl bw_wsX30 1 (by decide) (v := .int (S 0 0)) rfl mw90 dX3_remember_15 ?_
  refine r_eq (y := (nI 4)) hk ?_
  refine lv_iconst (v := (1 : Int32)) hx hb dX3_remember_18 rfl ?_
  refine lv_iadd hx hb dX3_remember_19 ?_
  refine r_eq (y := (nI (4 + 1))) (nI_add 4 1) ?_
  refine lv_bipush (v := (10 : Int32)) hx hb dX3_remember_20 rfl ?_
  refine lv_irem hx hb dX3_remember_22 (by decide) ?_
  refine r_eq (y := (nI 5)) (by decide) ?_
  refine r_put Sx hW 0 rfl rfl bw_wsX30 tyX3_ok nmX3 1 (by decide) mw90 rfl rfl rfl (Nat.le_of_ble_eq_true rfl) dX3_remember_23 (ws' := ((pPast cI cN a (upA S 0 (upd (S 0) 0 (nI 5))) (upR R 4 (cpN U (R 4)))) ++ (pNow cI b U))) rfl (fun H locs hW => ?_)
  refine lv_aload_n hx hb dX3_remember_26 rfl (lv_at hl 0 rfl) ?_
  refine lv_bipush (v := (10 : Int32)) hx hb dX3_remember_27 rfl ?_
  refine lv_aload_n hx hb dX3_remember_29 rfl (lv_at hl 0 rfl) ?_
  refine r_get Sx hW 0 rfl rfl bw_wsX30 2 (by decide) (v := .int (S 0 1)) rfl mw91 dX3_remember_30 ?_
  refine r_eq (y := (nI z)) hz.1 ?_
  refine lv_iconst (v := (1 : Int32)) hx hb dX3_remember_33 rfl ?_
  refine lv_iadd hx hb dX3_remember_34 ?_
  refine r_eq (y := (nI (z + 1))) (nI_add z 1) ?_
  refine r_min Sx mw541 mw542 mw330 mw543 hl.1 (by decide) (Nat.le_of_ble_eq_true rfl) ⟨by decide, by decide⟩ dX3_remember_35 ?_
  refine r_eq (y := (nI (min 10 (z + 1)))) (min10 z hz.2) ?_
  refine r_put Sx hW 0 rfl rfl bw_wsX30 tyX3_ok nmX3 2 (by decide) mw91 rfl rfl rfl (Nat.le_of_ble_eq_true rfl) dX3_remember_38 (ws' := ((pPast cI cN a (upA S 0 (upd (upd (S 0) 0 (nI 5)) 1 (nI (min 10 (z + 1))))) (upR R 4 (cpN U (R 4)))) ++ (pNow cI b U))) rfl (fun H locs hW => ?_)
  exact hret _ _ _ _ _ hW rfl dX3_remember_41 rfl

set_option maxHeartbeats 4000000 in
set_option maxRecDepth 100000 in
theorem c_X3_remember_5 (l : Launch) (D : va_G) (cI cZ cN : ClassId) (a b : Nat → Nat) (S : NV) (R : Nat → NV) (U : NV) (z : Nat) (hk : S 0 0 = nI 5) (hz : S 0 1 = nI z ∧ z ≤ 10) : CtV l yX3_remember cX3_remember 2 2 D (tyG cI cZ cN) [.ref (a 0), .ref (b 0)] ((pPast cI cN a S R) ++ (pNow cI b U)) (fun w => w = pPast cI cN a (pastS S (nI ((5 + 1) % 10)) (nI (min 10 (z + 1)))) (upR R 5 (cpN U (R 5))) ++ pNow cI b U) := by
  refine CtV.of rfl (Nat.le_of_ble_eq_true rfl) ?_
  intro pg ev sx mx ax bx mt cx ls Qx Ax Sx hret hW hl
  have hx := Sx.1
  have hb := Sx.2.1
  have hl : lv_has ls 2 [(0, .ref (a 0)), (1, .ref (b 0))] := hl
  refine lv_aload_n hx hb dX3_remember_0 rfl (lv_at hl 0 rfl) ?_
  refine r_get Sx hW 0 rfl rfl bw_wsX30 0 (by decide) (v := .ref (a 1)) rfl mw89 dX3_remember_1 ?_
  refine lv_aload_n hx hb dX3_remember_4 rfl (lv_at hl 0 rfl) ?_
  refine r_get Sx hW 0 rfl rfl bw_wsX30 1 (by decide) (v := .int (S 0 0)) rfl mw90 dX3_remember_5 ?_
  refine r_eq (y := (nI 5)) hk ?_
  refine r_aald Sx hW 1 2 rfl rfl (j := 5) rfl (by decide) (by decide) (v := (a 22)) rfl dX3_remember_8 ?_
  refine lv_aload_n hx hb dX3_remember_9 rfl (lv_at hl 1 rfl) ?_
  refine callVV Sx hW (c_X2_take l D cI cZ cN (fun i => a (i + 22)) b (R 5) U) vmX2_take mw544 [22, 23, 24, 25, 42, 43, 44, 45] rfl (by decide) 0 rfl rfl (As := [.ref (b 0)]) (rest := []) rfl rfl hl.1 (Nat.le_of_ble_eq_true rfl) ⟨Nat.le_of_ble_eq_true rfl, Nat.le_of_ble_eq_true rfl⟩ ⟨Nat.le_refl _, Nat.le_refl _⟩ dX3_remember_10 (fun wx H locs hqx hW => ?_)
  obtain rfl := hqx
  have hW : AtC D (tyG cI cZ cN) Ax ((pPast cI cN a S (upR R 5 (cpN U (R 5)))) ++ (pNow cI b U)) sx H locs := hW.re [0, 1, 2, 3, 4, 5, 6, 7, 8, 9, 10, 11, 12, 13, 14, 15, 16, 17, 18, 19, 20, 21, 26, 27, 28, 29, 30, 31, 32, 33, 34, 35, 36, 37, 38, 39, 40, 41] 46 (by decide) rfl rfl ⟨rfl, rfl, rfl, rfl, rfl, rfl, rfl, rfl, rfl, rfl, rfl, rfl, rfl, rfl, rfl, rfl, rfl, rfl, rfl, rfl, rfl, rfl, rfl, rfl, rfl, rfl, rfl, rfl, rfl, rfl, rfl, rfl, rfl, rfl, rfl, rfl, rfl, rfl, trivial⟩ (by decide +kernel) rfl rfl
  refine lv_aload_n hx hb dX3_remember_13 rfl (lv_at hl 0 rfl) ?_
  refine lv_aload_n hx hb dX3_remember_14 rfl (lv_at hl 0 rfl) ?_
  refine r_get Sx hW 0 rfl rfl bw_wsX30 1 (by decide) (v := .int (S 0 0)) rfl mw90 dX3_remember_15 ?_
  refine r_eq (y := (nI 5)) hk ?_
  refine lv_iconst (v := (1 : Int32)) hx hb dX3_remember_18 rfl ?_
  refine lv_iadd hx hb dX3_remember_19 ?_
  refine r_eq (y := (nI (5 + 1))) (nI_add 5 1) ?_
  refine lv_bipush (v := (10 : Int32)) hx hb dX3_remember_20 rfl ?_
  refine lv_irem hx hb dX3_remember_22 (by decide) ?_
  refine r_eq (y := (nI 6)) (by decide) ?_
  refine r_put Sx hW 0 rfl rfl bw_wsX30 tyX3_ok nmX3 1 (by decide) mw90 rfl rfl rfl (Nat.le_of_ble_eq_true rfl) dX3_remember_23 (ws' := ((pPast cI cN a (upA S 0 (upd (S 0) 0 (nI 6))) (upR R 5 (cpN U (R 5)))) ++ (pNow cI b U))) rfl (fun H locs hW => ?_)
  refine lv_aload_n hx hb dX3_remember_26 rfl (lv_at hl 0 rfl) ?_
  refine lv_bipush (v := (10 : Int32)) hx hb dX3_remember_27 rfl ?_
  refine lv_aload_n hx hb dX3_remember_29 rfl (lv_at hl 0 rfl) ?_
  refine r_get Sx hW 0 rfl rfl bw_wsX30 2 (by decide) (v := .int (S 0 1)) rfl mw91 dX3_remember_30 ?_
  refine r_eq (y := (nI z)) hz.1 ?_
  refine lv_iconst (v := (1 : Int32)) hx hb dX3_remember_33 rfl ?_
  refine lv_iadd hx hb dX3_remember_34 ?_
  refine r_eq (y := (nI (z + 1))) (nI_add z 1) ?_
  refine r_min Sx mw541 mw542 mw330 mw543 hl.1 (by decide) (Nat.le_of_ble_eq_true rfl) ⟨by decide, by decide⟩ dX3_remember_35 ?_
  refine r_eq (y := (nI (min 10 (z + 1)))) (min10 z hz.2) ?_
  refine r_put Sx hW 0 rfl rfl bw_wsX30 tyX3_ok nmX3 2 (by decide) mw91 rfl rfl rfl (Nat.le_of_ble_eq_true rfl) dX3_remember_38 (ws' := ((pPast cI cN a (upA S 0 (upd (upd (S 0) 0 (nI 6)) 1 (nI (min 10 (z + 1))))) (upR R 5 (cpN U (R 5)))) ++ (pNow cI b U))) rfl (fun H locs hW => ?_)
  exact hret _ _ _ _ _ hW rfl dX3_remember_41 rfl

set_option maxHeartbeats 4000000 in
set_option maxRecDepth 100000 in
theorem c_X3_remember_6 (l : Launch) (D : va_G) (cI cZ cN : ClassId) (a b : Nat → Nat) (S : NV) (R : Nat → NV) (U : NV) (z : Nat) (hk : S 0 0 = nI 6) (hz : S 0 1 = nI z ∧ z ≤ 10) : CtV l yX3_remember cX3_remember 2 2 D (tyG cI cZ cN) [.ref (a 0), .ref (b 0)] ((pPast cI cN a S R) ++ (pNow cI b U)) (fun w => w = pPast cI cN a (pastS S (nI ((6 + 1) % 10)) (nI (min 10 (z + 1)))) (upR R 6 (cpN U (R 6))) ++ pNow cI b U) := by
  refine CtV.of rfl (Nat.le_of_ble_eq_true rfl) ?_
  intro pg ev sx mx ax bx mt cx ls Qx Ax Sx hret hW hl
  have hx := Sx.1
  have hb := Sx.2.1
  have hl : lv_has ls 2 [(0, .ref (a 0)), (1, .ref (b 0))] := hl
  refine lv_aload_n hx hb dX3_remember_0 rfl (lv_at hl 0 rfl) ?_
  refine r_get Sx hW 0 rfl rfl bw_wsX30 0 (by decide) (v := .ref (a 1)) rfl mw89 dX3_remember_1 ?_
  refine lv_aload_n hx hb dX3_remember_4 rfl (lv_at hl 0 rfl) ?_
  refine r_get Sx hW 0 rfl rfl bw_wsX30 1 (by decide) (v := .int (S 0 0)) rfl mw90 dX3_remember_5 ?_
  refine r_eq (y := (nI 6)) hk ?_
  refine r_aald Sx hW 1 2 rfl rfl (j := 6) rfl (by decide) (by decide) (v := (a 26)) rfl dX3_remember_8 ?_
  refine lv_aload_n hx hb dX3_remember_9 rfl (lv_at hl 1 rfl) ?_
  refine callVV Sx hW (c_X2_take l D cI cZ cN (fun i => a (i + 26)) b (R 6) U) vmX2_take mw544 [26, 27, 28, 29, 42, 43, 44, 45] rfl (by decide) 0 rfl rfl (As := [.ref (b 0)]) (rest := []) rfl rfl hl.1 (Nat.le_of_ble_eq_true rfl) ⟨Nat.le_of_ble_eq_true rfl, Nat.le_of_ble_eq_true rfl⟩ ⟨Nat.le_refl _, Nat.le_refl _⟩ dX3_remember_10 (fun wx H locs hqx hW => ?_)
  obtain rfl := hqx
  have hW : AtC D (tyG cI cZ cN) Ax ((pPast cI cN a S (upR R 6 (cpN U (R 6)))) ++ (pNow cI b U)) sx H locs := hW.re [0, 1, 2, 3, 4, 5, 6, 7, 8, 9, 10, 11, 12, 13, 14, 15, 16, 17, 18, 19, 20, 21, 22, 23, 24, 25, 30, 31, 32, 33, 34, 35, 36, 37, 38, 39, 40, 41] 46 (by decide) rfl rfl ⟨rfl, rfl, rfl, rfl, rfl, rfl, rfl, rfl, rfl, rfl, rfl, rfl, rfl, rfl, rfl, rfl, rfl, rfl, rfl, rfl, rfl, rfl, rfl, rfl, rfl, rfl, rfl, rfl, rfl, rfl, rfl, rfl, rfl, rfl, rfl, rfl, rfl, rfl, trivial⟩ (by decide +kernel) rfl rfl
  refine lv_aload_n hx hb dX3_remember_13 rfl (lv_at hl 0 rfl) ?_
  refine lv_aload_n hx hb dX3_remember_14 rfl (lv_at hl 0 rfl) ?_
  refine r_get Sx hW 0 rfl rfl bw_wsX30 1 (by decide) (v := .int (S 0 0)) rfl mw90 dX3_remember_15 ?_
  refine r_eq (y := (nI 6)) hk ?_
  refine lv_iconst (v := (1 : Int32)) hx hb dX3_remember_18 rfl ?_
  refine lv_iadd hx hb dX3_remember_19 ?_
  refine r_eq (y := (nI (6 + 1))) (nI_add 6 1) ?_
  refine lv_bipush (v := (10 : Int32)) hx hb dX3_remember_20 rfl ?_
  refine lv_irem hx hb dX3_remember_22 (by decide) ?_
  refine r_eq (y := (nI 7)) (by decide) ?_
  refine r_put Sx hW 0 rfl rfl bw_wsX30 tyX3_ok nmX3 1 (by decide) mw90 rfl rfl rfl (Nat.le_of_ble_eq_true rfl) dX3_remember_23 (ws' := ((pPast cI cN a (upA S 0 (upd (S 0) 0 (nI 7))) (upR R 6 (cpN U (R 6)))) ++ (pNow cI b U))) rfl (fun H locs hW => ?_)
  refine lv_aload_n hx hb dX3_remember_26 rfl (lv_at hl 0 rfl) ?_
  refine lv_bipush (v := (10 : Int32)) hx hb dX3_remember_27 rfl ?_
  refine lv_aload_n hx hb dX3_remember_29 rfl (lv_at hl 0 rfl) ?_
  refine r_get Sx hW 0 rfl rfl bw_wsX30 2 (by decide) (v := .int (S 0 1)) rfl mw91 dX3_remember_30 ?_
  refine r_eq (y := (nI z)) hz.1 ?_
  refine lv_iconst (v := (1 : Int32)) hx hb dX3_remember_33 rfl ?_
  refine lv_iadd hx hb dX3_remember_34 ?_
  refine r_eq (y := (nI (z + 1))) (nI_add z 1) ?_
  refine r_min Sx mw541 mw542 mw330 mw543 hl.1 (by decide) (Nat.le_of_ble_eq_true rfl) ⟨by decide, by decide⟩ dX3_remember_35 ?_
  refine r_eq (y := (nI (min 10 (z + 1)))) (min10 z hz.2) ?_
  refine r_put Sx hW 0 rfl rfl bw_wsX30 tyX3_ok nmX3 2 (by decide) mw91 rfl rfl rfl (Nat.le_of_ble_eq_true rfl) dX3_remember_38 (ws' := ((pPast cI cN a (upA S 0 (upd (upd (S 0) 0 (nI 7)) 1 (nI (min 10 (z + 1))))) (upR R 6 (cpN U (R 6)))) ++ (pNow cI b U))) rfl (fun H locs hW => ?_)
  exact hret _ _ _ _ _ hW rfl dX3_remember_41 rfl

set_option maxHeartbeats 4000000 in
set_option maxRecDepth 100000 in
theorem c_X3_remember_7 (l : Launch) (D : va_G) (cI cZ cN : ClassId) (a b : Nat → Nat) (S : NV) (R : Nat → NV) (U : NV) (z : Nat) (hk : S 0 0 = nI 7) (hz : S 0 1 = nI z ∧ z ≤ 10) : CtV l yX3_remember cX3_remember 2 2 D (tyG cI cZ cN) [.ref (a 0), .ref (b 0)] ((pPast cI cN a S R) ++ (pNow cI b U)) (fun w => w = pPast cI cN a (pastS S (nI ((7 + 1) % 10)) (nI (min 10 (z + 1)))) (upR R 7 (cpN U (R 7))) ++ pNow cI b U) := by
  refine CtV.of rfl (Nat.le_of_ble_eq_true rfl) ?_
  intro pg ev sx mx ax bx mt cx ls Qx Ax Sx hret hW hl
  have hx := Sx.1
  have hb := Sx.2.1
  have hl : lv_has ls 2 [(0, .ref (a 0)), (1, .ref (b 0))] := hl
  refine lv_aload_n hx hb dX3_remember_0 rfl (lv_at hl 0 rfl) ?_
  refine r_get Sx hW 0 rfl rfl bw_wsX30 0 (by decide) (v := .ref (a 1)) rfl mw89 dX3_remember_1 ?_
  refine lv_aload_n hx hb dX3_remember_4 rfl (lv_at hl 0 rfl) ?_
  refine r_get Sx hW 0 rfl rfl bw_wsX30 1 (by decide) (v := .int (S 0 0)) rfl mw90 dX3_remember_5 ?_
  refine r_eq (y := (nI 7)) hk ?_
  refine r_aald Sx hW 1 2 rfl rfl (j := 7) rfl (by decide) (by decide) (v := (a 30)) rfl dX3_remember_8 ?_
  refine lv_aload_n hx hb dX3_remember_9 rfl (lv_at hl 1 rfl) ?_
  refine callVV Sx hW (c_X2_take l D cI cZ cN (fun i => a (i + 30)) b (R 7) U) vmX2_take mw544 [30, 31, 32, 33, 42, 43, 44, 45] rfl (by decide) 0 rfl rfl (As := [.ref (b 0)]) (rest := []) rfl rfl hl.1 (Nat.le_of_ble_eq_true rfl) ⟨Nat.le_of_ble_eq_true rfl, Nat.le_of_ble_eq_true rfl⟩ ⟨Nat.le_refl _, Nat.le_refl _⟩ dX3_remember_10 (fun wx H locs hqx hW => ?_)
  obtain rfl := hqx
  have hW : AtC D (tyG cI cZ cN) Ax ((pPast cI cN a S (upR R 7 (cpN U (R 7)))) ++ (pNow cI b U)) sx H locs := hW.re [0, 1, 2, 3, 4, 5, 6, 7, 8, 9, 10, 11, 12, 13, 14, 15, 16, 17, 18, 19, 20, 21, 22, 23, 24, 25, 26, 27, 28, 29, 34, 35, 36, 37, 38, 39, 40, 41] 46 (by decide) rfl rfl ⟨rfl, rfl, rfl, rfl, rfl, rfl, rfl, rfl, rfl, rfl, rfl, rfl, rfl, rfl, rfl, rfl, rfl, rfl, rfl, rfl, rfl, rfl, rfl, rfl, rfl, rfl, rfl, rfl, rfl, rfl, rfl, rfl, rfl, rfl, rfl, rfl, rfl, rfl, trivial⟩ (by decide +kernel) rfl rfl
  refine lv_aload_n hx hb dX3_remember_13 rfl (lv_at hl 0 rfl) ?_
  refine lv_aload_n hx hb dX3_remember_14 rfl (lv_at hl 0 rfl) ?_
  refine r_get Sx hW 0 rfl rfl bw_wsX30 1 (by decide) (v := .int (S 0 0)) rfl mw90 dX3_remember_15 ?_
  refine r_eq (y := (nI 7)) hk ?_
  refine lv_iconst (v := (1 : Int32)) hx hb dX3_remember_18 rfl ?_
  refine lv_iadd hx hb dX3_remember_19 ?_
  refine r_eq (y := (nI (7 + 1))) (nI_add 7 1) ?_
  refine lv_bipush (v := (10 : Int32)) hx hb dX3_remember_20 rfl ?_
  refine lv_irem hx hb dX3_remember_22 (by decide) ?_
  refine r_eq (y := (nI 8)) (by decide) ?_
  refine r_put Sx hW 0 rfl rfl bw_wsX30 tyX3_ok nmX3 1 (by decide) mw90 rfl rfl rfl (Nat.le_of_ble_eq_true rfl) dX3_remember_23 (ws' := ((pPast cI cN a (upA S 0 (upd (S 0) 0 (nI 8))) (upR R 7 (cpN U (R 7)))) ++ (pNow cI b U))) rfl (fun H locs hW => ?_)
  refine lv_aload_n hx hb dX3_remember_26 rfl (lv_at hl 0 rfl) ?_
  refine lv_bipush (v := (10 : Int32)) hx hb dX3_remember_27 rfl ?_
  refine lv_aload_n hx hb dX3_remember_29 rfl (lv_at hl 0 rfl) ?_
  refine r_get Sx hW 0 rfl rfl bw_wsX30 2 (by decide) (v := .int (S 0 1)) rfl mw91 dX3_remember_30 ?_
  refine r_eq (y := (nI z)) hz.1 ?_
  refine lv_iconst (v := (1 : Int32)) hx hb dX3_remember_33 rfl ?_
  refine lv_iadd hx hb dX3_remember_34 ?_
  refine r_eq (y := (nI (z + 1))) (nI_add z 1) ?_
  refine r_min Sx mw541 mw542 mw330 mw543 hl.1 (by decide) (Nat.le_of_ble_eq_true rfl) ⟨by decide, by decide⟩ dX3_remember_35 ?_
  refine r_eq (y := (nI (min 10 (z + 1)))) (min10 z hz.2) ?_
  refine r_put Sx hW 0 rfl rfl bw_wsX30 tyX3_ok nmX3 2 (by decide) mw91 rfl rfl rfl (Nat.le_of_ble_eq_true rfl) dX3_remember_38 (ws' := ((pPast cI cN a (upA S 0 (upd (upd (S 0) 0 (nI 8)) 1 (nI (min 10 (z + 1))))) (upR R 7 (cpN U (R 7)))) ++ (pNow cI b U))) rfl (fun H locs hW => ?_)
  exact hret _ _ _ _ _ hW rfl dX3_remember_41 rfl

set_option maxHeartbeats 4000000 in
set_option maxRecDepth 100000 in
theorem c_X3_remember_8 (l : Launch) (D : va_G) (cI cZ cN : ClassId) (a b : Nat → Nat) (S : NV) (R : Nat → NV) (U : NV) (z : Nat) (hk : S 0 0 = nI 8) (hz : S 0 1 = nI z ∧ z ≤ 10) : CtV l yX3_remember cX3_remember 2 2 D (tyG cI cZ cN) [.ref (a 0), .ref (b 0)] ((pPast cI cN a S R) ++ (pNow cI b U)) (fun w => w = pPast cI cN a (pastS S (nI ((8 + 1) % 10)) (nI (min 10 (z + 1)))) (upR R 8 (cpN U (R 8))) ++ pNow cI b U) := by
  refine CtV.of rfl (Nat.le_of_ble_eq_true rfl) ?_
  intro pg ev sx mx ax bx mt cx ls Qx Ax Sx hret hW hl
  have hx := Sx.1
  have hb := Sx.2.1
  have hl : lv_has ls 2 [(0, .ref (a 0)), (1, .ref (b 0))] := hl
  refine lv_aload_n hx hb dX3_remember_0 rfl (lv_at hl 0 rfl) ?_
  refine r_get Sx hW 0 rfl rfl bw_wsX30 0 (by decide) (v := .ref (a 1)) rfl mw89 dX3_remember_1 ?_
  refine lv_aload_n hx hb dX3_remember_4 rfl (lv_at hl 0 rfl) ?_
  refine r_get Sx hW 0 rfl rfl bw_wsX30 1 (by decide) (v := .int (S 0 0)) rfl mw90 dX3_remember_5 ?_
  refine r_eq (y := (nI 8)) hk ?_
  refine r_aald Sx hW 1 2 rfl rfl (j := 8) rfl (by decide) (by decide) (v := (a 34)) rfl dX3_remember_8 ?_
  refine lv_aload_n hx hb dX3_remember_9 rfl (lv_at hl 1 rfl) ?_
  refine callVV Sx hW (c_X2_take l D cI cZ cN (fun i => a (i + 34)) b (R 8) U) vmX2_take mw544 [34, 35, 36, 37, 42, 43, 44, 45] rfl (by decide) 0 rfl rfl (As := [.ref (b 0)]) (rest := []) rfl rfl hl.1 (Nat.le_of_ble_eq_true rfl) ⟨Nat.le_of_ble_eq_true rfl, Nat.le_of_ble_eq_true rfl⟩ ⟨Nat.le_refl _, Nat.le_refl _⟩ dX3_remember_10 (fun wx H locs hqx hW => ?_)
  obtain rfl := hqx
  have hW : AtC D (tyG cI cZ cN) Ax ((pPast cI cN a S (upR R 8 (cpN U (R 8)))) ++ (pNow cI b U)) sx H locs := hW.re [0, 1, 2, 3, 4, 5, 6, 7, 8, 9, 10, 11, 12, 13, 14, 15, 16, 17, 18, 19, 20, 21, 22, 23, 24, 25, 26, 27, 28, 29, 30, 31, 32, 33, 38, 39, 40, 41] 46 (by decide) rfl rfl ⟨rfl, rfl, rfl, rfl, rfl, rfl, rfl, rfl, rfl, rfl, rfl, rfl, rfl, rfl, rfl, rfl, rfl, rfl, rfl, rfl, rfl, rfl, rfl, rfl, rfl, rfl, rfl, rfl, rfl, rfl, rfl, rfl, rfl, rfl, rfl, rfl, rfl, rfl, trivial⟩ (by decide +kernel) rfl rfl
  refine lv_aload_n hx hb dX3_remember_13 rfl (lv_at hl 0 rfl) ?_
  refine lv_aload_n hx hb dX3_remember_14 rfl (lv_at hl 0 rfl) ?_
  refine r_get Sx hW 0 rfl rfl bw_wsX30 1 (by decide) (v := .int (S 0 0)) rfl mw90 dX3_remember_15 ?_
  refine r_eq (y := (nI 8)) hk ?_
  refine lv_iconst (v := (1 : Int32)) hx hb dX3_remember_18 rfl ?_
  refine lv_iadd hx hb dX3_remember_19 ?_
  refine r_eq (y := (nI (8 + 1))) (nI_add 8 1) ?_
  refine lv_bipush (v := (10 : Int32)) hx hb dX3_remember_20 rfl ?_
  refine lv_irem hx hb dX3_remember_22 (by decide) ?_
  refine r_eq (y := (nI 9)) (by decide) ?_
  refine r_put Sx hW 0 rfl rfl bw_wsX30 tyX3_ok nmX3 1 (by decide) mw90 rfl rfl rfl (Nat.le_of_ble_eq_true rfl) dX3_remember_23 (ws' := ((pPast cI cN a (upA S 0 (upd (S 0) 0 (nI 9))) (upR R 8 (cpN U (R 8)))) ++ (pNow cI b U))) rfl (fun H locs hW => ?_)
  refine lv_aload_n hx hb dX3_remember_26 rfl (lv_at hl 0 rfl) ?_
  refine lv_bipush (v := (10 : Int32)) hx hb dX3_remember_27 rfl ?_
  refine lv_aload_n hx hb dX3_remember_29 rfl (lv_at hl 0 rfl) ?_
  refine r_get Sx hW 0 rfl rfl bw_wsX30 2 (by decide) (v := .int (S 0 1)) rfl mw91 dX3_remember_30 ?_
  refine r_eq (y := (nI z)) hz.1 ?_
  refine lv_iconst (v := (1 : Int32)) hx hb dX3_remember_33 rfl ?_
  refine lv_iadd hx hb dX3_remember_34 ?_
  refine r_eq (y := (nI (z + 1))) (nI_add z 1) ?_
  refine r_min Sx mw541 mw542 mw330 mw543 hl.1 (by decide) (Nat.le_of_ble_eq_true rfl) ⟨by decide, by decide⟩ dX3_remember_35 ?_
  refine r_eq (y := (nI (min 10 (z + 1)))) (min10 z hz.2) ?_
  refine r_put Sx hW 0 rfl rfl bw_wsX30 tyX3_ok nmX3 2 (by decide) mw91 rfl rfl rfl (Nat.le_of_ble_eq_true rfl) dX3_remember_38 (ws' := ((pPast cI cN a (upA S 0 (upd (upd (S 0) 0 (nI 9)) 1 (nI (min 10 (z + 1))))) (upR R 8 (cpN U (R 8)))) ++ (pNow cI b U))) rfl (fun H locs hW => ?_)
  exact hret _ _ _ _ _ hW rfl dX3_remember_41 rfl

set_option maxHeartbeats 4000000 in
set_option maxRecDepth 100000 in
theorem c_X3_remember_9 (l : Launch) (D : va_G) (cI cZ cN : ClassId) (a b : Nat → Nat) (S : NV) (R : Nat → NV) (U : NV) (z : Nat) (hk : S 0 0 = nI 9) (hz : S 0 1 = nI z ∧ z ≤ 10) : CtV l yX3_remember cX3_remember 2 2 D (tyG cI cZ cN) [.ref (a 0), .ref (b 0)] ((pPast cI cN a S R) ++ (pNow cI b U)) (fun w => w = pPast cI cN a (pastS S (nI ((9 + 1) % 10)) (nI (min 10 (z + 1)))) (upR R 9 (cpN U (R 9))) ++ pNow cI b U) := by
  refine CtV.of rfl (Nat.le_of_ble_eq_true rfl) ?_
  intro pg ev sx mx ax bx mt cx ls Qx Ax Sx hret hW hl
  have hx := Sx.1
  have hb := Sx.2.1
  have hl : lv_has ls 2 [(0, .ref (a 0)), (1, .ref (b 0))] := hl
  refine lv_aload_n hx hb dX3_remember_0 rfl (lv_at hl 0 rfl) ?_
  refine r_get Sx hW 0 rfl rfl bw_wsX30 0 (by decide) (v := .ref (a 1)) rfl mw89 dX3_remember_1 ?_
  refine lv_aload_n hx hb dX3_remember_4 rfl (lv_at hl 0 rfl) ?_
  refine r_get Sx hW 0 rfl rfl bw_wsX30 1 (by decide) (v := .int (S 0 0)) rfl mw90 dX3_remember_5 ?_
  refine r_eq (y := (nI 9)) hk ?_
  refine r_aald Sx hW 1 2 rfl rfl (j := 9) rfl (by decide) (by decide) (v := (a 38)) rfl dX3_remember_8 ?_
  refine lv_aload_n hx hb dX3_remember_9 rfl (lv_at hl 1 rfl) ?_
  refine callVV Sx hW (c_X2_take l D cI cZ cN (fun i => a (i + 38)) b (R 9) U) vmX2_take mw544 [38, 39, 40, 41, 42, 43, 44, 45] rfl (by decide) 0 rfl rfl (As := [.ref (b 0)]) (rest := []) rfl rfl hl.1 (Nat.le_of_ble_eq_true rfl) ⟨Nat.le_of_ble_eq_true rfl, Nat.le_of_ble_eq_true rfl⟩ ⟨Nat.le_refl _, Nat.le_refl _⟩ dX3_remember_10 (fun wx H locs hqx hW => ?_)
  obtain rfl := hqx
  have hW : AtC D (tyG cI cZ cN) Ax ((pPast cI cN a S (upR R 9 (cpN U (R 9)))) ++ (pNow cI b U)) sx H locs := hW.re [0, 1, 2, 3, 4, 5, 6, 7, 8, 9, 10, 11, 12, 13, 14, 15, 16, 17, 18, 19, 20, 21, 22, 23, 24, 25, 26, 27, 28, 29, 30, 31, 32, 33, 34, 35, 36, 37] 46 (by decide) rfl rfl ⟨rfl, rfl, rfl, rfl, rfl, rfl, rfl, rfl, rfl, rfl, rfl, rfl, rfl, rfl, rfl, rfl, rfl, rfl, rfl, rfl, rfl, rfl, rfl, rfl, rfl, rfl, rfl, rfl, rfl, rfl, rfl, rfl, rfl, rfl, rfl, rfl, rfl, rfl, trivial⟩ (by decide +kernel) rfl rfl
  refine lv_aload_n hx hb dX3_remember_13 rfl (lv_at hl 0 rfl) ?_
  refine lv_aload_n hx hb dX3_remember_14 rfl (lv_at hl 0 rfl) ?_
  refine r_get Sx hW 0 rfl rfl bw_wsX30 1 (by decide) (v := .int (S 0 0)) rfl mw90 dX3_remember_15 ?_
  refine r_eq (y := (nI 9)) hk ?_
  refine lv_iconst (v := (1 : Int32)) hx hb dX3_remember_18 rfl ?_
  refine lv_iadd hx hb dX3_remember_19 ?_
  refine r_eq (y := (nI (9 + 1))) (nI_add 9 1) ?_
  refine lv_bipush (v := (10 : Int32)) hx hb dX3_remember_20 rfl ?_
  refine lv_irem hx hb dX3_remember_22 (by decide) ?_
  refine r_eq (y := (nI 0)) (by decide) ?_
  refine r_put Sx hW 0 rfl rfl bw_wsX30 tyX3_ok nmX3 1 (by decide) mw90 rfl rfl rfl (Nat.le_of_ble_eq_true rfl) dX3_remember_23 (ws' := ((pPast cI cN a (upA S 0 (upd (S 0) 0 (nI 0))) (upR R 9 (cpN U (R 9)))) ++ (pNow cI b U))) rfl (fun H locs hW => ?_)
  refine lv_aload_n hx hb dX3_remember_26 rfl (lv_at hl 0 rfl) ?_
  refine lv_bipush (v := (10 : Int32)) hx hb dX3_remember_27 rfl ?_
  refine lv_aload_n hx hb dX3_remember_29 rfl (lv_at hl 0 rfl) ?_
  refine r_get Sx hW 0 rfl rfl bw_wsX30 2 (by decide) (v := .int (S 0 1)) rfl mw91 dX3_remember_30 ?_
  refine r_eq (y := (nI z)) hz.1 ?_
  refine lv_iconst (v := (1 : Int32)) hx hb dX3_remember_33 rfl ?_
  refine lv_iadd hx hb dX3_remember_34 ?_
  refine r_eq (y := (nI (z + 1))) (nI_add z 1) ?_
  refine r_min Sx mw541 mw542 mw330 mw543 hl.1 (by decide) (Nat.le_of_ble_eq_true rfl) ⟨by decide, by decide⟩ dX3_remember_35 ?_
  refine r_eq (y := (nI (min 10 (z + 1)))) (min10 z hz.2) ?_
  refine r_put Sx hW 0 rfl rfl bw_wsX30 tyX3_ok nmX3 2 (by decide) mw91 rfl rfl rfl (Nat.le_of_ble_eq_true rfl) dX3_remember_38 (ws' := ((pPast cI cN a (upA S 0 (upd (upd (S 0) 0 (nI 0)) 1 (nI (min 10 (z + 1))))) (upR R 9 (cpN U (R 9)))) ++ (pNow cI b U))) rfl (fun H locs hW => ?_)
  exact hret _ _ _ _ _ hW rfl dX3_remember_41 rfl

theorem c_X3_remember (l : Launch) (D : va_G) (cI cZ cN : ClassId) (a b : Nat → Nat) (S : NV) (R : Nat → NV) (U : NV) (k z : Nat) (hk : S 0 0 = nI k) (hk10 : k < 10) (hz : S 0 1 = nI z ∧ z ≤ 10) : CtV l yX3_remember cX3_remember 2 2 D (tyG cI cZ cN) [.ref (a 0), .ref (b 0)] ((pPast cI cN a S R) ++ (pNow cI b U)) (fun w => w = pPast cI cN a (pastS S (nI ((k + 1) % 10)) (nI (min 10 (z + 1)))) (upR R k (cpN U (R k))) ++ pNow cI b U) := by
  rcases (show k = 0 ∨ k = 1 ∨ k = 2 ∨ k = 3 ∨ k = 4 ∨ k = 5 ∨ k = 6 ∨ k = 7 ∨ k = 8 ∨ k = 9 by omega) with rfl | rfl | rfl | rfl | rfl | rfl | rfl | rfl | rfl | rfl
  · exact c_X3_remember_0 l D cI cZ cN a b S R U z hk hz
  · exact c_X3_remember_1 l D cI cZ cN a b S R U z hk hz
  · exact c_X3_remember_2 l D cI cZ cN a b S R U z hk hz
  · exact c_X3_remember_3 l D cI cZ cN a b S R U z hk hz
  · exact c_X3_remember_4 l D cI cZ cN a b S R U z hk hz
  · exact c_X3_remember_5 l D cI cZ cN a b S R U z hk hz
  · exact c_X3_remember_6 l D cI cZ cN a b S R U z hk hz
  · exact c_X3_remember_7 l D cI cZ cN a b S R U z hk hz
  · exact c_X3_remember_8 l D cI cZ cN a b S R U z hk hz
  · exact c_X3_remember_9 l D cI cZ cN a b S R U z hk hz

set_option maxHeartbeats 4000000 in
set_option maxRecDepth 100000 in
theorem c_X3_recall_0 (l : Launch) (D : va_G) (cI cZ cN : ClassId) (a b : Nat → Nat) (S : NV) (R : Nat → NV) (U : NV) (z : Nat) (hk : S 0 0 = nI 0) (hz : S 0 1 = nI z ∧ 1 ≤ z ∧ z ≤ 10) : CtV l yX3_recall cX3_recall 2 2 D (tyG cI cZ cN) [.ref (a 0), .ref (b 0)] ((pPast cI cN a S R) ++ (pNow cI b U)) (fun w => w = pPast cI cN a (pastS S (nI ((0 + 9) % 10)) (nI (z - 1))) R ++ pNow cI b (cpN (R ((0 + 9) % 10)) U)) := by
  refine CtV.of rfl (Nat.le_of_ble_eq_true rfl) ?_
  intro pg ev sx mx ax bx mt cx ls Qx Ax Sx hret hW hl
  have hx := Sx.1
  have hb := Sx.2.1
  have hl : lv_has ls 2 [(0, .ref (a 0)), (1, .ref (b 0))] := hl
  refine lv_aload_n hx hb dX3_recall_0 rfl (lv_at hl 0 rfl) ?_
  refine lv_aload_n hx hb dX3_recall_1 rfl (lv_at hl 0 rfl) ?_
  refine r_get Sx hW 0 rfl rfl bw_wsX30 1 (by decide) (v := .int (S 0 0)) rfl mw90 dX3_recall_2 ?_
  refine r_eq (y := (nI 0)) hk ?_
  refine lv_bipush (v := (10 : Int32)) hx hb dX3_recall_5 rfl ?_
  refine lv_iadd hx hb dX3_recall_7 ?_
  refine r_eq (y := (nI 10)) ((nI_add 0 10).trans (congrArg nI (Nat.zero_add 10))) ?_
  refine lv_iconst (v := (1 : Int32)) hx hb dX3_recall_8 rfl ?_
  refine lv_isub hx hb dX3_recall_9 ?_
  refine r_eq (y := (nI 9)) (by decide) ?_
  refine lv_bipush (v := (10 : Int32)) hx hb dX3_recall_10 rfl ?_
  refine lv_irem hx hb dX3_recall_12 (by decide) ?_
  refine r_eq (y := (nI 9)) (by decide) ?_
  refine r_put Sx hW 0 rfl rfl bw_wsX30 tyX3_ok nmX3 1 (by decide) mw90 rfl rfl rfl (Nat.le_of_ble_eq_true rfl) dX3_recall_13 (ws' := ((pPast cI cN a (upA S 0 (upd (S 0) 0 (nI 9))) R) ++ (pNow cI b U))) rfl (fun H locs hW => ?_)
  refine lv_aload_n hx hb dX3_recall_16 rfl (lv_at hl 1 rfl) ?_
  refine lv_aload_n hx hb dX3_recall_17 rfl (lv_at hl 0 rfl) ?_
  refine r_get Sx hW 0 rfl rfl bw_wsX30 0 (by decide) (v := .ref (a 1)) rfl mw89 dX3_recall_18 ?_
  refine lv_aload_n hx hb dX3_recall_21 rfl (lv_at hl 0 rfl) ?_
  refine r_get Sx hW 0 rfl rfl bw_wsX30 1 (by decide) (v := .int (nI 9)) rfl mw90 dX3_recall_22 ?_
  refine r_aald Sx hW 1 2 rfl rfl (j := 9) rfl (by decide) (by decide) (v := (a 38)) rfl dX3_recall_25 ?_
  refine callVV Sx hW (c_X2_take l D cI cZ cN b (fun i => a (i + 38)) U (R 9)) vmX2_take mw544 [42, 43, 44, 45, 38, 39, 40, 41] rfl (by decide) 0 rfl rfl (As := [.ref (a 38)]) (rest := []) rfl rfl hl.1 (Nat.le_of_ble_eq_true rfl) ⟨Nat.le_of_ble_eq_true rfl, Nat.le_of_ble_eq_true rfl⟩ ⟨Nat.le_refl _, Nat.le_refl _⟩ dX3_recall_26 (fun wx H locs hqx hW => ?_)
  obtain rfl := hqx
  have hW : AtC D (tyG cI cZ cN) Ax ((pPast cI cN a (upA S 0 (upd (S 0) 0 (nI 9))) R) ++ (pNow cI b (cpN (R 9) U))) sx H locs := hW.re [0, 1, 2, 3, 4, 5, 6, 7, 8, 9, 10, 11, 12, 13, 14, 15, 16, 17, 18, 19, 20, 21, 22, 23, 24, 25, 26, 27, 28, 29, 30, 31, 32, 33, 34, 35, 36, 37] 46 (by decide) rfl rfl ⟨rfl, rfl, rfl, rfl, rfl, rfl, rfl, rfl, rfl, rfl, rfl, rfl, rfl, rfl, rfl, rfl, rfl, rfl, rfl, rfl, rfl, rfl, rfl, rfl, rfl, rfl, rfl, rfl, rfl, rfl, rfl, rfl, rfl, rfl, rfl, rfl, rfl, rfl, trivial⟩ (by decide +kernel) rfl rfl
  refine lv_aload_n hx hb dX3_recall_29 rfl (lv_at hl 0 rfl) ?_
  refine lv_dup hx hb dX3_recall_30 rfl ?_
  refine r_get Sx hW 0 rfl rfl bw_wsX30 2 (by decide) (v := .int (S 0 1)) rfl mw91 dX3_recall_31 ?_
  refine r_eq (y := (nI z)) hz.1 ?_
  refine lv_iconst (v := (1 : Int32)) hx hb dX3_recall_34 rfl ?_
  refine lv_isub hx hb dX3_recall_35 ?_
  refine r_eq (y := (nI (z - 1))) (pk_sub (a := z) (b := 1) hz.2.1) ?_
  refine r_put Sx hW 0 rfl rfl bw_wsX30 tyX3_ok nmX3 2 (by decide) mw91 rfl rfl rfl (Nat.le_of_ble_eq_true rfl) dX3_recall_36 (ws' := ((pPast cI cN a (upA S 0 (upd (upd (S 0) 0 (nI 9)) 1 (nI (z - 1)))) R) ++ (pNow cI b (cpN (R 9) U)))) rfl (fun H locs hW => ?_)
  exact hret _ _ _ _ _ hW rfl dX3_recall_39 rfl

set_option maxHeartbeats 4000000 in
set_option maxRecDepth 100000 in
theorem c_X3_recall_1 (l : Launch) (D : va_G) (cI cZ cN : ClassId) (a b : Nat → Nat) (S : NV) (R : Nat → NV) (U : NV) (z : Nat) (hk : S 0 0 = nI 1) (hz : S 0 1 = nI z ∧ 1 ≤ z ∧ z ≤ 10) : CtV l yX3_recall cX3_recall 2 2 D (tyG cI cZ cN) [.ref (a 0), .ref (b 0)] ((pPast cI cN a S R) ++ (pNow cI b U)) (fun w => w = pPast cI cN a (pastS S (nI ((1 + 9) % 10)) (nI (z - 1))) R ++ pNow cI b (cpN (R ((1 + 9) % 10)) U)) := by
  refine CtV.of rfl (Nat.le_of_ble_eq_true rfl) ?_
  intro pg ev sx mx ax bx mt cx ls Qx Ax Sx hret hW hl
  have hx := Sx.1
  have hb := Sx.2.1
  have hl : lv_has ls 2 [(0, .ref (a 0)), (1, .ref (b 0))] := hl
  refine lv_aload_n hx hb dX3_recall_0 rfl (lv_at hl 0 rfl) ?_
  refine lv_aload_n hx hb dX3_recall_1 rfl (lv_at hl 0 rfl) ?_
  refine r_get Sx hW 0 rfl rfl bw_wsX30 1 (by decide) (v := .int (S 0 0)) rfl mw90 dX3_recall_2 ?_
  refine r_eq (y := (nI 1)) hk ?_
  refine lv_bipush (v := (10 : Int32)) hx hb dX3_recall_5 rfl ?_
  refine lv_iadd hx hb dX3_recall_7 ?_
  refine r_eq (y := (nI (1 + 10))) (nI_add 1 10) ?_
  refine lv_iconst (v := (1 : Int32)) hx hb dX3_recall_8 rfl ?_
  refine lv_isub hx hb dX3_recall_9 ?_
  refine r_eq (y := (nI 10)) (by decide) ?_
  refine lv_bipush (v := (10 : Int32)) hx hb dX3_recall_10 rfl ?_
  refine lv_irem hx hb dX3_recall_12 (by decide) ?_
  refine r_eq (y := (nI 0)) (by decide) ?_
  refine r_put Sx hW 0 rfl rfl bw_wsX30 tyX3_ok nmX3 1 (by decide) mw90 rfl rfl rfl (Nat.le_of_ble_eq_true rfl) dX3_recall_13 (ws' := ((pPast cI cN a (upA S 0 (upd (S 0) 0 (nI 0))) R) ++ (pNow cI b U))) rfl (fun H locs hW => ?_)
  refine lv_aload_n hx hb dX3_recall_16 rfl (lv_at hl 1 rfl) ?_
  refine lv_aload_n hx hb dX3_recall_17 rfl (lv_at hl 0 rfl) ?_
  refine r_get Sx hW 0 rfl rfl bw_wsX30 0 (by decide) (v := .ref (a 1)) rfl mw89 dX3_recall_18 ?_
  refine lv_aload_n hx hb dX3_recall_21 rfl (lv_at hl 0 rfl) ?_
  refine r_get Sx hW 0 rfl rfl bw_wsX30 1 (by decide) (v := .int (nI 0)) rfl mw90 dX3_recall_22 ?_
  refine r_aald Sx hW 1 2 rfl rfl (j := 0) rfl (by decide) (by decide) (v := (a 2)) rfl dX3_recall_25 ?_
  refine callVV Sx hW (c_X2_take l D cI cZ cN b (fun i => a (i + 2)) U (R 0)) vmX2_take mw544 [42, 43, 44, 45, 2, 3, 4, 5] rfl (by decide) 0 rfl rfl (As := [.ref (a 2)]) (rest := []) rfl rfl hl.1 (Nat.le_of_ble_eq_true rfl) ⟨Nat.le_of_ble_eq_true rfl, Nat.le_of_ble_eq_true rfl⟩ ⟨Nat.le_refl _, Nat.le_refl _⟩ dX3_recall_26 (fun wx H locs hqx hW => ?_)
  obtain rfl := hqx
  have hW : AtC D (tyG cI cZ cN) Ax ((pPast cI cN a (upA S 0 (upd (S 0) 0 (nI 0))) R) ++ (pNow cI b (cpN (R 0) U))) sx H locs := hW.re [0, 1, 6, 7, 8, 9, 10, 11, 12, 13, 14, 15, 16, 17, 18, 19, 20, 21, 22, 23, 24, 25, 26, 27, 28, 29, 30, 31, 32, 33, 34, 35, 36, 37, 38, 39, 40, 41] 46 (by decide) rfl rfl ⟨rfl, rfl, rfl, rfl, rfl, rfl, rfl, rfl, rfl, rfl, rfl, rfl, rfl, rfl, rfl, rfl, rfl, rfl, rfl, rfl, rfl, rfl, rfl, rfl, rfl, rfl, rfl, rfl, rfl, rfl, rfl, rfl, rfl, rfl, rfl, rfl, rfl, rfl, trivial⟩ (by decide +kernel) rfl rfl
  refine lv_aload_n hx hb dX3_recall_29 rfl (lv_at hl 0 rfl) ?_
  refine lv_dup hx hb dX3_recall_30 rfl ?_
  refine r_get Sx hW 0 rfl rfl bw_wsX30 2 (by decide) (v := .int (S 0 1)) rfl mw91 dX3_recall_31 ?_
  refine r_eq (y := (nI z)) hz.1 ?_
  refine lv_iconst (v := (1 : Int32)) hx hb dX3_recall_34 rfl ?_
  refine lv_isub hx hb dX3_recall_35 ?_
  refine r_eq (y := (nI (z - 1))) (pk_sub (a := z) (b := 1) hz.2.1) ?_
  refine r_put Sx hW 0 rfl rfl bw_wsX30 tyX3_ok nmX3 2 (by decide) mw91 rfl rfl rfl (Nat.le_of_ble_eq_true rfl) dX3_recall_36 (ws' := ((pPast cI cN a (upA S 0 (upd (upd (S 0) 0 (nI 0)) 1 (nI (z - 1)))) R) ++ (pNow cI b (cpN (R 0) U)))) rfl (fun H locs hW => ?_)
  exact hret _ _ _ _ _ hW rfl dX3_recall_39 rfl

set_option maxHeartbeats 4000000 in
set_option maxRecDepth 100000 in
theorem c_X3_recall_2 (l : Launch) (D : va_G) (cI cZ cN : ClassId) (a b : Nat → Nat) (S : NV) (R : Nat → NV) (U : NV) (z : Nat) (hk : S 0 0 = nI 2) (hz : S 0 1 = nI z ∧ 1 ≤ z ∧ z ≤ 10) : CtV l yX3_recall cX3_recall 2 2 D (tyG cI cZ cN) [.ref (a 0), .ref (b 0)] ((pPast cI cN a S R) ++ (pNow cI b U)) (fun w => w = pPast cI cN a (pastS S (nI ((2 + 9) % 10)) (nI (z - 1))) R ++ pNow cI b (cpN (R ((2 + 9) % 10)) U)) := by
  refine CtV.of rfl (Nat.le_of_ble_eq_true rfl) ?_
  intro pg ev sx mx ax bx mt cx ls Qx Ax Sx hret hW hl
  have hx := Sx.1
  have hb := Sx.2.1
  have hl : lv_has ls 2 [(0, .ref (a 0)), (1, .ref (b 0))] := hl
  refine lv_aload_n hx hb dX3_recall_0 rfl (lv_at hl 0 rfl) ?_
  refine lv_aload_n hx hb dX3_recall_1 rfl (lv_at hl 0 rfl) ?_
  refine r_get Sx hW 0 rfl rfl bw_wsX30 1 (by decide) (v := .int (S 0 0)) rfl mw90 dX3_recall_2 ?_
  refine r_eq (y := (nI 2)) hk ?_
  refine lv_bipush (v := (10 : Int32)) hx hb dX3_recall_5 rfl ?_
  refine lv_iadd hx hb dX3_recall_7 ?_
  refine r_eq (y := (nI (2 + 10))) (nI_add 2 10) ?_
  refine lv_iconst (v := (1 : Int32)) hx hb dX3_recall_8 rfl ?_
  refine lv_isub hx hb dX3_recall_9 ?_
  refine r_eq (y := (nI 11)) (by decide) ?_
  refine lv_bipush (v := (10 : Int32)) hx hb dX3_recall_10 rfl ?_
  refine lv_irem hx hb dX3_recall_12 (by decide) ?_
  refine r_eq (y := (nI 1)) (by decide) ?_
  refine r_put Sx hW 0 rfl rfl bw_wsX30 tyX3_ok nmX3 1 (by decide) mw90 rfl rfl rfl (Nat.le_of_ble_eq_true rfl) dX3_recall_13 (ws' := ((pPast cI cN a (upA S 0 (upd (S 0) 0 (nI 1))) R) ++ (pNow cI b U))) rfl (fun H locs hW => ?_)
  refine lv_aload_n hx hb dX3_recall_16 rfl (lv_at hl 1 rfl) ?_
  refine lv_aload_n hx hb dX3_recall_17 rfl (lv_at hl 0 rfl) ?_
  refine r_get Sx hW 0 rfl rfl bw_wsX30 0 (by decide) (v := .ref (a 1)) rfl mw89 dX3_recall_18 ?_
  refine lv_aload_n hx hb dX3_recall_21 rfl (lv_at hl 0 rfl) ?_
  refine r_get Sx hW 0 rfl rfl bw_wsX30 1 (by decide) (v := .int (nI 1)) rfl mw90 dX3_recall_22 ?_
  refine r_aald Sx hW 1 2 rfl rfl (j := 1) rfl (by decide) (by decide) (v := (a 6)) rfl dX3_recall_25 ?_
  refine callVV Sx hW (c_X2_take l D cI cZ cN b (fun i => a (i + 6)) U (R 1)) vmX2_take mw544 [42, 43, 44, 45, 6, 7, 8, 9] rfl (by decide) 0 rfl rfl (As := [.ref (a 6)]) (rest := []) rfl rfl hl.1 (Nat.le_of_ble_eq_true rfl) ⟨Nat.le_of_ble_eq_true rfl, Nat.le_of_ble_eq_true rfl⟩ ⟨Nat.le_refl _, Nat.le_refl _⟩ dX3_recall_26 (fun wx H locs hqx hW => ?_)
  obtain rfl := hqx
  have hW : AtC D (tyG cI cZ cN) Ax ((pPast cI cN a (upA S 0 (upd (S 0) 0 (nI 1))) R) ++ (pNow cI b (cpN (R 1) U))) sx H locs := hW.re [0, 1, 2, 3, 4, 5, 10, 11, 12, 13, 14, 15, 16, 17, 18, 19, 20, 21, 22, 23, 24, 25, 26, 27, 28, 29, 30, 31, 32, 33, 34, 35, 36, 37, 38, 39, 40, 41] 46 (by decide) rfl rfl ⟨rfl, rfl, rfl, rfl, rfl, rfl, rfl, rfl, rfl, rfl, rfl, rfl, rfl, rfl, rfl, rfl, rfl, rfl, rfl, rfl, rfl, rfl, rfl, rfl, rfl, rfl, rfl, rfl, rfl, rfl, rfl, rfl, rfl, rfl, rfl, rfl, rfl, rfl, trivial⟩ (by decide +kernel) rfl rfl
  refine lv_aload_n hx hb dX3_recall_29 rfl (lv_at hl 0 rfl) ?_
  refine lv_dup hx hb dX3_recall_30 rfl ?_
  refine r_get Sx hW 0 rfl rfl bw_wsX30 2 (by decide) (v := .int (S 0 1)) rfl mw91 dX3_recall_31 ?_
  refine r_eq (y := (nI z)) hz.1 ?_
  refine lv_iconst (v := (1 : Int32)) hx hb dX3_recall_34 rfl ?_
  refine lv_isub hx hb dX3_recall_35 ?_
  refine r_eq (y := (nI (z - 1))) (pk_sub (a := z) (b := 1) hz.2.1) ?_
  refine r_put Sx hW 0 rfl rfl bw_wsX30 tyX3_ok nmX3 2 (by decide) mw91 rfl rfl rfl (Nat.le_of_ble_eq_true rfl) dX3_recall_36 (ws' := ((pPast cI cN a (upA S 0 (upd (upd (S 0) 0 (nI 1)) 1 (nI (z - 1)))) R) ++ (pNow cI b (cpN (R 1) U)))) rfl (fun H locs hW => ?_)
  exact hret _ _ _ _ _ hW rfl dX3_recall_39 rfl

set_option maxHeartbeats 4000000 in
set_option maxRecDepth 100000 in
theorem c_X3_recall_3 (l : Launch) (D : va_G) (cI cZ cN : ClassId) (a b : Nat → Nat) (S : NV) (R : Nat → NV) (U : NV) (z : Nat) (hk : S 0 0 = nI 3) (hz : S 0 1 = nI z ∧ 1 ≤ z ∧ z ≤ 10) : CtV l yX3_recall cX3_recall 2 2 D (tyG cI cZ cN) [.ref (a 0), .ref (b 0)] ((pPast cI cN a S R) ++ (pNow cI b U)) (fun w => w = pPast cI cN a (pastS S (nI ((3 + 9) % 10)) (nI (z - 1))) R ++ pNow cI b (cpN (R ((3 + 9) % 10)) U)) := by
  refine CtV.of rfl (Nat.le_of_ble_eq_true rfl) ?_
  intro pg ev sx mx ax bx mt cx ls Qx Ax Sx hret hW hl
  have hx := Sx.1
  have hb := Sx.2.1
  have hl : lv_has ls 2 [(0, .ref (a 0)), (1, .ref (b 0))] := hl
  refine lv_aload_n hx hb dX3_recall_0 rfl (lv_at hl 0 rfl) ?_
  refine lv_aload_n hx hb dX3_recall_1 rfl (lv_at hl 0 rfl) ?_
  refine r_get Sx hW 0 rfl rfl bw_wsX30 1 (by decide) (v := .int (S 0 0)) rfl mw90 dX3_recall_2 ?_
  refine r_eq (y := (nI 3)) hk ?_
  refine lv_bipush (v := (10 : Int32)) hx hb dX3_recall_5 rfl ?_
  refine lv_iadd hx hb dX3_recall_7 ?_
  refine r_eq (y := (nI (3 + 10))) (nI_add 3 10) ?_
  refine lv_iconst (v := (1 : Int32)) hx hb dX3_recall_8 rfl ?_
  refine lv_isub hx hb dX3_recall_9 ?_
  refine r_eq (y := (nI 12)) (by decide) ?_
  refine lv_bipush (v := (10 : Int32)) hx hb dX3_recall_10 rfl ?_
  refine lv_irem hx hb dX3_recall_12 (by decide) ?_
  refine r_eq (y := (nI 2)) (by decide) ?_
  refine r_put Sx hW 0 rfl rfl bw_wsX30 tyX3_ok nmX3 1 (by decide) mw90 rfl rfl rfl (Nat.le_of_ble_eq_true rfl) dX3_recall_13 (ws' := ((pPast cI cN a (upA S 0 (upd (S 0) 0 (nI 2))) R) ++ (pNow cI b U))) rfl (fun H locs hW => ?_)
  refine lv_aload_n hx hb dX3_recall_16 rfl (lv_at hl 1 rfl) ?_
  refine lv_aload_n hx hb dX3_recall_17 rfl (lv_at hl 0 rfl) ?_
  refine r_get Sx hW 0 rfl rfl bw_wsX30 0 (by decide) (v := .ref (a 1)) rfl mw89 dX3_recall_18 ?_
  refine lv_aload_n hx hb dX3_recall_21 rfl (lv_at hl 0 rfl) ?_
  refine r_get Sx hW 0 rfl rfl bw_wsX30 1 (by decide) (v := .int (nI 2)) rfl mw90 dX3_recall_22 ?_
  refine r_aald Sx hW 1 2 rfl rfl (j := 2) rfl (by decide) (by decide) (v := (a 10)) rfl dX3_recall_25 ?_
  refine callVV Sx hW (c_X2_take l D cI cZ cN b (fun i => a (i + 10)) U (R 2)) vmX2_take mw544 [42, 43, 44, 45, 10, 11, 12, 13] rfl (by decide) 0 rfl rfl (As := [.ref (a 10)]) (rest := []) rfl rfl hl.1 (Nat.le_of_ble_eq_true rfl) ⟨Nat.le_of_ble_eq_true rfl, Nat.le_of_ble_eq_true rfl⟩ ⟨Nat.le_refl _, Nat.le_refl _⟩ dX3_recall_26 (fun wx H locs hqx hW => ?_)
  obtain rfl := hqx
  have hW : AtC D (tyG cI cZ cN) Ax ((pPast cI cN a (upA S 0 (upd (S 0) 0 (nI 2))) R) ++ (pNow cI b (cpN (R 2) U))) sx H locs := hW.re [0, 1, 2, 3, 4, 5, 6, 7, 8, 9, 14, 15, 16, 17, 18, 19, 20, 21, 22, 23, 24, 25, 26, 27, 28, 29, 30, 31, 32, 33, 34, 35, 36, 37, 38, 39, 40, 41] 46 (by decide) rfl rfl ⟨rfl, rfl, rfl, rfl, rfl, rfl, rfl, rfl, rfl, rfl, rfl, rfl, rfl, rfl, rfl, rfl, rfl, rfl, rfl, rfl, rfl, rfl, rfl, rfl, rfl, rfl, rfl, rfl, rfl, rfl, rfl, rfl, rfl, rfl, rfl, rfl, rfl, rfl, trivial⟩ (by decide +kernel) rfl rfl
  refine lv_aload_n hx hb dX3_recall_29 rfl (lv_at hl 0 rfl) ?_
  refine lv_dup hx hb dX3_recall_30 rfl ?_
  refine r_get Sx hW 0 rfl rfl bw_wsX30 2 (by decide) (v := .int (S 0 1)) rfl mw91 dX3_recall_31 ?_
  refine r_eq (y := (nI z)) hz.1 ?_
  refine lv_iconst (v := (1 : Int32)) hx hb dX3_recall_34 rfl ?_
  refine lv_isub hx hb dX3_recall_35 ?_
  refine r_eq (y := (nI (z - 1))) (pk_sub (a := z) (b := 1) hz.2.1) ?_
  refine r_put Sx hW 0 rfl rfl bw_wsX30 tyX3_ok nmX3 2 (by decide) mw91 rfl rfl rfl (Nat.le_of_ble_eq_true rfl) dX3_recall_36 (ws' := ((pPast cI cN a (upA S 0 (upd (upd (S 0) 0 (nI 2)) 1 (nI (z - 1)))) R) ++ (pNow cI b (cpN (R 2) U)))) rfl (fun H locs hW => ?_)
  exact hret _ _ _ _ _ hW rfl dX3_recall_39 rfl

set_option maxHeartbeats 4000000 in
set_option maxRecDepth 100000 in
theorem c_X3_recall_4 (l : Launch) (D : va_G) (cI cZ cN : ClassId) (a b : Nat → Nat) (S : NV) (R : Nat → NV) (U : NV) (z : Nat) (hk : S 0 0 = nI 4) (hz : S 0 1 = nI z ∧ 1 ≤ z ∧ z ≤ 10) : CtV l yX3_recall cX3_recall 2 2 D (tyG cI cZ cN) [.ref (a 0), .ref (b 0)] ((pPast cI cN a S R) ++ (pNow cI b U)) (fun w => w = pPast cI cN a (pastS S (nI ((4 + 9) % 10)) (nI (z - 1))) R ++ pNow cI b (cpN (R ((4 + 9) % 10)) U)) := by
  refine CtV.of rfl (Nat.le_of_ble_eq_true rfl) ?_
  intro pg ev sx mx ax bx mt cx ls Qx Ax Sx hret hW hl
  have hx := Sx.1
  have hb := Sx.2.1
  have hl : lv_has ls 2 [(0, .ref (a 0)), (1, .ref (b 0))] := hl
  refine lv_aload_n hx hb dX3_recall_0 rfl (lv_at hl 0 rfl) ?_
  refine lv_aload_n hx hb dX3_recall_1 rfl (lv_at hl 0 rfl) ?_
  refine r_get Sx hW 0 rfl rfl bw_wsX30 1 (by decide) (v := .int (S 0 0)) rfl mw90 dX3_recall_2 ?_
  refine r_eq (y := (nI 4)) hk ?_
  refine lv_bipush (v := (10 : Int32)) hx hb dX3_recall_5 rfl ?_
  refine lv_iadd hx hb dX3_recall_7 ?_
  refine r_eq (y := (nI (4 + 10))) (nI_add 4 10) ?_
  refine lv_iconst (v := (1 : Int32)) hx hb dX3_recall_8 rfl ?_
  refine lv_isub hx hb dX3_recall_9 ?_
  refine r_eq (y := (nI 13)) (by decide) ?_
  refine lv_bipush (v := (10 : Int32)) hx hb dX3_recall_10 rfl ?_
  refine lv_irem hx hb dX3_recall_12 (by decide) ?_
  refine r_eq (y := (nI 3)) (by decide) ?_
  refine r_put Sx hW 0 rfl rfl bw_wsX30 tyX3_ok nmX3 1 (by decide) mw90 rfl rfl rfl (Nat.le_of_ble_eq_true rfl) dX3_recall_13 (ws' := ((pPast cI cN a (upA S 0 (upd (S 0) 0 (nI 3))) R) ++ (pNow cI b U))) rfl (fun H locs hW => ?_)
  refine lv_aload_n hx hb dX3_recall_16 rfl (lv_at hl 1 rfl) ?_
  refine lv_aload_n hx hb dX3_recall_17 rfl (lv_at hl 0 rfl) ?_
  refine r_get Sx hW 0 rfl rfl bw_wsX30 0 (by decide) (v := .ref (a 1)) rfl mw89 dX3_recall_18 ?_
  refine lv_aload_n hx hb dX3_recall_21 rfl (lv_at hl 0 rfl) ?_
  refine r_get Sx hW 0 rfl rfl bw_wsX30 1 (by decide) (v := .int (nI 3)) rfl mw90 dX3_recall_22 ?_
  refine r_aald Sx hW 1 2 rfl rfl (j := 3) rfl (by decide) (by decide) (v := (a 14)) rfl dX3_recall_25 ?_
  refine callVV Sx hW (c_X2_take l D cI cZ cN b (fun i => a (i + 14)) U (R 3)) vmX2_take mw544 [42, 43, 44, 45, 14, 15, 16, 17] rfl (by decide) 0 rfl rfl (As := [.ref (a 14)]) (rest := []) rfl rfl hl.1 (Nat.le_of_ble_eq_true rfl) ⟨Nat.le_of_ble_eq_true rfl, Nat.le_of_ble_eq_true rfl⟩ ⟨Nat.le_refl _, Nat.le_refl _⟩ dX3_recall_26 (fun wx H locs hqx hW => ?_)
  obtain rfl := hqx
  have hW : AtC D (tyG cI cZ cN) Ax ((pPast cI cN a (upA S 0 (upd (S 0) 0 (nI 3))) R) ++ (pNow cI b (cpN (R 3) U))) sx H locs := hW.re [0, 1, 2, 3, 4, 5, 6, 7, 8, 9, 10, 11, 12, 13, 18, 19, 20, 21, 22, 23, 24, 25, 26, 27, 28, 29, 30, 31, 32, 33, 34, 35, 36, 37, 38, 39, 40, 41] 46 (by decide) rfl rfl ⟨rfl, rfl, rfl, rfl, rfl, rfl, rfl, rfl, rfl, rfl, rfl, rfl, rfl, rfl, rfl, rfl, rfl, rfl, rfl, rfl, rfl, rfl, rfl, rfl, rfl, rfl, rfl, rfl, rfl, rfl, rfl, rfl, rfl, rfl, rfl, rfl, rfl, rfl, trivial⟩ (by decide +kernel) rfl rfl
  refine lv_aload_n hx hb dX3_recall_29 rfl (lv_at hl 0 rfl) ?_
  refine lv_dup hx hb dX3_recall_30 rfl ?_
  refine r_get Sx hW 0 rfl rfl bw_wsX30 2 (by decide) (v := .int (S 0 1)) rfl mw91 dX3_recall_31 ?_
  refine r_eq (y := (nI z)) hz.1 ?_
  refine lv_iconst (v := (1 : Int32)) hx hb dX3_recall_34 rfl ?_
  refine lv_isub hx hb dX3_recall_35 ?_
  refine r_eq (y := (nI (z - 1))) (pk_sub (a := z) (b := 1) hz.2.1) ?_
  refine r_put Sx hW 0 rfl rfl bw_wsX30 tyX3_ok nmX3 2 (by decide) mw91 rfl rfl rfl (Nat.le_of_ble_eq_true rfl) dX3_recall_36 (ws' := ((pPast cI cN a (upA S 0 (upd (upd (S 0) 0 (nI 3)) 1 (nI (z - 1)))) R) ++ (pNow cI b (cpN (R 3) U)))) rfl (fun H locs hW => ?_)
  exact hret _ _ _ _ _ hW rfl dX3_recall_39 rfl

set_option maxHeartbeats 4000000 in
set_option maxRecDepth 100000 in
theorem c_X3_recall_5 (l : Launch) (D : va_G) (cI cZ cN : ClassId) (a b : Nat → Nat) (S : NV) (R : Nat → NV) (U : NV) (z : Nat) (hk : S 0 0 = nI 5) (hz : S 0 1 = nI z ∧ 1 ≤ z ∧ z ≤ 10) : CtV l yX3_recall cX3_recall 2 2 D (tyG cI cZ cN) [.ref (a 0), .ref (b 0)] ((pPast cI cN a S R) ++ (pNow cI b U)) (fun w => w = pPast cI cN a (pastS S (nI ((5 + 9) % 10)) (nI (z - 1))) R ++ pNow cI b (cpN (R ((5 + 9) % 10)) U)) := by
  refine CtV.of rfl (Nat.le_of_ble_eq_true rfl) ?_
  intro pg ev sx mx ax bx mt cx ls Qx Ax Sx hret hW hl
  have hx := Sx.1
  have hb := Sx.2.1
  have hl : lv_has ls 2 [(0, .ref (a 0)), (1, .ref (b 0))] := hl
  refine lv_aload_n hx hb dX3_recall_0 rfl (lv_at hl 0 rfl) ?_
  refine lv_aload_n hx hb dX3_recall_1 rfl (lv_at hl 0 rfl) ?_
  refine r_get Sx hW 0 rfl rfl bw_wsX30 1 (by decide) (v := .int (S 0 0)) rfl mw90 dX3_recall_2 ?_
  refine r_eq (y := (nI 5)) hk ?_
  refine lv_bipush (v := (10 : Int32)) hx hb dX3_recall_5 rfl ?_
  refine lv_iadd hx hb dX3_recall_7 ?_
  refine r_eq (y := (nI (5 + 10))) (nI_add 5 10) ?_
  refine lv_iconst (v := (1 : Int32)) hx hb dX3_recall_8 rfl ?_
  refine lv_isub hx hb dX3_recall_9 ?_
  refine r_eq (y := (nI 14)) (by decide) ?_
  refine lv_bipush (v := (10 : Int32)) hx hb dX3_recall_10 rfl ?_
  refine lv_irem hx hb dX3_recall_12 (by decide) ?_
  refine r_eq (y := (nI 4)) (by decide) ?_
  refine r_put Sx hW 0 rfl rfl bw_wsX30 tyX3_ok nmX3 1 (by decide) mw90 rfl rfl rfl (Nat.le_of_ble_eq_true rfl) dX3_recall_13 (ws' := ((pPast cI cN a (upA S 0 (upd (S 0) 0 (nI 4))) R) ++ (pNow cI b U))) rfl (fun H locs hW => ?_)
  refine lv_aload_n hx hb dX3_recall_16 rfl (lv_at hl 1 rfl) ?_
  refine lv_aload_n hx hb dX3_recall_17 rfl (lv_at hl 0 rfl) ?_
  refine r_get Sx hW 0 rfl rfl bw_wsX30 0 (by decide) (v := .ref (a 1)) rfl mw89 dX3_recall_18 ?_
  refine lv_aload_n hx hb dX3_recall_21 rfl (lv_at hl 0 rfl) ?_
  refine r_get Sx hW 0 rfl rfl bw_wsX30 1 (by decide) (v := .int (nI 4)) rfl mw90 dX3_recall_22 ?_
  refine r_aald Sx hW 1 2 rfl rfl (j := 4) rfl (by decide) (by decide) (v := (a 18)) rfl dX3_recall_25 ?_
  refine callVV Sx hW (c_X2_take l D cI cZ cN b (fun i => a (i + 18)) U (R 4)) vmX2_take mw544 [42, 43, 44, 45, 18, 19, 20, 21] rfl (by decide) 0 rfl rfl (As := [.ref (a 18)]) (rest := []) rfl rfl hl.1 (Nat.le_of_ble_eq_true rfl) ⟨Nat.le_of_ble_eq_true rfl, Nat.le_of_ble_eq_true rfl⟩ ⟨Nat.le_refl _, Nat.le_refl _⟩ dX3_recall_26 (fun wx H locs hqx hW => ?_)
  obtain rfl := hqx
  have hW : AtC D (tyG cI cZ cN) Ax ((pPast cI cN a (upA S 0 (upd (S 0) 0 (nI 4))) R) ++ (pNow cI b (cpN (R 4) U))) sx H locs := hW.re [0, 1, 2, 3, 4, 5, 6, 7, 8, 9, 10, 11, 12, 13, 14, 15, 16, 17, 22, 23, 24, 25, 26, 27, 28, 29, 30, 31, 32, 33, 34, 35, 36, 37, 38, 39, 40, 41] 46 (by decide) rfl rfl ⟨rfl, rfl, rfl, rfl, rfl, rfl, rfl, rfl, rfl, rfl, rfl, rfl, rfl, rfl, rfl, rfl, rfl, rfl, rfl, rfl, rfl, rfl, rfl, rfl, rfl, rfl, rfl, rfl, rfl, rfl, rfl, rfl, rfl, rfl, rfl, rfl, rfl, rfl, trivial⟩ (by decide +kernel) rfl rfl
  refine lv_aload_n hx hb dX3_recall_29 rfl (lv_at hl 0 rfl) ?_
  refine lv_dup hx hb dX3_recall_30 rfl ?_
  refine r_get Sx hW 0 rfl rfl bw_wsX30 2 (by decide) (v := .int (S 0 1)) rfl mw91 dX3_recall_31 ?_
  refine r_eq (y := (nI z)) hz.1 ?_
  refine lv_iconst (v := (1 : Int32)) hx hb dX3_recall_34 rfl ?_
  refine lv_isub hx hb dX3_recall_35 ?_
  refine r_eq (y := (nI (z - 1))) (pk_sub (a := z) (b := 1) hz.2.1) ?_
  refine r_put Sx hW 0 rfl rfl bw_wsX30 tyX3_ok nmX3 2 (by decide) mw91 rfl rfl rfl (Nat.le_of_ble_eq_true rfl) dX3_recall_36 (ws' := ((pPast cI cN a (upA S 0 (upd (upd (S 0) 0 (nI 4)) 1 (nI (z - 1)))) R) ++ (pNow cI b (cpN (R 4) U)))) rfl (fun H locs hW => ?_)
  exact hret _ _ _ _ _ hW rfl dX3_recall_39 rfl

set_option maxHeartbeats 4000000 in
set_option maxRecDepth 100000 in
theorem c_X3_recall_6 (l : Launch) (D : va_G) (cI cZ cN : ClassId) (a b : Nat → Nat) (S : NV) (R : Nat → NV) (U : NV) (z : Nat) (hk : S 0 0 = nI 6) (hz : S 0 1 = nI z ∧ 1 ≤ z ∧ z ≤ 10) : CtV l yX3_recall cX3_recall 2 2 D (tyG cI cZ cN) [.ref (a 0), .ref (b 0)] ((pPast cI cN a S R) ++ (pNow cI b U)) (fun w => w = pPast cI cN a (pastS S (nI ((6 + 9) % 10)) (nI (z - 1))) R ++ pNow cI b (cpN (R ((6 + 9) % 10)) U)) := by
  refine CtV.of rfl (Nat.le_of_ble_eq_true rfl) ?_
  intro pg ev sx mx ax bx mt cx ls Qx Ax Sx hret hW hl
  have hx := Sx.1
  have hb := Sx.2.1
  have hl : lv_has ls 2 [(0, .ref (a 0)), (1, .ref (b 0))] := hl
  refine lv_aload_n hx hb dX3_recall_0 rfl (lv_at hl 0 rfl) ?_
  refine lv_aload_n hx hb dX3_recall_1 rfl (lv_at hl 0 rfl) ?_
  refine r_get Sx hW 0 rfl rfl bw_wsX30 1 (by decide) (v := .int (S 0 0)) rfl mw90 dX3_recall_2 ?_
  refine r_eq (y := (nI 6)) hk ?_
  refine lv_bipush (v := (10 : Int32)) hx hb dX3_recall_5 rfl ?_
  refine lv_iadd hx hb dX3_recall_7 ?_
  refine r_eq (y := (nI (6 + 10))) (nI_add 6 10) ?_
  refine lv_iconst (v := (1 : Int32)) hx hb dX3_recall_8 rfl ?_
  refine lv_isub hx hb dX3_recall_9 ?_
  refine r_eq (y := (nI 15)) (by decide) ?_
  refine lv_bipush (v := (10 : Int32)) hx hb dX3_recall_10 rfl ?_
  refine lv_irem hx hb dX3_recall_12 (by decide) ?_
  refine r_eq (y := (nI 5)) (by decide) ?_
  refine r_put Sx hW 0 rfl rfl bw_wsX30 tyX3_ok nmX3 1 (by decide) mw90 rfl rfl rfl (Nat.le_of_ble_eq_true rfl) dX3_recall_13 (ws' := ((pPast cI cN a (upA S 0 (upd (S 0) 0 (nI 5))) R) ++ (pNow cI b U))) rfl (fun H locs hW => ?_)
  refine lv_aload_n hx hb dX3_recall_16 rfl (lv_at hl 1 rfl) ?_
  refine lv_aload_n hx hb dX3_recall_17 rfl (lv_at hl 0 rfl) ?_
  refine r_get Sx hW 0 rfl rfl bw_wsX30 0 (by decide) (v := .ref (a 1)) rfl mw89 dX3_recall_18 ?_
  refine lv_aload_n hx hb dX3_recall_21 rfl (lv_at hl 0 rfl) ?_
  refine r_get Sx hW 0 rfl rfl bw_wsX30 1 (by decide) (v := .int (nI 5)) rfl mw90 dX3_recall_22 ?_
  refine r_aald Sx hW 1 2 rfl rfl (j := 5) rfl (by decide) (by decide) (v := (a 22)) rfl dX3_recall_25 ?_
  refine callVV Sx hW (c_X2_take l D cI cZ cN b (fun i => a (i + 22)) U (R 5)) vmX2_take mw544 [42, 43, 44, 45, 22, 23, 24, 25] rfl (by decide) 0 rfl rfl (As := [.ref (a 22)]) (rest := []) rfl rfl hl.1 (Nat.le_of_ble_eq_true rfl) ⟨Nat.le_of_ble_eq_true rfl, Nat.le_of_ble_eq_true rfl⟩ ⟨Nat.le_refl _, Nat.le_refl _⟩ dX3_recall_26 (fun wx H locs hqx hW => ?_)
  obtain rfl := hqx
  have hW : AtC D (tyG cI cZ cN) Ax ((pPast cI cN a (upA S 0 (upd (S 0) 0 (nI 5))) R) ++ (pNow cI b (cpN (R 5) U))) sx H locs := hW.re [0, 1, 2, 3, 4, 5, 6, 7, 8, 9, 10, 11, 12, 13, 14, 15, 16, 17, 18, 19, 20, 21, 26, 27, 28, 29, 30, 31, 32, 33, 34, 35, 36, 37, 38, 39, 40, 41] 46 (by decide) rfl rfl ⟨rfl, rfl, rfl, rfl, rfl, rfl, rfl, rfl, rfl, rfl, rfl, rfl, rfl, rfl, rfl, rfl, rfl, rfl, rfl, rfl, rfl, rfl, rfl, rfl, rfl, rfl, rfl, rfl, rfl, rfl, rfl, rfl, rfl, rfl, rfl, rfl, rfl, rfl, trivial⟩ (by decide +kernel) rfl rfl
  refine lv_aload_n hx hb dX3_recall_29 rfl (lv_at hl 0 rfl) ?_
  refine lv_dup hx hb dX3_recall_30 rfl ?_
  refine r_get Sx hW 0 rfl rfl bw_wsX30 2 (by decide) (v := .int (S 0 1)) rfl mw91 dX3_recall_31 ?_
  refine r_eq (y := (nI z)) hz.1 ?_
  refine lv_iconst (v := (1 : Int32)) hx hb dX3_recall_34 rfl ?_
  refine lv_isub hx hb dX3_recall_35 ?_
  refine r_eq (y := (nI (z - 1))) (pk_sub (a := z) (b := 1) hz.2.1) ?_
  refine r_put Sx hW 0 rfl rfl bw_wsX30 tyX3_ok nmX3 2 (by decide) mw91 rfl rfl rfl (Nat.le_of_ble_eq_true rfl) dX3_recall_36 (ws' := ((pPast cI cN a (upA S 0 (upd (upd (S 0) 0 (nI 5)) 1 (nI (z - 1)))) R) ++ (pNow cI b (cpN (R 5) U)))) rfl (fun H locs hW => ?_)
  exact hret _ _ _ _ _ hW rfl dX3_recall_39 rfl

set_option maxHeartbeats 4000000 in
set_option maxRecDepth 100000 in
theorem c_X3_recall_7 (l : Launch) (D : va_G) (cI cZ cN : ClassId) (a b : Nat → Nat) (S : NV) (R : Nat → NV) (U : NV) (z : Nat) (hk : S 0 0 = nI 7) (hz : S 0 1 = nI z ∧ 1 ≤ z ∧ z ≤ 10) : CtV l yX3_recall cX3_recall 2 2 D (tyG cI cZ cN) [.ref (a 0), .ref (b 0)] ((pPast cI cN a S R) ++ (pNow cI b U)) (fun w => w = pPast cI cN a (pastS S (nI ((7 + 9) % 10)) (nI (z - 1))) R ++ pNow cI b (cpN (R ((7 + 9) % 10)) U)) := by
  refine CtV.of rfl (Nat.le_of_ble_eq_true rfl) ?_
  intro pg ev sx mx ax bx mt cx ls Qx Ax Sx hret hW hl
  have hx := Sx.1
  have hb := Sx.2.1
  have hl : lv_has ls 2 [(0, .ref (a 0)), (1, .ref (b 0))] := hl
  refine lv_aload_n hx hb dX3_recall_0 rfl (lv_at hl 0 rfl) ?_
  refine lv_aload_n hx hb dX3_recall_1 rfl (lv_at hl 0 rfl) ?_
  refine r_get Sx hW 0 rfl rfl bw_wsX30 1 (by decide) (v := .int (S 0 0)) rfl mw90 dX3_recall_2 ?_
  refine r_eq (y := (nI 7)) hk ?_
  refine lv_bipush (v := (10 : Int32)) hx hb dX3_recall_5 rfl ?_
  refine lv_iadd hx hb dX3_recall_7 ?_
  refine r_eq (y := (nI (7 + 10))) (nI_add 7 10) ?_
  refine lv_iconst (v := (1 : Int32)) hx hb dX3_recall_8 rfl ?_
  refine lv_isub hx hb dX3_recall_9 ?_
  refine r_eq (y := (nI 16)) (by decide) ?_
  refine lv_bipush (v := (10 : Int32)) hx hb dX3_recall_10 rfl ?_
  refine lv_irem hx hb dX3_recall_12 (by decide) ?_
  refine r_eq (y := (nI 6)) (by decide) ?_
  refine r_put Sx hW 0 rfl rfl bw_wsX30 tyX3_ok nmX3 1 (by decide) mw90 rfl rfl rfl (Nat.le_of_ble_eq_true rfl) dX3_recall_13 (ws' := ((pPast cI cN a (upA S 0 (upd (S 0) 0 (nI 6))) R) ++ (pNow cI b U))) rfl (fun H locs hW => ?_)
  refine lv_aload_n hx hb dX3_recall_16 rfl (lv_at hl 1 rfl) ?_
  refine lv_aload_n hx hb dX3_recall_17 rfl (lv_at hl 0 rfl) ?_
  refine r_get Sx hW 0 rfl rfl bw_wsX30 0 (by decide) (v := .ref (a 1)) rfl mw89 dX3_recall_18 ?_
  refine lv_aload_n hx hb dX3_recall_21 rfl (lv_at hl 0 rfl) ?_
  refine r_get Sx hW 0 rfl rfl bw_wsX30 1 (by decide) (v := .int (nI 6)) rfl mw90 dX3_recall_22 ?_
  refine r_aald Sx hW 1 2 rfl rfl (j := 6) rfl (by decide) (by decide) (v := (a 26)) rfl dX3_recall_25 ?_
  refine callVV Sx hW (c_X2_take l D cI cZ cN b (fun i => a (i + 26)) U (R 6)) vmX2_take mw544 [42, 43, 44, 45, 26, 27, 28, 29] rfl (by decide) 0 rfl rfl (As := [.ref (a 26)]) (rest := []) rfl rfl hl.1 (Nat.le_of_ble_eq_true rfl) ⟨Nat.le_of_ble_eq_true rfl, Nat.le_of_ble_eq_true rfl⟩ ⟨Nat.le_refl _, Nat.le_refl _⟩ dX3_recall_26 (fun wx H locs hqx hW => ?_)
  obtain rfl := hqx
  have hW : AtC D (tyG cI cZ cN) Ax ((pPast cI cN a (upA S 0 (upd (S 0) 0 (nI 6))) R) ++ (pNow cI b (cpN (R 6) U))) sx H locs := hW.re [0, 1, 2, 3, 4, 5, 6, 7, 8, 9, 10, 11, 12, 13, 14, 15, 16, 17, 18, 19, 20, 21, 22, 23, 24, 25, 30, 31, 32, 33, 34, 35, 36, 37, 38, 39, 40, 41] 46 (by decide) rfl rfl ⟨rfl, rfl, rfl, rfl, rfl, rfl, rfl, rfl, rfl, rfl, rfl, rfl, rfl, rfl, rfl, rfl, rfl, rfl, rfl, rfl, rfl, rfl, rfl, rfl, rfl, rfl, rfl, rfl, rfl, rfl, rfl, rfl, rfl, rfl, rfl, rfl, rfl, rfl, trivial⟩ (by decide +kernel) rfl rfl
  refine lv_aload_n hx hb dX3_recall_29 rfl (lv_at hl 0 rfl) ?_
  refine lv_dup hx hb dX3_recall_30 rfl ?_
  refine r_get Sx hW 0 rfl rfl bw_wsX30 2 (by decide) (v := .int (S 0 1)) rfl mw91 dX3_recall_31 ?_
  refine r_eq (y := (nI z)) hz.1 ?_
  refine lv_iconst (v := (1 : Int32)) hx hb dX3_recall_34 rfl ?_
  refine lv_isub hx hb dX3_recall_35 ?_
  refine r_eq (y := (nI (z - 1))) (pk_sub (a := z) (b := 1) hz.2.1) ?_
  refine r_put Sx hW 0 rfl rfl bw_wsX30 tyX3_ok nmX3 2 (by decide) mw91 rfl rfl rfl (Nat.le_of_ble_eq_true rfl) dX3_recall_36 (ws' := ((pPast cI cN a (upA S 0 (upd (upd (S 0) 0 (nI 6)) 1 (nI (z - 1)))) R) ++ (pNow cI b (cpN (R 6) U)))) rfl (fun H locs hW => ?_)
  exact hret _ _ _ _ _ hW rfl dX3_recall_39 rfl

set_option maxHeartbeats 4000000 in
set_option maxRecDepth 100000 in
theorem c_X3_recall_8 (l : Launch) (D : va_G) (cI cZ cN : ClassId) (a b : Nat → Nat) (S : NV) (R : Nat → NV) (U : NV) (z : Nat) (hk : S 0 0 = nI 8) (hz : S 0 1 = nI z ∧ 1 ≤ z ∧ z ≤ 10) : CtV l yX3_recall cX3_recall 2 2 D (tyG cI cZ cN) [.ref (a 0), .ref (b 0)] ((pPast cI cN a S R) ++ (pNow cI b U)) (fun w => w = pPast cI cN a (pastS S (nI ((8 + 9) % 10)) (nI (z - 1))) R ++ pNow cI b (cpN (R ((8 + 9) % 10)) U)) := by
  refine CtV.of rfl (Nat.le_of_ble_eq_true rfl) ?_
  intro pg ev sx mx ax bx mt cx ls Qx Ax Sx hret hW hl
  have hx := Sx.1
  have hb := Sx.2.1
  have hl : lv_has ls 2 [(0, .ref (a 0)), (1, .ref (b 0))] := hl
  refine lv_aload_n hx hb dX3_recall_0 rfl (lv_at hl 0 rfl) ?_
  refine lv_aload_n hx hb dX3_recall_1 rfl (lv_at hl 0 rfl) ?_
  refine r_get Sx hW 0 rfl rfl bw_wsX30 1 (by decide) (v := .int (S 0 0)) rfl mw90 dX3_recall_2 ?_
  refine r_eq (y := (nI 8)) hk ?_
  refine lv_bipush (v := (10 : Int32)) hx hb dX3_recall_5 rfl ?_
  refine lv_iadd hx hb dX3_recall_7 ?_
  refine r_eq (y := (nI (8 + 10))) (nI_add 8 10) ?_
  refine lv_iconst (v := (1 : Int32)) hx hb dX3_recall_8 rfl ?_
  refine lv_isub hx hb dX3_recall_9 ?_
  refine r_eq (y := (nI 17)) (by decide) ?_
  refine lv_bipush (v := (10 : Int32)) hx hb dX3_recall_10 rfl ?_
  refine lv_irem hx hb dX3_recall_12 (by decide) ?_
  refine r_eq (y := (nI 7)) (by decide) ?_
  refine r_put Sx hW 0 rfl rfl bw_wsX30 tyX3_ok nmX3 1 (by decide) mw90 rfl rfl rfl (Nat.le_of_ble_eq_true rfl) dX3_recall_13 (ws' := ((pPast cI cN a (upA S 0 (upd (S 0) 0 (nI 7))) R) ++ (pNow cI b U))) rfl (fun H locs hW => ?_)
  refine lv_aload_n hx hb dX3_recall_16 rfl (lv_at hl 1 rfl) ?_
  refine lv_aload_n hx hb dX3_recall_17 rfl (lv_at hl 0 rfl) ?_
  refine r_get Sx hW 0 rfl rfl bw_wsX30 0 (by decide) (v := .ref (a 1)) rfl mw89 dX3_recall_18 ?_
  refine lv_aload_n hx hb dX3_recall_21 rfl (lv_at hl 0 rfl) ?_
  refine r_get Sx hW 0 rfl rfl bw_wsX30 1 (by decide) (v := .int (nI 7)) rfl mw90 dX3_recall_22 ?_
  refine r_aald Sx hW 1 2 rfl rfl (j := 7) rfl (by decide) (by decide) (v := (a 30)) rfl dX3_recall_25 ?_
  refine callVV Sx hW (c_X2_take l D cI cZ cN b (fun i => a (i + 30)) U (R 7)) vmX2_take mw544 [42, 43, 44, 45, 30, 31, 32, 33] rfl (by decide) 0 rfl rfl (As := [.ref (a 30)]) (rest := []) rfl rfl hl.1 (Nat.le_of_ble_eq_true rfl) ⟨Nat.le_of_ble_eq_true rfl, Nat.le_of_ble_eq_true rfl⟩ ⟨Nat.le_refl _, Nat.le_refl _⟩ dX3_recall_26 (fun wx H locs hqx hW => ?_)
  obtain rfl := hqx
  have hW : AtC D (tyG cI cZ cN) Ax ((pPast cI cN a (upA S 0 (upd (S 0) 0 (nI 7))) R) ++ (pNow cI b (cpN (R 7) U))) sx H locs := hW.re [0, 1, 2, 3, 4, 5, 6, 7, 8, 9, 10, 11, 12, 13, 14, 15, 16, 17, 18, 19, 20, 21, 22, 23, 24, 25, 26, 27, 28, 29, 34, 35, 36, 37, 38, 39, 40, 41] 46 (by decide) rfl rfl ⟨rfl, rfl, rfl, rfl, rfl, rfl, rfl, rfl, rfl, rfl, rfl, rfl, rfl, rfl, rfl, rfl, rfl, rfl, rfl, rfl, rfl, rfl, rfl, rfl, rfl, rfl, rfl, rfl, rfl, rfl, rfl, rfl, rfl, rfl, rfl, rfl, rfl, rfl, trivial⟩ (by decide +kernel) rfl rfl
  refine lv_aload_n hx hb dX3_recall_29 rfl (lv_at hl 0 rfl) ?_
  refine lv_dup hx hb dX3_recall_30 rfl ?_
  refine r_get Sx hW 0 rfl rfl bw_wsX30 2 (by decide) (v := .int (S 0 1)) rfl mw91 dX3_recall_31 ?_
  refine r_eq (y := (nI z)) hz.1 ?_
  refine lv_iconst (v := (1 : Int32)) hx hb dX3_recall_34 rfl ?_
  refine lv_isub hx hb dX3_recall_35 ?_
  refine r_eq (y := (nI (z - 1))) (pk_sub (a := z) (b := 1) hz.2.1) ?_
  refine r_put Sx hW 0 rfl rfl bw_wsX30 tyX3_ok nmX3 2 (by decide) mw91 rfl rfl rfl (Nat.le_of_ble_eq_true rfl) dX3_recall_36 (ws' := ((pPast cI cN a (upA S 0 (upd (upd (S 0) 0 (nI 7)) 1 (nI (z - 1)))) R) ++ (pNow cI b (cpN (R 7) U)))) rfl (fun H locs hW => ?_)
  exact hret _ _ _ _ _ hW rfl dX3_recall_39 rfl

set_option maxHeartbeats 4000000 in
set_option maxRecDepth 100000 in
theorem c_X3_recall_9 (l : Launch) (D : va_G) (cI cZ cN : ClassId) (a b : Nat → Nat) (S : NV) (R : Nat → NV) (U : NV) (z : Nat) (hk : S 0 0 = nI 9) (hz : S 0 1 = nI z ∧ 1 ≤ z ∧ z ≤ 10) : CtV l yX3_recall cX3_recall 2 2 D (tyG cI cZ cN) [.ref (a 0), .ref (b 0)] ((pPast cI cN a S R) ++ (pNow cI b U)) (fun w => w = pPast cI cN a (pastS S (nI ((9 + 9) % 10)) (nI (z - 1))) R ++ pNow cI b (cpN (R ((9 + 9) % 10)) U)) := by
  refine CtV.of rfl (Nat.le_of_ble_eq_true rfl) ?_
  intro pg ev sx mx ax bx mt cx ls Qx Ax Sx hret hW hl
  have hx := Sx.1
  have hb := Sx.2.1
  have hl : lv_has ls 2 [(0, .ref (a 0)), (1, .ref (b 0))] := hl
  refine lv_aload_n hx hb dX3_recall_0 rfl (lv_at hl 0 rfl) ?_
  refine lv_aload_n hx hb dX3_recall_1 rfl (lv_at hl 0 rfl) ?_
  refine r_get Sx hW 0 rfl rfl bw_wsX30 1 (by decide) (v := .int (S 0 0)) rfl mw90 dX3_recall_2 ?_
  refine r_eq (y := (nI 9)) hk ?_
  refine lv_bipush (v := (10 : Int32)) hx hb dX3_recall_5 rfl ?_
  refine lv_iadd hx hb dX3_recall_7 ?_
  refine r_eq (y := (nI (9 + 10))) (nI_add 9 10) ?_
  refine lv_iconst (v := (1 : Int32)) hx hb dX3_recall_8 rfl ?_
  refine lv_isub hx hb dX3_recall_9 ?_
  refine r_eq (y := (nI 18)) (by decide) ?_
  refine lv_bipush (v := (10 : Int32)) hx hb dX3_recall_10 rfl ?_
  refine lv_irem hx hb dX3_recall_12 (by decide) ?_
  refine r_eq (y := (nI 8)) (by decide) ?_
  refine r_put Sx hW 0 rfl rfl bw_wsX30 tyX3_ok nmX3 1 (by decide) mw90 rfl rfl rfl (Nat.le_of_ble_eq_true rfl) dX3_recall_13 (ws' := ((pPast cI cN a (upA S 0 (upd (S 0) 0 (nI 8))) R) ++ (pNow cI b U))) rfl (fun H locs hW => ?_)
  refine lv_aload_n hx hb dX3_recall_16 rfl (lv_at hl 1 rfl) ?_
  refine lv_aload_n hx hb dX3_recall_17 rfl (lv_at hl 0 rfl) ?_
  refine r_get Sx hW 0 rfl rfl bw_wsX30 0 (by decide) (v := .ref (a 1)) rfl mw89 dX3_recall_18 ?_
  refine lv_aload_n hx hb dX3_recall_21 rfl (lv_at hl 0 rfl) ?_
  refine r_get Sx hW 0 rfl rfl bw_wsX30 1 (by decide) (v := .int (nI 8)) rfl mw90 dX3_recall_22 ?_
  refine r_aald Sx hW 1 2 rfl rfl (j := 8) rfl (by decide) (by decide) (v := (a 34)) rfl dX3_recall_25 ?_
  refine callVV Sx hW (c_X2_take l D cI cZ cN b (fun i => a (i + 34)) U (R 8)) vmX2_take mw544 [42, 43, 44, 45, 34, 35, 36, 37] rfl (by decide) 0 rfl rfl (As := [.ref (a 34)]) (rest := []) rfl rfl hl.1 (Nat.le_of_ble_eq_true rfl) ⟨Nat.le_of_ble_eq_true rfl, Nat.le_of_ble_eq_true rfl⟩ ⟨Nat.le_refl _, Nat.le_refl _⟩ dX3_recall_26 (fun wx H locs hqx hW => ?_)
  obtain rfl := hqx
  have hW : AtC D (tyG cI cZ cN) Ax ((pPast cI cN a (upA S 0 (upd (S 0) 0 (nI 8))) R) ++ (pNow cI b (cpN (R 8) U))) sx H locs := hW.re [0, 1, 2, 3, 4, 5, 6, 7, 8, 9, 10, 11, 12, 13, 14, 15, 16, 17, 18, 19, 20, 21, 22, 23, 24, 25, 26, 27, 28, 29, 30, 31, 32, 33, 38, 39, 40, 41] 46 (by decide) rfl rfl ⟨rfl, rfl, rfl, rfl, rfl, rfl, rfl, rfl, rfl, rfl, rfl, rfl, rfl, rfl, rfl, rfl, rfl, rfl, rfl, rfl, rfl, rfl, rfl, rfl, rfl, rfl, rfl, rfl, rfl, rfl, rfl, rfl, rfl, rfl, rfl, rfl, rfl, rfl, trivial⟩ (by decide +kernel) rfl rfl
  refine lv_aload_n hx hb dX3_recall_29 rfl (lv_at hl 0 rfl) ?_
  refine lv_dup hx hb dX3_recall_30 rfl ?_
  refine r_get Sx hW 0 rfl rfl bw_wsX30 2 (by decide) (v := .int (S 0 1)) rfl mw91 dX3_recall_31 ?_
  refine r_eq (y := (nI z)) hz.1 ?_
  refine lv_iconst (v := (1 : Int32)) hx hb dX3_recall_34 rfl ?_
  refine lv_isub hx hb dX3_recall_35 ?_
  refine r_eq (y := (nI (z - 1))) (pk_sub (a := z) (b := 1) hz.2.1) ?_
  refine r_put Sx hW 0 rfl rfl bw_wsX30 tyX3_ok nmX3 2 (by decide) mw91 rfl rfl rfl (Nat.le_of_ble_eq_true rfl) dX3_recall_36 (ws' := ((pPast cI cN a (upA S 0 (upd (upd (S 0) 0 (nI 8)) 1 (nI (z - 1)))) R) ++ (pNow cI b (cpN (R 8) U)))) rfl (fun H locs hW => ?_)
  exact hret _ _ _ _ _ hW rfl dX3_recall_39 rfl

theorem c_X3_recall (l : Launch) (D : va_G) (cI cZ cN : ClassId) (a b : Nat → Nat) (S : NV) (R : Nat → NV) (U : NV) (k z : Nat) (hk : S 0 0 = nI k) (hk10 : k < 10) (hz : S 0 1 = nI z ∧ 1 ≤ z ∧ z ≤ 10) : CtV l yX3_recall cX3_recall 2 2 D (tyG cI cZ cN) [.ref (a 0), .ref (b 0)] ((pPast cI cN a S R) ++ (pNow cI b U)) (fun w => w = pPast cI cN a (pastS S (nI ((k + 9) % 10)) (nI (z - 1))) R ++ pNow cI b (cpN (R ((k + 9) % 10)) U)) := by
  rcases (show k = 0 ∨ k = 1 ∨ k = 2 ∨ k = 3 ∨ k = 4 ∨ k = 5 ∨ k = 6 ∨ k = 7 ∨ k = 8 ∨ k = 9 by omega) with rfl | rfl | rfl | rfl | rfl | rfl | rfl | rfl | rfl | rfl
  · exact c_X3_recall_0 l D cI cZ cN a b S R U z hk hz
  · exact c_X3_recall_1 l D cI cZ cN a b S R U z hk hz
  · exact c_X3_recall_2 l D cI cZ cN a b S R U z hk hz
  · exact c_X3_recall_3 l D cI cZ cN a b S R U z hk hz
  · exact c_X3_recall_4 l D cI cZ cN a b S R U z hk hz
  · exact c_X3_recall_5 l D cI cZ cN a b S R U z hk hz
  · exact c_X3_recall_6 l D cI cZ cN a b S R U z hk hz
  · exact c_X3_recall_7 l D cI cZ cN a b S R U z hk hz
  · exact c_X3_recall_8 l D cI cZ cN a b S R U z hk hz
  · exact c_X3_recall_9 l D cI cZ cN a b S R U z hk hz

set_option maxHeartbeats 4000000 in
set_option maxRecDepth 100000 in
theorem c_X0_add (l : Launch) (D : va_G) (cI cZ cN : ClassId) (a : Nat → Nat) (S : NV) (x y : Int32) (z : Nat) (hz : S 2 0 = nI z) (hz6 : z ≤ 6) : CtI l yX0_add cX0_add 3 (some .int) 0 D (tyG cI cZ cN) [.ref (a 0), .int x, .int y] (pClaims cI a S) (fun r w => r = addR z ∧ w = pClaims cI a (addS S x y z)) := by
  refine CtI.of rfl (Nat.le_of_ble_eq_true rfl) ?_
  intro pg ev sx mx ax bx mt cx ls Qx Ax Sx hret hW hl
  have hx := Sx.1
  have hb := Sx.2.1
  have hl : lv_has ls 3 [(0, .ref (a 0)), (1, .int x), (2, .int y)] := hl
  refine lv_aload_n hx hb dX0_add_0 rfl (lv_at hl 0 rfl) ?_
  refine r_get Sx hW 0 rfl rfl bw_wsX00 2 (by decide) (v := .int (S 2 0)) rfl mw97 dX0_add_1 ?_
  refine r_eq (y := (nI z)) hz ?_
  refine lv_bipush (v := (6 : Int32)) hx hb dX0_add_4 rfl ?_
  refine lv_icmp_lt (tgt := 12) hx hb dX0_add_6 rfl (fun c_6 => ?_) (fun c_6 => ?_)
  · have lt6 : z < 6 := (nI_ltI (a := z) (b := 6) (by omega) (by decide)).mp c_6
    refine lv_aload_n hx hb dX0_add_12 rfl (lv_at hl 0 rfl) ?_
    refine r_get Sx hW 0 rfl rfl bw_wsX00 0 (by decide) (v := .ref (a 1)) rfl mw95 dX0_add_13 ?_
    refine lv_aload_n hx hb dX0_add_16 rfl (lv_at hl 0 rfl) ?_
    refine r_get Sx hW 0 rfl rfl bw_wsX00 2 (by decide) (v := .int (S 2 0)) rfl mw97 dX0_add_17 ?_
    refine r_eq (y := (nI z)) hz ?_
    refine lv_iload_n hx hb dX0_add_20 rfl (lv_at hl 1 rfl) ?_
    refine r_iast Sx hW 1 0 rfl rfl (j := z) rfl (by omega) (by decide) dX0_add_21 (ws' := (pClaims cI a (upA S 0 (upd (S 0) z x)))) rfl (fun H locs hW => ?_)
    refine lv_aload_n hx hb dX0_add_22 rfl (lv_at hl 0 rfl) ?_
    refine r_get Sx hW 0 rfl rfl bw_wsX00 1 (by decide) (v := .ref (a 2)) rfl mw96 dX0_add_23 ?_
    refine lv_aload_n hx hb dX0_add_26 rfl (lv_at hl 0 rfl) ?_
    refine r_get Sx hW 0 rfl rfl bw_wsX00 2 (by decide) (v := .int (S 2 0)) rfl mw97 dX0_add_27 ?_
    refine r_eq (y := (nI z)) hz ?_
    refine lv_iload_n hx hb dX0_add_30 rfl (lv_at hl 2 rfl) ?_
    refine r_iast Sx hW 2 0 rfl rfl (j := z) rfl (by omega) (by decide) dX0_add_31 (ws' := (pClaims cI a (upA (upA S 0 (upd (S 0) z x)) 1 (upd (S 1) z y)))) rfl (fun H locs hW => ?_)
    refine lv_aload_n hx hb dX0_add_32 rfl (lv_at hl 0 rfl) ?_
    refine lv_dup hx hb dX0_add_33 rfl ?_
    refine r_get Sx hW 0 rfl rfl bw_wsX00 2 (by decide) (v := .int (S 2 0)) rfl mw97 dX0_add_34 ?_
    refine r_eq (y := (nI z)) hz ?_
    refine lv_iconst (v := (1 : Int32)) hx hb dX0_add_37 rfl ?_
    refine lv_iadd hx hb dX0_add_38 ?_
    refine r_eq (y := (nI (z + 1))) (nI_add z 1) ?_
    refine r_put Sx hW 0 rfl rfl bw_wsX00 tyX0_ok nmX0 2 (by decide) mw97 rfl rfl rfl (Nat.le_of_ble_eq_true rfl) dX0_add_39 (ws' := (pClaims cI a (upA (upA (upA S 0 (upd (S 0) z x)) 1 (upd (S 1) z y)) 2 (upd (S 2) 0 (nI (z + 1)))))) rfl (fun H locs hW => ?_)
    refine lv_aload_n hx hb dX0_add_42 rfl (lv_at hl 0 rfl) ?_
    refine r_get Sx hW 0 rfl rfl bw_wsX00 2 (by decide) (v := .int (nI (z + 1))) rfl mw97 dX0_add_43 ?_
    exact hret _ _ _ _ _ _ hW rfl rfl dX0_add_46 (⟨by simp [addR, c_6], by simp [addS, c_6]⟩)
  · refine lv_bipush (v := (-3 : Int32)) hx hb dX0_add_9 rfl ?_
    exact hret _ _ _ _ _ _ hW rfl rfl dX0_add_11 (⟨by simp [addR, c_6], by simp [addS, c_6]⟩)

set_option maxHeartbeats 4000000 in
set_option maxRecDepth 100000 in
theorem c_X0_agree (l : Launch) (D : va_G) (cI cZ cN : ClassId) (a : Nat → Nat) (S : NV) (x : Int32) (z : Nat) (hz : S 2 0 = nI z) (hz6 : z ≤ 6) : CtI l yX0_agree cX0_agree 3 (some .boolean) 1 D (tyG cI cZ cN) [.ref (a 0), .int x] (pClaims cI a S) (fun r w => r = agI x (S 0) (S 1) z ∧ w = pClaims cI a S) := by
  refine CtI.of rfl (Nat.le_of_ble_eq_true rfl) ?_
  intro pg ev sx mx ax bx mt cx ls Qx Ax Sx hret hW hl
  have hx := Sx.1
  have hb := Sx.2.1
  have hl : lv_has ls 3 [(0, .ref (a 0)), (1, .int x)] := hl
  refine lv_iconst (v := (0 : Int32)) hx hb dX0_agree_0 rfl ?_
  refine lv_istore_n (lv' := [(2, .int (0 : Int32)), (0, .ref (a 0)), (1, .int x)]) hx hb dX0_agree_1 rfl hl (by decide) rfl (fun ls hl => ?_)
  have lp_2 : ∀ (n : Nat) (i : Nat), ((agI x (S 0) (S 1) i = 1)) → ((i ≤ z)) → ((z + 1 ≤ i + n)) → ∀ (H : Heap) (locs : List Loc) (ls : Array Slot), AtC D (tyG cI cZ cN) Ax (pClaims cI a S) sx H locs → lv_has ls 3 [(0, .ref (a 0)), (1, .int x), (2, .int (nI i))] → W pg l ev (rmN 1) sx mx ax bx mt cx H locs 0 0 Qx (F0 mx 2 ls []) := by
    intro n
    induction n with
    | zero =>
      intro i ag hi_2 hn_2 H locs ls hW hl
      exact absurd hn_2 (by omega)
    | succ n ih2 =>
      intro i ag hi_2 hn_2 H locs ls hW hl
      refine lv_iload_n hx hb dX0_agree_2 rfl (lv_at hl 2 rfl) ?_
      refine lv_aload_n hx hb dX0_agree_3 rfl (lv_at hl 0 rfl) ?_
      refine r_get Sx hW 0 rfl rfl bw_wsX00 2 (by decide) (v := .int (S 2 0)) rfl mw97 dX0_agree_4 ?_
      refine r_eq (y := (nI z)) hz ?_
      refine lv_icmp_ge (tgt := 37) hx hb dX0_agree_7 rfl (fun c_7 => ?_) (fun c_7 => ?_)
      · have ge_7 : z ≤ i := (nI_leI (a := z) (b := i) (by omega) (by omega)).mp c_7
        have ee_7 : z = i := by omega
        subst ee_7
        refine lv_iconst (v := (1 : Int32)) hx hb dX0_agree_37 rfl ?_
        exact hret _ _ _ _ _ _ hW rfl rfl dX0_agree_38 (⟨ag.symm, rfl⟩)
      · have lt_7 : i < z := Nat.not_le.mp (fun h => c_7 ((nI_leI (a := z) (b := i) (by omega) (by omega)).mpr h))
        refine lv_iload_n hx hb dX0_agree_10 rfl (lv_at hl 1 rfl) ?_
        refine lv_aload_n hx hb dX0_agree_11 rfl (lv_at hl 0 rfl) ?_
        refine r_get Sx hW 0 rfl rfl bw_wsX00 0 (by decide) (v := .ref (a 1)) rfl mw95 dX0_agree_12 ?_
        refine lv_iload_n hx hb dX0_agree_15 rfl (lv_at hl 2 rfl) ?_
        refine r_iald Sx hW 1 0 rfl rfl (j := i) rfl (by omega) (by decide) dX0_agree_16 ?_
        refine callNI Sx hW (c_X8_bit l D cI cZ cN x ((S 0) i)) smX8_bit 13 rfl (As := [.int x, .int ((S 0) i)]) (rest := []) rfl rfl hl.1 (Nat.le_of_ble_eq_true rfl) ⟨Nat.le_of_ble_eq_true rfl, Nat.le_of_ble_eq_true rfl⟩ ⟨Nat.le_refl _, Nat.le_refl _⟩ dX0_agree_17 (fun rx H locs hqx hW => ?_)
        obtain ⟨hrx, -⟩ := hqx
        refine r_eq (y := (bitI x ((S 0) i))) hrx ?_
        refine lv_aload_n hx hb dX0_agree_20 rfl (lv_at hl 0 rfl) ?_
        refine r_get Sx hW 0 rfl rfl bw_wsX00 1 (by decide) (v := .ref (a 2)) rfl mw96 dX0_agree_21 ?_
        refine lv_iload_n hx hb dX0_agree_24 rfl (lv_at hl 2 rfl) ?_
        refine r_iald Sx hW 2 0 rfl rfl (j := i) rfl (by omega) (by decide) dX0_agree_25 ?_
        refine lv_icmp_eq (tgt := 31) hx hb dX0_agree_26 rfl (fun c_26 => ?_) (fun c_26 => ?_)
        · refine lv_iinc (v := (nI (i + 1))) (lv' := [(2, .int (nI (i + 1))), (0, .ref (a 0)), (1, .int x)]) hx hb dX0_agree_31 hl (k := 2) rfl (inc_n i 1) (by decide) rfl (fun ls hl => ?_)
          refine lv_goto (tgt := 2) hx hb dX0_agree_34 rfl ?_
          exact ih2 (i + 1) (by rw [agI, ag, if_neg (by decide), if_pos c_26]) (by omega) (by omega) _ _ _ hW (lv_sub hl [1, 2, 0] rfl)
        · refine lv_iconst (v := (0 : Int32)) hx hb dX0_agree_29 rfl ?_
          exact hret _ _ _ _ _ _ hW rfl rfl dX0_agree_30 (⟨by have h := agI_mono x (S 0) (S 1) (i + 1) (by rw [agI, ag, if_neg (by decide), if_neg c_26]) (z - (i + 1)); rw [show i + 1 + (z - (i + 1)) = z from by omega] at h; exact h.symm, rfl⟩)
  exact lp_2 (z + 1) 0 rfl (by omega) (by omega) _ _ _ hW (lv_sub hl [1, 2, 0] rfl)
