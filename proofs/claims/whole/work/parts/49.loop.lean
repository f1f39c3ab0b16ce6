/-! the law: its loop, its start -/
theorem eq_i {args : Array Value} {s : State} {tm : Term} {z : Int32} (h : (Cond.eq tm (.int z)).before args s = true) : tm.eval args s none [] s = some (.int z) := by
  cases hv : tm.eval args s none [] s with
  | none => simp [Cond.before, Cond.holds, Cond.value, hv] at h
  | some w =>
    have hz : (Term.int z).eval args s none [] s = some (.int z) := rfl
    simp only [Cond.before, Cond.holds, Cond.value, hv, hz] at h
    cases w <;> simp_all
theorem lt5 {L i : Nat} (hL : L ≤ 320) (hi : i < 1000) (h : ¬ Int32.ofNat L - 5 < nI i) : i + 5 ≤ L := by
  have h2 := fun q => h (Int32.lt_iff_toInt_lt.mpr q)
  have e : (Int32.ofNat L - 5).toInt = (L : Int) - 5 := pk_sub_toInt (a := L) (b := 5) (by omega) (by decide)
  rw [e, nI_toInt (by omega)] at h2
  have h3 : ¬ (L : Int) - 5 < (i : Int) := h2
  omega

set_option maxHeartbeats 4000000 in
set_option maxRecDepth 100000 in
theorem law_body {p : Program} {l : Launch} {e : Env} {s : State} {m : MethodId} {args : Array Value} {below : List Frame} {meth : Method} {c : Code} {H : Heap} {locs : List Loc} {Q0 : State → Prop} {ls : Array Slot} {D : va_G} {A : Nat → Prop} {a mm : Nat → Nat} {cI cZ cN : ClassId} {b0 L0 i : Nat} {xs : Nat → Int32} (S0 : CallFix p m c cL_law 4 s args BW RL) (hX : va_X b0 L0 xs s s.heap) (hbl : b0 < s.heap.size) (hbA : ¬ A b0) {t0 : Nat} (hZ : ZM t0 A s s.heap) (hi5 : i + 5 ≤ L0) (hL : L0 ≤ 320) (hG : Gd D cI cZ cN A a mm s H locs) (hl : lv_has ls 4 [(0, .ref b0), (1, .ref (a 0)), (2, .ref (mm 0)), (3, .int (nI i))]) (kk : ∀ (H : Heap) (locs : List Loc) (ls : Array Slot), Gd D cI cZ cN A a mm s H locs → lv_has ls 4 [(0, .ref b0), (1, .ref (a 0)), (2, .ref (mm 0)), (3, .int (nI i))] → W p l e room_1 s m args below meth c H locs 102 1534 Q0 (F0 m 882 ls [])) : W p l e room_1 s m args below meth c H locs 102 1534 Q0 (F0 m 26 ls []) := by
  have hx := S0.1
  have hb := S0.2.1
  have hS : va_S A s.heap H locs := by
    obtain ⟨_, _, _, _, _, _, _, _, _, _, _, _, _, _, _, _, _, _, _, _, _, _, _, -, hW⟩ := hG
    exact hW.2.2.2.2.1
  refine lv_aload_n hx hb dL_law_26 rfl (lv_at hl 0 rfl) ?_
  refine lv_iload_n hx hb dL_law_27 rfl (lv_at hl 3 rfl) ?_
  refine va_sld hx hb hX hbl hbA hS (vp_in_nI (show i < L0 by omega) (by omega)) dL_law_28 ?_
  refine lv_bipush (v := (31 : Int32)) hx hb dL_law_29 rfl ?_
  refine lv_iand hx hb dL_law_31 ?_
  obtain ⟨j, hj, ej⟩ := pk_andE (xs (nI i).toNatClampNeg) (m := 31) 5 (by decide +kernel)
  refine r_eq ej ?_
  by_cases h29 : j < 29
  · rcases (show j = 0 ∨ j = 1 ∨ j = 2 ∨ j = 3 ∨ j = 4 ∨ j = 5 ∨ j = 6 ∨ j = 7 ∨ j = 8 ∨ j = 9 ∨ j = 10 ∨ j = 11 ∨ j = 12 ∨ j = 13 ∨ j = 14 ∨ j = 15 ∨ j = 16 ∨ j = 17 ∨ j = 18 ∨ j = 19 ∨ j = 20 ∨ j = 21 ∨ j = 22 ∨ j = 23 ∨ j = 24 ∨ j = 25 ∨ j = 26 ∨ j = 27 ∨ j = 28 by omega) with rfl | rfl | rfl | rfl | rfl | rfl | rfl | rfl | rfl | rfl | rfl | rfl | rfl | rfl | rfl | rfl | rfl | rfl | rfl | rfl | rfl | rfl | rfl | rfl | rfl | rfl | rfl | rfl | rfl
    · refine r_eq (y := (0 : Int32)) rfl ?_
      refine lv_tableIn (off := 132) (tgt := 164) hx hb dL_law_32 (by decide) (by decide) rfl rfl ?_
      exact law_case_type S0 hX hbl hbA hZ hi5 hL hG hl kk
    · refine r_eq (y := (1 : Int32)) rfl ?_
      refine lv_tableIn (off := 155) (tgt := 187) hx hb dL_law_32 (by decide) (by decide) rfl rfl ?_
      exact law_case_clear S0 hX hbl hbA hZ hi5 hL hG hl kk
    · refine r_eq (y := (2 : Int32)) rfl ?_
      refine lv_tableIn (off := 168) (tgt := 200) hx hb dL_law_32 (by decide) (by decide) rfl rfl ?_
      exact law_case_republic S0 hX hbl hbA hZ hi5 hL hG hl kk
    · refine r_eq (y := (3 : Int32)) rfl ?_
      refine lv_tableIn (off := 181) (tgt := 213) hx hb dL_law_32 (by decide) (by decide) rfl rfl ?_
      exact law_case_person S0 hX hbl hbA hZ hi5 hL hG hl kk
    · refine r_eq (y := (4 : Int32)) rfl ?_
      refine lv_tableIn (off := 214) (tgt := 246) hx hb dL_law_32 (by decide) (by decide) rfl rfl ?_
      exact law_case_quarrels S0 hX hbl hbA hZ hi5 hL hG hl kk
    · refine r_eq (y := (5 : Int32)) rfl ?_
      refine lv_tableIn (off := 237) (tgt := 269) hx hb dL_law_32 (by decide) (by decide) rfl rfl ?_
      exact law_case_name S0 hX hbl hbA hZ hi5 hL hG hl kk
    · refine r_eq (y := (6 : Int32)) rfl ?_
      refine lv_tableIn (off := 270) (tgt := 302) hx hb dL_law_32 (by decide) (by decide) rfl rfl ?_
      exact law_case_bill S0 hX hbl hbA hZ hi5 hL hG hl kk
    · refine r_eq (y := (7 : Int32)) rfl ?_
      refine lv_tableIn (off := 303) (tgt := 335) hx hb dL_law_32 (by decide) (by decide) rfl rfl ?_
      exact law_case_now S0 hX hbl hbA hZ hi5 hL hG hl kk
    · refine r_eq (y := (8 : Int32)) rfl ?_
      refine lv_tableIn (off := 326) (tgt := 358) hx hb dL_law_32 (by decide) (by decide) rfl rfl ?_
      exact law_case_hurts S0 hX hbl hbA hZ hi5 hL hG hl kk
    · refine r_eq (y := (9 : Int32)) rfl ?_
      refine lv_tableIn (off := 359) (tgt := 391) hx hb dL_law_32 (by decide) (by decide) rfl rfl ?_
      exact law_case_deeds S0 hX hbl hbA hZ hi5 hL hG hl kk
    · refine r_eq (y := (10 : Int32)) rfl ?_
      refine lv_tableIn (off := 382) (tgt := 414) hx hb dL_law_32 (by decide) (by decide) rfl rfl ?_
      exact law_case_earns S0 hX hbl hbA hZ hi5 hL hG hl kk
    · refine r_eq (y := (11 : Int32)) rfl ?_
      refine lv_tableIn (off := 415) (tgt := 447) hx hb dL_law_32 (by decide) (by decide) rfl rfl ?_
      exact law_case_names S0 hX hbl hbA hZ hi5 hL hG hl kk
    · refine r_eq (y := (12 : Int32)) rfl ?_
      refine lv_tableIn (off := 448) (tgt := 480) hx hb dL_law_32 (by decide) (by decide) rfl rfl ?_
      exact law_case_laws S0 hX hbl hbA hZ hi5 hL hG hl kk
    · refine r_eq (y := (13 : Int32)) rfl ?_
      refine lv_tableIn (off := 471) (tgt := 503) hx hb dL_law_32 (by decide) (by decide) rfl rfl ?_
      exact law_case_year S0 hX hbl hbA hZ hi5 hL hG hl kk
    · refine r_eq (y := (14 : Int32)) rfl ?_
      refine lv_tableIn (off := 484) (tgt := 516) hx hb dL_law_32 (by decide) (by decide) rfl rfl ?_
      exact law_case_undo S0 hX hbl hbA hZ hi5 hL hG hl kk
    · refine r_eq (y := (15 : Int32)) rfl ?_
      refine lv_tableIn (off := 497) (tgt := 529) hx hb dL_law_32 (by decide) (by decide) rfl rfl ?_
      exact law_case_apart S0 hX hbl hbA hZ hi5 hL hG hl kk
    · refine r_eq (y := (16 : Int32)) rfl ?_
      refine lv_tableIn (off := 520) (tgt := 552) hx hb dL_law_32 (by decide) (by decide) rfl rfl ?_
      exact law_case_cheapest S0 hX hbl hbA hZ hi5 hL hG hl kk
    · refine r_eq (y := (17 : Int32)) rfl ?_
      refine lv_tableIn (off := 543) (tgt := 575) hx hb dL_law_32 (by decide) (by decide) rfl rfl ?_
      exact law_case_tells S0 hX hbl hbA hZ hi5 hL hG hl kk
    · refine r_eq (y := (18 : Int32)) rfl ?_
      refine lv_tableIn (off := 576) (tgt := 608) hx hb dL_law_32 (by decide) (by decide) rfl rfl ?_
      exact law_case_record S0 hX hbl hbA hZ hi5 hL hG hl kk
    · refine r_eq (y := (19 : Int32)) rfl ?_
      refine lv_tableIn (off := 609) (tgt := 641) hx hb dL_law_32 (by decide) (by decide) rfl rfl ?_
      exact law_case_forget S0 hX hbl hbA hZ hi5 hL hG hl kk
    · refine r_eq (y := (20 : Int32)) rfl ?_
      refine lv_tableIn (off := 622) (tgt := 654) hx hb dL_law_32 (by decide) (by decide) rfl rfl ?_
      exact law_case_who S0 hX hbl hbA hZ hi5 hL hG hl kk
    · refine r_eq (y := (21 : Int32)) rfl ?_
      refine lv_tableIn (off := 635) (tgt := 667) hx hb dL_law_32 (by decide) (by decide) rfl rfl ?_
      exact law_case_which S0 hX hbl hbA hZ hi5 hL hG hl kk
    · refine r_eq (y := (22 : Int32)) rfl ?_
      refine lv_tableIn (off := 658) (tgt := 690) hx hb dL_law_32 (by decide) (by decide) rfl rfl ?_
      exact law_case_married S0 hX hbl hbA hZ hi5 hL hG hl kk
    · refine r_eq (y := (23 : Int32)) rfl ?_
      refine lv_tableIn (off := 681) (tgt := 713) hx hb dL_law_32 (by decide) (by decide) rfl rfl ?_
      exact law_case_odds S0 hX hbl hbA hZ hi5 hL hG hl kk
    · refine r_eq (y := (24 : Int32)) rfl ?_
      refine lv_tableIn (off := 734) (tgt := 766) hx hb dL_law_32 (by decide) (by decide) rfl rfl ?_
      exact law_case_rate S0 hX hbl hbA hZ hi5 hL hG hl kk
    · refine r_eq (y := (25 : Int32)) rfl ?_
      refine lv_tableIn (off := 767) (tgt := 799) hx hb dL_law_32 (by decide) (by decide) rfl rfl ?_
      exact law_case_keep S0 hX hbl hbA hZ hi5 hL hG hl kk
    · refine r_eq (y := (26 : Int32)) rfl ?_
      refine lv_tableIn (off := 790) (tgt := 822) hx hb dL_law_32 (by decide) (by decide) rfl rfl ?_
      exact law_case_back S0 hX hbl hbA hZ hi5 hL hG hl kk
    · refine r_eq (y := (27 : Int32)) rfl ?_
      refine lv_tableIn (off := 813) (tgt := 845) hx hb dL_law_32 (by decide) (by decide) rfl rfl ?_
      exact law_case_count S0 hX hbl hbA hZ hi5 hL hG hl kk
    · refine r_eq (y := (28 : Int32)) rfl ?_
      refine lv_tableIn (off := 836) (tgt := 868) hx hb dL_law_32 (by decide) (by decide) rfl rfl ?_
      exact law_case_trace S0 hX hbl hbA hZ hi5 hL hG hl kk
  · have hj32 : j < 32 := hj
    refine lv_tableOut (tgt := 882) hx hb dL_law_32 (Or.inr (by rw [nI_toInt (by omega)]; omega)) rfl ?_
    exact kk _ _ _ hG hl

set_option maxHeartbeats 4000000 in
set_option maxRecDepth 100000 in
/-- the law's loop -/
theorem law_loop {p : Program} {l : Launch} {e : Env} {s : State} {m : MethodId} {below : List Frame} {meth : Method} {c : Code} {D : va_G} {cI cZ cN : ClassId} {a mm : Nat → Nat} {b L t0 : Nat} {xs : Nat → Int32} (hL : L ≤ 320) (C0 : lw_At p s m meth c b L xs) (S0 : CallFix p m c cL_law 4 s #[Value.ref b] BW RL) (hZ : ZM t0 (fun q : Nat => s.heap.size ≤ q) s s.heap) :
    ∀ (n i : Nat), L < i + 5 * (n + 1) → i ≤ 400 → ∀ (H : Heap) (locs : List Loc) (ls : Array Slot), Gd D cI cZ cN (fun q : Nat => s.heap.size ≤ q) a mm s H locs → lv_has ls 4 [(0, .ref b), (1, .ref (a 0)), (2, .ref (mm 0)), (3, .int (nI i))] → W p l e room_1 s m #[Value.ref b] below meth c H locs 102 1534 (lw_Z below #[Value.ref b] s) (F0 m 18 ls []) := by
  obtain ⟨hx, hb, hr, hml, hown, hts, hX, hbl, hlocks, hgv⟩ := C0
  have hbA : ¬ (fun q : Nat => s.heap.size ≤ q) b := Nat.not_le.mpr hbl
  intro n
  induction n with
  | zero =>
    intro i hn hi H locs ls hG hl
    have hS : va_S (fun q : Nat => s.heap.size ≤ q) s.heap H locs := by
      obtain ⟨_, _, _, _, _, _, _, _, _, _, _, _, _, _, _, _, _, _, _, _, _, _, _, -, hW⟩ := hG
      exact hW.2.2.2.2.1
    refine lv_iload_n hx hb dL_law_18 rfl (lv_at hl 3 rfl) ?_
    refine lv_aload_n hx hb dL_law_19 rfl (lv_at hl 0 rfl) ?_
    refine va_slen hx hb hX hbl hbA hS dL_law_20 ?_
    refine lv_iconst (v := (5 : Int32)) hx hb dL_law_21 rfl ?_
    refine lv_isub hx hb dL_law_22 ?_
    refine lv_icmp_gt (tgt := 888) hx hb dL_law_23 rfl (fun c9 => ?_) (fun c9 => ?_)
    · refine lv_iconst (v := 1) hx hb dL_law_888 rfl ?_
      refine va_forget (fun q hq => hS.2.2 q hq) ?_
      refine W.widen (k := 600000) (n := 7302250) (Nat.le_of_ble_eq_true rfl) (Nat.le_of_ble_eq_true rfl) ?_
      exact lw_ret hx hb hr hlocks dL_law_889
    · have := lt5 hL (by omega) c9
      omega
  | succ n ih =>
    intro i hn hi H locs ls hG hl
    have hS : va_S (fun q : Nat => s.heap.size ≤ q) s.heap H locs := by
      obtain ⟨_, _, _, _, _, _, _, _, _, _, _, _, _, _, _, _, _, _, _, _, _, _, _, -, hW⟩ := hG
      exact hW.2.2.2.2.1
    refine lv_iload_n hx hb dL_law_18 rfl (lv_at hl 3 rfl) ?_
    refine lv_aload_n hx hb dL_law_19 rfl (lv_at hl 0 rfl) ?_
    refine va_slen hx hb hX hbl hbA hS dL_law_20 ?_
    refine lv_iconst (v := (5 : Int32)) hx hb dL_law_21 rfl ?_
    refine lv_isub hx hb dL_law_22 ?_
    refine lv_icmp_gt (tgt := 888) hx hb dL_law_23 rfl (fun c9 => ?_) (fun c9 => ?_)
    · refine lv_iconst (v := 1) hx hb dL_law_888 rfl ?_
      refine va_forget (fun q hq => hS.2.2 q hq) ?_
      refine W.widen (k := 600000) (n := 7302250) (Nat.le_of_ble_eq_true rfl) (Nat.le_of_ble_eq_true rfl) ?_
      exact lw_ret hx hb hr hlocks dL_law_889
    · have hi5 := lt5 hL (by omega) c9
      refine law_body S0 hX hbl hbA hZ hi5 hL hG hl (fun H locs ls hG hl => ?_)
      refine lv_iinc (v := nI (i + 5)) (lv' := [(3, .int (nI (i + 5))), (0, .ref b), (1, .ref (a 0)), (2, .ref (mm 0))]) hx hb dL_law_882 hl (k := 3) rfl (inc_n i 5) (by decide) rfl (fun ls hl => ?_)
      refine lv_goto (tgt := 18) hx hb dL_law_885 rfl ?_
      exact ih (i + 5) (by omega) (by omega) H locs ls hG (lv_sub hl [1, 2, 3, 0] rfl)

/-- at first both have all in common -/
theorem rel_0 : Rel zz ld0 nw0 zz (fun _ => nw0) zz zz (fun _ => nw0) zz md0 0 0 4 0 0 0 0 := by
  have no : ∀ {i : Nat}, ¬ i < 0 := fun {i} => Nat.not_lt_zero i
  refine ⟨⟨rfl, by omega, rfl, rfl, fun j hj => absurd hj no⟩, ⟨rfl, by omega, rfl, rfl, by omega, by omega, rfl⟩, ⟨fun i hi => absurd hi no, fun i hi => absurd hi no, fun p q hp => absurd hp no, fun p hp => absurd hp no⟩, ⟨fun i hi => absurd hi no, fun i hi => absurd hi no, fun i hi => absurd hi no, rfl, rfl, rfl, rfl, fun i hi => absurd hi no, fun i hi => ⟨0, by omega, ?_⟩, fun i hi => absurd hi no, fun i hi => ?_, ⟨15, by omega, rfl⟩, ⟨0, by omega, rfl⟩, ⟨0, by omega, rfl⟩⟩, ⟨rfl, by omega, rfl, by omega, rfl, fun e he => absurd he no⟩, ⟨rfl, by omega, rfl, fun e he => absurd he no⟩, ⟨rfl, by omega, rfl, fun e he => absurd he no⟩, fun j hj => ⟨rfl, fun q => absurd rfl q⟩⟩
  · show upd (fun _ => 0) 22 15 (7 + i) = _
    rw [pk_un (by omega)]; rfl
  · show bt (upd (fun _ => 0) 22 15 21) i = false
    rw [pk_un (by omega)]; exact b_0 i

set_option maxHeartbeats 4000000 in
set_option maxRecDepth 100000 in
/-- the law, from its entry -/
theorem whole_start {p : Program} {e : Env} {s : State} {m : MethodId} {below : List Frame} {meth : Method} {c : Code} (l : Launch) {b L : Nat} {xs : Nat → Int32} (hL : L ≤ 320) (C0 : lw_At p s m meth c b L xs) : W p l e room_1 s m #[Value.ref b] below meth c s.heap [] 0 0 (lw_Z below #[Value.ref b] s) (entryFrame m ([Value.ref b] : List Value).toArray 4) := by
  obtain ⟨hx, hb, hr, hml, hown, hts, hX, hbl, hlocks, hgv⟩ := id C0
  have S0 : CallFix p m c cL_law 4 s #[Value.ref b] BW RL := ⟨hx, hb, hml, hown, fun w hw => hts w (BW_in w hw)⟩
  have hNN : NN s := fun q hq => va_Nw.of rfl (hts _ (nest_in q hq))
  have hO : va_AO "OneJohn$Now" s := va_AO.of (hts (Cond.arrayOver (.object "OneJohn$Now")) (List.mem_append_right _ (List.mem_of_getElem? (i := 159) (by decide +kernel))))
  obtain ⟨cI, kI, pI, i1, i2, i3⟩ := Cond.arrayClass_spec (S0.2.2.2.2 _ mw51)
  obtain ⟨cZ, kZ, pZ, z1, z2, z3⟩ := Cond.arrayClass_spec (S0.2.2.2.2 _ mw43)
  obtain ⟨pN, cN, kN, n1, n2, n3, n4, n5⟩ := Cond.arrayOver_spec hO
  obtain ⟨c0, iS0, hKn0⟩ := u_known (C := RX0) (T := TX0) (N := 3) (n := 3) S0.2.2.2.2 bw_wsX00 (S0.2.2.2.2 _ mw29)
  obtain ⟨c1, iS1, hKn1⟩ := u_known (C := RX1) (T := TX1) (N := 6) (n := 6) S0.2.2.2.2 bw_wsX10 (S0.2.2.2.2 _ mw21)
  obtain ⟨c2, iS2, hKn2⟩ := u_known (C := RX2) (T := TX2) (N := 7) (n := 7) S0.2.2.2.2 bw_wsX20 (S0.2.2.2.2 _ mw46)
  obtain ⟨c3, iS3, hKn3⟩ := u_known (C := RX3) (T := TX3) (N := 3) (n := 3) S0.2.2.2.2 bw_wsX30 (S0.2.2.2.2 _ mw25)
  obtain ⟨c4, iS4, hKn4⟩ := u_known (C := RX4) (T := TX4) (N := 6) (n := 6) S0.2.2.2.2 bw_wsX40 (S0.2.2.2.2 _ mw17)
  obtain ⟨c5, iS5, hKn5⟩ := u_known (C := RX5) (T := TX5) (N := 3) (n := 3) S0.2.2.2.2 bw_wsX50 (S0.2.2.2.2 _ mw34)
  obtain ⟨c6, iS6, hKn6⟩ := u_known (C := RX6) (T := TX6) (N := 2) (n := 2) S0.2.2.2.2 bw_wsX60 (S0.2.2.2.2 _ mw13)
  obtain ⟨c7, iS7, hKn7⟩ := u_known (C := RX7) (T := TX7) (N := 3) (n := 3) S0.2.2.2.2 bw_wsX70 (S0.2.2.2.2 _ mw38)
  obtain ⟨c8, iS8, hKn8⟩ := u_known (C := RX8) (T := TX8) (N := 11) (n := 11) S0.2.2.2.2 bw_wsX80 (S0.2.2.2.2 _ mw1)
  obtain ⟨c9, iS9, hKn9⟩ := u_known (C := RX9) (T := TX9) (N := 29) (n := 29) S0.2.2.2.2 bw_wsX90 (S0.2.2.2.2 _ mw4)
  obtain ⟨dC, dI, hKc⟩ : ∃ (dC : Nat → ClassId) (dI : Nat → Nat → Nat), ∀ (k : Nat) (q : vw_C), vwCl[k]? = some q → u_Kn s q.1 q.2.1 q.2.2 (dC k) (dI k) := by
    refine ⟨fun k => if k = 0 then c0 else if k = 1 then c1 else if k = 2 then c2 else if k = 3 then c3 else if k = 4 then c4 else if k = 5 then c5 else if k = 6 then c6 else if k = 7 then c7 else if k = 8 then c8 else c9, fun k => if k = 0 then iS0 else if k = 1 then iS1 else if k = 2 then iS2 else if k = 3 then iS3 else if k = 4 then iS4 else if k = 5 then iS5 else if k = 6 then iS6 else if k = 7 then iS7 else if k = 8 then iS8 else iS9, ?_⟩
    intro k q hq
    match k, hq with
    | 0, hq => cases hq; exact hKn0
    | 1, hq => cases hq; exact hKn1
    | 2, hq => cases hq; exact hKn2
    | 3, hq => cases hq; exact hKn3
    | 4, hq => cases hq; exact hKn4
    | 5, hq => cases hq; exact hKn5
    | 6, hq => cases hq; exact hKn6
    | 7, hq => cases hq; exact hKn7
    | 8, hq => cases hq; exact hKn8
    | 9, hq => cases hq; exact hKn9
    | k + 10, hq => simp [vwCl] at hq
  have hK : va_K (dC, dI) vwCl (tyG cI cZ cN) s := by
    refine ⟨hKc, fun k q hk => ?_⟩
    match k, hk with
    | 0, hk => cases hk; exact ⟨fun n z => ⟨(fun k h => by cases h), kI, i2, pI, i3⟩, i1⟩
    | 1, hk => cases hk; exact ⟨fun n z => ⟨(fun k h => by cases h), kZ, z2, pZ, z3⟩, z1⟩
    | 2, hk => cases hk; exact ⟨fun n z => ⟨(fun k h => by cases h), kN, n3, pN, n4⟩, kN, pN, n3, n4, n1, n5⟩
    | k + 3, hk => simp at hk
  have hs := flat_of_before _ hgv
  have hA0 : ∀ q : Nat, q < s.heap.size → ¬ (fun q : Nat => s.heap.size ≤ q) q := fun q h => Nat.not_le.mpr h
  obtain ⟨t0, ht0, hT0⟩ := va_Tof (tm := .static "OneJohn" "MARKS" "[I") (ty := .int) (N := 6) (f := fun j => .int (mkV j)) (A := fun q : Nat => s.heap.size ≤ q) (by decide) (hs (.arrayOf (.static "OneJohn" "MARKS" "[I") .int) (by decide +kernel)) (eq_i (hs (.eq (.length (.static "OneJohn" "MARKS" "[I")) (.int 6)) (by decide +kernel))) (fun j hj => by
    rcases (show j = 0 ∨ j = 1 ∨ j = 2 ∨ j = 3 ∨ j = 4 ∨ j = 5 by omega) with rfl | rfl | rfl | rfl | rfl | rfl
    · exact eq_i (z := 1) (hs (.eq (.elem (.static "OneJohn" "MARKS" "[I") (.int 0)) (.int 1)) (by decide +kernel))
    · exact eq_i (z := 10) (hs (.eq (.elem (.static "OneJohn" "MARKS" "[I") (.int 1)) (.int 10)) (by decide +kernel))
    · exact eq_i (z := 100) (hs (.eq (.elem (.static "OneJohn" "MARKS" "[I") (.int 2)) (.int 100)) (by decide +kernel))
    · exact eq_i (z := 1000) (hs (.eq (.elem (.static "OneJohn" "MARKS" "[I") (.int 3)) (.int 1000)) (by decide +kernel))
    · exact eq_i (z := 10000) (hs (.eq (.elem (.static "OneJohn" "MARKS" "[I") (.int 4)) (.int 10000)) (by decide +kernel))
    · exact eq_i (z := 100000) (hs (.eq (.elem (.static "OneJohn" "MARKS" "[I") (.int 5)) (.int 100000)) (by decide +kernel))) hA0
  have hZ : ZM t0 (fun q : Nat => s.heap.size ≤ q) s s.heap := ⟨va_Zof (hts (Cond.laysStatic "OneJohn" "MARKS" "[I") (List.mem_append_right _ (List.mem_of_getElem? (i := 622) (by decide +kernel)))) (S0.2.2.2.2 _ mw2) ht0 hA0, hT0⟩
  have hW : AtC (dC, dI) (tyG cI cZ cN) (fun q : Nat => s.heap.size ≤ q) [] s s.heap [] := ⟨hNN, hK, fun k q h => by simp at h, ⟨fun i j x y h => by simp at h, fun k q h => by simp at h⟩, va_S.rf, fun q h => h⟩
  have hl := lv_entry ([.ref b]) (n := 4) (Nat.le_of_ble_eq_true rfl)
  rw [lg_entry_eq]
  generalize (lg_sl ([.ref b]) ++ List.replicate (4 - (lg_sl ([.ref b])).length) Slot.unset).toArray = ls at hl ⊢
  have hl : lv_has ls 4 [(0, .ref b)] := hl
  refine r_newO S0 hW (ci := 8) (fs := [.null, .null, .null, .null, .null, .null, .null, .null, .null, .null, .long 0]) rfl bw_wsX80 tyX8_ok mw0 mw1 mw2 (fun j hj => by rcases (show j = 0 ∨ j = 1 ∨ j = 2 ∨ j = 3 ∨ j = 4 ∨ j = 5 ∨ j = 6 ∨ j = 7 ∨ j = 8 ∨ j = 9 ∨ j = 10 by omega) with rfl | rfl | rfl | rfl | rfl | rfl | rfl | rfl | rfl | rfl | rfl <;> rfl) (Nat.le_of_ble_eq_true rfl) (Nat.le_of_ble_eq_true rfl) dL_law_0 (fun q1 H hW => ?_)
  refine lv_dup hx hb dL_law_3 rfl ?_
  refine callIL S0 hO hW (c_X8_init l (dC, dI) cI cZ cN q1) mw7 mw2 mw8 rfl ⟨by decide, by decide, by decide +kernel⟩ mw6 hl.1 (rest := [.ref q1]) (Nat.le_of_ble_eq_true rfl) ⟨Nat.le_of_ble_eq_true rfl, Nat.le_of_ble_eq_true rfl⟩ ⟨Nat.le_of_ble_eq_true rfl, Nat.le_of_ble_eq_true rfl⟩ dL_law_4 (fun wx H locs hqx hV => ?_)
  obtain ⟨a, ea, rfl⟩ := hqx
  subst ea
  have hW : AtC (dC, dI) (tyG cI cZ cN) (fun q : Nat => s.heap.size ≤ q) (pOne cI cZ cN a zz rd0 ld0 nw0 ld0 nw0 zz (fun _ => nw0) zz zz zz zz (fun _ => nw0) zz 0) s H locs := hV
  refine lv_astore_n (lv' := [(1, .ref (a 0)), (0, .ref b)]) hx hb dL_law_7 rfl hl (by decide) rfl (fun ls hl => ?_)
  refine r_newO S0 hW (ci := 9) (fs := [.int 0, .long 0, .null, .int 0, .int 0, .int 0, .int 0, .int 0, .int 0, .null, .null, .null, .null, .null, .int 0, .null, .null, .null, .null, .null, .int 0, .null, .null, .int 0, .null, .null, .int 0, .null, .null]) rfl bw_wsX90 tyX9_ok mw3 mw4 mw5 (fun j hj => by rcases (show j = 0 ∨ j = 1 ∨ j = 2 ∨ j = 3 ∨ j = 4 ∨ j = 5 ∨ j = 6 ∨ j = 7 ∨ j = 8 ∨ j = 9 ∨ j = 10 ∨ j = 11 ∨ j = 12 ∨ j = 13 ∨ j = 14 ∨ j = 15 ∨ j = 16 ∨ j = 17 ∨ j = 18 ∨ j = 19 ∨ j = 20 ∨ j = 21 ∨ j = 22 ∨ j = 23 ∨ j = 24 ∨ j = 25 ∨ j = 26 ∨ j = 27 ∨ j = 28 by omega) with rfl | rfl | rfl | rfl | rfl | rfl | rfl | rfl | rfl | rfl | rfl | rfl | rfl | rfl | rfl | rfl | rfl | rfl | rfl | rfl | rfl | rfl | rfl | rfl | rfl | rfl | rfl | rfl | rfl <;> rfl) (Nat.le_of_ble_eq_true rfl) (Nat.le_of_ble_eq_true rfl) dL_law_8 (fun q2 H hW => ?_)
  refine lv_dup hx hb dL_law_11 rfl ?_
  refine callIL S0 hO hW (c_X9_init l (dC, dI) cI cZ cN q2) mw111 mw5 mw112 rfl ⟨by decide, by decide, by decide +kernel⟩ mw110 hl.1 (rest := [.ref q2]) (Nat.le_of_ble_eq_true rfl) ⟨Nat.le_of_ble_eq_true rfl, Nat.le_of_ble_eq_true rfl⟩ ⟨Nat.le_of_ble_eq_true rfl, Nat.le_of_ble_eq_true rfl⟩ dL_law_12 (fun wx H locs hqx hV => ?_)
  obtain ⟨mm, ea, rfl⟩ := hqx
  subst ea
  refine lv_astore_n (lv' := [(2, .ref (mm 0)), (1, .ref (a 0)), (0, .ref b)]) hx hb dL_law_15 rfl hl (by decide) rfl (fun ls hl => ?_)
  refine lv_iconst (v := (0 : Int32)) hx hb dL_law_16 rfl ?_
  refine lv_istore_n (lv' := [(3, .int (0 : Int32)), (2, .ref (mm 0)), (1, .ref (a 0)), (0, .ref b)]) hx hb dL_law_17 rfl hl (by decide) rfl (fun ls hl => ?_)
  refine W.widen (k := 102) (n := 1534) (Nat.le_of_ble_eq_true rfl) (Nat.le_of_ble_eq_true rfl) ?_
  exact law_loop hL C0 S0 hZ L 0 (by omega) (by omega) _ _ _ ⟨zz, rd0, ld0, nw0, ld0, nw0, zz, (fun _ => nw0), zz, zz, zz, zz, (fun _ => nw0), zz, 0, md0, 0, 0, 4, 0, 0, 0, 0, rel_0, hV⟩ (lv_sub hl [3, 2, 1, 0] rfl)
