/-! OneJohnModel: reads -/
abbrev pMod (cI cZ : ClassId) (b : Nat → Nat) (M : NV) (tr : Int64) : va_W := [(b 0, .inr (9, [.int (M 0 0), .long tr, .ref (b 1), .int (M 0 1), .int (M 0 2), .int (M 0 3), .int (M 0 4), .int (M 0 5), .int (M 0 6), .ref (b 2), .ref (b 3), .ref (b 4), .ref (b 5), .ref (b 6), .int (M 0 7), .ref (b 7), .ref (b 8), .ref (b 9), .ref (b 10), .ref (b 11), .int (M 0 8), .ref (b 12), .ref (b 13), .int (M 0 9), .ref (b 14), .ref (b 15), .int (M 0 10), .ref (b 16), .ref (b 17)])), (b 1, .inl (cI, 200, .inl (M 1))), (b 2, .inl (cI, 6, .inl (M 2))), (b 3, .inl (cI, 7, .inl (M 3))), (b 4, .inl (cI, 7, .inl (M 4))), (b 5, .inl (cI, 14, .inl (M 5))), (b 6, .inl (cI, 14, .inl (M 6))), (b 7, .inl (cI, 25, .inl (M 7))), (b 8, .inl (cI, 25, .inl (M 8))), (b 9, .inl (cI, 50, .inl (M 9))), (b 10, .inl (cZ, 2, .inl (M 10))), (b 11, .inl (cI, 250, .inl (M 11))), (b 12, .inl (cI, 6, .inl (M 12))), (b 13, .inl (cI, 6, .inl (M 13))), (b 14, .inl (cI, 6, .inl (M 14))), (b 15, .inl (cI, 6, .inl (M 15))), (b 16, .inl (cI, 7, .inl (M 16))), (b 17, .inl (cI, 128, .inl (M 17)))]
def onI (x : Int32) : Nat → Int32
  | 0 => 0
  | k + 1 => onI x k + ((x >>> (nI k &&& 31)) &&& 1)
def ppO (r : Nat → Int32) (k : Int32) : Nat → Int32
  | 0 => 0
  | i + 1 => ppO r k i ||| (if r i = k then ((1 : Int32) <<< (nI i &&& 31)) else 0)
def smO (r : Nat → Int32) (F : Nat) (g : Int32) : Nat → Int32
  | 0 => 0
  | i + 1 => smO r F g i + (if (g >>> (nI i &&& 31)) &&& 1 = 1 then r (F + i) else 0)
def lwI (r : Nat → Int32) (law : Int32) : Int32 := if r 22 &&& law = 0 then 0 else 1
def ofM (r : Nat → Int32) (N : Nat) (law : Int32) (P : Nat) : Int32 := if r 22 &&& law = 0 then ((1 : Int32) <<< (nI P &&& 31)) else ppO r (r P) N
def liM (r : Nat → Int32) (N P : Nat) : Int32 := if ofM r N 1 P &&& r 21 = 0 then 0 else 1
def fmM (r : Nat → Int32) (N P : Nat) : Int32 := if r 22 &&& 8 = 0 then r (14 + P) else smO r 14 (ppO r (r P) N) N
def txM (r : Nat → Int32) (N P : Nat) : Int32 := smO r 7 (ofM r N 4 P) N / onI (ofM r N 4 P) 7 / 10
def ldO (bi : Nat → Int32) (g b : Int32) : Nat → Int32
  | 0 => 0
  | i + 1 => ldO bi g b i + (if (g >>> (nI i &&& 31)) &&& 1 = 0 then 0 else if (bi i >>> (b &&& 31)) &&& 1 = 1 then 1 else -1)
def vK (r bi : Nat → Int32) (N : Nat) (b am th : Int32) : Nat → Int32
  | 0 => 0
  | k + 1 => vK r bi N b am th k + (if ldO bi (ppO r (nI k) N &&& am) b N * th ≤ 0 then 0 else 1)
def vP (bi : Nat → Int32) (N : Nat) (b am th : Int32) : Nat → Int32
  | 0 => 0
  | i + 1 => vP bi N b am th i + (if ldO bi (am &&& ((1 : Int32) <<< (nI i &&& 31))) b N = th then 1 else 0)
def voM (r bi : Nat → Int32) (N C : Nat) (b am th : Int32) : Int32 := if r 22 &&& 2 = 0 then vP bi N b am th N else vK r bi N b am th C
def psM (r bi : Nat → Int32) (N C : Nat) (b am : Int32) : Int32 := if voM r bi N C b am 1 ≤ voM r bi N C b am (-1) then 0 else 1
def evM (N : Nat) : Int32 := ((1 : Int32) <<< (nI N &&& 31)) - 1
def swM (r bi : Nat → Int32) (N C : Nat) (b : Int32) : Nat → Int32
  | 0 => 0
  | k + 1 => swM r bi N C b k ||| (if psM r bi N C b (evM N &&& (ppO r (nI k) N ^^^ (-1))) = psM r bi N C b (evM N) then 0 else ((1 : Int32) <<< (nI k &&& 31)))
def lgM (r : Nat → Int32) (N : Nat) : Nat → Int32
  | 0 => 0
  | i + 1 => lgM r N i ||| (if liM r N i = 0 then 0 else ((1 : Int32) <<< (nI i &&& 31)))
def boM (r qu : Nat → Int32) (N : Nat) : Nat → Int32
  | 0 => 0
  | i + 1 => boM r qu N i + onI (qu i &&& ppO r (r i) N) 7
def aloM (r : Nat → Int32) (N : Nat) : Nat → Int32
  | 0 => 0
  | i + 1 => aloM r N i ||| (if ppO r (r i) N = ((1 : Int32) <<< (nI i &&& 31)) then ((1 : Int32) <<< (nI i &&& 31)) else 0)
/-- a set's number -/
def mkN (f : Nat → Int32) (k : Int32) : Nat → Nat
  | 0 => 0
  | n + 1 => mkN f k n + (if f n = k then 2 ^ n else 0)
theorem mkN_lt (f : Nat → Int32) (k : Int32) : ∀ n, mkN f k n < 2 ^ n
  | 0 => Nat.one_pos
  | n + 1 => by
    have h := mkN_lt f k n
    rw [mkN, Nat.pow_succ]
    split <;> omega
theorem mkN_bit (f : Nat → Int32) (k : Int32) : ∀ n P, P < n → mkN f k n / 2 ^ P % 2 = if f P = k then 1 else 0
  | 0, P, h => absurd h (Nat.not_lt_zero P)
  | n + 1, P, h => by
    rw [mkN]
    by_cases hP : P < n
    · rw [← mkN_bit f k n P hP]
      have e : 2 ^ n = 2 ^ P * (2 * 2 ^ (n - P - 1)) := by rw [← Nat.mul_assoc, ← Nat.pow_succ, ← Nat.pow_add]; congr 1; omega
      split
      · rw [e, Nat.add_mul_div_left _ _ (Nat.two_pow_pos P), Nat.add_mul_mod_self_left]
      · rfl
    · obtain rfl : P = n := by omega
      have hl := mkN_lt f k P
      split
      · rw [Nat.add_div_right _ (Nat.two_pow_pos P), Nat.div_eq_of_lt hl]
      · rw [Nat.add_zero, Nat.div_eq_of_lt hl]
theorem pow31 {P : Nat} (h : P < 7) : ((1 : Int32) <<< (nI P &&& 31)) = nI (2 ^ P) := by
  rcases (show P = 0 ∨ P = 1 ∨ P = 2 ∨ P = 3 ∨ P = 4 ∨ P = 5 ∨ P = 6 by omega) with rfl | rfl | rfl | rfl | rfl | rfl | rfl <;> decide +kernel
theorem ppO_nat (f : Nat → Int32) (k : Int32) : ∀ n, n ≤ 7 → ppO f k n = nI (mkN f k n)
  | 0, _ => rfl
  | n + 1, h => by
    rw [ppO, ppO_nat f k n (by omega), mkN]
    split
    · rw [pow31 (by omega)]
      have h3 := fa_or_sum' (a := mkN f k n) (k := n) 1 (mkN_lt f k n)
      rw [Nat.mul_one] at h3
      rw [Int32.or_comm, h3, Nat.add_comm]
    · rw [Nat.add_zero]; exact Int32.or_zero
theorem on_nat : ∀ m, m < 128 → onI (nI m) 7 = nI (pcN m) := by decide +kernel
theorem pc_pos {m P : Nat} (hP : P < 7) (h : m / 2 ^ P % 2 = 1) : 0 < pcN m := by
  unfold pcN
  rcases (show P = 0 ∨ P = 1 ∨ P = 2 ∨ P = 3 ∨ P = 4 ∨ P = 5 ∨ P = 6 by omega) with rfl | rfl | rfl | rfl | rfl | rfl | rfl <;> omega
theorem pc_le (m : Nat) : pcN m ≤ 7 := by unfold pcN; omega
theorem lt128 {m n : Nat} (h : m < 2 ^ n) (hn : n ≤ 7) : m < 128 := Nat.lt_of_lt_of_le h (Nat.pow_le_pow_right (by decide) hn)
theorem on_pp {f : Nat → Int32} {N P : Nat} (hN : N ≤ 7) (hP : P < N) : ¬ onI (ppO f (f P) N) 7 = 0 := by
  rw [ppO_nat f _ N hN, on_nat _ (lt128 (mkN_lt f _ N) hN)]
  have := pc_le (mkN f (f P) N)
  exact nI_ne0 (pc_pos (P := P) (by omega) (by rw [mkN_bit f _ N P hP, if_pos rfl])) (by omega)
theorem on_one {P : Nat} (h : P < 7) : ¬ onI ((1 : Int32) <<< (nI P &&& 31)) 7 = 0 := by
  rcases (show P = 0 ∨ P = 1 ∨ P = 2 ∨ P = 3 ∨ P = 4 ∨ P = 5 ∨ P = 6 by omega) with rfl | rfl | rfl | rfl | rfl | rfl | rfl <;> decide +kernel
theorem liM_1 {r : Nat → Int32} {N P : Nat} (h : ¬ liM r N P = 0) : liM r N P = 1 := by
  unfold liM at h ⊢
  split
  · rename_i h1; simp [h1] at h
  · rfl
theorem psM_1 {r bi : Nat → Int32} {N C : Nat} {b am : Int32} (h : ¬ psM r bi N C b am = 0) : psM r bi N C b am = 1 := by
  unfold psM at h ⊢
  split
  · rename_i h1; simp [h1] at h
  · rfl
