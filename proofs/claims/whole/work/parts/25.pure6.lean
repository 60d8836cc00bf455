/-! ===== the model's indices, bits, sets ===== -/
theorem ix_m {c d : Nat} {C D x y : Int32} {a b : Nat} (hC : C = nI c) (hD : D = nI d) (hx : x = nI a) (hy : y = nI b) : C + D * x + y = nI (c + d * a + b) := by
  rw [hC, hD, hx, hy, pk_mul, nI_add, nI_add]
theorem ix_e {x y : Int32} {a b : Nat} (hx : x = nI a) (hy : y = nI b) : 3 + 5 * x + y = nI (3 + 5 * a + b) := ix_m rfl rfl hx hy
theorem ix_h {x y : Int32} {a b : Nat} (hx : x = nI a) (hy : y = nI b) : 43 + 4 * x + y = nI (43 + 4 * a + b) := ix_m rfl rfl hx hy
theorem ix_w {x y : Int32} {a b : Nat} (hx : x = nI a) (hy : y = nI b) : 59 + 4 * x + y = nI (59 + 4 * a + b) := ix_m rfl rfl hx hy
theorem s_l : ∀ n, n < 32 → ((nI n &&& 31).toBitVec.smod 32).toNat = n := by decide +kernel
theorem bitP {s j : Nat} (hs : s < 2 ^ 31) (hj : j < 31) : (nI s >>> (nI j &&& 31)) &&& 1 = 1 ↔ s.testBit j = true := by
  rw [pk_shrN hs _ j (s_l j (by omega)), pk_andN (n := s / 2 ^ j) (Nat.lt_of_le_of_lt (Nat.div_le_self _ _) (by omega)) 1 (by decide), show (1 : Int32) = nI 1 from rfl, nI_eq (by omega) (by decide)]
  rw [Nat.testBit_eq_decide_div_mod_eq]
  simp
def popT (s : Nat) : Nat := s % 2 + s / 2 % 2 + s / 4 % 2 + s / 8 % 2 + s / 16 % 2 + s / 32 % 2 + s / 64 % 2 + s / 128 % 2
theorem pop_step : ∀ t, t < 256 → 0 < t → popT (t &&& (t - 1)) + 1 = popT t ∧ (t &&& (t - 1)) < t := by decide +kernel
def bitF (x : Int32) : Int32 :=
  let x1 := x - ((x.toUInt32 >>> ((1 : Int32).toUInt32 &&& Int32.toUInt32 31)).toInt32 &&& 1431655765)
  let x2 := (x1 &&& 858993459) + ((x1.toUInt32 >>> ((2 : Int32).toUInt32 &&& Int32.toUInt32 31)).toInt32 &&& 858993459)
  let x3 := (x2 + (x2.toUInt32 >>> ((4 : Int32).toUInt32 &&& Int32.toUInt32 31)).toInt32) &&& 252645135
  let x4 := x3 + (x3.toUInt32 >>> ((8 : Int32).toUInt32 &&& Int32.toUInt32 31)).toInt32
  let x5 := x4 + (x4.toUInt32 >>> ((16 : Int32).toUInt32 &&& Int32.toUInt32 31)).toInt32
  x5 &&& 63
theorem bitF_pop : ∀ s, s < 256 → bitF (nI s) = nI (popT s) := by decide +kernel
/-- bits of a sum of powers of two -/
theorem tb_add {a k : Nat} (h : a < 2 ^ k) (b : Bool) (j : Nat) : (a + if b then 2 ^ k else 0).testBit j = if j = k then b else a.testBit j := by
  cases b with
  | false =>
    simp only [Bool.false_eq_true, if_false, Nat.add_zero]
    by_cases q : j = k
    · rw [if_pos q, q]; exact Nat.testBit_lt_two_pow h
    · rw [if_neg q]
  | true =>
    simp only [if_true]
    rw [Nat.add_comm]
    by_cases q : j = k
    · rw [if_pos q, q, Nat.testBit_two_pow_add_eq, Nat.testBit_lt_two_pow h]; rfl
    · rw [if_neg q]
      rcases Nat.lt_or_ge j k with z | z
      · exact Nat.testBit_two_pow_add_gt z a
      · rw [Nat.testBit_lt_two_pow (i := j) (x := a) (Nat.lt_of_lt_of_le h (Nat.pow_le_pow_right (by decide) z))]
        apply Nat.testBit_lt_two_pow
        have : 2 ^ (k + 1) ≤ 2 ^ j := Nat.pow_le_pow_right (by decide) (by omega)
        rw [Nat.pow_succ] at this
        omega
theorem egg_bit (S : Row) : ∀ n k, k < n → (eggN S n).testBit k = decide (thr S k)
  | 0, k, h => absurd h (Nat.not_lt_zero k)
  | n + 1, k, h => by
    have e := tb_add (eggN_lt S n) (decide (thr S n)) k
    have e2 : eggN S (n + 1) = eggN S n + if decide (thr S n) then 2 ^ n else 0 := by
      show _ + _ = _
      simp
    rw [e2, e]
    by_cases q : k = n
    · rw [if_pos q, q]
    · rw [if_neg q]; exact egg_bit S n k (by omega)
/-- minutes of a set -/
def sumN (S : Row) (s : Nat) : Nat → Int32
  | 0 => 0
  | k + 1 => sumN S s k + if s.testBit k then minE S k else 0
theorem sum_all (S : Row) : ∀ n, n ≤ 8 → sumN S (eggN S 8) n = allM S n
  | 0, _ => rfl
  | n + 1, h => by
    show sumN S (eggN S 8) n + _ = allM S n + mE S n
    rw [sum_all S n (by omega), egg_bit S 8 n (by omega)]
    unfold mE
    simp
/-- the set of the eggs in a nest -/
def nsN (S : Row) (nest : Int32) : Nat → Nat
  | 0 => 0
  | k + 1 => nsN S nest k + if thr S k ∧ eg S k 3 = nest then 2 ^ k else 0
theorem nsN_lt (S : Row) (nest : Int32) : ∀ k, nsN S nest k < 2 ^ k
  | 0 => Nat.one_pos
  | k + 1 => by
    have := nsN_lt S nest k
    unfold nsN
    rw [Nat.pow_succ]
    split <;> omega
theorem ns_bit (S : Row) (nest : Int32) : ∀ n k, k < n → (nsN S nest n).testBit k = decide (thr S k ∧ eg S k 3 = nest)
  | 0, k, h => absurd h (Nat.not_lt_zero k)
  | n + 1, k, h => by
    have e := tb_add (nsN_lt S nest n) (decide (thr S n ∧ eg S n 3 = nest)) k
    have e2 : nsN S nest (n + 1) = nsN S nest n + if decide (thr S n ∧ eg S n 3 = nest) then 2 ^ n else 0 := by
      show _ + _ = _
      simp
    rw [e2, e]
    by_cases q : k = n
    · rw [if_pos q, q]
    · rw [if_neg q]; exact ns_bit S nest n k (by omega)
theorem sum_nest (S : Row) (nest : Int32) : ∀ n, n ≤ 8 → sumN S (nsN S nest 8) n = nestM S nest n
  | 0, _ => rfl
  | n + 1, h => by
    show sumN S (nsN S nest 8) n + _ = nestM S nest n + _
    rw [sum_nest S nest n (by omega), ns_bit S nest 8 n (by omega)]
    simp
theorem vm_eg {M : Mem} {e f : Nat} (he : e < 8) (hf : f < 5) : M 41 (3 + 5 * e + f) = eg (vm M) e f := (vm_at (by omega)).symm
theorem vm_hn {M : Mem} {e f : Nat} (he : e < 4) (hf : f < 4) : M 41 (43 + 4 * e + f) = hn (vm M) e f := (vm_at (by omega)).symm
theorem vm_wk {M : Mem} {e f : Nat} (he : e < 6) (hf : f < 4) : M 41 (59 + 4 * e + f) = wk (vm M) e f := (vm_at (by omega)).symm
theorem clamp_m {x : Int32} : (if (if 9999 < x then 9999 else x) < -9999 then -9999 else (if 9999 < x then 9999 else x)) = clampG x := by
  unfold clampG
  grind
/-- five writes of an egg's row -/
theorem puts_put {S : Row} {e : Nat} {k s g n : Int32} : upd (upd (upd (upd (upd S (3 + 5 * e + 0) k) (3 + 5 * e + 1) s) (3 + 5 * e + 2) g) (3 + 5 * e + 3) n) (3 + 5 * e + 4) 1 = putE S e k s g n := by
  funext i
  unfold putE upd
  grind
theorem puts_go {S : Row} {e : Nat} : upd (upd (upd (upd (upd S (3 + 5 * e + 4) 0) (3 + 5 * e + 0) 0) (3 + 5 * e + 1) 0) (3 + 5 * e + 2) 0) (3 + 5 * e + 3) 0 = goS S e := by
  funext i
  unfold goS upd
  grind
theorem capD_l {x : Int32} : (if x < 99999 then x else 99999) = capD x := by
  unfold capD
  grind
