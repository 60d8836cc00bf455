/-! ===== days keep hens, works, spots; bounds of minutes; sets of places ===== -/
theorem lp_gt {i N : Nat} (hN : N + 1 < 2 ^ 31) (hi : i ≤ N) (c : nI N < nI (i + 1)) : i = N := by
  have := (nI_ltI (by omega) (by omega)).mp c
  omega
theorem lp_ng {i N : Nat} (hN : N + 1 < 2 ^ 31) (hi : i ≤ N) (c : ¬ nI N < nI (i + 1)) : i < N := by
  rcases Nat.lt_or_ge i N with q | q
  · exact q
  · exact absurd ((nI_ltI (by omega) (by omega)).mpr (by omega)) c
theorem inB_nI {n m : Nat} (hm : m < 2 ^ 31) (h : n ≤ m) : inB (nI n) 0 (nI m) := ⟨nI_pos' (by omega), nI_le h hm⟩
theorem layS_o {S : Row} {k s g n : Int32} {j : Nat} (h : j < 3 ∨ 43 ≤ j) : layS S k s g n j = S j := by
  unfold layS
  by_cases q : frN S 8 < 8
  · rw [if_pos q]; exact putE_o (by omega)
  · rw [if_neg q]
theorem hensS_o (S : Row) : ∀ n k, (k < 3 ∨ 43 ≤ k) → hensS S n k = S k
  | 0, k, h => rfl
  | n + 1, k, h => by
    show henS _ _ k = _
    rw [← hensS_o S n k h]
    unfold henS
    split
    · exact layS_o h
    · rfl
theorem dayS_o {S : Row} {k : Nat} (h : k = 2 ∨ 43 ≤ k) : dayS S k = S k := by
  unfold dayS tickS
  rw [hensS_o _ _ _ (by omega), pk_un (by omega), pk_un (by omega), agesS_o _ _ _ (by omega)]
theorem dayS_0 {S : Row} : dayS S 0 = capD (S 0 + 1) := by
  unfold dayS tickS
  rw [hensS_o _ _ _ (by omega), pk_us]
theorem dayN_o (S : Row) : ∀ n k, (k = 2 ∨ 43 ≤ k) → dayN S n k = S k
  | 0, k, h => rfl
  | n + 1, k, h => by
    show dayS _ k = _
    rw [dayS_o h]; exact dayN_o S n k h
theorem dayC_le (S : Row) : ∀ n, dayC S n ≤ 8 * n
  | 0 => Nat.le_refl 0
  | n + 1 => by
    have h1 := dayC_le S n
    have h2 := agesC_le (dayN S n) 8
    show _ + _ ≤ _
    omega
theorem late_on {S : Row} {w n : Nat} (hw : w < 6) (o : okRow S) (h : wk (dayN S n) w 1 < dayN S n 0) : ∀ m, n ≤ m → wk (dayN S m) w 1 < dayN S m 0 := by
  intro m hm
  obtain ⟨d, rfl⟩ : ∃ d, m = n + d := ⟨m - n, by omega⟩
  clear hm
  induction d with
  | zero => exact h
  | succ d ih =>
    have e1 : wk (dayN S (n + (d + 1))) w 1 = wk (dayN S (n + d)) w 1 := dayS_o (by omega)
    have e2 : dayN S (n + (d + 1)) 0 = capD (dayN S (n + d) 0 + 1) := dayS_0
    have o1 := okRow_dayN o (n + d)
    have b0 := o1.1
    have b1 := (o1.2.2.2.2.1 w hw).2.1
    rw [e1, e2]
    unfold inB at b0 b1
    unfold capD
    generalize wk (dayN S (n + d)) w 1 = p at *
    generalize dayN S (n + d) 0 = r at *
    grind
theorem plainB_b {s a : Int32} (hs : inB s 0 99) (ha : inB a 0 99) : inB (plainB s a) 0 99 := by unfold plainB; unfold inB at *; grind
theorem leapB_b {s a d : Int32} (hs : inB s 0 99) (ha : inB a 0 99) : inB (leapB s a d) 0 109 := by
  have h := plainB_b hs ha
  unfold leapB
  generalize plainB s a = p at *
  unfold inB at *
  split <;> grind
theorem two_b {a : Int32} (ha : inB a 0 99) : inB (if 30 < 2 * a then 30 else 2 * a) 0 30 := by
  have q := inB_tn (n := 99) (by decide) ha
  have key : ∀ n, n < 100 → 0 ≤ (if 30 < 2 * nI n then 30 else 2 * nI n) ∧ (if 30 < 2 * nI n then 30 else 2 * nI n) ≤ 30 := by decide +kernel
  rw [q.2]
  exact key _ q.1
theorem warmB_b {s a : Int32} (hs : inB s 0 99) (ha : inB a 0 99) : inB (warmB s a) 0 129 := by
  have h := plainB_b hs ha
  have h2 := two_b ha
  unfold warmB
  generalize (if 30 < 2 * a then 30 else 2 * a) = b at *
  generalize plainB s a = p at *
  unfold inB at *
  clear hs ha
  grind
theorem half_b {p : Int32} (h : inB p 0 99) : inB (p / 2) 0 99 := by
  unfold inB at *
  have e : p = nI (tn p) := nI_tn (Int32.not_lt.mpr h.1)
  have q := inB_tn (n := 99) (by decide) h
  have key : ∀ n, n < 100 → 0 ≤ nI n / 2 ∧ nI n / 2 ≤ 99 := by decide +kernel
  rw [e]
  exact key _ q.1
theorem minB_b {k s a d : Int32} (hs : inB s 0 99) (ha : inB a 0 99) : inB (minB k s a d) (-300) 300 := by
  have h1 := plainB_b hs ha
  have h2 := leapB_b (d := d) hs ha
  have h3 := warmB_b hs ha
  have h4 := half_b h1
  unfold minB
  generalize plainB s a / 2 = r at *
  generalize plainB s a = p at *
  generalize leapB s a d = l at *
  generalize warmB s a = w at *
  unfold inB at *
  clear hs ha
  grind
theorem minE_b {S : Row} {e : Nat} (he : e < 8) (o : okRow S) : inB (minE S e) (-300) 300 := by
  rcases o.2.2.1 e he with z | z
  · exact minB_b ⟨by have := z.2.2.1.1; grind, z.2.2.1.2⟩ z.2.2.2.1
  · unfold minE; rw [z.2.1, z.2.2.1, z.2.2.2.1]; exact minB_b ⟨by decide, by decide⟩ ⟨by decide, by decide⟩
def nA (x : Int32) (n : Nat) : Prop := -(n : Int) ≤ x.toInt ∧ x.toInt ≤ (n : Int)
theorem add_toInt {a b : Int32} {m n : Nat} (ha : nA a m) (hb : nA b n) (h : m + n < 2 ^ 31) : (a + b).toInt = a.toInt + b.toInt := by
  unfold nA at *
  rw [Int32.toInt_add]
  exact Int.bmod_eq_of_le (by omega) (by omega)
theorem nA_add {a b : Int32} {m n : Nat} (ha : nA a m) (hb : nA b n) (h : m + n < 2 ^ 31) : nA (a + b) (m + n) := by
  have e := add_toInt ha hb h
  unfold nA at *
  rw [e]
  omega
theorem nA_mono {a : Int32} {m n : Nat} (ha : nA a m) (h : m ≤ n) : nA a n := by unfold nA at *; omega
theorem nA_min {S : Row} {e : Nat} (he : e < 8) (o : okRow S) : nA (minE S e) 300 := by
  have := minE_b he o
  exact ⟨Int32.le_iff_toInt_le.mp this.1, Int32.le_iff_toInt_le.mp this.2⟩
theorem nA_0 : nA 0 0 := ⟨by decide, by decide⟩
theorem sumN_nA {S : Row} {s : Nat} (o : okRow S) : ∀ n, n ≤ 8 → nA (sumN S s n) (300 * n)
  | 0, _ => nA_0
  | n + 1, h => by
    show nA (_ + _) _
    refine nA_mono (nA_add (sumN_nA o n (by omega)) (n := 300) ?_ (by omega)) (by omega)
    split
    · exact nA_min (by omega) o
    · exact nA_mono nA_0 (by omega)
theorem sumN_b {S : Row} {s : Nat} (o : okRow S) : inB (sumN S s 8) (-2400) 2400 := by
  have h := sumN_nA (s := s) o 8 (Nat.le_refl 8)
  exact ⟨Int32.le_iff_toInt_le.mpr h.1, Int32.le_iff_toInt_le.mpr h.2⟩
theorem allM_b {S : Row} (o : okRow S) : inB (allM S 8) (-2400) 2400 := by
  rw [← sum_all S 8 (Nat.le_refl 8)]; exact sumN_b o
/-- enough, said in two ways -/
theorem lack_i {n g a : Int32} (hn : inB n 0 999) (hg : inB g (-9999) 9999) (ha : inB a (-2400) 2400) : n - g ≤ a ↔ n ≤ g + a := by
  unfold inB at *
  constructor <;> grind
theorem wk_need {S : Row} {w : Nat} (hw : w < 6) (o : okRow S) : inB (wk S w 0) 0 999 ∧ inB (wk S w 3) (-9999) 9999 := ⟨(o.2.2.2.2.1 w hw).1, (o.2.2.2.2.1 w hw).2.2.2⟩
/-! sets -/
theorem and_not_0 {s p : Nat} (hs : s < 256) : nI s &&& (nI p ^^^ (-1)) = 0 ↔ ∀ k, k < 8 → s.testBit k = true → p.testBit k = true := by
  have e : ∀ i, (nI s &&& (nI p ^^^ (-1))).toBitVec.getLsbD i = (decide (i < 32) && (s.testBit i && !p.testBit i)) := by
    intro i
    show ((BitVec.ofNat 32 s) &&& (BitVec.ofNat 32 p ^^^ BitVec.allOnes 32)).getLsbD i = _
    rw [BitVec.getLsbD_and, BitVec.getLsbD_xor, BitVec.getLsbD_allOnes, BitVec.getLsbD_ofNat, BitVec.getLsbD_ofNat]
    by_cases q : i < 32
    · simp only [q, decide_true, Bool.true_and, Bool.xor_true]
    · simp only [q, decide_false, Bool.false_and]
  constructor
  · intro h k hk hb
    have h2 := e k
    rw [h] at h2
    rw [hb] at h2
    have h3 : (0 : Int32).toBitVec.getLsbD k = false := by show (BitVec.ofNat 32 0).getLsbD k = false; simp
    rw [h3] at h2
    have h4 : decide (k < 32) = true := by simp; omega
    rw [h4] at h2
    cases hp : p.testBit k
    · rw [hp] at h2; cases h2
    · rfl
  · intro h
    apply Int32.toBitVec_inj.1
    apply BitVec.eq_of_getLsbD_eq
    intro i hi
    rw [e i]
    show _ = (BitVec.ofNat 32 0).getLsbD i
    simp
    intro _ hb
    rcases Nat.lt_or_ge i 8 with q | q
    · exact h i q hb
    · exfalso
      rw [Nat.testBit_lt_two_pow (Nat.lt_of_lt_of_le hs (Nat.pow_le_pow_right (by decide) q : 2 ^ 8 ≤ 2 ^ i))] at hb
      cases hb
theorem ofEg_i {S : Row} {s : Nat} (hs : s < 256) : nI s &&& (nI (eggN S 8) ^^^ (-1)) = 0 ↔ ofEg S s := by
  rw [and_not_0 hs]
  unfold ofEg
  constructor
  · intro h k hk hb
    have := h k hk hb
    rw [egg_bit S 8 k hk] at this
    exact of_decide_eq_true this
  · intro h k hk hb
    rw [egg_bit S 8 k hk]
    exact decide_eq_true (h k hk hb)
theorem sum_bit {S : Row} {t k : Nat} (ht : t < 2 ^ k) : ∀ n, sumN S (2 ^ k + t) n = sumN S t n + if k < n then minE S k else 0
  | 0 => by rw [if_neg (Nat.not_lt_zero k), Int32.add_zero]; rfl
  | n + 1 => by
    have e := tb_add ht true n
    simp only [if_true] at e
    rw [Nat.add_comm] at e
    show sumN S (2 ^ k + t) n + _ = sumN S t n + _ + _
    rw [sum_bit ht n, e]
    by_cases q : n = k
    · subst q
      rw [if_pos rfl, if_pos rfl, if_neg (Nat.lt_irrefl n), if_pos (Nat.lt_succ_self n), Nat.testBit_lt_two_pow ht, Int32.add_zero]
      simp
    · rw [if_neg q]
      by_cases c : k < n
      · rw [if_pos c, if_pos (show k < n + 1 by omega)]
        rw [Int32.add_assoc, Int32.add_assoc, Int32.add_comm (minE S k)]
      · rw [if_neg c, if_neg (show ¬ k < n + 1 by omega), Int32.add_zero, Int32.add_zero]
theorem sum_bit8 {S : Row} {t k : Nat} (ht : t < 2 ^ k) (hk : k < 8) : sumN S (2 ^ k + t) 8 = sumN S t 8 + minE S k := by rw [sum_bit ht 8, if_pos hk]
theorem sum_0 (S : Row) : ∀ n, sumN S 0 n = 0
  | 0 => rfl
  | n + 1 => by
    show sumN S 0 n + _ = 0
    rw [sum_0 S n]; simp
theorem ofEg_0 (S : Row) : ofEg S 0 := fun k _ h => by simp at h
theorem pow_8 {k : Nat} (hk : k < 8) : 2 ^ (k + 1) = 2 ^ k + 2 ^ k ∧ 2 ^ k ≤ 128 := ⟨by rw [Nat.pow_succ]; omega, Nat.pow_le_pow_right (n := 2) (by decide) (show k ≤ 7 by omega)⟩
theorem shl_1' {k : Nat} (hk : k < 8) : (1 : Int32) <<< (nI k &&& 31) = nI (2 ^ k) := shl_1 hk
