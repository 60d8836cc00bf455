/-! tables of the class -/
def rowsN (j : Nat) : Nat := if j = 0 then 8 else if j = 1 then 4 else 6
theorem rowsT_n {j : Nat} (hj : j < 3) : rowsT j = nI (rowsN j) := by rcases (show j = 0 ∨ j = 1 ∨ j = 2 by omega) with rfl | rfl | rfl <;> rfl
theorem rowsN_le {j : Nat} : rowsN j ≤ 8 := by unfold rowsN; split <;> (try split) <;> omega
theorem tabL4 {j : Nat} (hj : j < 3) : tabL (2 * j) = 4 := by rcases (show j = 0 ∨ j = 1 ∨ j = 2 by omega) with rfl | rfl | rfl <;> rfl
theorem tabL4' {j : Nat} (hj : j < 3) : tabL (2 * j + 1) = 4 := by rcases (show j = 0 ∨ j = 1 ∨ j = 2 by omega) with rfl | rfl | rfl <;> rfl
def inT (j : Nat) (row col : Int32) : Prop := (¬ row < 0 ∧ row < rowsT j) ∧ ¬ col < 0 ∧ col < 4
theorem inT_n {j a b : Nat} (hj : j < 3) (ha : a < rowsN j) (hb : b < 4) : inT j (nI a) (nI b) := by
  have h8 := @rowsN_le j
  refine ⟨⟨nI_pos (by omega), ?_⟩, nI_pos (by omega), nI_lt hb (by decide)⟩
  rw [rowsT_n hj]
  exact nI_lt ha (by omega)
theorem inT_lt {j : Nat} {row col : Int32} (hj : j < 3) (h : inT j row col) : row.toNatClampNeg < rowsN j ∧ col.toNatClampNeg < 4 := by
  have h8 := @rowsN_le j
  obtain ⟨⟨h1, h2⟩, h3, h4⟩ := h
  rw [rowsT_n hj] at h2
  exact ⟨tn_lt h1 h2 (by omega), tn_lt h3 h4 (by decide)⟩
noncomputable def tabAt (M : Mem) (h j : Nat) (row col : Int32) : Int32 := @ite _ (inT j row col) (Classical.propDecidable _) (M (h + (j + 4)) (4 * row.toNatClampNeg + col.toNatClampNeg)) 0
noncomputable def tabPut (M : Mem) (h j : Nat) (row col v : Int32) : Mem := @ite _ (inT j row col) (Classical.propDecidable _) (up M (h + (j + 4)) (4 * row.toNatClampNeg + col.toNatClampNeg) v) M
theorem tabAt_n {M : Mem} {h j a b : Nat} (hj : j < 3) (ha : a < rowsN j) (hb : b < 4) : tabAt M h j (nI a) (nI b) = M (h + (j + 4)) (4 * a + b) := by
  have h8 := @rowsN_le j
  unfold tabAt
  rw [if_pos (inT_n hj ha hb), nI_clamp (by omega), nI_clamp (by omega)]
theorem tabPut_n {M : Mem} {h j a b : Nat} {v : Int32} (hj : j < 3) (ha : a < rowsN j) (hb : b < 4) : tabPut M h j (nI a) (nI b) v = up M (h + (j + 4)) (4 * a + b) v := by
  have h8 := @rowsN_le j
  unfold tabPut
  rw [if_pos (inT_n hj ha hb), nI_clamp (by omega), nI_clamp (by omega)]
theorem tabAt_e {M : Mem} {h j a b : Nat} {row col : Int32} (hr : row = nI a) (hc : col = nI b) (hj : j < 3) (ha : a < rowsN j) (hb : b < 4) : tabAt M h j row col = M (h + (j + 4)) (4 * a + b) := by
  subst hr; subst hc; exact tabAt_n hj ha hb
theorem tabPut_e {M : Mem} {h j a b : Nat} {row col v : Int32} (hr : row = nI a) (hc : col = nI b) (hj : j < 3) (ha : a < rowsN j) (hb : b < 4) : tabPut M h j row col v = up M (h + (j + 4)) (4 * a + b) v := by
  subst hr; subst hc; exact tabPut_n hj ha hb
theorem ix_rc {row col : Int32} (h1 : ¬ row < 0) (h2 : ¬ col < 0) : row * 4 + col = nI (4 * row.toNatClampNeg + col.toNatClampNeg) := by
  conv => lhs; rw [nI_tn h1, nI_tn h2]
  rw [show (4 : Int32) = nI 4 from rfl, pk_mul, nI_add, Nat.mul_comm]
/-! eggs at places -/
def eggP (S : Row) (x : Int32) : Prop := (¬ x < 0 ∧ x < 8) ∧ thr S x.toNatClampNeg
theorem eggP_n {S : Row} {e : Nat} (he : e < 8) : eggP S (nI e) ↔ thr S e := by
  unfold eggP
  rw [nI_clamp (by omega)]
  exact ⟨fun h => h.2, fun h => ⟨⟨nI_pos (by omega), nI_lt he (by decide)⟩, h⟩⟩
theorem eggP_i {S : Row} {x : Int32} (h : eggP S x) : ∃ e, e < 8 ∧ x = nI e ∧ thr S e := by
  obtain ⟨⟨h1, h2⟩, h3⟩ := h
  exact ⟨_, tn_lt h1 (n := 8) h2 (by decide), nI_tn h1, h3⟩
/-- the least empty place, else n -/
def frN (S : Row) : Nat → Nat
  | 0 => 0
  | n + 1 => if frN S n < n then frN S n else if thr S n then n + 1 else n
theorem frN_spec (S : Row) : ∀ n, (∀ e, e < frN S n → thr S e) ∧ frN S n ≤ n ∧ (frN S n < n → ¬ thr S (frN S n))
  | 0 => ⟨fun e he => absurd he (Nat.not_lt_zero e), Nat.le_refl 0, fun h => absurd h (Nat.lt_irrefl 0)⟩
  | n + 1 => by
    obtain ⟨h1, h2, h3⟩ := frN_spec S n
    unfold frN
    by_cases a : frN S n < n
    · rw [if_pos a]; exact ⟨h1, by omega, fun _ => h3 a⟩
    · rw [if_neg a]
      have e : frN S n = n := by omega
      rw [e] at h1
      by_cases b : thr S n
      · rw [if_pos b]
        refine ⟨fun k hk => ?_, Nat.le_refl _, fun q => absurd q (Nat.lt_irrefl _)⟩
        rcases Nat.lt_or_ge k n with q | q
        · exact h1 k q
        · rw [show k = n by omega]; exact b
      · rw [if_neg b]; exact ⟨h1, Nat.le_succ n, fun _ => b⟩
theorem frN_hit {S : Row} {n i : Nat} (h1 : ∀ e, e < i → thr S e) (h2 : ¬ thr S i) (hi : i < n) : frN S n = i := by
  obtain ⟨a, b, c⟩ := frN_spec S n
  rcases Nat.lt_trichotomy (frN S n) i with q | q | q
  · exact absurd (h1 _ q) (c (by omega))
  · exact q
  · exact absurd (a i q) h2
theorem frN_all {S : Row} {n : Nat} (h : ∀ e, e < n → thr S e) : frN S n = n := by
  obtain ⟨a, b, c⟩ := frN_spec S n
  rcases Nat.lt_or_ge (frN S n) n with q | q
  · exact absurd (h _ q) (c q)
  · omega
def frI (S : Row) : Int32 := if frN S 8 < 8 then nI (frN S 8) else -1
/-- places of eggs, as a set -/
def eggN (S : Row) : Nat → Nat
  | 0 => 0
  | k + 1 => eggN S k + if thr S k then 2 ^ k else 0
theorem eggN_lt (S : Row) : ∀ k, eggN S k < 2 ^ k
  | 0 => Nat.one_pos
  | k + 1 => by
    have := eggN_lt S k
    unfold eggN
    rw [Nat.pow_succ]
    split <;> omega
theorem fa_and (a b : Nat) : nI a &&& nI b = nI (a &&& b) := by
  apply Int32.toBitVec_inj.1
  show BitVec.ofNat 32 a &&& BitVec.ofNat 32 b = BitVec.ofNat 32 (a &&& b)
  apply BitVec.eq_of_getLsbD_eq
  intro i hi
  simp [hi]
theorem fa_or (a b : Nat) : nI a ||| nI b = nI (a ||| b) := by
  apply Int32.toBitVec_inj.1
  show BitVec.ofNat 32 a ||| BitVec.ofNat 32 b = BitVec.ofNat 32 (a ||| b)
  apply BitVec.eq_of_getLsbD_eq
  intro i hi
  simp [hi]
theorem fa_xor (a b : Nat) : nI a ^^^ nI b = nI (a ^^^ b) := by
  apply Int32.toBitVec_inj.1
  show BitVec.ofNat 32 a ^^^ BitVec.ofNat 32 b = BitVec.ofNat 32 (a ^^^ b)
  apply BitVec.eq_of_getLsbD_eq
  intro i hi
  simp [hi]
theorem shl_1 {k : Nat} (hk : k < 8) : (1 : Int32) <<< (nI k &&& 31) = nI (2 ^ k) := by
  rcases (show k = 0 ∨ k = 1 ∨ k = 2 ∨ k = 3 ∨ k = 4 ∨ k = 5 ∨ k = 6 ∨ k = 7 by omega) with rfl | rfl | rfl | rfl | rfl | rfl | rfl | rfl <;> decide
theorem or_bit {a k : Nat} (h : a < 2 ^ k) (hk : k < 8) : nI a ||| ((1 : Int32) <<< (nI k &&& 31)) = nI (a + 2 ^ k) := by
  have := Nat.two_pow_add_eq_or_of_lt h 1
  rw [Nat.mul_one] at this
  rw [shl_1 hk, fa_or, Nat.or_comm, ← this, Nat.add_comm]
theorem or_0 (x : Int32) : x ||| 0 = x := Int32.or_zero
