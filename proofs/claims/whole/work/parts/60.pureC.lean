/-! ===== the greatest mark of works dealt to a set of eggs ===== -/
def eliP (S : Row) (V : Nat) : Prop := ∀ w, V.testBit w = true → w < 6 ∧ ¬ dneP S w ∧ 0 < (wk S w 2).toInt
def mkI (S : Row) (V : Nat) : Nat → Int
  | 0 => 0
  | k + 1 => mkI S V k + if V.testBit k then 64 * (wk S k 2).toInt - 2 ^ k else 0
def isMk (S : Row) (k E : Nat) (R : Int) : Prop := (∃ V, V < 2 ^ k ∧ eliP S V ∧ feaP S V E ∧ mkI S V 6 = R) ∧ ∀ V, V < 2 ^ k → eliP S V → feaP S V E → mkI S V 6 ≤ R
theorem mkI_0 (S : Row) : ∀ k, mkI S 0 k = 0
  | 0 => rfl
  | k + 1 => by
    show mkI S 0 k + _ = 0
    rw [mkI_0 S k]; simp
theorem isMk_0 (S : Row) (E : Nat) : isMk S 0 E 0 := by
  refine ⟨⟨0, by decide, fun w h => absurd h (by simp), fea_0 S E, mkI_0 S 6⟩, fun V hV _ _ => ?_⟩
  rw [show V = 0 by have : (2 : Nat) ^ 0 = 1 := rfl; omega, mkI_0]
  exact Int.le_refl 0
theorem bit_lt {V k : Nat} (h : V < 2 ^ (k + 1)) (hb : V.testBit k = false) : V < 2 ^ k := by
  apply Nat.lt_pow_two_of_testBit
  intro i hi
  rcases Nat.lt_or_ge i (k + 1) with q | q
  · rw [show i = k by omega]; exact hb
  · exact Nat.testBit_lt_two_pow (Nat.lt_of_lt_of_le h (Nat.pow_le_pow_right (by decide) q))
/-- a work that can't be offered -/
theorem isMk_skip {S : Row} {k E : Nat} {R : Int} (hk : dneP S k ∨ (wk S k 2).toInt ≤ 0 ∨ wk S k 1 < S 0) (h : isMk S k E R) : isMk S (k + 1) E R := by
  obtain ⟨⟨V, h1, h2, h3, h4⟩, h5⟩ := h
  refine ⟨⟨V, Nat.lt_of_lt_of_le h1 (Nat.pow_le_pow_right (by decide) (Nat.le_succ k)), h2, h3, h4⟩, fun U hU he hf => h5 U (bit_lt hU ?_) he hf⟩
  cases q : U.testBit k
  · rfl
  · exfalso
    have hq := he k q
    rcases hk with z | z | z
    · exact hq.2.1 z
    · omega
    · obtain ⟨a, ha, -⟩ := hf
      exact (ha k q hq.2.1).1.1 z
