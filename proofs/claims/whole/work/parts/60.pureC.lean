/-! ===== the greatest mark of works dealt to a set of eggs ===== -/
def eliP (S : Row) (V : Nat) : Prop := ∀ w, V.testBit w = true → w < 6 ∧ ¬ dneP S w ∧ 0 < (wk S w 2).toInt
def mkI (S : Row) (V : Nat) : Nat → Int
  | 0 => 0
  | k + 1 => mkI S V k + if V.testBit k then 64 * (wk S k 2).toInt - 2 ^ k else 0
def isMk (S : Row) (k E : Nat) (R : Int) : Prop := (∃ V, V < 2 ^ k ∧ eliP S V ∧ feaP S V E ∧ mkI S V 6 = R) ∧ ∀ V, V < 2 ^ k → eliP S V → feaP S V E → mkI S V 6 ≤ R
theorem mkI_0 (S : Row) : ∀ k, mkI S 0 k = 0
  | 0 => rfl
  | k + 1 => by
    show mkI S 0 k + _ = 0
    rw [mkI_0 S k]; simp
theorem isMk_0 (S : Row) (E : Nat) : isMk S 0 E 0 := by
  refine ⟨⟨0, by decide, fun w h => absurd h (by simp), fea_0 S E, mkI_0 S 6⟩, fun V hV _ _ => ?_⟩
  rw [show V = 0 by have : (2 : Nat) ^ 0 = 1 := rfl; omega, mkI_0]
  exact Int.le_refl 0
theorem bit_lt {V k : Nat} (h : V < 2 ^ (k + 1)) (hb : V.testBit k = false) : V < 2 ^ k := by
  apply Nat.lt_pow_two_of_testBit
  intro i hi
  rcases Nat.lt_or_ge i (k + 1) with q | q
  · rw [show i = k by omega]; exact hb
  · exact Nat.testBit_lt_two_pow (Nat.lt_of_lt_of_le h (Nat.pow_le_pow_right (by decide) q))
/-- a work that can't be offered -/
theorem isMk_skip {S : Row} {k E : Nat} {R : Int} (hk : dneP S k ∨ (wk S k 2).toInt ≤ 0 ∨ wk S k 1 < S 0) (h : isMk S k E R) : isMk S (k + 1) E R := by
  obtain ⟨⟨V, h1, h2, h3, h4⟩, h5⟩ := h
  refine ⟨⟨V, Nat.lt_of_lt_of_le h1 (Nat.pow_le_pow_right (by decide) (Nat.le_succ k)), h2, h3, h4⟩, fun U hU he hf => h5 U (bit_lt hU ?_) he hf⟩
  cases q : U.testBit k
  · rfl
  · exfalso
    have hq := he k q
    rcases hk with z | z | z
    · exact hq.2.1 z
    · omega
    · obtain ⟨a, ha, -⟩ := hf
      exact (ha k q hq.2.1).1.1 z
theorem add_bit {V k : Nat} (h : V < 2 ^ k) (j : Nat) : (V + 2 ^ k).testBit j = if j = k then true else V.testBit j := by
  have := tb_add h true j
  simpa using this
theorem add_less {V k : Nat} (h : V < 2 ^ k) : lessV V (V + 2 ^ k) k := by
  intro x
  rw [add_bit h]
  by_cases q : x = k
  · subst q
    rw [Nat.testBit_lt_two_pow h]; simp
  · simp [q]
theorem mkI_add {S : Row} {V k : Nat} (h : V < 2 ^ k) : ∀ n, mkI S (V + 2 ^ k) n = mkI S V n + if k < n then 64 * (wk S k 2).toInt - 2 ^ k else 0
  | 0 => by rw [if_neg (Nat.not_lt_zero k)]; rfl
  | n + 1 => by
    show mkI S (V + 2 ^ k) n + _ = mkI S V n + _ + _
    rw [mkI_add h n, add_bit h]
    by_cases q : n = k
    · subst q
      rw [if_pos rfl, if_pos rfl, if_neg (Nat.lt_irrefl n), if_pos (Nat.lt_succ_self n), Nat.testBit_lt_two_pow h]
      simp
    · rw [if_neg q]
      by_cases c : k < n
      · rw [if_pos c, if_pos (show k < n + 1 by omega)]; omega
      · rw [if_neg c, if_neg (show ¬ k < n + 1 by omega)]; omega
/-- a work is offered: it takes a part, or stays undone -/
theorem isMk_offer {S : Row} {k E : Nat} {m : Nat → Int} {B : Int} (hk6 : k < 6) (hd : ¬ dneP S k) (hw : 0 < (wk S k 2).toInt) (hm : ∀ E', sbt E' E → isMk S k E' (m E'))
    (ha : B = m E ∨ ∃ p, sbt p E ∧ okpP S k p ∧ B = m (lft E p) + (64 * (wk S k 2).toInt - 2 ^ k))
    (hu : m E ≤ B ∧ ∀ p, sbt p E → okpP S k p → m (lft E p) + (64 * (wk S k 2).toInt - 2 ^ k) ≤ B) : isMk S (k + 1) E B := by
  have h2 : (2 : Nat) ^ (k + 1) = 2 ^ k + 2 ^ k := by rw [Nat.pow_succ]; omega
  constructor
  · rcases ha with ha | ⟨p, hp, ho, ha⟩
    · obtain ⟨V, v1, v2, v3, v4⟩ := (hm E (fun i h => h)).1
      exact ⟨V, by omega, v2, v3, by rw [v4, ha]⟩
    · obtain ⟨V, v1, v2, v3, v4⟩ := (hm (lft E p) (lft_sub E p)).1
      refine ⟨V + 2 ^ k, by omega, fun w hw2 => ?_, ?_, ?_⟩
      · rw [add_bit v1] at hw2
        by_cases q : w = k
        · subst q; exact ⟨hk6, hd, hw⟩
        · rw [if_neg q] at hw2; exact v2 w hw2
      · exact (fea_part (add_less v1) (by rw [add_bit v1, if_pos rfl]) hd).mpr ⟨p, hp, ho, fun E' hE => by rw [lessE_eq hE]; exact v3⟩
      · rw [mkI_add v1, v4, if_pos hk6, ha]
  · intro V hV he hf
    cases q : V.testBit k
    · exact Int.le_trans ((hm E (fun i h => h)).2 V (bit_lt hV q) he hf) hu.1
    · have hge : 2 ^ k ≤ V := Nat.ge_two_pow_of_testBit q
      obtain ⟨U, rfl⟩ : ∃ U, V = U + 2 ^ k := ⟨V - 2 ^ k, by omega⟩
      have hU : U < 2 ^ k := by omega
      obtain ⟨p, hp, ho, hf2⟩ := (fea_part (add_less hU) q hd).mp hf
      have h3 := (hm (lft E p) (lft_sub E p)).2 U hU (fun w hw2 => he w ((add_less hU w).mp hw2).1) (hf2 _ (lft_less E p))
      have h4 := hu.2 p hp ho
      rw [mkI_add hU, if_pos hk6]
      omega
