/-! ===== the best set by its mark ===== -/
noncomputable def flt (P : Nat → Prop) : Nat → Nat
  | 0 => 0
  | k + 1 => flt P k + ifp (P k) (2 ^ k) 0
theorem flt_lt (P : Nat → Prop) : ∀ k, flt P k < 2 ^ k
  | 0 => Nat.one_pos
  | k + 1 => by
    have := flt_lt P k
    unfold flt
    rw [Nat.pow_succ]
    by_cases q : P k
    · rw [ifp_t q]; omega
    · rw [ifp_f q]; omega
theorem flt_bit (P : Nat → Prop) : ∀ n j, (flt P n).testBit j = true ↔ j < n ∧ P j
  | 0, j => by
    unfold flt
    simp
  | n + 1, j => by
    unfold flt
    by_cases q : P n
    · rw [ifp_t q, add_bit (flt_lt P n)]
      by_cases r : j = n
      · subst r; simp [q]
      · rw [if_neg r, flt_bit P n j]
        exact ⟨fun z => ⟨by omega, z.2⟩, fun z => ⟨by omega, z.2⟩⟩
    · rw [ifp_f q, Nat.add_zero, flt_bit P n j]
      exact ⟨fun z => ⟨by omega, z.2⟩, fun z => ⟨by rcases Nat.lt_or_ge j n with y | y; exact y; exact absurd (by rw [show n = j by omega]; exact z.2) q, z.2⟩⟩
/-- a set's bits make it -/
def bitI (V : Nat) : Nat → Int
  | 0 => 0
  | k + 1 => bitI V k + if V.testBit k then 2 ^ k else 0
theorem bitI_V : ∀ V, V < 64 → bitI V 6 = (V : Int) := by decide +kernel
theorem mkI_w (S : Row) (V : Nat) : ∀ k, mkI S V k = 64 * worI S V k - bitI V k
  | 0 => rfl
  | k + 1 => by
    show mkI S V k + _ = 64 * (worI S V k + _) - (bitI V k + _)
    rw [mkI_w S V k]
    cases V.testBit k
    · simp
    · simp; omega
/-- marks of the works that are done -/
noncomputable def freI (S : Row) : Nat → Int
  | 0 => 0
  | k + 1 => freI S k + ifp (dneP S k ∧ 0 < (wk S k 2).toInt) (64 * (wk S k 2).toInt - 2 ^ k) 0
theorem mk_up {S : Row} {V U : Nat} (o : okRow S) (hU : ∀ w, w < 6 → (U.testBit w = true ↔ (V.testBit w = true ∧ ¬ dneP S w ∧ 0 < (wk S w 2).toInt))) : ∀ k, k ≤ 6 → mkI S V k ≤ freI S k + mkI S U k
  | 0, _ => Int.le_refl 0
  | k + 1, h => by
    have ih := mk_up o hU k (by omega)
    have hw := wk2_b (show k < 6 by omega) o
    have hp : (0 : Int) < 2 ^ k := Int.pow_pos (by decide)
    have hp2 : (2 : Int) ^ k ≤ 32 := by
      rcases (show k = 0 ∨ k = 1 ∨ k = 2 ∨ k = 3 ∨ k = 4 ∨ k = 5 by omega) with rfl | rfl | rfl | rfl | rfl | rfl <;> decide
    have hu := hU k (by omega)
    show mkI S V k + _ ≤ freI S k + _ + (mkI S U k + _)
    by_cases q : dneP S k ∧ 0 < (wk S k 2).toInt
    · rw [ifp_t q]
      have hn : ¬ U.testBit k = true := fun z => (hu.mp z).2.1 q.1
      rw [if_neg hn]
      split <;> omega
    · rw [ifp_f q]
      by_cases r : U.testBit k = true
      · rw [if_pos r, if_pos (hu.mp r).1]; omega
      · rw [if_neg r]
        by_cases v : V.testBit k = true
        · rw [if_pos v]
          have : (wk S k 2).toInt ≤ 0 := by
            by_cases d : dneP S k
            · exact Int.not_lt.mp (fun z => q ⟨d, z⟩)
            · exact Int.not_lt.mp (fun z => r (hu.mpr ⟨v, d, z⟩))
          omega
        · rw [if_neg v]; omega
theorem mk_at {S : Row} {V U : Nat} (hU : ∀ w, w < 6 → (V.testBit w = true ↔ (U.testBit w = true ∨ (dneP S w ∧ 0 < (wk S w 2).toInt)))) (hn : ∀ w, U.testBit w = true → ¬ dneP S w) : ∀ k, k ≤ 6 → mkI S V k = freI S k + mkI S U k
  | 0, _ => rfl
  | k + 1, h => by
    have ih := mk_at hU hn k (by omega)
    have hu := hU k (by omega)
    show mkI S V k + _ = freI S k + _ + (mkI S U k + _)
    by_cases q : dneP S k ∧ 0 < (wk S k 2).toInt
    · rw [ifp_t q, if_pos (hu.mpr (Or.inr q)), if_neg (fun z => hn k z q.1)]; omega
    · rw [ifp_f q]
      by_cases r : U.testBit k = true
      · rw [if_pos r, if_pos (hu.mpr (Or.inl r))]; omega
      · rw [if_neg r, if_neg (fun z => (hu.mp z).elim r q)]; omega
theorem fea_done2 {S : Row} {U V E : Nat} (hU : ∀ w, V.testBit w = true → U.testBit w = true ∨ dneP S w) (hf : feaP S U E) : feaP S V E := by
  obtain ⟨a, h1, h2⟩ := hf
  have key : ∀ w, V.testBit w = true → ¬ dneP S w → U.testBit w = true := fun w hw hn => (hU w hw).resolve_right hn
  exact ⟨a, fun w hw hn => h1 w (key w hw hn) hn, fun w u hw hu hn hm => h2 w u (key w hw hn) (key u hu hm) hn hm⟩
/-- the mark of the best set -/
theorem best_mark {S : Row} {R : Int} (o : okRow S) (h : isMk S 6 (eggN S 8) R) : freI S 6 + R = 64 * worI S (bsN S 63) 6 - (bsN S 63 : Int) := by
  obtain ⟨hb1, hb2⟩ := bs_best o 63 (by decide)
  have hbl := bsN_le S 63
  obtain ⟨⟨U, u1, u2, u3, u4⟩, h5⟩ := h
  apply Int.le_antisymm
  · let P : Nat → Prop := fun w => U.testBit w = true ∨ (dneP S w ∧ 0 < (wk S w 2).toInt)
    have hbit := flt_bit P 6
    have hlt := flt_lt P 6
    have hV : ∀ w, w < 6 → ((flt P 6).testBit w = true ↔ (U.testBit w = true ∨ (dneP S w ∧ 0 < (wk S w 2).toInt))) := fun w hw => (hbit w).trans ⟨fun z => z.2, fun z => ⟨hw, z⟩⟩
    have hf : feaP S (flt P 6) (eggN S 8) := fea_done2 (fun w hw => ((hbit w).mp hw).2.imp id And.left) u3
    have e := mk_at (S := S) hV (fun w hw => (u2 w hw).2.1) 6 (Nat.le_refl 6)
    rw [mkI_w, bitI_V _ hlt, u4] at e
    rw [← e]
    have h64 : flt P 6 < 64 := hlt
    rcases hb2 (flt P 6) (by omega) hf with z | z <;> omega
  · let P : Nat → Prop := fun w => (bsN S 63).testBit w = true ∧ ¬ dneP S w ∧ 0 < (wk S w 2).toInt
    have hbit := flt_bit P 6
    have hlt := flt_lt P 6
    have e := mk_up (S := S) (V := bsN S 63) (U := flt P 6) o (fun w hw => (hbit w).trans ⟨fun z => z.2, fun z => ⟨hw, z⟩⟩) 6 (Nat.le_refl 6)
    have h6 := h5 (flt P 6) hlt (fun w hw => ⟨((hbit w).mp hw).1, ((hbit w).mp hw).2.2⟩) (fea_sub (fun w hw => ((hbit w).mp hw).2.1) hb1)
    rw [mkI_w S (bsN S 63), bitI_V _ (by omega)] at e
    omega
