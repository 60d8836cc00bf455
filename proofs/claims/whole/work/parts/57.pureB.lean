/-! ===== subsets one after another ===== -/
def subK : Bool := (List.range 256).all fun e => (List.range (e + 1)).all fun p => (p &&& e != p) || (List.range p).all fun q => (q &&& e != q) || Nat.ble q ((p - 1) &&& e)
theorem subK_t : subK = true := by decide +kernel
theorem sbt_and {a b : Nat} : sbt a b ↔ a &&& b = a := by
  constructor
  · intro h
    apply Nat.eq_of_testBit_eq
    intro i
    rw [Nat.testBit_and]
    cases q : a.testBit i
    · rfl
    · rw [h i q]; rfl
  · intro h i hi
    rw [← h, Nat.testBit_and] at hi
    cases q : b.testBit i
    · rw [q, Bool.and_false] at hi; cases hi
    · rfl
theorem sbt_le {a b : Nat} (h : sbt a b) : a ≤ b := by rw [← sbt_and.mp h]; exact Nat.and_le_right
theorem sub_next {e p q : Nat} (he : e < 256) (hp : sbt p e) (hq : sbt q e) (h : q < p) : q ≤ (p - 1) &&& e := by
  have k := subK_t
  unfold subK at k
  rw [List.all_eq_true] at k
  have k1 := k e (List.mem_range.mpr he)
  rw [List.all_eq_true] at k1
  have k2 := k1 p (List.mem_range.mpr (by have := sbt_le hp; omega))
  rw [Bool.or_eq_true] at k2
  rcases k2 with z | z
  · exact absurd (sbt_and.mp hp) (by simpa using z)
  · rw [List.all_eq_true] at z
    have k3 := z q (List.mem_range.mpr h)
    rw [Bool.or_eq_true] at k3
    rcases k3 with y | y
    · exact absurd (sbt_and.mp hq) (by simpa using y)
    · exact Nat.le_of_ble_eq_true y
theorem sub_prev {e p : Nat} : sbt ((p - 1) &&& e) e := fun i hi => by
  rw [Nat.testBit_and, Bool.and_eq_true] at hi
  exact hi.2
theorem prev_lt {e p : Nat} (hp : 0 < p) : (p - 1) &&& e < p := Nat.lt_of_le_of_lt Nat.and_le_left (by omega)
theorem nI_pr {p : Nat} (h : 0 < p) : nI p - 1 = nI (p - 1) := by obtain ⟨u, rfl⟩ : ∃ u, p = u + 1 := ⟨p - 1, by omega⟩; exact nI_pred u
/-- what is left -/
def lft (e p : Nat) : Nat := e ^^^ (e &&& p)
theorem lft_bit (e p x : Nat) : (lft e p).testBit x = (e.testBit x && !p.testBit x) := by
  unfold lft
  rw [Nat.testBit_xor, Nat.testBit_and]
  cases e.testBit x <;> cases p.testBit x <;> rfl
theorem lft_less (e p : Nat) : lessE (lft e p) e p := fun x => by rw [lft_bit]; cases e.testBit x <;> cases p.testBit x <;> simp
theorem lft_sub (e p : Nat) : sbt (lft e p) e := fun x h => ((lft_less e p x).mp h).1
theorem lessE_eq {e p a : Nat} (h : lessE a e p) : a = lft e p := by
  apply Nat.eq_of_testBit_eq
  intro i
  have h1 := h i
  have h2 := lft_less e p i
  cases q : a.testBit i <;> cases r : (lft e p).testBit i
  · rfl
  · exact absurd (h1.mpr (h2.mp r)) (by rw [q]; decide)
  · exact absurd (h2.mpr (h1.mp q)) (by rw [r]; decide)
  · rfl
theorem and_lft {e p : Nat} (he : e < 2 ^ 31) : nI e &&& (nI p ^^^ (-1)) = nI (lft e p) := by
  apply Int32.toBitVec_inj.1
  apply BitVec.eq_of_getLsbD_eq
  intro i hi
  show ((BitVec.ofNat 32 e) &&& (BitVec.ofNat 32 p ^^^ BitVec.allOnes 32)).getLsbD i = (BitVec.ofNat 32 (lft e p)).getLsbD i
  rw [BitVec.getLsbD_and, BitVec.getLsbD_xor, BitVec.getLsbD_allOnes, BitVec.getLsbD_ofNat, BitVec.getLsbD_ofNat, BitVec.getLsbD_ofNat, lft_bit]
  simp only [hi, decide_true, Bool.true_and, Bool.xor_true]
theorem xor_lft {e p : Nat} (h : sbt p e) : e ^^^ p = lft e p := by unfold lft; rw [Nat.and_comm, sbt_and.mp h]
theorem lft_lt {e p : Nat} (h : sbt p e) (hp : 0 < p) : lft e p < e := by
  have h1 : lft e p ≤ e := sbt_le (lft_sub e p)
  rcases Nat.lt_or_ge (lft e p) e with q | q
  · exact q
  · exfalso
    have e1 : lft e p = e := by omega
    have hz : p = 0 := by
      apply Nat.eq_of_testBit_eq
      intro i
      rw [Nat.zero_testBit]
      cases r : p.testBit i
      · rfl
      · have := lft_bit e p i
        rw [e1, h i r, r] at this
        cases this
    omega
theorem ofEg_s {S : Row} {E : Nat} (hE : E < 256) : ofEg S E ↔ sbt E (eggN S 8) := by
  constructor
  · intro h i hi
    rcases Nat.lt_or_ge i 8 with q | q
    · rw [egg_bit S 8 i q]; exact decide_eq_true (h i q hi)
    · exfalso
      rw [Nat.testBit_lt_two_pow (Nat.lt_of_lt_of_le hE (Nat.pow_le_pow_right (by decide) q : 2 ^ 8 ≤ 2 ^ i))] at hi
      cases hi
  · intro h k hk hb
    have := h k hb
    rw [egg_bit S 8 k hk] at this
    exact of_decide_eq_true this
/-! the least work of a set -/
theorem low_k : ∀ s, s < 64 → ∀ w, w < 6 → s.testBit w = true → (∀ j, j < w → s.testBit j = false) → ∀ x, x < 6 → (s &&& (s - 1)).testBit x = (s.testBit x && !decide (x = w)) := by decide +kernel
theorem bit_hi {s k : Nat} (h : s < 64) (hk : 6 ≤ k) : s.testBit k = false := Nat.testBit_lt_two_pow (Nat.lt_of_lt_of_le h (Nat.pow_le_pow_right (by decide) hk : 2 ^ 6 ≤ 2 ^ k))
theorem low_rest {s w : Nat} (hs : s < 64) (hw : w < 6) (h1 : s.testBit w = true) (h2 : ∀ j, j < w → s.testBit j = false) : lessV (s &&& (s - 1)) s w := by
  intro x
  rcases Nat.lt_or_ge x 6 with q | q
  · rw [low_k s hs w hw h1 h2 x q]
    by_cases r : x = w <;> simp [r]
  · rw [bit_hi (Nat.lt_of_le_of_lt Nat.and_le_left hs) q, bit_hi hs q]
    simp
theorem bits_0 {s : Nat} (hs : s < 64) (h : ∀ j, j < 6 → s.testBit j = false) : s = 0 := by
  apply Nat.eq_of_testBit_eq
  intro i
  rw [Nat.zero_testBit]
  rcases Nat.lt_or_ge i 6 with q | q
  · exact h i q
  · exact bit_hi hs q
theorem okp_0 {S : Row} {w : Nat} (hd : ¬ dneP S w) : ¬ okpP S w 0 := by
  intro h
  have := h.2
  rw [sum_0, Int32.add_zero] at this
  exact hd this
