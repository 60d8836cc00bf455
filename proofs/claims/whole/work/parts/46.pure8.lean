/-! ===== the sheets, the tape: how a write shows ===== -/
theorem shC_of {M : Mem} {W N : Row} {X : Nat → Row} (h1 : ∀ s, s < 4 → M (29 + 2 * s) 1 = W s) (h2 : ∀ s, s < 4 → M (29 + 2 * s) 2 = N s) (h3 : ∀ s i, s < 4 → i < 40 → M (29 + 2 * s + 1) i = X s i)
    (z : ∀ s, ¬ s < 4 → W s = 0 ∧ N s = 0) (zx : ∀ s i, ¬ s < 4 ∨ ¬ i < 40 → X s i = 0) : shC M = (W, N, X) := by
  unfold shC
  refine Prod.ext ?_ (Prod.ext ?_ ?_)
  · funext s; show cut 4 (fun s => M (29 + 2 * s) 1) s = W s; unfold cut
    by_cases q : s < 4
    · rw [if_pos q]; exact h1 s q
    · rw [if_neg q]; exact (z s q).1.symm
  · funext s; show cut 4 (fun s => M (29 + 2 * s) 2) s = N s; unfold cut
    by_cases q : s < 4
    · rw [if_pos q]; exact h2 s q
    · rw [if_neg q]; exact (z s q).2.symm
  · funext s i
    show (if s < 4 then cut 40 (M (29 + 2 * s + 1)) else fun _ => 0) i = X s i
    by_cases q : s < 4
    · rw [if_pos q]; unfold cut
      by_cases r : i < 40
      · rw [if_pos r]; exact h3 s i q r
      · rw [if_neg r]; exact (zx s i (Or.inr r)).symm
    · rw [if_neg q]; exact (zx s i (Or.inl q)).symm
theorem aW_z {M : Mem} {s : Nat} (h : ¬ s < 4) : aW (aC M) s = 0 := if_neg h
theorem aN_z {M : Mem} {s : Nat} (h : ¬ s < 4) : aN (aC M) s = 0 := if_neg h
theorem aX_z {M : Mem} {s i : Nat} (h : ¬ s < 4 ∨ ¬ i < 40) : aX (aC M) s i = 0 := by
  show (if s < 4 then cut 40 (M (29 + 2 * s + 1)) else fun _ => 0) i = 0
  by_cases q : s < 4
  · rw [if_pos q]; exact if_neg (h.resolve_left (fun z => z q))
  · rw [if_neg q]
/-- only sheets were touched -/
def SHE : List Nat := [29, 30, 31, 32, 33, 34, 35, 36]
theorem aC_W {M M' : Mem} (hs : same SHE M M') : aC M' = wW (aC M) (shC M') := by
  have hh : ∀ k, k < 29 ∨ 37 ≤ k → M' k = M k := fun k hk => hs k (by simp [SHE]; omega)
  unfold aC wW
  rw [vw_eqK (h := 1) (hh _ (by decide)) (hh _ (by decide)) (hh _ (by decide)) (hh _ (by decide)) (hh _ (by decide)), vw_eqK (h := 9) (hh _ (by decide)) (hh _ (by decide)) (hh _ (by decide)) (hh _ (by decide)) (hh _ (by decide)), hh 0 (by decide), hh 39 (by decide), hh 38 (by decide), hh 37 (by decide)]
theorem she_in {s : Nat} (h : s < 4) : (29 + 2 * s) ∈ SHE ∧ (29 + 2 * s + 1) ∈ SHE := by
  rcases (show s = 0 ∨ s = 1 ∨ s = 2 ∨ s = 3 by omega) with rfl | rfl | rfl | rfl <;> simp [SHE]
/-- a change of the sheets -/
theorem sh_C {M M1 : Mem} {r : Int32} {W : Row × Row × (Nat → Row)} {P : Int32 × Abs} (h : P = (r, wW (aC M) W)) (hv : shC M1 = W) (hs : same SHE M M1) : (r, aC M1) = P ∧ sameC M M1 := ⟨by rw [h, aC_W hs, hv], hs.C (by decide)⟩
theorem aC_T {M M' : Mem} {b : Row} {n : Int32} (hb : cut 120 (M' 38) = b) (hn : M' 37 1 = n) (hs : same [37, 38] M M') : aC M' = wT (aC M) (b, n) := by
  have hh : ∀ k, k < 37 ∨ 39 ≤ k → M' k = M k := fun k hk => hs k (by simp; omega)
  unfold aC wT
  rw [vw_eqK (h := 1) (hh _ (by decide)) (hh _ (by decide)) (hh _ (by decide)) (hh _ (by decide)) (hh _ (by decide)), vw_eqK (h := 9) (hh _ (by decide)) (hh _ (by decide)) (hh _ (by decide)) (hh _ (by decide)) (hh _ (by decide)), hh 0 (by decide), hh 39 (by decide), hb, hn, shC_eq (fun k h1 h2 => hh k (by omega))]
theorem ta_C {M M1 : Mem} {r : Int32} {T : Row × Int32} {P : Int32 × Abs} (h : P = (r, wT (aC M) T)) (hb : cut 120 (M1 38) = T.1) (hn : M1 37 1 = T.2) (hs : same [37, 38] M M1) : (r, aC M1) = P ∧ sameC M M1 := ⟨by rw [h, aC_T hb hn hs], hs.C (by decide)⟩
theorem okSh_C {M : Mem} (oa : okA (aC M)) {s : Nat} (hs : s < 4) : inB (M (29 + 2 * s) 2) 0 40 ∧ ∀ i, i < 40 → bitsV (M (29 + 2 * s) 1) (M (29 + 2 * s + 1) i) = M (29 + 2 * s + 1) i := by
  have h := oa.2.2.2 s hs
  refine ⟨?_, fun i hi => ?_⟩
  · have := h.2.1; rwa [show (aC M).2.2.2.2.2.1 s = M (29 + 2 * s) 2 from aN_C hs] at this
  · have := h.2.2 i hi
    rwa [show (aC M).2.2.2.2.1 s = M (29 + 2 * s) 1 from aW_C hs, show (aC M).2.2.2.2.2.2 s i = M (29 + 2 * s + 1) i from aX_C hs hi] at this
theorem okL_C {M : Mem} (oa : okA (aC M)) : inB (M 37 1) 0 120 := oa.2.2.1.1
theorem wrgS_lt {A : Abs} {x : Int32} (h : wrgS A x < 0) : inB x 0 3 ∧ ¬ aW A (tn x) = 0 := by
  unfold wrgS at h
  by_cases q : inB x 0 3
  · rw [ifp_t q] at h
    by_cases r : aW A (tn x) = 0
    · rw [if_pos r] at h; exact absurd h (by decide)
    · exact ⟨q, r⟩
  · rw [ifp_f q] at h; exact absurd h (by decide)
theorem wrgS_ge {A : Abs} {x : Int32} (h : ¬ wrgS A x < 0) : wrgS A x = nI (tn (wrgS A x)) ∧ tn (wrgS A x) < 7 := by
  have key : wrgS A x = 0 ∨ wrgS A x = 5 := by
    unfold wrgS at h ⊢
    by_cases q : inB x 0 3
    · rw [ifp_t q] at h ⊢
      by_cases r : aW A (tn x) = 0
      · rw [if_pos r]; exact Or.inr rfl
      · rw [if_neg r] at h; exact absurd (by decide) h
    · rw [ifp_f q]; exact Or.inl rfl
  rcases key with e | e <;> rw [e] <;> decide
theorem wrgT_lt {A : Abs} {x e : Int32} (h : wrgT A x e < 0) : inB x 0 3 ∧ ¬ aW A (tn x) = 0 ∧ eggP A.1 e := by
  unfold wrgT at h
  by_cases q : wrgS A x < 0
  · rw [ifp_t q] at h
    by_cases r : eggP A.1 e
    · exact ⟨(wrgS_lt q).1, (wrgS_lt q).2, r⟩
    · rw [ifp_f r] at h; exact absurd h (by decide)
  · rw [ifp_f q] at h; exact absurd h q
theorem wrgT_ge {A : Abs} {x e : Int32} (h : ¬ wrgT A x e < 0) : wrgT A x e = nI (tn (wrgT A x e)) ∧ tn (wrgT A x e) < 7 := by
  unfold wrgT at h ⊢
  by_cases q : wrgS A x < 0
  · rw [ifp_t q] at h ⊢
    by_cases r : eggP A.1 e
    · rw [ifp_t r] at h; exact absurd (by decide) h
    · rw [ifp_f r]; decide
  · rw [ifp_f q]; exact wrgS_ge q
theorem okRow_foxs {S : Row} (o : okRow S) : ∀ n, okRow (foxsS S n)
  | 0 => o
  | n + 1 => okRow_day (okRow_fox (okRow_foxs o n))
theorem foxsC_le (S : Row) : ∀ n, foxsC S n ≤ 8 * n
  | 0 => Nat.le_refl 0
  | n + 1 => by
    have h1 := foxsC_le S n
    have h2 : foxC (foxsS S n) ≤ 8 := foxN_le _ _ 8
    show _ + _ ≤ _
    omega
/-! kinds under kinds -/
def uppN (k : Int32) : Nat → Int32
  | 0 => k
  | i + 1 => tabV 6 (tn (uppN k i))
theorem uppN_r : ∀ a, a < 7 → ∀ i, i < 8 → (uppN (nI a) i < 0 ∨ uppN (nI a) i < 7) := by decide +kernel
def undb (a b : Int32) : Bool := decide (a = b) || (decide (b = 0) || ((decide (a = 3) && decide (b = 2)) || ((decide (a = 4) && (decide (b = 3) || decide (b = 2))) || (decide (a = 6) && decide (b = 1)))))
theorem undb_i (a b : Int32) : undb a b = true ↔ undB a b := by
  unfold undb undB
  simp only [Bool.or_eq_true, Bool.and_eq_true, decide_eq_true_eq]
theorem und_key : ∀ a, a < 7 → ∀ b, b < 7 → undb (nI a) (nI b) = (List.range 7).any (fun i => decide (uppN (nI a) i = nI b) && (List.range i).all (fun j => decide (0 ≤ uppN (nI a) j))) := by decide +kernel
theorem und_i {a b : Nat} (ha : a < 7) (hb : b < 7) : undB (nI a) (nI b) ↔ ∃ i, i < 7 ∧ uppN (nI a) i = nI b ∧ ∀ j, j < i → 0 ≤ uppN (nI a) j := by
  rw [← undb_i, und_key a ha b hb, List.any_eq_true]
  constructor
  · rintro ⟨i, hi, h⟩
    rw [Bool.and_eq_true, decide_eq_true_eq, List.all_eq_true] at h
    exact ⟨i, List.mem_range.mp hi, h.1, fun j hj => by simpa using h.2 j (List.mem_range.mpr hj)⟩
  · rintro ⟨i, hi, h1, h2⟩
    refine ⟨i, List.mem_range.mpr hi, ?_⟩
    rw [Bool.and_eq_true, decide_eq_true_eq, List.all_eq_true]
    exact ⟨h1, fun j hj => by simpa using h2 j (List.mem_range.mp hj)⟩
theorem und_no {a b i : Nat} (ha : a < 7) (hb : b < 7) (h : ∀ j, j < i → ¬ uppN (nI a) j < 0 ∧ ¬ uppN (nI a) j = nI b) (he : i = 7 ∨ uppN (nI a) i < 0) : ¬ undB (nI a) (nI b) := by
  rw [und_i ha hb]
  rintro ⟨t, ht, h1, h2⟩
  rcases Nat.lt_trichotomy t i with q | q | q
  · exact (h t q).2 h1
  · subst q
    rcases he with he | he
    · omega
    · rw [h1] at he; exact nI_pos (by omega) he
  · rcases he with he | he
    · omega
    · exact Int32.not_lt.mpr (h2 i q) he
theorem und_yes {a b i : Nat} (ha : a < 7) (hb : b < 7) (hi : i < 7) (h : ∀ j, j < i → ¬ uppN (nI a) j < 0) (h2 : uppN (nI a) i = nI b) : undB (nI a) (nI b) := (und_i ha hb).mpr ⟨i, hi, h2, fun j hj => Int32.not_lt.mp (h j hj)⟩
/-! bytes of a number -/
theorem ush_l : ∀ k, k < 4 → ((nI (8 * k)).toUInt32 &&& Int32.toUInt32 31).toBitVec.toNat % 32 = 8 * k ∧ ((nI (8 * k) &&& 31).toBitVec.smod 32).toNat = 8 * k := by decide +kernel
theorem byte_u {b : Int32} {k : Nat} (hk : k < 4) : ((b.toUInt32 >>> ((nI (8 * k)).toUInt32 &&& Int32.toUInt32 31)).toInt32) &&& 255 = tapB b k := by
  obtain ⟨h1, h2⟩ := ush_l k hk
  unfold tapB
  apply Int32.toBitVec_inj.1
  apply BitVec.eq_of_getLsbD_eq
  intro i hi
  show ((b.toBitVec >>> (((nI (8 * k)).toUInt32 &&& Int32.toUInt32 31).toBitVec % 32#32)) &&& 255#32).getLsbD i = ((b.toBitVec.sshiftRight ((nI (8 * k) &&& 31).toBitVec.smod 32).toNat) &&& 255#32).getLsbD i
  rw [h2, BitVec.getLsbD_and, BitVec.getLsbD_and]
  have e : (b.toBitVec >>> (((nI (8 * k)).toUInt32 &&& Int32.toUInt32 31).toBitVec % 32#32)).getLsbD i = b.toBitVec.getLsbD (8 * k + i) := by
    show (b.toBitVec >>> ((((nI (8 * k)).toUInt32 &&& Int32.toUInt32 31).toBitVec % 32#32).toNat)).getLsbD i = _
    rw [BitVec.getLsbD_ushiftRight]
    rw [BitVec.toNat_umod]
    show b.toBitVec.getLsbD (((nI (8 * k)).toUInt32 &&& Int32.toUInt32 31).toBitVec.toNat % 32 + i) = _
    rw [h1]
  rw [e]
  by_cases q : i < 8
  · rw [BitVec.getLsbD_sshiftRight]
    have : ¬ 32 ≤ i := by omega
    simp only [this, decide_false, Bool.not_false, Bool.true_and]
    rw [if_pos (by omega)]
  · have z : (255#32).getLsbD i = false := by
      rw [BitVec.getLsbD_ofNat]
      have : Nat.testBit 255 i = false := Nat.testBit_lt_two_pow (Nat.lt_of_lt_of_le (by decide : 255 < 2 ^ 8) (Nat.pow_le_pow_right (by decide) (by omega)))
      rw [this, Bool.and_false]
    rw [z, Bool.and_false, Bool.and_false]
theorem tapB_b : ∀ b k, inB (tapB b k) 0 255 := by
  intro b k
  unfold tapB
  generalize b >>> (nI (8 * k) &&& 31) = x
  have e : x &&& 255 = nI ((x.toBitVec &&& 255#32).toNat) := by
    apply Int32.toBitVec_inj.1
    show x.toBitVec &&& 255#32 = BitVec.ofNat 32 _
    rw [BitVec.ofNat_toNat, BitVec.setWidth_eq]
  rw [e]
  refine inB_nI (m := 255) (by decide) ?_
  rw [BitVec.toNat_and]
  exact Nat.and_le_right
/-- the places seen -/
def jdgM (N : Row) : Nat → Nat
  | 0 => 0
  | i + 1 => jdgM N i ||| 2 ^ tn (N i)
theorem jdg_bit (N : Row) (p : Nat) : ∀ i, (jdgM N i).testBit p = true ↔ ∃ k, k < i ∧ tn (N k) = p
  | 0 => by
    constructor
    · intro h; unfold jdgM at h; simp at h
    · rintro ⟨k, hk, -⟩; exact absurd hk (Nat.not_lt_zero k)
  | i + 1 => by
    unfold jdgM
    rw [Nat.testBit_or, Bool.or_eq_true, jdg_bit N p i, Nat.testBit_two_pow]
    constructor
    · rintro (⟨k, hk, e⟩ | h)
      · exact ⟨k, by omega, e⟩
      · exact ⟨i, by omega, by simpa using h⟩
    · rintro ⟨k, hk, e⟩
      rcases Nat.lt_or_ge k i with q | q
      · exact Or.inl ⟨k, q, e⟩
      · rw [show k = i by omega] at e; exact Or.inr (by simpa using e)
theorem and_bit0 : ∀ m, m < 256 → ∀ p, p < 8 → (m &&& 2 ^ p = 0 ↔ ¬ m.testBit p = true) := by decide +kernel
theorem and_bit {m p : Nat} (hp : p < 8) (hm : m < 256) : nI m &&& ((1 : Int32) <<< (nI p &&& 31)) = 0 ↔ ¬ m.testBit p = true := by
  rw [shl_1 hp, fa_and]
  have hx : m &&& 2 ^ p < 2 ^ 31 := Nat.lt_of_le_of_lt Nat.and_le_left (by omega)
  have e : (nI (m &&& 2 ^ p) = 0) ↔ (m &&& 2 ^ p = 0) := nI_eq (b := 0) hx (by decide)
  rw [e]
  exact and_bit0 m hm p hp
theorem jdgM_lt (N : Row) : ∀ i, (∀ k, k < i → tn (N k) < 8) → jdgM N i < 256
  | 0, _ => by unfold jdgM; decide
  | i + 1, h => by
    have h1 := jdgM_lt N i (fun k hk => h k (by omega))
    have h2 := h i (by omega)
    unfold jdgM
    exact Nat.or_lt_two_pow (n := 8) h1 (Nat.pow_lt_pow_right (by decide) h2)
theorem or_pow {m p : Nat} (hp : p < 8) : nI m ||| ((1 : Int32) <<< (nI p &&& 31)) = nI (m ||| 2 ^ p) := by rw [shl_1 hp, fa_or]
