/-! ===== works dealt to disjoint parts of a set of eggs ===== -/
def sbt (a b : Nat) : Prop := ∀ i, a.testBit i = true → b.testBit i = true
def dsj (a b : Nat) : Prop := ∀ i, ¬ (a.testBit i = true ∧ b.testBit i = true)
abbrev dneP (S : Row) (w : Nat) : Prop := wk S w 0 ≤ wk S w 3
/-- a work is done with a part -/
def okpP (S : Row) (w p : Nat) : Prop := ¬ wk S w 1 < S 0 ∧ wk S w 0 ≤ wk S w 3 + sumN S p 8
/-- the works of V can all be done with disjoint parts of E -/
def feaP (S : Row) (V E : Nat) : Prop := ∃ a : Nat → Nat, (∀ w, V.testBit w = true → ¬ dneP S w → okpP S w (a w) ∧ sbt (a w) E) ∧ ∀ w u, V.testBit w = true → V.testBit u = true → ¬ dneP S w → ¬ dneP S u → ¬ w = u → dsj (a w) (a u)
def lessV (V' V w : Nat) : Prop := ∀ x, V'.testBit x = true ↔ (V.testBit x = true ∧ ¬ x = w)
def lessE (E' E p : Nat) : Prop := ∀ x, E'.testBit x = true ↔ (E.testBit x = true ∧ ¬ p.testBit x = true)
theorem fea_0 (S : Row) (E : Nat) : feaP S 0 E := ⟨fun _ => 0, fun w h => absurd h (by simp), fun w u h => absurd h (by simp)⟩
theorem fea_sub {S : Row} {V V' E : Nat} (h : ∀ x, V'.testBit x = true → V.testBit x = true) (hf : feaP S V E) : feaP S V' E := by
  obtain ⟨a, h1, h2⟩ := hf
  exact ⟨a, fun w hw => h1 w (h w hw), fun w u hw hu => h2 w u (h w hw) (h u hu)⟩
theorem fea_mono {S : Row} {V E E' : Nat} (h : sbt E E') (hf : feaP S V E) : feaP S V E' := by
  obtain ⟨a, h1, h2⟩ := hf
  exact ⟨a, fun w hw hd => ⟨(h1 w hw hd).1, fun i hi => h i ((h1 w hw hd).2 i hi)⟩, h2⟩
theorem fea_done {S : Row} {V V' w E : Nat} (hV : lessV V' V w) (hd : dneP S w) : feaP S V E ↔ feaP S V' E := by
  constructor
  · exact fea_sub (fun x hx => ((hV x).mp hx).1)
  · rintro ⟨a, h1, h2⟩
    have key : ∀ x, V.testBit x = true → ¬ dneP S x → V'.testBit x = true := fun x hx hn => (hV x).mpr ⟨hx, fun e => hn (e ▸ hd)⟩
    exact ⟨a, fun x hx hn => h1 x (key x hx hn) hn, fun x u hx hu hn hm => h2 x u (key x hx hn) (key u hu hm) hn hm⟩
theorem fea_part {S : Row} {V V' w E : Nat} (hV : lessV V' V w) (hw : V.testBit w = true) (hd : ¬ dneP S w) : feaP S V E ↔ ∃ p, sbt p E ∧ okpP S w p ∧ ∀ E', lessE E' E p → feaP S V' E' := by
  constructor
  · rintro ⟨a, h1, h2⟩
    refine ⟨a w, (h1 w hw hd).2, (h1 w hw hd).1, fun E' hE => ⟨a, fun x hx hn => ?_, fun x u hx hu => h2 x u ((hV x).mp hx).1 ((hV u).mp hu).1⟩⟩
    obtain ⟨hx1, hx2⟩ := (hV x).mp hx
    refine ⟨(h1 x hx1 hn).1, fun i hi => (hE i).mpr ⟨(h1 x hx1 hn).2 i hi, fun q => ?_⟩⟩
    exact h2 x w hx1 hw hn hd hx2 i ⟨hi, q⟩
  · rintro ⟨p, hp, ho, hf⟩
    have hE : lessE (E ^^^ (E &&& p)) E p := by
      intro x
      rw [Nat.testBit_xor, Nat.testBit_and]
      cases E.testBit x <;> cases p.testBit x <;> simp
    obtain ⟨a, h1, h2⟩ := hf _ hE
    refine ⟨fun x => if x = w then p else a x, fun x hx hn => ?_, fun x u hx hu hn hm hne => ?_⟩
    · by_cases q : x = w
      · subst q; simp only [if_true]; exact ⟨ho, hp⟩
      · simp only [if_neg q]
        have := h1 x ((hV x).mpr ⟨hx, q⟩) hn
        exact ⟨this.1, fun i hi => ((hE i).mp (this.2 i hi)).1⟩
    · by_cases q : x = w
      · by_cases r : u = w
        · exact absurd (q.trans r.symm) hne
        · simp only [if_pos q, if_neg r]
          intro i hi
          exact ((hE i).mp ((h1 u ((hV u).mpr ⟨hu, r⟩) hm).2 i hi.2)).2 hi.1
      · by_cases r : u = w
        · simp only [if_neg q, if_pos r]
          intro i hi
          exact ((hE i).mp ((h1 x ((hV x).mpr ⟨hx, q⟩) hn).2 i hi.1)).2 hi.2
        · simp only [if_neg q, if_neg r]
          exact h2 x u ((hV x).mpr ⟨hx, q⟩) ((hV u).mpr ⟨hu, r⟩) hn hm hne
/-- what is worth of a set of works -/
def worN (S : Row) (V : Nat) : Nat → Int32
  | 0 => 0
  | k + 1 => worN S V k + if V.testBit k then wk S k 2 else 0
/-- the best set of works: of greatest worth, the least of them -/
noncomputable def bsN (S : Row) : Nat → Nat
  | 0 => 0
  | k + 1 => ifp (feaP S (k + 1) (eggN S 8) ∧ worN S (bsN S k) 6 < worN S (k + 1) 6) (k + 1) (bsN S k)
noncomputable def F_best (A : Abs) : Int32 × Abs := (worN A.1 (bsN A.1 63) 6, A)
noncomputable def F_bestWorks (A : Abs) : Int32 × Abs := (nI (bsN A.1 63), A)
theorem bsN_le (S : Row) : ∀ k, bsN S k ≤ k
  | 0 => Nat.le_refl 0
  | k + 1 => by
    have h := bsN_le S k
    show ifp _ _ _ ≤ _
    by_cases q : feaP S (k + 1) (eggN S 8) ∧ worN S (bsN S k) 6 < worN S (k + 1) 6
    · rw [ifp_t q]; exact Nat.le_refl _
    · rw [ifp_f q]; omega
/-- worth as a number -/
def worI (S : Row) (V : Nat) : Nat → Int
  | 0 => 0
  | k + 1 => worI S V k + if V.testBit k then (wk S k 2).toInt else 0
theorem wk2_b {S : Row} {w : Nat} (hw : w < 6) (o : okRow S) : 0 ≤ (wk S w 2).toInt ∧ (wk S w 2).toInt ≤ 99 := by
  have h := (o.2.2.2.2.1 w hw).2.2.1
  exact ⟨Int32.le_iff_toInt_le.mp h.1, Int32.le_iff_toInt_le.mp h.2⟩
theorem worI_b {S : Row} {V : Nat} (o : okRow S) : ∀ k, k ≤ 6 → 0 ≤ worI S V k ∧ worI S V k ≤ 99 * k
  | 0, _ => ⟨Int.le_refl 0, Int.le_refl 0⟩
  | k + 1, h => by
    have h1 := worI_b (V := V) o k (by omega)
    have h2 := wk2_b (show k < 6 by omega) o
    unfold worI
    split <;> omega
theorem worN_I {S : Row} {V : Nat} (o : okRow S) : ∀ k, k ≤ 6 → (worN S V k).toInt = worI S V k
  | 0, _ => rfl
  | k + 1, h => by
    have ih := worN_I (V := V) o k (by omega)
    have h1 := worI_b (V := V) o k (by omega)
    have h2 := wk2_b (show k < 6 by omega) o
    show (worN S V k + _).toInt = worI S V k + _
    rw [← ih]
    by_cases q : V.testBit k = true
    · simp only [q, if_true]
      exact add_toInt (m := 99 * k) (n := 99) ⟨by omega, by omega⟩ ⟨by omega, by omega⟩ (by omega)
    · simp only [q]
      simp
/-- the best set is best -/
theorem bs_best {S : Row} (o : okRow S) : ∀ k, k < 64 → feaP S (bsN S k) (eggN S 8) ∧ ∀ V, V ≤ k → feaP S V (eggN S 8) → worI S V 6 < worI S (bsN S k) 6 ∨ (worI S V 6 = worI S (bsN S k) 6 ∧ bsN S k ≤ V)
  | 0, _ => ⟨fea_0 S _, fun V hV _ => Or.inr ⟨by rw [show V = 0 by omega]; rfl, Nat.zero_le V⟩⟩
  | k + 1, hk => by
    obtain ⟨h1, h2⟩ := bs_best o k (by omega)
    have hlt : worN S (bsN S k) 6 < worN S (k + 1) 6 ↔ worI S (bsN S k) 6 < worI S (k + 1) 6 := by
      rw [Int32.lt_iff_toInt_lt, worN_I o 6 (Nat.le_refl 6), worN_I o 6 (Nat.le_refl 6)]
    by_cases q : feaP S (k + 1) (eggN S 8) ∧ worN S (bsN S k) 6 < worN S (k + 1) 6
    · have e : bsN S (k + 1) = k + 1 := ifp_t q
      rw [e]
      refine ⟨q.1, fun V hV hf => ?_⟩
      rcases Nat.lt_or_ge V (k + 1) with r | r
      · have := hlt.mp q.2
        rcases h2 V (by omega) hf with z | z <;> omega
      · exact Or.inr ⟨by rw [show V = k + 1 by omega], by omega⟩
    · have e : bsN S (k + 1) = bsN S k := ifp_f q
      rw [e]
      refine ⟨h1, fun V hV hf => ?_⟩
      rcases Nat.lt_or_ge V (k + 1) with r | r
      · exact h2 V (by omega) hf
      · have e2 : V = k + 1 := by omega
        subst e2
        have h3 : ¬ worI S (bsN S k) 6 < worI S (k + 1) 6 := fun z => q ⟨hf, hlt.mpr z⟩
        have h4 := bsN_le S k
        omega
