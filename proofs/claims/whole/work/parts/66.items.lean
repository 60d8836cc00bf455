/-! ===== TEXTS: items, the whole text ===== -/
def andN {α β : Type} (r : Nat × Option α) (f : Nat → α → Nat × Option β) : Nat × Option β := match r.2 with
  | none => (r.1, none)
  | some v => f r.1 v
theorem andN_n {α β : Type} {r : Nat × Option α} {f : Nat → α → Nat × Option β} (h : r.2 = none) : andN r f = (r.1, none) := by simp only [andN, h]
theorem andN_s {α β : Type} {r : Nat × Option α} {f : Nat → α → Nat × Option β} {v : α} (h : r.2 = some v) : andN r f = f r.1 v := by simp only [andN, h]
theorem andN_b {α β : Type} {r : Nat × Option α} {f : Nat → α → Nat × Option β} {p L : Nat} (h1 : p ≤ r.1 ∧ r.1 ≤ L) (h2 : ∀ v, r.2 = some v → r.1 ≤ (f r.1 v).1 ∧ (f r.1 v).1 ≤ L) : p ≤ (andN r f).1 ∧ (andN r f).1 ≤ L := by
  cases h : r.2 with
  | none => rw [andN_n h]; exact h1
  | some v => rw [andN_s h]; have := h2 v h; exact ⟨by omega, this.2⟩
theorem andN_ok {α β : Type} {r : Nat × Option α} {f : Nat → α → Nat × Option β} {s : β} (h : (andN r f).2 = some s) : ∃ v, r.2 = some v ∧ (f r.1 v).2 = some s := by
  cases h1 : r.2 with
  | none => rw [andN_n h1] at h; exact absurd h (by simp)
  | some v => rw [andN_s h1] at h; exact ⟨v, rfl, h⟩
/-- a number of a range is taken -/
noncomputable def tkN (T : Row) (L p lo hi : Nat) : Nat × Option Nat := ifp (sor T L p = 2 ∧ lo ≤ numP T L p ∧ numP T L p ≤ hi) (enn T L p, some (numP T L p)) (p, none)
/-- a word and a number, perhaps -/
noncomputable def perN (T : Row) (L p w hi d : Nat) : Nat × Option Nat := ifp (isW T L p w) (tkN T L (enn T L p) 0 hi) (p, some d)
theorem tkN_b {T : Row} {L p lo hi : Nat} (h : p ≤ L) : p ≤ (tkN T L p lo hi).1 ∧ (tkN T L p lo hi).1 ≤ L := by
  unfold tkN
  by_cases q : sor T L p = 2 ∧ lo ≤ numP T L p ∧ numP T L p ≤ hi
  · rw [ifp_t q]; exact ⟨enn_ge h, enn_le h⟩
  · rw [ifp_f q]; exact ⟨Nat.le_refl p, h⟩
theorem tkN_v {T : Row} {L p lo hi v : Nat} (h : (tkN T L p lo hi).2 = some v) : lo ≤ v ∧ v ≤ hi := by
  unfold tkN at h
  by_cases q : sor T L p = 2 ∧ lo ≤ numP T L p ∧ numP T L p ≤ hi
  · rw [ifp_t q] at h; cases h; exact q.2
  · rw [ifp_f q] at h; exact absurd h (by simp)
theorem perN_b {T : Row} {L p w hi d : Nat} (h : p ≤ L) : p ≤ (perN T L p w hi d).1 ∧ (perN T L p w hi d).1 ≤ L := by
  unfold perN
  by_cases q : isW T L p w
  · rw [ifp_t q]
    have h1 := tkN_b (T := T) (lo := 0) (hi := hi) (enn_le (T := T) h)
    have h2 := enn_ge (T := T) h
    exact ⟨by omega, h1.2⟩
  · rw [ifp_f q]; exact ⟨Nat.le_refl p, h⟩
theorem perN_v {T : Row} {L p w hi d v : Nat} (hd : d ≤ hi) (h : (perN T L p w hi d).2 = some v) : v ≤ hi := by
  unfold perN at h
  by_cases q : isW T L p w
  · rw [ifp_t q] at h; exact (tkN_v h).2
  · rw [ifp_f q] at h; cases h; exact hd
noncomputable def eggB (T : Row) (L : Nat) (S : Row) (k p : Nat) : Nat × Option Row :=
  andN (tkN T L p 1 99) fun p1 s => andN (perN T L p1 9 99 0) fun p2 a => andN (perN T L p2 10 3 0) fun p3 n => (p3, some (putE S (frN S 8) (nI k) (nI s) (nI a) (nI n)))
noncomputable def henB (T : Row) (L : Nat) (S : Row) (p : Nat) : Nat × Option Row :=
  andN (tkN T L p 0 3) fun p1 h => andN (tkN T L p1 0 30) fun p2 v => (p2, some (upd S (43 + 4 * h + 0) (nI v)))
noncomputable def wrkB (T : Row) (L : Nat) (S : Row) (p : Nat) : Nat × Option Row :=
  andN (tkN T L p 0 5) fun p1 w => andN (tkN T L p1 0 999) fun p2 v => andN (perN T L p2 11 99999 (tn (wk S w 1))) fun p3 d => andN (perN T L p3 12 99 (tn (wk S w 2))) fun p4 o =>
    (p4, some (upd (upd (upd S (59 + 4 * w + 0) (nI v)) (59 + 4 * w + 1) (nI d)) (59 + 4 * w + 2) (nI o)))
/-- the kind of egg whose word it is; 7: none -/
noncomputable def kdN (T : Row) (L p : Nat) : Nat := fstN (fun w => ¬ isW T L p w) 7
noncomputable def itmN (T : Row) (L : Nat) (S : Row) (p : Nat) : Nat × Option Row :=
  if kdN T L p < 7 then (if frN S 8 < 8 then eggB T L S (kdN T L p) (enn T L p) else (p, none)) else ifp (isW T L p 7) (henB T L S (enn T L p)) (ifp (isW T L p 8) (wrkB T L S (enn T L p)) (p, none))
noncomputable def txtN (T : Row) (L : Nat) : Nat → Nat → Nat → Row → Int32 × Option Row
  | 0, _, _, _ => (0, none)
  | f + 1, n, p, S => match (itmN T L S p).2 with
    | none => (-1 - nI (stt T L (itmN T L S p).1), none)
    | some S1 => if sor T L (itmN T L S p).1 = 0 then (nI n, some S1) else if sor T L (itmN T L S p).1 = 3 then txtN T L f (n + 1) (enn T L (itmN T L S p).1) S1 else (-1 - nI (stt T L (itmN T L S p).1), none)
theorem txt_n {T : Row} {L f n p : Nat} {S : Row} (h : (itmN T L S p).2 = none) : txtN T L (f + 1) n p S = (-1 - nI (stt T L (itmN T L S p).1), none) := by
  show (match (itmN T L S p).2 with | none => _ | some S1 => _) = _
  rw [h]
theorem txt_s {T : Row} {L f n p : Nat} {S S1 : Row} (h : (itmN T L S p).2 = some S1) : txtN T L (f + 1) n p S = if sor T L (itmN T L S p).1 = 0 then (nI n, some S1) else if sor T L (itmN T L S p).1 = 3 then txtN T L f (n + 1) (enn T L (itmN T L S p).1) S1 else (-1 - nI (stt T L (itmN T L S p).1), none) := by
  show (match (itmN T L S p).2 with | none => _ | some S1 => _) = _
  rw [h]
theorem eggB_b {T : Row} {L k p : Nat} {S : Row} (h : p ≤ L) : p ≤ (eggB T L S k p).1 ∧ (eggB T L S k p).1 ≤ L := by
  have h1 := tkN_b (T := T) (lo := 1) (hi := 99) h
  refine andN_b h1 (fun s _ => ?_)
  have h2 := perN_b (T := T) (w := 9) (hi := 99) (d := 0) h1.2
  refine andN_b h2 (fun a _ => ?_)
  have h3 := perN_b (T := T) (w := 10) (hi := 3) (d := 0) h2.2
  exact andN_b h3 (fun n _ => ⟨Nat.le_refl _, h3.2⟩)
theorem henB_b {T : Row} {L p : Nat} {S : Row} (h : p ≤ L) : p ≤ (henB T L S p).1 ∧ (henB T L S p).1 ≤ L := by
  have h1 := tkN_b (T := T) (lo := 0) (hi := 3) h
  refine andN_b h1 (fun s _ => ?_)
  have h2 := tkN_b (T := T) (lo := 0) (hi := 30) h1.2
  exact andN_b h2 (fun n _ => ⟨Nat.le_refl _, h2.2⟩)
theorem wrkB_b {T : Row} {L p : Nat} {S : Row} (h : p ≤ L) : p ≤ (wrkB T L S p).1 ∧ (wrkB T L S p).1 ≤ L := by
  have h1 := tkN_b (T := T) (lo := 0) (hi := 5) h
  refine andN_b h1 (fun w _ => ?_)
  have h2 := tkN_b (T := T) (lo := 0) (hi := 999) h1.2
  refine andN_b h2 (fun v _ => ?_)
  have h3 := perN_b (T := T) (w := 11) (hi := 99999) (d := tn (wk S w 1)) h2.2
  refine andN_b h3 (fun d _ => ?_)
  have h4 := perN_b (T := T) (w := 12) (hi := 99) (d := tn (wk S w 2)) h3.2
  exact andN_b h4 (fun n _ => ⟨Nat.le_refl _, h4.2⟩)
theorem kdN_is {T : Row} {L p : Nat} (h : kdN T L p < 7) : isW T L p (kdN T L p) := Classical.not_not.mp ((fstN_spec (fun w => ¬ isW T L p w) 7).2.2 h)
theorem kdN_no {T : Row} {L p : Nat} (h : ¬ kdN T L p < 7) : ∀ w, w < 7 → ¬ isW T L p w := fun w hw => (fstN_spec (fun w => ¬ isW T L p w) 7).1 w (by have := (fstN_spec (fun w => ¬ isW T L p w) 7).2.1; unfold kdN at h; omega)
theorem kdN_eq {T : Row} {L p w : Nat} (hw : w < 7) (h : isW T L p w) : kdN T L p = w := fstN_hit (fun e he z => absurd (isW_one (by omega) (by omega) h z) (by omega)) (fun z => z h) hw
theorem isW_gt {T : Row} {L p w : Nat} (h : p ≤ L) (hw : isW T L p w) : p < enn T L p := enn_gt h (by rw [hw.1]; decide)
theorem itm_b {T : Row} {L p : Nat} {S : Row} (h : p ≤ L) : p ≤ (itmN T L S p).1 ∧ (itmN T L S p).1 ≤ L ∧ ∀ S1, (itmN T L S p).2 = some S1 → p < (itmN T L S p).1 := by
  have hl := enn_le (T := T) h
  unfold itmN
  by_cases q : kdN T L p < 7
  · rw [if_pos q]
    have hg := isW_gt h (kdN_is q)
    by_cases q2 : frN S 8 < 8
    · rw [if_pos q2]
      have := eggB_b (T := T) (S := S) (k := kdN T L p) hl
      exact ⟨by omega, this.2, fun _ _ => by omega⟩
    · rw [if_neg q2]
      exact ⟨Nat.le_refl p, h, fun S1 z => absurd z (by simp)⟩
  · rw [if_neg q]
    by_cases q3 : isW T L p 7
    · rw [ifp_t q3]
      have hg := isW_gt h q3
      have := henB_b (T := T) (S := S) hl
      exact ⟨by omega, this.2, fun _ _ => by omega⟩
    · rw [ifp_f q3]
      by_cases q4 : isW T L p 8
      · rw [ifp_t q4]
        have hg := isW_gt h q4
        have := wrkB_b (T := T) (S := S) hl
        exact ⟨by omega, this.2, fun _ _ => by omega⟩
      · rw [ifp_f q4]
        exact ⟨Nat.le_refl p, h, fun S1 z => absurd z (by simp)⟩
/-! what a text leaves is a henhouse -/
theorem nI_inB {v a b : Nat} (hb : b < 2 ^ 31) (h1 : a ≤ v) (h2 : v ≤ b) : inB (nI v) (nI a) (nI b) := by
  refine ⟨Int32.le_iff_toInt_le.mpr ?_, Int32.le_iff_toInt_le.mpr ?_⟩
  · rw [nI_toInt (by omega), nI_toInt (by omega)]; omega
  · rw [nI_toInt (by omega), nI_toInt (by omega)]; omega
theorem okRow_eggB {T : Row} {L k p : Nat} {S S1 : Row} (o : okRow S) (hk : k < 7) (hf : frN S 8 < 8) (h : (eggB T L S k p).2 = some S1) : okRow S1 := by
  obtain ⟨s, hs, h⟩ := andN_ok h
  obtain ⟨a, ha, h⟩ := andN_ok h
  obtain ⟨n, hn1, h⟩ := andN_ok h
  cases h
  have bs := tkN_v hs
  have ba := perN_v (by decide) ha
  have bn := perN_v (by decide) hn1
  exact okRow_lay hf (nI_inB (a := 0) (b := 6) (by decide) (by omega) (by omega)) (nI_inB (a := 1) (b := 99) (by decide) bs.1 bs.2) (nI_inB (a := 0) (b := 99) (by decide) (by omega) ba) (nI_inB (a := 0) (b := 3) (by decide) (by omega) bn) o
theorem okRow_henB {T : Row} {L p : Nat} {S S1 : Row} (o : okRow S) (h : (henB T L S p).2 = some S1) : okRow S1 := by
  obtain ⟨w, hw, h⟩ := andN_ok h
  obtain ⟨v, hv, h⟩ := andN_ok h
  cases h
  have bw := tkN_v hw
  have bv' := tkN_v hv
  exact okRow_hn (f := 0) (by omega) (by decide) (nI_inB (a := 0) (b := 30) (by decide) (by omega) bv'.2) o
theorem tn_le {x : Int32} {b : Nat} (hb : b + 1 < 2 ^ 31) (h : inB x 0 (nI b)) : tn x ≤ b := by have := (inB_tn hb h).1; omega
theorem okRow_wrkB {T : Row} {L p : Nat} {S S1 : Row} (o : okRow S) (h : (wrkB T L S p).2 = some S1) : okRow S1 := by
  obtain ⟨w, hw, h⟩ := andN_ok h
  obtain ⟨v, hv, h⟩ := andN_ok h
  obtain ⟨d, hd, h⟩ := andN_ok h
  obtain ⟨e, he, h⟩ := andN_ok h
  cases h
  have bw := tkN_v hw
  have bv' := tkN_v hv
  have hw6 : w < 6 := by omega
  have ow := o.2.2.2.2.1 w hw6
  have bd := perN_v (tn_le (b := 99999) (by decide) ow.2.1) hd
  have be := perN_v (tn_le (b := 99) (by decide) ow.2.2.1) he
  exact okRow_wk (f := 2) hw6 (by decide) (nI_inB (a := 0) (b := 99) (by decide) (by omega) be) (okRow_wk (f := 1) hw6 (by decide) (nI_inB (a := 0) (b := 99999) (by decide) (by omega) bd) (okRow_wk (f := 0) hw6 (by decide) (nI_inB (a := 0) (b := 999) (by decide) (by omega) bv'.2) o))
theorem okRow_itm {T : Row} {L p : Nat} {S S1 : Row} (o : okRow S) (h : (itmN T L S p).2 = some S1) : okRow S1 := by
  unfold itmN at h
  by_cases q : kdN T L p < 7
  · rw [if_pos q] at h
    by_cases q2 : frN S 8 < 8
    · rw [if_pos q2] at h; exact okRow_eggB o q q2 h
    · rw [if_neg q2] at h; exact absurd h (by simp)
  · rw [if_neg q] at h
    by_cases q3 : isW T L p 7
    · rw [ifp_t q3] at h; exact okRow_henB o h
    · rw [ifp_f q3] at h
      by_cases q4 : isW T L p 8
      · rw [ifp_t q4] at h; exact okRow_wrkB o h
      · rw [ifp_f q4] at h; exact absurd h (by simp)
theorem okRow_txt {T : Row} {L : Nat} {S1 : Row} : ∀ (f n p : Nat) (S : Row), okRow S → (txtN T L f n p S).2 = some S1 → okRow S1
  | 0, n, p, S, _, h => absurd h (by simp [txtN])
  | f + 1, n, p, S, o, h => by
    cases h1 : (itmN T L S p).2 with
    | none => rw [txt_n h1] at h; exact absurd h (by simp)
    | some S2 =>
      have o2 := okRow_itm o h1
      rw [txt_s h1] at h
      by_cases q : sor T L (itmN T L S p).1 = 0
      · rw [if_pos q] at h; cases h; exact o2
      · rw [if_neg q] at h
        by_cases q3 : sor T L (itmN T L S p).1 = 3
        · rw [if_pos q3] at h; exact okRow_txt f (n + 1) _ S2 o2 h
        · rw [if_neg q3] at h; exact absurd h (by simp)
noncomputable def F_text (A : Abs) : Int32 × Abs := ((txtN (aT A) (tn (aL A)) 121 1 0 A.1).1, match (txtN (aT A) (tn (aL A)) 121 1 0 A.1).2 with
  | none => wT A (aT A, 0)
  | some S1 => wT (wS A S1) (aT A, 0))
/-- an answer, -1: none -/
def opI : Option Nat → Int32
  | none => -1
  | some v => nI v
theorem opI_ge {o : Option Nat} (h : ¬ opI o < 0) : ∃ v, o = some v := by
  cases o with
  | none => exact absurd (show opI none < 0 by decide) h
  | some v => exact ⟨v, rfl⟩
theorem opI_ge' {o : Option Nat} (h : 0 ≤ opI o) : ∃ v, o = some v := opI_ge (Int32.not_lt.mpr h)
theorem opI_lt {o : Option Nat} (hb : ∀ v, o = some v → v < 2 ^ 31) (h : opI o < 0) : o = none := by
  cases o with
  | none => rfl
  | some v => exact absurd h (nI_pos (hb v rfl))
theorem tk_n {T : Row} {L p lo hi : Nat} (hb : hi < 2 ^ 31) (h : opI (tkN T L p lo hi).2 < 0) : (tkN T L p lo hi).2 = none := opI_lt (fun v hv => by have := (tkN_v hv).2; omega) h
theorem pe_n {T : Row} {L p w hi d : Nat} (hd : d ≤ hi) (hb : hi < 2 ^ 31) (h : opI (perN T L p w hi d).2 < 0) : (perN T L p w hi d).2 = none := opI_lt (fun v hv => by have := perN_v hd hv; omega) h
