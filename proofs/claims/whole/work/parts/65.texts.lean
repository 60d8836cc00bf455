/-! ===== TEXTS: tokens on a tape, and what they tell ===== -/
def ltP (x : Int32) : Prop := 97 ≤ x ∧ x ≤ 122
def dgP (x : Int32) : Prop := 48 ≤ x ∧ x ≤ 57
def blP (x : Int32) : Prop := x = 32
/-- where that ends which has c, from p on -/
noncomputable def spn (c : Int32 → Prop) (T : Row) (L p : Nat) : Nat := p + fstN (fun k => c (T (p + k))) (L - p)
theorem spn_spec {c : Int32 → Prop} {T : Row} {L p : Nat} (h : p ≤ L) : p ≤ spn c T L p ∧ spn c T L p ≤ L ∧ (∀ k, p ≤ k → k < spn c T L p → c (T k)) ∧ (spn c T L p < L → ¬ c (T (spn c T L p))) := by
  obtain ⟨a1, a2, a3⟩ := fstN_spec (fun k => c (T (p + k))) (L - p)
  unfold spn
  refine ⟨by omega, by omega, fun k h1 h2 => ?_, fun h1 => a3 (by omega)⟩
  have := a1 (k - p) (by omega)
  rw [show p + (k - p) = k by omega] at this
  exact this
theorem spn_hit {c : Int32 → Prop} {T : Row} {L p q : Nat} (h1 : p ≤ q) (h2 : q ≤ L) (h3 : ∀ k, p ≤ k → k < q → c (T k)) (h4 : q < L → ¬ c (T q)) : spn c T L p = q := by
  have hs := spn_spec (c := c) (T := T) (L := L) (p := p) (by omega)
  rcases Nat.lt_trichotomy (spn c T L p) q with q1 | q1 | q1
  · exact absurd (h3 _ hs.1 q1) (hs.2.2.2 (by omega))
  · exact q1
  · exact absurd (hs.2.2.1 q h1 q1) (h4 (by omega))
/-- sorts of tokens: 0 the end, 1 a word, 2 a number, 3 the sign, 4 another byte -/
noncomputable def srtN (T : Row) (L q : Nat) : Nat := if L ≤ q then 0 else ifp (ltP (T q)) 1 (ifp (dgP (T q)) 2 (if T q = 59 then 3 else 4))
noncomputable def stt (T : Row) (L p : Nat) : Nat := spn blP T L p
noncomputable def sor (T : Row) (L p : Nat) : Nat := srtN T L (stt T L p)
noncomputable def enQ (T : Row) (L q : Nat) : Nat := if srtN T L q = 0 then q else if srtN T L q = 1 then spn ltP T L q else if srtN T L q = 2 then spn dgP T L q else q + 1
noncomputable def enn (T : Row) (L p : Nat) : Nat := enQ T L (stt T L p)
theorem srt_0 {T : Row} {L q : Nat} (h : L ≤ q) : srtN T L q = 0 := if_pos h
theorem srt_1 {T : Row} {L q : Nat} (h : q < L) (h2 : ltP (T q)) : srtN T L q = 1 := (if_neg (by omega)).trans (ifp_t h2)
theorem srt_2 {T : Row} {L q : Nat} (h : q < L) (h1 : ¬ ltP (T q)) (h2 : dgP (T q)) : srtN T L q = 2 := (if_neg (by omega)).trans ((ifp_f h1).trans (ifp_t h2))
theorem srt_3 {T : Row} {L q : Nat} (h : q < L) (h1 : ¬ ltP (T q)) (h2 : ¬ dgP (T q)) (h3 : T q = 59) : srtN T L q = 3 := (if_neg (by omega)).trans ((ifp_f h1).trans ((ifp_f h2).trans (if_pos h3)))
theorem srt_4 {T : Row} {L q : Nat} (h : q < L) (h1 : ¬ ltP (T q)) (h2 : ¬ dgP (T q)) (h3 : ¬ T q = 59) : srtN T L q = 4 := (if_neg (by omega)).trans ((ifp_f h1).trans ((ifp_f h2).trans (if_neg h3)))
theorem srt_cases (T : Row) (L q : Nat) : (L ≤ q ∧ srtN T L q = 0) ∨ (q < L ∧ ltP (T q) ∧ srtN T L q = 1) ∨ (q < L ∧ dgP (T q) ∧ srtN T L q = 2) ∨ (q < L ∧ T q = 59 ∧ srtN T L q = 3) ∨ (q < L ∧ ¬ ltP (T q) ∧ ¬ dgP (T q) ∧ ¬ T q = 59 ∧ srtN T L q = 4) := by
  rcases Nat.lt_or_ge q L with h | h
  · by_cases h1 : ltP (T q)
    · exact Or.inr (Or.inl ⟨h, h1, srt_1 h h1⟩)
    · by_cases h2 : dgP (T q)
      · exact Or.inr (Or.inr (Or.inl ⟨h, h2, srt_2 h h1 h2⟩))
      · by_cases h3 : T q = 59
        · exact Or.inr (Or.inr (Or.inr (Or.inl ⟨h, h3, srt_3 h h1 h2 h3⟩)))
        · exact Or.inr (Or.inr (Or.inr (Or.inr ⟨h, h1, h2, h3, srt_4 h h1 h2 h3⟩)))
  · exact Or.inl ⟨h, srt_0 h⟩
theorem srt_is1 {T : Row} {L q : Nat} (h : srtN T L q = 1) : q < L ∧ ltP (T q) := by
  rcases srt_cases T L q with z | z | z | z | z
  · exact absurd (h.symm.trans z.2) (by decide)
  · exact ⟨z.1, z.2.1⟩
  · exact absurd (h.symm.trans z.2.2) (by decide)
  · exact absurd (h.symm.trans z.2.2) (by decide)
  · exact absurd (h.symm.trans z.2.2.2.2) (by decide)
theorem srt_is2 {T : Row} {L q : Nat} (h : srtN T L q = 2) : q < L ∧ dgP (T q) := by
  rcases srt_cases T L q with z | z | z | z | z
  · exact absurd (h.symm.trans z.2) (by decide)
  · exact absurd (h.symm.trans z.2.2) (by decide)
  · exact ⟨z.1, z.2.1⟩
  · exact absurd (h.symm.trans z.2.2) (by decide)
  · exact absurd (h.symm.trans z.2.2.2.2) (by decide)
theorem srt_le (T : Row) (L q : Nat) : srtN T L q ≤ 4 := by
  rcases srt_cases T L q with z | z | z | z | z
  · rw [z.2]; decide
  · rw [z.2.2]; decide
  · rw [z.2.2]; decide
  · rw [z.2.2]; decide
  · rw [z.2.2.2.2]; decide
theorem srt_not0 {T : Row} {L q : Nat} (h : ¬ srtN T L q = 0) : q < L := by
  rcases Nat.lt_or_ge q L with z | z
  · exact z
  · exact absurd (srt_0 z) h
theorem spn_gt {c : Int32 → Prop} {T : Row} {L q : Nat} (h : q < L) (h2 : c (T q)) : q < spn c T L q := by
  have hs := spn_spec (c := c) (T := T) (L := L) (p := q) (by omega)
  rcases Nat.lt_or_ge q (spn c T L q) with z | z
  · exact z
  · have e : spn c T L q = q := by omega
    have := hs.2.2.2 (by omega)
    rw [e] at this
    exact absurd h2 this
theorem stt_b {T : Row} {L p : Nat} (h : p ≤ L) : p ≤ stt T L p ∧ stt T L p ≤ L := ⟨(spn_spec h).1, (spn_spec h).2.1⟩
theorem enQ_b {T : Row} {L q : Nat} (h : q ≤ L) : q ≤ enQ T L q ∧ enQ T L q ≤ L ∧ (¬ srtN T L q = 0 → q < enQ T L q) := by
  unfold enQ
  by_cases h0 : srtN T L q = 0
  · rw [if_pos h0]; exact ⟨Nat.le_refl q, h, fun z => absurd h0 z⟩
  · rw [if_neg h0]
    have hq := srt_not0 h0
    by_cases h1 : srtN T L q = 1
    · rw [if_pos h1]
      exact ⟨(spn_spec h).1, (spn_spec h).2.1, fun _ => spn_gt hq (srt_is1 h1).2⟩
    · rw [if_neg h1]
      by_cases h2 : srtN T L q = 2
      · rw [if_pos h2]
        exact ⟨(spn_spec h).1, (spn_spec h).2.1, fun _ => spn_gt hq (srt_is2 h2).2⟩
      · rw [if_neg h2]
        exact ⟨by omega, by omega, fun _ => by omega⟩
theorem enn_b {T : Row} {L p : Nat} (h : p ≤ L) : stt T L p ≤ enn T L p ∧ enn T L p ≤ L ∧ (¬ sor T L p = 0 → stt T L p < enn T L p) := enQ_b (stt_b h).2
theorem enn_le {T : Row} {L p : Nat} (h : p ≤ L) : enn T L p ≤ L := (enn_b h).2.1
theorem enn_ge {T : Row} {L p : Nat} (h : p ≤ L) : p ≤ enn T L p := Nat.le_trans (stt_b h).1 (enn_b h).1
theorem enn_gt {T : Row} {L p : Nat} (h : p ≤ L) (h0 : ¬ sor T L p = 0) : p < enn T L p := Nat.lt_of_le_of_lt (stt_b h).1 ((enn_b h).2.2 h0)
/-! numbers -/
def dgN (x : Int32) : Nat := tn x - 48
def numN (T : Row) (q : Nat) : Nat → Nat
  | 0 => 0
  | n + 1 => numN T q n * 10 + dgN (T (q + n))
noncomputable def numP (T : Row) (L p : Nat) : Nat := numN T (stt T L p) (enn T L p - stt T L p)
/-- as the class counts: 100000 at most; as the model counts: it stops above 99999 -/
def numC (T : Row) (q n : Nat) : Nat := if numN T q n < 100000 then numN T q n else 100000
def numS (T : Row) (q : Nat) : Nat → Nat
  | 0 => 0
  | n + 1 => if 99999 < numS T q n then numS T q n else numS T q n * 10 + dgN (T (q + n))
theorem numC_le (T : Row) (q n : Nat) : numC T q n ≤ 100000 := by unfold numC; split <;> omega
theorem numC_S (T : Row) (q n : Nat) : numC T q (n + 1) = (if numC T q n * 10 + dgN (T (q + n)) < 100000 then numC T q n * 10 + dgN (T (q + n)) else 100000) := by
  unfold numC
  show (if numN T q n * 10 + dgN (T (q + n)) < 100000 then numN T q n * 10 + dgN (T (q + n)) else 100000) = _
  by_cases h : numN T q n < 100000
  · rw [if_pos h]
  · rw [if_neg h, if_neg (by omega), if_neg (by omega)]
theorem numS_N (T : Row) (q : Nat) : ∀ n, (numN T q n ≤ 99999 → numS T q n = numN T q n) ∧ (99999 < numN T q n → 99999 < numS T q n)
  | 0 => ⟨fun _ => rfl, fun h => absurd h (by show ¬ 99999 < 0; decide)⟩
  | n + 1 => by
    obtain ⟨h1, h2⟩ := numS_N T q n
    show (numN T q n * 10 + dgN (T (q + n)) ≤ 99999 → (if 99999 < numS T q n then numS T q n else numS T q n * 10 + dgN (T (q + n))) = numN T q n * 10 + dgN (T (q + n))) ∧ (99999 < numN T q n * 10 + dgN (T (q + n)) → 99999 < (if 99999 < numS T q n then numS T q n else numS T q n * 10 + dgN (T (q + n))))
    by_cases h : 99999 < numS T q n
    · rw [if_pos h]
      have h3 : 99999 < numN T q n := by
        rcases Nat.lt_or_ge 99999 (numN T q n) with z | z
        · exact z
        · have := h1 z; omega
      exact ⟨fun z => by omega, fun _ => h⟩
    · rw [if_neg h]
      have h3 : numN T q n ≤ 99999 := by
        rcases Nat.lt_or_ge 99999 (numN T q n) with z | z
        · exact absurd (h2 z) h
        · exact z
      rw [h1 h3]
      exact ⟨fun _ => rfl, fun z => z⟩
theorem dgN_9 {x : Int32} (h : dgP x) : dgN x ≤ 9 ∧ x = nI (dgN x + 48) := by
  obtain ⟨h1, h2⟩ := h
  have q := inB_tn (x := x) (n := 57) (by decide) ⟨by have := Int32.le_iff_toInt_le.mp h1; exact Int32.le_iff_toInt_le.mpr (by simp at this ⊢; omega), h2⟩
  have h3 : 48 ≤ tn x := by
    have := Int32.le_iff_toInt_le.mp h1
    rw [q.2, nI_toInt (by omega)] at this
    simp at this
    omega
  unfold dgN
  refine ⟨by omega, ?_⟩
  rw [show tn x - 48 + 48 = tn x by omega]
  exact q.2
theorem numS_le {T : Row} {q n : Nat} (h : ∀ k, k < n → dgP (T (q + k))) : numS T q n ≤ 999999 := by
  induction n with
  | zero => show 0 ≤ 999999; decide
  | succ n ih =>
    have h1 := ih (fun k hk => h k (by omega))
    have h2 := (dgN_9 (h n (by omega))).1
    show (if 99999 < numS T q n then numS T q n else numS T q n * 10 + dgN (T (q + n))) ≤ 999999
    split <;> omega
/-! words -/
abbrev wLn (w : Nat) : Nat := sLn.getD w 0
abbrev wBy (w k : Nat) : Int32 := (sBy.getD w []).getD k 0
def isW (T : Row) (L p w : Nat) : Prop := sor T L p = 1 ∧ enn T L p - stt T L p = wLn w ∧ ∀ k, k < wLn w → T (stt T L p + k) = wBy w k
theorem wrd_ne : ∀ w, w < 13 → ∀ v, v < 13 → w ≠ v → wLn w ≠ wLn v ∨ ∃ k, k < 8 ∧ k < wLn w ∧ wBy w k ≠ wBy v k := by decide +kernel
theorem isW_one {T : Row} {L p w v : Nat} (hw : w < 13) (hv : v < 13) (h1 : isW T L p w) (h2 : isW T L p v) : w = v := by
  by_cases h : w = v
  · exact h
  · rcases wrd_ne w hw v hv h with z | ⟨k, -, k2, k3⟩
    · exact absurd (h1.2.1.symm.trans h2.2.1) z
    · have e : wLn w = wLn v := h1.2.1.symm.trans h2.2.1
      exact absurd ((h1.2.2 k k2).symm.trans (h2.2.2 k (by omega))) k3
def lrN (x : Int32) : Nat := tn x - 96
theorem lrN_26 {x : Int32} (h : ltP x) : 1 ≤ lrN x ∧ lrN x ≤ 26 ∧ x = nI (lrN x + 96) := by
  obtain ⟨h1, h2⟩ := h
  have q := inB_tn (x := x) (n := 122) (by decide) ⟨by have := Int32.le_iff_toInt_le.mp h1; exact Int32.le_iff_toInt_le.mpr (by simp at this ⊢; omega), h2⟩
  have h3 : 97 ≤ tn x := by
    have := Int32.le_iff_toInt_le.mp h1
    rw [q.2, nI_toInt (by omega)] at this
    simp at this
    omega
  unfold lrN
  refine ⟨by omega, by omega, ?_⟩
  rw [show tn x - 96 + 96 = tn x by omega]
  exact q.2
def dgS (T : Row) (q : Nat) : Nat → Nat
  | 0 => 0
  | n + 1 => if 9999999999999 < dgS T q n then dgS T q n else dgS T q n * 27 + lrN (T (q + n))
def dgW (w : Nat) : Nat → Nat
  | 0 => 0
  | n + 1 => dgW w n * 27 + lrN (wBy w n)
theorem dgW_le : ∀ w, w < 13 → ∀ n, n < 9 → dgW w n ≤ 9999999999999 := by decide +kernel
theorem wBy_r : ∀ w, w < 13 → wLn w ≤ 8 ∧ ∀ n, n < 8 → n < wLn w → 1 ≤ lrN (wBy w n) ∧ lrN (wBy w n) ≤ 26 ∧ wBy w n = nI (lrN (wBy w n) + 96) := by decide +kernel
theorem dgS_le {T : Row} {q n : Nat} (h : ∀ k, k < n → ltP (T (q + k))) : dgS T q n ≤ 269999999999999 := by
  induction n with
  | zero => exact Nat.zero_le _
  | succ n ih =>
    have h1 := ih (fun k hk => h k (by omega))
    have h2 := (lrN_26 (h n (by omega))).2.1
    show (if 9999999999999 < dgS T q n then dgS T q n else dgS T q n * 27 + lrN (T (q + n))) ≤ 269999999999999
    split <;> omega
theorem dig_m {T : Row} {q w : Nat} (hw : w < 13) : ∀ m, m ≤ wLn w → ∀ n, (∀ k, k < n → ltP (T (q + k))) → (dgS T q n = dgW w m ↔ n = m ∧ ∀ k, k < n → T (q + k) = wBy w k)
  | 0, _, 0, _ => ⟨fun _ => ⟨rfl, fun k hk => absurd hk (Nat.not_lt_zero k)⟩, fun _ => rfl⟩
  | 0, _, n + 1, hl => by
    refine ⟨fun z => ?_, fun z => absurd z.1 (by omega)⟩
    exfalso
    have h1 := (lrN_26 (hl n (by omega))).1
    have z2 : (if 9999999999999 < dgS T q n then dgS T q n else dgS T q n * 27 + lrN (T (q + n))) = 0 := z
    split at z2 <;> omega
  | m + 1, hm, 0, _ => by
    refine ⟨fun z => ?_, fun z => absurd z.1 (by omega)⟩
    exfalso
    have h1 := ((wBy_r w hw).2 m (by have := (wBy_r w hw).1; omega) (by omega)).1
    have z2 : 0 = dgW w m * 27 + lrN (wBy w m) := z
    omega
  | m + 1, hm, n + 1, hl => by
    have h8 := (wBy_r w hw).1
    have ij := dig_m (T := T) (q := q) hw m (by omega) n (fun k hk => hl k (by omega))
    have hb := dgW_le w hw m (by omega)
    have hb2 := dgW_le w hw (m + 1) (by omega)
    have hr := (wBy_r w hw).2 m (by omega) (by omega)
    have hl2 := lrN_26 (hl n (by omega))
    have e1 : dgS T q (n + 1) = (if 9999999999999 < dgS T q n then dgS T q n else dgS T q n * 27 + lrN (T (q + n))) := rfl
    have e2 : dgW w (m + 1) = dgW w m * 27 + lrN (wBy w m) := rfl
    rw [e1]
    by_cases hs : 9999999999999 < dgS T q n
    · rw [if_pos hs]
      refine ⟨fun z => by omega, fun z => ?_⟩
      exfalso
      have := ij.mpr ⟨by omega, fun k hk => z.2 k (by omega)⟩
      omega
    · rw [if_neg hs, e2]
      refine ⟨fun z => ?_, fun z => ?_⟩
      · have z1 : dgS T q n = dgW w m := by omega
        have z2 : lrN (T (q + n)) = lrN (wBy w m) := by omega
        obtain ⟨y1, y2⟩ := ij.mp z1
        refine ⟨by omega, fun k hk => ?_⟩
        rcases Nat.lt_or_ge k n with x1 | x1
        · exact y2 k x1
        · rw [show k = n by omega, hl2.2.2, z2, y1]
          exact hr.2.2.symm
      · have y1 := ij.mpr ⟨by omega, fun k hk => z.2 k (by omega)⟩
        have y2 := z.2 n (by omega)
        rw [y1, y2, show n = m by omega]
theorem dig_w {T : Row} {L p w : Nat} (hp : p ≤ L) (hw : w < 13) (h1 : sor T L p = 1) : dgS T (stt T L p) (enn T L p - stt T L p) = dgW w (wLn w) ↔ isW T L p w := by
  have e : enn T L p = spn ltP T L (stt T L p) := by
    have h2 : srtN T L (stt T L p) = 1 := h1
    unfold enn enQ
    rw [h2]
    rfl
  have hs := spn_spec (c := ltP) (T := T) (L := L) (stt_b (T := T) hp).2
  rw [dig_m hw (wLn w) (Nat.le_refl _) _ (fun k hk => hs.2.2.1 _ (by omega) (by omega))]
  unfold isW
  exact ⟨fun z => ⟨h1, z.1, fun k hk => z.2 k (by omega)⟩, fun z => ⟨z.2.1, fun k hk => z.2.2 k (by omega)⟩⟩
/-- what the model keeps as a token's value -/
noncomputable def valM (T : Row) (L p : Nat) : Nat := if sor T L p = 1 then dgS T (stt T L p) (enn T L p - stt T L p) else if sor T L p = 2 then numS T (stt T L p) (enn T L p - stt T L p) else 0
/-- the model's sorts: a number above 99999 is another byte -/
noncomputable def sorM (T : Row) (L p : Nat) : Nat := if sor T L p = 2 then (if 99999 < numP T L p then 4 else 2) else sor T L p
