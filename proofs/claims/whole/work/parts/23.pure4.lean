/-! ===== days; a henhouse stays one ===== -/
theorem okE_cg {S T : Row} {e : Nat} (h : ∀ f, f < 5 → eg S e f = eg T e f) (o : okE S e) : okE T e := by
  unfold okE thr at o ⊢
  rw [← h 0 (by decide), ← h 1 (by decide), ← h 2 (by decide), ← h 3 (by decide), ← h 4 (by decide)]
  exact o
theorem okH_cg {S T : Row} {e : Nat} (h : ∀ f, f < 4 → hn S e f = hn T e f) (o : okH S e) : okH T e := by
  unfold okH at o ⊢
  rw [← h 0 (by decide), ← h 1 (by decide), ← h 2 (by decide), ← h 3 (by decide)]
  exact o
theorem okWk_cg {S T : Row} {e : Nat} (h : ∀ f, f < 4 → wk S e f = wk T e f) (o : okWk S e) : okWk T e := by
  unfold okWk at o ⊢
  rw [← h 0 (by decide), ← h 1 (by decide), ← h 2 (by decide), ← h 3 (by decide)]
  exact o
theorem okRow_go {S : Row} {e : Nat} (he : e < 8) (o : okRow S) : okRow (goS S e) := by
  obtain ⟨o1, o2, o3, o4, o5, o6, o7⟩ := o
  refine ⟨by rw [goS_o (by omega)]; exact o1, by rw [goS_o (by omega)]; exact o2, fun a ha => ?_, fun a ha => okH_cg (fun f hf => ?_) (o4 a ha), fun a ha => okWk_cg (fun f hf => ?_) (o5 a ha), fun k hk => by rw [goS_o (by omega)]; exact o6 k hk, fun k hk => by rw [goS_o (by omega)]; exact o7 k hk⟩
  · by_cases q : a = e
    · refine Or.inr ⟨?_, ?_, ?_, ?_, ?_⟩ <;> rw [goS_eg (by decide), if_pos q]
    · exact okE_cg (fun f hf => by rw [goS_eg hf, if_neg q]) (o3 a ha)
  · unfold hn; rw [goS_o (by omega)]
  · unfold wk; rw [goS_o (by omega)]
theorem okRow_lay {S : Row} {e : Nat} {k s g n : Int32} (he : e < 8) (hk : inB k 0 6) (hs : inB s 1 99) (hg : inB g 0 99) (hn' : inB n 0 3) (o : okRow S) : okRow (putE S e k s g n) := by
  obtain ⟨o1, o2, o3, o4, o5, o6, o7⟩ := o
  refine ⟨by rw [putE_o (by omega)]; exact o1, by rw [putE_o (by omega)]; exact o2, fun a ha => ?_, fun a ha => okH_cg (fun f hf => ?_) (o4 a ha), fun a ha => okWk_cg (fun f hf => ?_) (o5 a ha), fun k hk => by rw [putE_o (by omega)]; exact o6 k hk, fun k hk => by rw [putE_o (by omega)]; exact o7 k hk⟩
  · by_cases q : a = e
    · refine Or.inl ⟨?_, ?_, ?_, ?_, ?_⟩
      · unfold thr; rw [putE_eg (by decide), if_pos q]; rfl
      · rw [putE_eg (by decide), if_pos q]; exact hk
      · rw [putE_eg (by decide), if_pos q]; exact hs
      · rw [putE_eg (by decide), if_pos q]; exact hg
      · rw [putE_eg (by decide), if_pos q]; exact hn'
    · exact okE_cg (fun f hf => by rw [putE_eg hf, if_neg q]) (o3 a ha)
  · unfold hn; rw [putE_o (by omega)]
  · unfold wk; rw [putE_o (by omega)]
/-- one field of an egg that is there -/
def lowE (f : Nat) : Int32 := if f = 1 then 1 else 0
def topE (f : Nat) : Int32 := if f = 0 then 6 else if f = 3 then 3 else 99
theorem okRow_eg {S : Row} {e f : Nat} {x : Int32} (he : e < 8) (hf : f < 4) (ht : thr S e) (hx : inB x (lowE f) (topE f)) (o : okRow S) : okRow (upd S (3 + 5 * e + f) x) := by
  obtain ⟨o1, o2, o3, o4, o5, o6, o7⟩ := o
  refine ⟨by rw [pk_un (by omega)]; exact o1, by rw [pk_un (by omega)]; exact o2, fun a ha => ?_, fun a ha => okH_cg (fun b hb => ?_) (o4 a ha), fun a ha => okWk_cg (fun b hb => ?_) (o5 a ha), fun k hk => by rw [pk_un (by omega)]; exact o6 k hk, fun k hk => by rw [pk_un (by omega)]; exact o7 k hk⟩
  · by_cases q : a = e
    · subst q
      rcases o3 a ha with ⟨q0, q1, q2, q3, q4⟩ | ⟨q0, -⟩
      · refine Or.inl ⟨?_, ?_, ?_, ?_, ?_⟩
        · unfold thr; rw [upd_eg (by omega) (by decide), if_neg (by omega)]; exact q0
        · rw [upd_eg (by omega) (by decide)]
          by_cases z : f = 0
          · subst z; rw [if_pos ⟨rfl, rfl⟩]; exact hx
          · rw [if_neg (by omega)]; exact q1
        · rw [upd_eg (by omega) (by decide)]
          by_cases z : f = 1
          · subst z; rw [if_pos ⟨rfl, rfl⟩]; exact hx
          · rw [if_neg (by omega)]; exact q2
        · rw [upd_eg (by omega) (by decide)]
          by_cases z : f = 2
          · subst z; rw [if_pos ⟨rfl, rfl⟩]; exact hx
          · rw [if_neg (by omega)]; exact q3
        · rw [upd_eg (by omega) (by decide)]
          by_cases z : f = 3
          · subst z; rw [if_pos ⟨rfl, rfl⟩]; exact hx
          · rw [if_neg (by omega)]; exact q4
      · unfold thr at ht; rw [q0] at ht; exact absurd ht (by decide)
    · exact okE_cg (fun b hb => by rw [upd_eg (by omega) hb, if_neg (fun z => q z.1)]) (o3 a ha)
  · exact (hn_n (by omega) ha hb).symm
  · exact (wk_n (by omega) ha hb).symm
theorem okRow_d {S : Row} {k : Nat} {x : Int32} (hk : k < 3) (hx : k < 2 → inB x 0 99999) (o : okRow S) : okRow (upd S k x) := by
  obtain ⟨o1, o2, o3, o4, o5, o6, o7⟩ := o
  refine ⟨?_, ?_, fun a ha => okE_cg (fun f hf => (eg_n (by omega) ha hf).symm) (o3 a ha), fun a ha => okH_cg (fun f hf => (hn_n (by omega) ha hf).symm) (o4 a ha), fun a ha => okWk_cg (fun f hf => (wk_n (by omega) ha hf).symm) (o5 a ha), fun k hk => by rw [pk_un (by omega)]; exact o6 k hk, fun k hk => by rw [pk_un (by omega)]; exact o7 k hk⟩
  · by_cases q : k = 0
    · subst q; rw [pk_us]; exact hx (by decide)
    · rw [pk_un (by omega)]; exact o1
  · by_cases q : k = 1
    · subst q; rw [pk_us]; exact hx (by decide)
    · rw [pk_un (by omega)]; exact o2
def lowH (f : Nat) : Int32 := if f = 2 then 1 else 0
def topH (f : Nat) : Int32 := if f = 0 then 30 else if f = 1 then 6 else if f = 2 then 99 else 3
theorem okRow_hn {S : Row} {e f : Nat} {x : Int32} (he : e < 4) (hf : f < 4) (hx : inB x (lowH f) (topH f)) (o : okRow S) : okRow (upd S (43 + 4 * e + f) x) := by
  obtain ⟨o1, o2, o3, o4, o5, o6, o7⟩ := o
  refine ⟨by rw [pk_un (by omega)]; exact o1, by rw [pk_un (by omega)]; exact o2, fun a ha => okE_cg (fun f hf => (eg_n (by omega) ha hf).symm) (o3 a ha), fun a ha => ?_, fun a ha => okWk_cg (fun b hb => (wk_n (by omega) ha hb).symm) (o5 a ha), fun k hk => by rw [pk_un (by omega)]; exact o6 k hk, fun k hk => by rw [pk_un (by omega)]; exact o7 k hk⟩
  obtain ⟨q0, q1, q2, q3⟩ := o4 a ha
  unfold okH
  rw [upd_hn hf (by decide), upd_hn hf (by decide), upd_hn hf (by decide), upd_hn hf (by decide)]
  by_cases q : a = e
  · rcases (show f = 0 ∨ f = 1 ∨ f = 2 ∨ f = 3 by omega) with rfl | rfl | rfl | rfl
    all_goals (refine ⟨?_, ?_, ?_, ?_⟩ <;> first | (rw [if_pos ⟨q, rfl⟩]; exact hx) | (rw [if_neg (by omega)]; assumption))
  · rw [if_neg (fun z => q z.1), if_neg (fun z => q z.1), if_neg (fun z => q z.1), if_neg (fun z => q z.1)]
    exact ⟨q0, q1, q2, q3⟩
def lowW (f : Nat) : Int32 := if f = 3 then -9999 else 0
def topW (f : Nat) : Int32 := if f = 0 then 999 else if f = 1 then 99999 else if f = 2 then 99 else 9999
theorem okRow_wk {S : Row} {e f : Nat} {x : Int32} (he : e < 6) (hf : f < 4) (hx : inB x (lowW f) (topW f)) (o : okRow S) : okRow (upd S (59 + 4 * e + f) x) := by
  obtain ⟨o1, o2, o3, o4, o5, o6, o7⟩ := o
  refine ⟨by rw [pk_un (by omega)]; exact o1, by rw [pk_un (by omega)]; exact o2, fun a ha => okE_cg (fun f hf => (eg_n (by omega) ha hf).symm) (o3 a ha), fun a ha => okH_cg (fun b hb => (hn_n (by omega) ha hb).symm) (o4 a ha), fun a ha => ?_, fun k hk => by rw [pk_un (by omega)]; exact o6 k hk, fun k hk => by rw [pk_un (by omega)]; exact o7 k hk⟩
  obtain ⟨q0, q1, q2, q3⟩ := o5 a ha
  unfold okWk
  rw [upd_wk hf (by decide), upd_wk hf (by decide), upd_wk hf (by decide), upd_wk hf (by decide)]
  by_cases q : a = e
  · rcases (show f = 0 ∨ f = 1 ∨ f = 2 ∨ f = 3 by omega) with rfl | rfl | rfl | rfl
    all_goals (refine ⟨?_, ?_, ?_, ?_⟩ <;> first | (rw [if_pos ⟨q, rfl⟩]; exact hx) | (rw [if_neg (by omega)]; assumption))
  · rw [if_neg (fun z => q z.1), if_neg (fun z => q z.1), if_neg (fun z => q z.1), if_neg (fun z => q z.1)]
    exact ⟨q0, q1, q2, q3⟩
theorem okRow_sp {S : Row} {k : Nat} {x : Int32} (hk : k < 10) (hx : inB x (-1) 7) (o : okRow S) : okRow (upd S (83 + k) x) := by
  obtain ⟨o1, o2, o3, o4, o5, o6, o7⟩ := o
  refine ⟨by rw [pk_un (by omega)]; exact o1, by rw [pk_un (by omega)]; exact o2, fun a ha => okE_cg (fun f hf => (eg_n (by omega) ha hf).symm) (o3 a ha), fun a ha => okH_cg (fun b hb => (hn_n (by omega) ha hb).symm) (o4 a ha), fun a ha => okWk_cg (fun b hb => (wk_n (by omega) ha hb).symm) (o5 a ha), fun a ha => ?_, fun k hk => by rw [pk_un (by omega)]; exact o7 k hk⟩
  by_cases q : a = k
  · subst q; rw [pk_us]; exact hx
  · rw [pk_un (by omega)]; exact o6 a ha
/-! a day -/
def spoilP (S : Row) (e : Nat) : Prop := thr S e ∧ keepB (eg S e 0) < eg S e 2 + 1
noncomputable def ageS (S : Row) (e : Nat) : Row := @ite _ (thr S e) _ (@ite _ (spoilP S e) (Classical.propDecidable _) (goS S e) (upd S (3 + 5 * e + 2) (eg S e 2 + 1))) S
noncomputable def ageC (S : Row) (e : Nat) : Nat := @ite _ (spoilP S e) (Classical.propDecidable _) 1 0
noncomputable def agesS (S : Row) : Nat → Row
  | 0 => S
  | k + 1 => ageS (agesS S k) k
noncomputable def agesC (S : Row) : Nat → Nat
  | 0 => 0
  | k + 1 => agesC S k + ageC (agesS S k) k
theorem ageS_o {S : Row} {e k : Nat} (h : k < 3 + 5 * e ∨ 8 + 5 * e ≤ k) : ageS S e k = S k := by
  unfold ageS
  split
  · split
    · exact goS_o h
    · exact pk_un (by omega)
  · rfl
theorem agesS_o (S : Row) : ∀ n k, (k < 3 ∨ 3 + 5 * n ≤ k) → agesS S n k = S k
  | 0, k, _ => rfl
  | n + 1, k, h => (ageS_o (by omega)).trans (agesS_o S n k (by omega))
theorem agesS_eg {S : Row} {n e f : Nat} (h : n ≤ e) : eg (agesS S n) e f = eg S e f := agesS_o S n _ (by omega)
theorem keepB_le (k : Int32) : inB (keepB k) 0 60 := by unfold keepB inB; grind
theorem okRow_age {S : Row} {e : Nat} (he : e < 8) (o : okRow S) : okRow (ageS S e) := by
  unfold ageS
  by_cases ht : thr S e
  · rw [if_pos ht]
    by_cases hs : spoilP S e
    · rw [if_pos hs]; exact okRow_go he o
    · rw [if_neg hs]
      refine okRow_eg he (by decide) ht ?_ o
      have hk := keepB_le (eg S e 0)
      have h0 : ¬ keepB (eg S e 0) < eg S e 2 + 1 := fun q => hs ⟨ht, q⟩
      have h3 : inB (eg S e 2) 0 99 := by
        rcases o.2.2.1 e he with q | q
        · exact q.2.2.2.1
        · have := q.1; unfold thr at ht; rw [this] at ht; exact absurd ht (by decide)
      unfold inB at *
      show 0 ≤ eg S e 2 + 1 ∧ eg S e 2 + 1 ≤ 99
      clear hs o
      generalize eg S e 2 = a at *
      generalize keepB (eg S e 0) = b at *
      grind
  · rw [if_neg ht]; exact o
theorem okRow_ages {S : Row} (o : okRow S) : ∀ n, n ≤ 8 → okRow (agesS S n)
  | 0, _ => o
  | n + 1, h => okRow_age (by omega) (okRow_ages o n (by omega))
theorem agesC_le (S : Row) : ∀ n, agesC S n ≤ n
  | 0 => Nat.le_refl 0
  | n + 1 => by
    have := agesC_le S n
    show agesC S n + ageC (agesS S n) n ≤ n + 1
    unfold ageC
    split <;> omega
/-- an egg comes into the least empty place, if there is one -/
def layS (S : Row) (kind size age nest : Int32) : Row := if frN S 8 < 8 then putE S (frN S 8) kind size age nest else S
def layD (S : Row) (h : Nat) : Prop := 0 < hn S h 0 ∧ S 0 - S 0 / hn S h 0 * hn S h 0 = 0
noncomputable def henS (S : Row) (h : Nat) : Row := @ite _ (layD S h) (Classical.propDecidable _) (layS S (hn S h 1) (hn S h 2) 0 (hn S h 3)) S
noncomputable def hensS (S : Row) : Nat → Row
  | 0 => S
  | k + 1 => henS (hensS S k) k
noncomputable def tickS (S : Row) : Row := upd (upd (agesS S 8) 1 (capD (S 1 + nI (agesC S 8)))) 0 (capD (S 0 + 1))
noncomputable def dayS (S : Row) : Row := hensS (tickS S) 4
noncomputable def dayN (S : Row) : Nat → Row
  | 0 => S
  | n + 1 => dayS (dayN S n)
noncomputable def dayC (S : Row) : Nat → Nat
  | 0 => 0
  | n + 1 => dayC S n + agesC (dayN S n) 8
theorem okRow_layS {S : Row} {k s g n : Int32} (hk : inB k 0 6) (hs : inB s 1 99) (hg : inB g 0 99) (hn' : inB n 0 3) (o : okRow S) : okRow (layS S k s g n) := by
  unfold layS
  by_cases q : frN S 8 < 8
  · rw [if_pos q]; exact okRow_lay q hk hs hg hn' o
  · rw [if_neg q]; exact o
theorem okRow_hen {S : Row} {h : Nat} (hh : h < 4) (o : okRow S) : okRow (henS S h) := by
  unfold henS
  split
  · obtain ⟨-, q1, q2, q3⟩ := o.2.2.2.1 h hh
    exact okRow_layS q1 q2 ⟨by decide, by decide⟩ q3 o
  · exact o
theorem okRow_hens {S : Row} (o : okRow S) : ∀ n, n ≤ 4 → okRow (hensS S n)
  | 0, _ => o
  | n + 1, h => okRow_hen (by omega) (okRow_hens o n (by omega))
theorem capD_ok {x : Int32} (h : inB x 0 100099) : inB (capD x) 0 99999 := by
  unfold capD inB at *
  split <;> grind
theorem okRow_tick {S : Row} (o : okRow S) : okRow (tickS S) := by
  unfold tickS
  have h1 : inB (capD (S 1 + nI (agesC S 8))) 0 99999 := capD_ok (by
    have a := o.2.1
    have b := agesC_le S 8
    have c := nI_pos' (n := agesC S 8) (by omega)
    have d : nI (agesC S 8) ≤ 8 := nI_le b (by decide)
    unfold inB at *
    grind)
  have h0 : inB (capD (S 0 + 1)) 0 99999 := capD_ok (by
    have a := o.1
    unfold inB at *
    grind)
  exact okRow_d (by decide) (fun _ => h0) (okRow_d (by decide) (fun _ => h1) (okRow_ages o 8 (by decide)))
theorem okRow_day {S : Row} (o : okRow S) : okRow (dayS S) := okRow_hens (okRow_tick o) 4 (by decide)
theorem okRow_dayN {S : Row} (o : okRow S) : ∀ n, okRow (dayN S n)
  | 0 => o
  | n + 1 => okRow_day (okRow_dayN o n)
