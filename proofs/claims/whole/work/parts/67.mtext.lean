/-! ===== TEXTS in the model: its fields, its long value, its words ===== -/
def tpM (M : Mem) (T : Row) (L : Nat) : Prop := M 40 8 = nI L ∧ L ≤ 120 ∧ (∀ k, k < 120 → M 47 k = T k) ∧ ∀ k, k < 120 → inB (T k) 0 255
def lvM (M : Mem) : Int64 := mkL (M 40 12) (M 40 21)
def rdM (T : Row) (L : Nat) (M : Mem) (p : Nat) : Prop := p ≤ L ∧ M 40 9 = nI (sorM T L p) ∧ M 40 10 = nI (stt T L p) ∧ M 40 11 = nI (enn T L p) ∧ (lvM M).toInt = (valM T L p : Int)
def kp40 (M M' : Mem) : Prop := M' 40 3 = M 40 3 ∧ M' 40 8 = M 40 8
theorem kp40.rf {M : Mem} : kp40 M M := ⟨rfl, rfl⟩
theorem kp40.tr {M M1 M2 : Mem} (h1 : kp40 M M1) (h2 : kp40 M1 M2) : kp40 M M2 := ⟨h2.1.trans h1.1, h2.2.trans h1.2⟩
theorem kp40.u40 {M : Mem} {k : Nat} {x : Int32} (h : k ≠ 3 ∧ k ≠ 8) : kp40 M (up M 40 k x) := ⟨up_sn (fun z => h.1 z.symm), up_sn (fun z => h.2 z.symm)⟩
theorem kp40.ot {M : Mem} {a k : Nat} {x : Int32} (h : a ≠ 40) : kp40 M (up M a k x) := by
  have e : up M a k x 40 = M 40 := up_n (fun z => h z.symm)
  exact ⟨by rw [e], by rw [e]⟩
theorem kp40.of {L : List Nat} {M M' : Mem} (h : same L M M') (h2 : 40 ∉ L) : kp40 M M' := by
  have e := h 40 h2
  exact ⟨by rw [e], by rw [e]⟩
theorem upL_v {M : Mem} {v : Int64} : lvM (upL M v) = v := by
  show mkL (upd (upd (M 40) 12 (hiL v)) 21 (loL v) 12) (upd (upd (M 40) 12 (hiL v)) 21 (loL v) 21) = v
  exact mkL_eq v
theorem upL_40 {M : Mem} {v : Int64} : upL M v 40 = upd (upd (M 40) 12 (hiL v)) 21 (loL v) := upR_s
theorem upL_o {M : Mem} {v : Int64} {k : Nat} (h1 : k ≠ 12) (h2 : k ≠ 21) : upL M v 40 k = M 40 k := by rw [upL_40, pk_un h2, pk_un h1]
theorem upL_n {M : Mem} {v : Int64} {a : Nat} (h : a ≠ 40) : upL M v a = M a := upR_n h
theorem upL_same {M : Mem} {v : Int64} : same [40] M (upL M v) := same.upR (by simp)
theorem upL_kp {M : Mem} {v : Int64} : kp40 M (upL M v) := ⟨upL_o (by decide) (by decide), upL_o (by decide) (by decide)⟩
theorem lv_up {M : Mem} {k : Nat} {x : Int32} (h : k ≠ 12 ∧ k ≠ 21) : lvM (up M 40 k x) = lvM M := by
  unfold lvM
  rw [up_sn (fun z => h.1 z.symm), up_sn (fun z => h.2 z.symm)]
theorem tpM.of {M M' : Mem} {T : Row} {L : Nat} (h : tpM M T L) (hs : M' 47 = M 47) (hk : kp40 M M') : tpM M' T L := ⟨hk.2.trans h.1, h.2.1, by rw [hs]; exact h.2.2.1, h.2.2.2⟩
theorem rdM.of {M M' : Mem} {T : Row} {L p : Nat} (h : rdM T L M p) (hs : M' 40 = M 40) : rdM T L M' p := by
  unfold rdM lvM at h ⊢
  rw [hs]
  exact h
theorem i64_3 {v : Int64} {a c d : Nat} {x : Int32} {m s : Int64} (hv : v.toInt = (a : Int)) (hm : m.toInt = (c : Int)) (hs : s.toInt = (d : Int)) (hx : 0 ≤ x.toInt) (hb : a * c < 2 ^ 60) (hd : (d : Int) ≤ x.toInt) : (v * m + x.toInt64 - s).toInt = ((a * c : Nat) : Int) + (x.toInt - d) := by
  have hx2 := Int32.toInt_lt x
  have hac : ((a * c : Nat) : Int) = (a : Int) * c := Int.natCast_mul a c
  have h0 : (0 : Int) ≤ ((a * c : Nat) : Int) := Int.natCast_nonneg _
  have hb2 : ((a * c : Nat) : Int) < 2 ^ 60 := by omega
  rw [Int64.toInt_sub, Int64.toInt_add, Int64.toInt_mul, Int32.toInt_toInt64, hv, hm, hs, ← hac]
  rw [Int.bmod_eq_of_le (n := ((a * c : Nat) : Int)) (by omega) (by omega)]
  rw [Int.bmod_eq_of_le (n := ((a * c : Nat) : Int) + x.toInt) (by omega) (by omega)]
  rw [Int.bmod_eq_of_le (by omega) (by omega)]
  omega
theorem lt_step {v : Int64} {a : Nat} {x : Int32} (hv : v.toInt = (a : Int)) (ha : a ≤ 9999999999999) (hx : ltP x) : (v * 27 + x.toInt64 - 96).toInt = ((a * 27 + lrN x : Nat) : Int) := by
  have h := lrN_26 hx
  have e : x.toInt = ((lrN x + 96 : Nat) : Int) := by
    have := nI_toInt (n := lrN x + 96) (by omega)
    rw [← h.2.2] at this
    exact this
  rw [i64_3 (a := a) (c := 27) (d := 96) hv (by decide) (by decide) (by omega) (by omega) (by omega), e]
  omega
theorem dg_step {v : Int64} {a : Nat} {x : Int32} (hv : v.toInt = (a : Int)) (ha : a ≤ 99999) (hx : dgP x) : (v * 10 + x.toInt64 - 48).toInt = ((a * 10 + dgN x : Nat) : Int) := by
  have h := dgN_9 hx
  have e : x.toInt = ((dgN x + 48 : Nat) : Int) := by
    have := nI_toInt (n := dgN x + 48) (by omega)
    rw [← h.2] at this
    exact this
  rw [i64_3 (a := a) (c := 10) (d := 48) hv (by decide) (by decide) (by omega) (by omega) (by omega), e]
  omega
theorem le_i64 {v k : Int64} {a b : Nat} (hv : v.toInt = (a : Int)) (hk : k.toInt = (b : Int)) : lg_cmp v k ≤ 0 ↔ a ≤ b := by
  rw [lg_cmp_le, Int64.le_iff_toInt_le, hv, hk]
  omega
theorem eq_i64 {v k : Int64} {a b : Nat} (hv : v.toInt = (a : Int)) (hk : k.toInt = (b : Int)) : lg_cmp v k = 0 ↔ a = b := by
  rw [lg_cmp_eq, ← Int64.toInt_inj, hv, hk]
  omega
theorem dgS_go {T : Row} {q n : Nat} (h : ¬ dgS T q n ≤ 9999999999999) : dgS T q (n + 1) = dgS T q n := if_pos (by omega)
theorem dgS_ad {T : Row} {q n : Nat} (h : dgS T q n ≤ 9999999999999) : dgS T q (n + 1) = dgS T q n * 27 + lrN (T (q + n)) := if_neg (by omega)
theorem numS_go {T : Row} {q n : Nat} (h : ¬ numS T q n ≤ 99999) : numS T q (n + 1) = numS T q n := if_pos (by omega)
theorem numS_ad {T : Row} {q n : Nat} (h : numS T q n ≤ 99999) : numS T q (n + 1) = numS T q n * 10 + dgN (T (q + n)) := if_neg (by omega)
theorem val_1 {T : Row} {L p : Nat} (h : sor T L p = 1) : valM T L p = dgS T (stt T L p) (enn T L p - stt T L p) := if_pos h
theorem val_2 {T : Row} {L p : Nat} (h : sor T L p = 2) : valM T L p = numS T (stt T L p) (enn T L p - stt T L p) := (if_neg (fun z => absurd (h.symm.trans z) (by decide))).trans (if_pos h)
theorem val_0 {T : Row} {L p : Nat} (h1 : ¬ sor T L p = 1) (h2 : ¬ sor T L p = 2) : valM T L p = 0 := (if_neg h1).trans (if_neg h2)
theorem sorM_n {T : Row} {L p : Nat} (h : ¬ sor T L p = 2) : sorM T L p = sor T L p := if_neg h
theorem sorM_le (T : Row) (L p : Nat) : sorM T L p ≤ 4 := by
  have := srt_le T L (stt T L p)
  unfold sorM sor
  split <;> (try split) <;> omega
theorem sorM_1 {T : Row} {L p : Nat} : sorM T L p = 1 ↔ sor T L p = 1 := by
  unfold sorM
  by_cases h : sor T L p = 2
  · rw [if_pos h, h]; split <;> omega
  · rw [if_neg h]
theorem sorM_0 {T : Row} {L p : Nat} : sorM T L p = 0 ↔ sor T L p = 0 := by
  unfold sorM
  by_cases h : sor T L p = 2
  · rw [if_pos h, h]; split <;> omega
  · rw [if_neg h]
theorem sorM_3 {T : Row} {L p : Nat} : sorM T L p = 3 ↔ sor T L p = 3 := by
  unfold sorM
  by_cases h : sor T L p = 2
  · rw [if_pos h, h]; split <;> omega
  · rw [if_neg h]
theorem sorM_2 {T : Row} {L p : Nat} : sorM T L p = 2 ↔ sor T L p = 2 ∧ numP T L p ≤ 99999 := by
  unfold sorM
  by_cases h : sor T L p = 2
  · rw [if_pos h]
    by_cases h2 : 99999 < numP T L p
    · rw [if_pos h2]; omega
    · rw [if_neg h2]; omega
  · rw [if_neg h]; omega
theorem sorM_is {T : Row} {L p : Nat} {x : Int32} {k : Nat} (hk : k < 2 ^ 31) (hx : x = nI (sorM T L p)) : x = nI k ↔ sorM T L p = k := by
  have := sorM_le T L p
  rw [hx]
  exact nI_eq (by omega) hk
theorem numS_P {T : Row} {L p : Nat} (h2 : numP T L p ≤ 99999) : numS T (stt T L p) (enn T L p - stt T L p) = numP T L p := (numS_N T _ _).1 h2
/-- a token's end, by its sort -/
theorem enn_1 {T : Row} {L p : Nat} (h : sor T L p = 1) : enn T L p = spn ltP T L (stt T L p) := by
  have h2 : srtN T L (stt T L p) = 1 := h
  unfold enn enQ
  rw [h2]; rfl
theorem enn_2 {T : Row} {L p : Nat} (h : sor T L p = 2) : enn T L p = spn dgP T L (stt T L p) := by
  have h2 : srtN T L (stt T L p) = 2 := h
  unfold enn enQ
  rw [h2]; rfl
theorem enn_0 {T : Row} {L p : Nat} (h : sor T L p = 0) : enn T L p = stt T L p := by
  have h2 : srtN T L (stt T L p) = 0 := h
  unfold enn enQ
  rw [h2]; rfl
theorem enn_3 {T : Row} {L p : Nat} (h : sor T L p = 3 ∨ sor T L p = 4) : enn T L p = stt T L p + 1 := by
  have h2 : srtN T L (stt T L p) = 3 ∨ srtN T L (stt T L p) = 4 := h
  unfold enn enQ
  rcases h2 with h2 | h2 <;> (rw [h2]; rfl)
/-! the model's words: eight letters each, blanks behind -/
def padW (w k : Nat) : Int32 := if k < wLn w then wBy w k else 32
def pdg (w : Nat) : Nat → Nat
  | 0 => 0
  | k + 1 => if padW w k = 32 then pdg w k else pdg w k * 27 + lrN (padW w k)
theorem pdg_8 : ∀ w, w < 13 → pdg w 8 = dgW w (wLn w) := by decide +kernel
theorem pdg_le : ∀ w, w < 13 → ∀ k, k < 9 → pdg w k ≤ 9999999999999 := by decide +kernel
theorem pad_l : ∀ w, w < 13 → ∀ k, k < 8 → padW w k = 32 ∨ (97 ≤ padW w k ∧ padW w k ≤ 122) := by decide +kernel
def okLt (M : Mem) : Prop := (∀ w, w < 7 → ∀ k, k < 8 → M 48 (8 * w + k) = padW w k) ∧ (∀ w, w < 2 → ∀ k, k < 8 → M 49 (8 * w + k) = padW (9 + w) k) ∧ (∀ w, w < 2 → ∀ k, k < 8 → M 50 (8 * w + k) = padW (11 + w) k) ∧ ∀ w, w < 2 → ∀ k, k < 8 → M 51 (8 * w + k) = padW (7 + w) k
theorem okLt.of {L : List Nat} {M M' : Mem} (h : okLt M) (hs : same L M M') (hL : L.all (fun k => decide (k < 48 ∨ 52 ≤ k)) = true) : okLt M' := by
  have hn : ∀ k, 48 ≤ k → k < 52 → M' k = M k := fun k h1 h2 => hs k (fun z => by
    have := List.all_eq_true.mp hL k z
    simp at this
    omega)
  unfold okLt
  rw [hn 48 (by decide) (by decide), hn 49 (by decide) (by decide), hn 50 (by decide) (by decide), hn 51 (by decide) (by decide)]
  exact h
noncomputable def whI (T : Row) (L p b : Nat) : Nat → Int32
  | 0 => -1
  | n + 1 => ifp (isW T L p (b + n)) (nI n) (whI T L p b n)
theorem whI_no {T : Row} {L p b : Nat} : ∀ n, (∀ w, w < n → ¬ isW T L p (b + w)) → whI T L p b n = -1
  | 0, _ => rfl
  | n + 1, h => (ifp_f (h n (Nat.lt_succ_self n))).trans (whI_no n (fun w hw => h w (by omega)))
theorem whI_is {T : Row} {L p b w : Nat} (h : isW T L p (b + w)) : ∀ n, w < n → b + n ≤ 13 → whI T L p b n = nI w
  | n + 1, h1, h2 => by
    show ifp (isW T L p (b + n)) (nI n) (whI T L p b n) = nI w
    by_cases q : isW T L p (b + n)
    · rw [ifp_t q]
      have := isW_one (by omega) (by omega) h q
      rw [show n = w by omega]
    · rw [ifp_f q]
      rcases Nat.lt_or_ge w n with z | z
      · exact whI_is h n z (by omega)
      · exact absurd (show isW T L p (b + n) by rw [show n = w by omega]; exact h) q
theorem whI_iff {T : Row} {L p b n w : Nat} (hn : b + n ≤ 13) (hw : w < n) : whI T L p b n = nI w ↔ isW T L p (b + w) := by
  refine ⟨fun h => ?_, fun h => whI_is h n hw hn⟩
  by_cases q : ∃ v, v < n ∧ isW T L p (b + v)
  · obtain ⟨v, hv, h2⟩ := q
    rw [whI_is h2 n hv hn] at h
    have := (nI_eq (a := v) (b := w) (by omega) (by omega)).mp h
    rw [← this]; exact h2
  · rw [whI_no n (fun v hv z => q ⟨v, hv, z⟩)] at h
    exact absurd (show nI w < 0 by rw [← h]; decide) (nI_pos (by omega))
theorem whI_ge {T : Row} {L p b n : Nat} (hn : b + n ≤ 13) (h : ¬ whI T L p b n < 0) : ∃ w, w < n ∧ isW T L p (b + w) ∧ whI T L p b n = nI w := by
  by_cases q : ∃ v, v < n ∧ isW T L p (b + v)
  · obtain ⟨v, hv, h2⟩ := q
    exact ⟨v, hv, h2, whI_is h2 n hv hn⟩
  · rw [whI_no n (fun v hv z => q ⟨v, hv, z⟩)] at h
    exact absurd (show (-1 : Int32) < 0 by decide) h
theorem whI_lt {T : Row} {L p b n : Nat} (hn : b + n ≤ 13) (h : whI T L p b n < 0) : ∀ w, w < n → ¬ isW T L p (b + w) := fun w hw z => by
  rw [whI_is z n hw hn] at h
  exact nI_pos (by omega) h
/-- a boolean answer and what became of the row -/
def rsO (r : Int32) (o : Option Row) (S : Row) : Prop := (r = 0 ∧ o = none) ∨ (r = 1 ∧ o = some S)
theorem upd_id {S : Row} {k : Nat} : upd S k (S k) = S := by
  funext a
  by_cases h : a = k
  · rw [h, pk_us]
  · rw [pk_un h]
theorem putE_ag {S : Row} {e : Nat} {k s a n x : Int32} : upd (putE S e k s a n) (3 + 5 * e + 2) x = putE S e k s x n := by
  funext j
  by_cases h : j = 3 + 5 * e + 2
  · rw [h, pk_us]; unfold putE; rw [if_neg (by omega), if_neg (by omega), if_pos rfl]
  · rw [pk_un h]; unfold putE; rw [if_neg h, if_neg h]
theorem putE_ne {S : Row} {e : Nat} {k s a n x : Int32} : upd (putE S e k s a n) (3 + 5 * e + 3) x = putE S e k s a x := by
  funext j
  by_cases h : j = 3 + 5 * e + 3
  · rw [h, pk_us]; unfold putE; rw [if_neg (by omega), if_neg (by omega), if_neg (by omega), if_pos rfl]
  · rw [pk_un h]; unfold putE; rw [if_neg h, if_neg h]
/-- how the model's state shows behind a text -/
theorem aM_X {M M' : Mem} {S : Row} {n : Int32} (hv : vm M' = S) (hn : M' 40 8 = n) (h3 : M' 40 3 = M 40 3) (hs : same [40, 41, 43] M M') : aM M' = wT (wS (aM M) S) (aT (aM M), n) := by
  unfold aM wT wS aT
  rw [hv, hn, h3, hs 42 (by decide), hs 44 (by decide), hs 47 (by decide), hs 52 (by decide), hs 53 (by decide), hs 54 (by decide)]
