/-! ===== TEXTS in the class: its reader's fields ===== -/
def atV (T : Row) (L k : Nat) : Int32 := if k < L then T k else -1
def sIf (b : Int32) : Int32 := if 97 ≤ b ∧ b ≤ 122 then 1 else if 48 ≤ b ∧ b ≤ 57 then 2 else if b < 0 then 0 else if b = 59 then 3 else 4
def tpC (M : Mem) (T : Row) (L : Nat) : Prop := M 37 1 = nI L ∧ L ≤ 120 ∧ (∀ k, k < 120 → M 38 k = T k) ∧ ∀ k, k < 120 → inB (T k) 0 255
noncomputable def vlC (T : Row) (L u n : Nat) : Int32 := if srtN T L u = 2 then nI (numC T u n) else 0
def rdC (T : Row) (L : Nat) (M : Mem) (p : Nat) : Prop := p ≤ L ∧ M 56 2 = nI (sor T L p) ∧ M 56 3 = nI (stt T L p) ∧ M 56 4 = nI (enn T L p) ∧ M 56 5 = vlC T L (stt T L p) (enn T L p - stt T L p)
theorem tpC.of {M M' : Mem} {T : Row} {L : Nat} (h : tpC M T L) (h37 : M' 37 = M 37) (h38 : M' 38 = M 38) : tpC M' T L := by
  unfold tpC at h ⊢
  rw [h37, h38]; exact h
theorem rdC.of {M M' : Mem} {T : Row} {L p : Nat} (h : rdC T L M p) (h56 : M' 56 = M 56) : rdC T L M' p := by
  unfold rdC at h ⊢
  rw [h56]; exact h
theorem tpC.sm {M M' : Mem} {T : Row} {L : Nat} {Z : List Nat} (h : tpC M T L) (hs : same Z M M') (h37 : 37 ∉ Z) (h38 : 38 ∉ Z) : tpC M' T L := h.of (hs 37 h37) (hs 38 h38)
theorem dg_lt {x : Int32} (h : dgP x) : ¬ ltP x := fun z => absurd (Int32.le_trans z.1 h.2) (by decide)
theorem byt_lt {T : Row} {u : Nat} (h : inB (T u) 0 255) : ¬ T u < 0 := Int32.not_lt.mpr h.1
theorem sIf_at {T : Row} {L u : Nat} (hL : L ≤ 120) (hb : ∀ k, k < 120 → inB (T k) 0 255) : sIf (atV T L u) = nI (srtN T L u) := by
  unfold atV
  rcases srt_cases T L u with z | z | z | z | z
  · rw [if_neg (by omega), z.2]; decide
  · rw [if_pos z.1, z.2.2]; exact if_pos z.2.1
  · rw [if_pos z.1, z.2.2]
    exact (if_neg (dg_lt z.2.1)).trans (if_pos z.2.1)
  · rw [if_pos z.1, z.2.2, z.2.1]; decide
  · rw [if_pos z.1, z.2.2.2.2]
    exact (if_neg z.2.1).trans ((if_neg z.2.2.1).trans ((if_neg (byt_lt (hb u (by omega)))).trans (if_neg z.2.2.2.1)))
theorem at_bl {T : Row} {L u : Nat} : atV T L u = 32 ↔ u < L ∧ blP (T u) := by
  unfold atV blP
  by_cases z : u < L
  · rw [if_pos z]; exact ⟨fun y => ⟨z, y⟩, fun y => y.2⟩
  · rw [if_neg z]; exact ⟨fun y => absurd y (by decide), fun y => absurd y.1 z⟩
theorem fin_c {T : Row} {L p u i s : Nat} (hqe : stt T L p = u) (hs : srtN T L u = s) (hs3 : ¬ s = 3) (hs4 : ¬ s = 4) (hqi : u ≤ i) (hi : i ≤ L) (hall : ∀ k, u ≤ k → k < i → srtN T L k = s) (hx : i < L → ¬ srtN T L i = s) (h0 : s = 0 → i = u) : enn T L p = i := by
  have hle := srt_le T L u
  unfold enn enQ
  rw [hqe, hs]
  rcases (show s = 0 ∨ s = 1 ∨ s = 2 by omega) with rfl | rfl | rfl
  · exact (h0 rfl).symm
  · exact spn_hit hqi hi (fun k h1 h2 => (srt_is1 (hall k h1 h2)).2) (fun z y => hx z (srt_1 z y))
  · exact spn_hit hqi hi (fun k h1 h2 => (srt_is2 (hall k h1 h2)).2) (fun z y => hx z (srt_2 z (dg_lt y) y))
theorem fin_c3 {T : Row} {L p u s : Nat} (hqe : stt T L p = u) (hs : srtN T L u = s) (h : s = 3 ∨ s = 4) : enn T L p = u + 1 := by
  unfold enn enQ
  rw [hqe, hs]
  rcases h with rfl | rfl <;> rfl
theorem nI_subN {a b : Nat} (h : b ≤ a) : nI a - nI b = nI (a - b) := by
  have e : nI a = nI (a - b) + nI b := by rw [nI_add, show a - b + b = a by omega]
  rw [e, Int32.add_sub_cancel]
theorem numC_I {T : Row} {u n : Nat} (hd : dgP (T (u + n))) : (if (100000 : Int32) < nI (numC T u n) * 10 + T (u + n) - 48 then (100000 : Int32) else nI (numC T u n) * 10 + T (u + n) - 48) = nI (numC T u (n + 1)) := by
  have h9 := dgN_9 hd
  have hc := numC_le T u n
  have e : nI (numC T u n) * 10 + T (u + n) - 48 = nI (numC T u n * 10 + dgN (T (u + n))) := by
    conv => lhs; rw [h9.2]
    rw [show (10 : Int32) = nI 10 from rfl, pk_mul, nI_add, show (48 : Int32) = nI 48 from rfl, nI_subN (by omega)]
    congr 1
  rw [e, numC_S, show (100000 : Int32) = nI 100000 from rfl]
  by_cases z : numC T u n * 10 + dgN (T (u + n)) < 100000
  · rw [if_pos z, if_neg (fun y => by have := (nI_ltI (by decide) (by omega)).mp y; omega)]
  · rw [if_neg z]
    by_cases y : numC T u n * 10 + dgN (T (u + n)) = 100000
    · rw [if_neg (fun w => by have := (nI_ltI (by decide) (by omega)).mp w; omega), y]
    · rw [if_pos ((nI_ltI (by decide) (by omega)).mpr (by omega))]
theorem sor_is {T : Row} {L p k : Nat} {x : Int32} (hk : k < 2 ^ 31) (hx : x = nI (sor T L p)) (h : x = nI k) : sor T L p = k := by
  have := srt_le T L (stt T L p)
  exact (nI_eq (by unfold sor; omega) hk).mp (hx.symm.trans h)
noncomputable def kdI (T : Row) (L p : Nat) : Int32 := if kdN T L p < 7 then nI (kdN T L p) else -1
