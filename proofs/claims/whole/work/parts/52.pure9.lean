/-! ===== the model's sheets, tape, image: how a change shows ===== -/
def shM (M : Mem) : Row × Row × (Nat → Row) := (cut 4 (M 52), cut 4 (M 53), fun s => if s < 4 then cut 40 (fun i => M 54 (40 * s + i)) else fun _ => 0)
theorem aW_zM {M : Mem} {s : Nat} (h : ¬ s < 4) : aW (aM M) s = 0 := if_neg h
theorem aN_zM {M : Mem} {s : Nat} (h : ¬ s < 4) : aN (aM M) s = 0 := if_neg h
theorem aX_zM {M : Mem} {s i : Nat} (h : ¬ s < 4 ∨ ¬ i < 40) : aX (aM M) s i = 0 := by
  show (if s < 4 then cut 40 (fun i => M 54 (40 * s + i)) else fun _ => 0) i = 0
  by_cases q : s < 4
  · rw [if_pos q]; exact if_neg (h.resolve_left (fun z => z q))
  · rw [if_neg q]
theorem shM_of {M : Mem} {W N : Row} {X : Nat → Row} (h1 : ∀ s, s < 4 → M 52 s = W s) (h2 : ∀ s, s < 4 → M 53 s = N s) (h3 : ∀ s i, s < 4 → i < 40 → M 54 (40 * s + i) = X s i)
    (z : ∀ s, ¬ s < 4 → W s = 0 ∧ N s = 0) (zx : ∀ s i, ¬ s < 4 ∨ ¬ i < 40 → X s i = 0) : shM M = (W, N, X) := by
  unfold shM
  refine Prod.ext ?_ (Prod.ext ?_ ?_)
  · funext s; show cut 4 (M 52) s = W s; unfold cut
    by_cases q : s < 4
    · rw [if_pos q]; exact h1 s q
    · rw [if_neg q]; exact (z s q).1.symm
  · funext s; show cut 4 (M 53) s = N s; unfold cut
    by_cases q : s < 4
    · rw [if_pos q]; exact h2 s q
    · rw [if_neg q]; exact (z s q).2.symm
  · funext s i
    show (if s < 4 then cut 40 (fun i => M 54 (40 * s + i)) else fun _ => 0) i = X s i
    by_cases q : s < 4
    · rw [if_pos q]; unfold cut
      by_cases r : i < 40
      · rw [if_pos r]; exact h3 s i q r
      · rw [if_neg r]; exact (zx s i (Or.inr r)).symm
    · rw [if_neg q]; exact (zx s i (Or.inl q)).symm
theorem aM_W {M M' : Mem} (hs : same [52, 53, 54, 55] M M') : aM M' = wW (aM M) (shM M') := by
  have hh : ∀ k, k < 52 → M' k = M k := fun k hk => hs k (by simp; omega)
  unfold aM wW
  rw [vm_same (hh 41 (by decide)), hh 40 (by decide), hh 42 (by decide), hh 44 (by decide), hh 47 (by decide)]
  rfl
theorem sh_M {M M1 : Mem} {r : Int32} {W : Row × Row × (Nat → Row)} {P : Int32 × Abs} (h : P = (r, wW (aM M) W)) (hv : shM M1 = W) (hs : same [52, 53, 54, 55] M M1) : (r, aM M1) = P ∧ sameM M M1 := ⟨by rw [h, aM_W hs, hv], hs.Mo (by decide)⟩
theorem shm_num {M M1 : Mem} {t : Nat} {X : Nat → Row} (ht : t < 4) (hX : ∀ u, ¬ u = t → X u = aX (aM M) u) (h1 : ∀ i, i < 40 → M1 54 (40 * t + i) = X t i) (h2 : ∀ j, (j < 40 * t ∨ 40 * t + 40 ≤ j) → M1 54 j = M 54 j) (hz : ∀ i, ¬ i < 40 → X t i = 0) (hs : same [54, 55] M M1) :
    shM M1 = (aW (aM M), aN (aM M), X) := by
  refine shM_of (fun u hu => ?_) (fun u hu => ?_) (fun u i hu hi => ?_) (fun u hu => ⟨aW_zM hu, aN_zM hu⟩) (fun u i hu => ?_)
  · rw [aW_M hu, hs 52 (by decide)]
  · rw [aN_M hu, hs 53 (by decide)]
  · by_cases q : u = t
    · subst q; exact h1 i hi
    · rw [hX u q, aX_M hu hi, h2 _ (by omega)]
  · by_cases q : u = t
    · subst q; exact hz i (hu.resolve_left (fun z => z ht))
    · rw [hX u q]; exact aX_zM hu
theorem shm_new {M M1 : Mem} {s : Nat} {b v : Int32} (hs : s < 4) (h1 : M1 52 = upd (M 52) s b) (h2 : M1 53 = upd (M 53) s v) (h3 : ∀ i, i < 40 → M1 54 (40 * s + i) = 0) (h4 : ∀ j, (j < 40 * s ∨ 40 * s + 40 ≤ j) → M1 54 j = M 54 j) :
    shM M1 = (upd (aW (aM M)) s b, upd (aN (aM M)) s v, fun t => if t = s then fun _ => 0 else aX (aM M) t) := by
  refine shM_of (fun t ht => ?_) (fun t ht => ?_) (fun t i ht hi => ?_) (fun t ht => ⟨?_, ?_⟩) (fun t i ht => ?_)
  · rw [h1]
    by_cases q : t = s
    · subst q; rw [pk_us, pk_us]
    · rw [pk_un q, pk_un q, aW_M ht]
  · rw [h2]
    by_cases q : t = s
    · subst q; rw [pk_us, pk_us]
    · rw [pk_un q, pk_un q, aN_M ht]
  · by_cases q : t = s
    · subst q; rw [h3 i hi, if_pos rfl]
    · rw [if_neg q, aX_M ht hi, h4 _ (by omega)]
  · rw [pk_un (by omega)]; exact aW_zM ht
  · rw [pk_un (by omega)]; exact aN_zM ht
  · by_cases q : t = s
    · rw [if_pos q]
    · rw [if_neg q]; exact aX_zM ht
theorem aM_T {M M' : Mem} {b : Row} {n : Int32} (hb : cut 120 (M' 47) = b) (hn : M' 40 8 = n) (h3 : M' 40 3 = M 40 3) (hs : same [40, 47] M M') : aM M' = wT (aM M) (b, n) := by
  have hh : ∀ k, 41 ≤ k → ¬ k = 47 → M' k = M k := fun k hk h2 => hs k (by simp; omega)
  unfold aM wT
  rw [vm_same (hh 41 (by decide) (by decide)), h3, hh 42 (by decide) (by decide), hh 44 (by decide) (by decide), hb, hn, hh 52 (by decide) (by decide), hh 53 (by decide) (by decide), hh 54 (by decide) (by decide)]
theorem ta_M {M M1 : Mem} {r : Int32} {T : Row × Int32} {P : Int32 × Abs} (h : P = (r, wT (aM M) T)) (hb : cut 120 (M1 47) = T.1) (hn : M1 40 8 = T.2) (h3 : M1 40 3 = M 40 3) (hs : same [40, 47] M M1) : (r, aM M1) = P ∧ sameM M M1 := ⟨by rw [h, aM_T hb hn h3 hs], hs.Mo (by decide)⟩
theorem okL_M {M : Mem} (oa : okA (aM M)) : inB (M 40 8) 0 120 := oa.2.2.1.1
theorem aK_M {M : Mem} : aK (aM M) = if M 40 3 = 0 then none else some (cut 93 (M 42)) := rfl
theorem aM_K {M M' : Mem} {K : Option Row} (hK : (if M' 40 3 = 0 then none else some (cut 93 (M' 42))) = K) (h8 : M' 40 8 = M 40 8) (hs : same [40, 42] M M') : aM M' = wK (aM M) K := by
  have hh : ∀ k, 41 ≤ k → ¬ k = 42 → M' k = M k := fun k hk h2 => hs k (by simp; omega)
  unfold aM wK
  rw [vm_same (hh 41 (by decide) (by decide)), hK, h8, hh 44 (by decide) (by decide), hh 47 (by decide) (by decide), hh 52 (by decide) (by decide), hh 53 (by decide) (by decide), hh 54 (by decide) (by decide)]
theorem im_M {M M1 : Mem} {r : Int32} {K : Option Row} {P : Int32 × Abs} (h : P = (r, wK (aM M) K)) (hK : (if M1 40 3 = 0 then none else some (cut 93 (M1 42))) = K) (h8 : M1 40 8 = M 40 8) (hs : same [40, 42] M M1) : (r, aM M1) = P ∧ sameM M M1 := ⟨by rw [h, aM_K hK h8 hs], hs.Mo (by decide)⟩
/-! the model's way up the kinds -/
def abvF (k : Int32) : Int32 := if k = 3 then 2 else if k = 4 then 3 else if k = 6 then 1 else 0
def abN (k : Int32) : Nat → Int32
  | 0 => k
  | i + 1 => abvF (abN k i)
theorem abN_4 : ∀ a, a < 7 → abN (nI a) 4 = 0 := by decide +kernel
theorem abN_z {k : Int32} {i : Nat} (h : abN k i = 0) : ∀ t, i ≤ t → abN k t = 0 := by
  intro t ht
  obtain ⟨d, rfl⟩ : ∃ d, t = i + d := ⟨t - i, by omega⟩
  clear ht
  induction d with
  | zero => exact h
  | succ d ih =>
    show abvF (abN k (i + d)) = 0
    rw [ih]; rfl
theorem und_mk : ∀ a, a < 7 → ∀ b, b < 7 → undb (nI a) (nI b) = (List.range 5).any (fun i => decide (abN (nI a) i = nI b)) := by decide +kernel
theorem und_mi {a b : Nat} (ha : a < 7) (hb : b < 7) : undB (nI a) (nI b) ↔ ∃ i, i < 5 ∧ abN (nI a) i = nI b := by
  rw [← undb_i, und_mk a ha b hb, List.any_eq_true]
  constructor
  · rintro ⟨i, hi, h⟩
    exact ⟨i, List.mem_range.mp hi, of_decide_eq_true h⟩
  · rintro ⟨i, hi, h⟩
    exact ⟨i, List.mem_range.mpr hi, decide_eq_true h⟩
theorem und_mno {a b i : Nat} (ha : a < 7) (hb : b < 7) (h : ∀ j, j < i → ¬ abN (nI a) j = nI b) (h0 : abN (nI a) i = 0) (h1 : ¬ abN (nI a) i = nI b) : ¬ undB (nI a) (nI b) := by
  rw [und_mi ha hb]
  rintro ⟨t, ht, e⟩
  rcases Nat.lt_or_ge t i with q | q
  · exact h t q e
  · exact h1 (by rw [h0, ← e, abN_z h0 t q])
/-! findings, one or all -/
def staN (F : Row) (w : Int32) : Nat → Int32
  | 0 => 0
  | i + 1 => staN F w i + if w = -1 ∨ w = nI i then F i else 0
theorem sta_all (F : Row) {w : Int32} (h : w = -1) : ∀ i, staN F w i = fsum F i
  | 0 => rfl
  | i + 1 => by
    show staN F w i + _ = fsum F i + F i
    rw [sta_all F h i, if_pos (Or.inl h)]
theorem sta_one (F : Row) {a : Nat} (ha : a < 7) : ∀ i, i ≤ 7 → staN F (nI a) i = if a < i then F a else 0
  | 0, _ => by rw [if_neg (Nat.not_lt_zero a)]; rfl
  | i + 1, h => by
    show staN F (nI a) i + _ = _
    rw [sta_one F ha i (by omega)]
    have hn : ¬ nI a = -1 := fun z => by
      have := nI_pos (n := a) (by omega)
      rw [z] at this
      exact this (by decide)
    by_cases q : a = i
    · subst q
      rw [if_neg (Nat.lt_irrefl a), if_pos (Or.inr rfl), if_pos (Nat.lt_succ_self a), Int32.zero_add]
    · have hq : ¬ nI a = nI i := fun z => q ((nI_eq (by omega) (by omega)).mp z)
      rw [if_neg (show ¬ (nI a = -1 ∨ nI a = nI i) from fun z => z.elim hn hq), Int32.add_zero]
      by_cases c : a < i
      · rw [if_pos c, if_pos (show a < i + 1 by omega)]
      · rw [if_neg c, if_neg (show ¬ a < i + 1 by omega)]
def jdgL (N : Row) : Nat → Int32
  | 0 => 0
  | i + 1 => N i
