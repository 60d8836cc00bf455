/-! ===== how a change of the model's memory shows ===== -/
def SC1 : List Nat := [41, 43, 45, 46, 55]
theorem aM_S {M M' : Mem} {S' : Row} (hv : vm M' = S') (hs : same SC1 M M') : aM M' = wS (aM M) S' := by
  have hh : ∀ k, k = 40 ∨ k = 42 ∨ k = 44 ∨ (47 ≤ k ∧ k < 55) → M' k = M k := fun k hk => hs k (by simp [SC1]; omega)
  unfold aM wS
  rw [hv, hh 40 (by decide), hh 42 (by decide), hh 44 (by decide), hh 47 (by decide), hh 52 (by decide), hh 53 (by decide), hh 54 (by decide)]
theorem aM_0 {M M' : Mem} (hv : vm M' = vm M) (hs : same SC1 M M') : aM M' = aM M := (aM_S hv hs).trans rfl
theorem aM_F {M M' : Mem} {w : Nat} {x : Int32} (hw : w < 7) (hv : vm M' = vm M) (h44 : M' 44 = upd (M 44) w x) (hs : same (44 :: SC1) M M') : aM M' = wF (aM M) (upd (aF (aM M)) w x) := by
  have hh : ∀ k, k = 40 ∨ k = 42 ∨ (47 ≤ k ∧ k < 55) → M' k = M k := fun k hk => hs k (by simp [SC1]; omega)
  unfold aM wF aF
  rw [hv, hh 40 (by decide), hh 42 (by decide), h44, cut_upd hw, hh 47 (by decide), hh 52 (by decide), hh 53 (by decide), hh 54 (by decide)]
theorem SC1_Mo {M M' : Mem} (hs : same SC1 M M') : sameM M M' := hs.Mo (by decide)
theorem pu_M {M M1 : Mem} {r : Int32} {P : Int32 × Abs} (h : P = (r, aM M)) (hv : vm M1 = vm M) (hs : same SC1 M M1) : (r, aM M1) = P ∧ sameM M M1 := ⟨by rw [h, aM_0 hv hs], SC1_Mo hs⟩
theorem pu_M0 {M : Mem} {r : Int32} {P : Int32 × Abs} (h : P = (r, aM M)) : (r, aM M) = P ∧ sameM M M := ⟨h.symm, sameM.rf⟩
theorem st_M {M M1 : Mem} {r : Int32} {S : Row} {P : Int32 × Abs} (h : P = (r, wS (aM M) S)) (hv : vm M1 = S) (hs : same SC1 M M1) : (r, aM M1) = P ∧ sameM M M1 := ⟨by rw [h, aM_S hv hs], SC1_Mo hs⟩
theorem fi_M {M M0 M1 : Mem} {r x : Int32} {k : Nat} {P : Int32 × Abs} (h : P = noA (aM M) k) (h1 : r = -1000001 - x ∧ M1 = up M0 44 k (M0 44 k + 1)) (hx : x = nI k) (hk : k < 7) (hv : vm M0 = vm M) (hs : same SC1 M M0) : (r, aM M1) = P ∧ sameM M M1 := by
  obtain ⟨h1, h2⟩ := h1
  have e44 : M0 44 = M 44 := hs 44 (by decide)
  have hv1 : vm M1 = vm M := by rw [h2, vm_same (up_n (by decide)), hv]
  rw [h]
  refine ⟨?_, ?_⟩
  · have e := aM_F (M := M) (M' := M1) (w := k) (x := M 44 k + 1) hk hv1 (by rw [h2, up_s, e44]) ((hs.mono (fun k hk => List.mem_cons_of_mem _ hk)).tr (by rw [h2]; exact same.up (by simp)))
    rw [e, h1, hx]
    unfold noA
    rw [show aF (aM M) k = M 44 k from cut_at hk]
  · refine (SC1_Mo hs).tr' ?_
    rw [h2]
    exact (same.up (L := [44]) (by simp)).Mo (by decide)
/-- laid aside, thought, laid back -/
theorem back_vm {M Ma M1 M2 : Mem} (hA : ∀ k, k < 93 → Ma 43 k = M 41 k) (hs : same [41] Ma M1) (hB : ∀ k, k < 93 → M2 41 k = M1 43 k) : vm M2 = vm M := by
  funext k
  unfold vm
  by_cases q : k < 93
  · rw [if_pos q, if_pos q, hB k q, hs 43 (by decide), hA k q]
  · rw [if_neg q, if_neg q]
theorem in3 {w : Int32} (h : 0 ≤ w ∧ w ≤ 3) : tn w < 4 ∧ w = nI (tn w) := inB_tn (n := 3) (by decide) h
theorem tkM0 {w v : Int32} (h : 0 ≤ w ∧ w ≤ 3) : takesP 0 w v ↔ (if w = 1 then 1 else 0) ≤ v ∧ v ≤ (if w = 0 then 6 else if w = 3 then 3 else 99) := by
  obtain ⟨h1, h2⟩ := in3 h
  rw [h2]
  generalize tn w = a at h1
  rcases (show a = 0 ∨ a = 1 ∨ a = 2 ∨ a = 3 by omega) with rfl | rfl | rfl | rfl
  · exact tk_0 (j := 0) (f := 0) rfl rfl (by decide)
  · exact tk_0 (j := 0) (f := 1) rfl rfl (by decide)
  · exact tk_0 (j := 0) (f := 2) rfl rfl (by decide)
  · exact tk_0 (j := 0) (f := 3) rfl rfl (by decide)
theorem tkM1 {w v : Int32} (h : 0 ≤ w ∧ w ≤ 3) : takesP 1 w v ↔ (if w = 2 then 1 else 0) ≤ v ∧ v ≤ (if w = 0 then 30 else if w = 1 then 6 else if w = 2 then 99 else 3) := by
  obtain ⟨h1, h2⟩ := in3 h
  rw [h2]
  generalize tn w = a at h1
  rcases (show a = 0 ∨ a = 1 ∨ a = 2 ∨ a = 3 by omega) with rfl | rfl | rfl | rfl
  · exact tk_0 (j := 1) (f := 0) rfl rfl (by decide)
  · exact tk_0 (j := 1) (f := 1) rfl rfl (by decide)
  · exact tk_0 (j := 1) (f := 2) rfl rfl (by decide)
  · exact tk_0 (j := 1) (f := 3) rfl rfl (by decide)
theorem tkM2 {w v : Int32} (h : 0 ≤ w ∧ w ≤ 3) : takesP 2 w v ↔ (if w = 3 then -9999 else 0) ≤ v ∧ v ≤ (if w = 0 then 999 else if w = 1 then 99999 else if w = 2 then 99 else 9999) := by
  obtain ⟨h1, h2⟩ := in3 h
  rw [h2]
  generalize tn w = a at h1
  rcases (show a = 0 ∨ a = 1 ∨ a = 2 ∨ a = 3 by omega) with rfl | rfl | rfl | rfl
  · exact tk_0 (j := 2) (f := 0) rfl rfl (by decide)
  · exact tk_0 (j := 2) (f := 1) rfl rfl (by decide)
  · exact tk_0 (j := 2) (f := 2) rfl rfl (by decide)
  · exact tk_0 (j := 2) (f := 3) rfl rfl (by decide)
theorem tk_in {j : Nat} {w v : Int32} (h : takesP j w v) : 0 ≤ w ∧ w ≤ 3 := by have := h.1; grind
/-- how long an egg lasts -/
theorem lasts_eq {k a : Int32} (ha : inB a 0 99) : nI (fstN (fun i => staysP k a (nI i)) 100) = if 1 < keepB k - a + 1 then keepB k - a + 1 else 1 := by
  have qk := inB_tn (n := 60) (by decide) (keepB_le k)
  have qa := inB_tn (n := 99) (by decide) ha
  rw [qk.2, qa.2]
  generalize hK : tn (keepB k) = K at *
  generalize hA : tn a = A at *
  have hc : ∀ i, i < 101 → (staysP k (nI A) (nI i) ↔ i = 0 ∨ A + i ≤ K) := by
    intro i hi
    unfold staysP
    rw [qk.2, nI_add, show (0 : Int32) = nI 0 from rfl, nI_ltI (by decide) (by omega), nI_ltI (by omega) (by omega)]
    omega
  by_cases q : A + 1 ≤ K
  · have e : nI K - nI A + 1 = nI (K - A + 1) := by
      have : nI K = nI (K - A) + nI A := by rw [nI_add]; congr 1; omega
      rw [this, Int32.add_sub_cancel]; exact nI_add _ 1
    rw [e, if_pos (show (1 : Int32) < nI (K - A + 1) from (nI_ltI (a := 1) (b := K - A + 1) (by decide) (by omega)).mpr (by omega))]
    rw [fstN_hit (i := K - A + 1) (fun e he => (hc e (by omega)).mpr (by omega)) (fun z => by have := (hc _ (by omega)).mp z; omega) (by omega)]
  · have e : ¬ 1 < nI K - nI A + 1 := by
      have h1 : inB (nI K) 0 60 := inB_nI (m := 60) (by decide) (by omega)
      have h2 : inB (nI A) 0 99 := inB_nI (m := 99) (by decide) (by omega)
      have h3 : nI K ≤ nI A := nI_le (by omega) (by omega)
      generalize nI K = p at *
      generalize nI A = r at *
      unfold inB at h1 h2
      clear hc qk qa ha
      grind
    rw [if_neg e, fstN_hit (i := 1) (fun e he => (hc e (by omega)).mpr (by omega)) (fun z => by have := (hc _ (by omega)).mp z; omega) (by decide)]
    rfl
