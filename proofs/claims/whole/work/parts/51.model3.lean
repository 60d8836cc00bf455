/-! ===== contracts: the model's calls, second part ===== -/
theorem eveN_r (S : Row) (h n : Nat) : ∀ i, 1 ≤ eveN S h n i ∧ eveN S h n i ≤ i + 1
  | 0 => ⟨Nat.le_refl 1, Nat.le_refl 1⟩
  | i + 1 => by
    have q := eveN_r S h n i
    unfold eveN
    split <;> omega
noncomputable def bstN (S : Row) (h n : Nat) : Nat → Nat
  | 0 => 0
  | i + 1 => eveN S h n i
noncomputable def mstN (S : Row) (h n : Nat) : Nat → Int32
  | 0 => 0
  | i + 1 => eveM S h n (eveN S h n i)
theorem ev_more {S : Row} {h n i : Nat} (hi : i < 30) (hm : nI (bstN S h n i) = 0 ∨ mstN S h n i < eveM S h n (i + 1)) : bstN S h n (i + 1) = i + 1 ∧ mstN S h n (i + 1) = eveM S h n (i + 1) := by
  cases i with
  | zero => exact ⟨rfl, rfl⟩
  | succ k =>
    have hk := eveN_r S h n k
    have e : eveN S h n (k + 1) = k + 2 := if_pos (hm.resolve_left (fun z => by have := (nI_eq (a := eveN S h n k) (b := 0) (by omega) (by decide)).mp z; omega))
    exact ⟨e, congrArg (fun z => eveM S h n z) e⟩
theorem ev_less {S : Row} {h n i : Nat} (hi : i < 30) (hm : ¬ (nI (bstN S h n i) = 0 ∨ mstN S h n i < eveM S h n (i + 1))) : bstN S h n (i + 1) = bstN S h n i ∧ mstN S h n (i + 1) = mstN S h n i := by
  cases i with
  | zero => exact absurd (Or.inl rfl) hm
  | succ k =>
    have e : eveN S h n (k + 1) = eveN S h n k := if_neg (fun z => hm (Or.inr z))
    exact ⟨e, congrArg (fun z => eveM S h n z) e⟩
theorem aW_M {M : Mem} {s : Nat} (h : s < 4) : aW (aM M) s = M 52 s := if_pos h
theorem aN_M {M : Mem} {s : Nat} (h : s < 4) : aN (aM M) s = M 53 s := if_pos h
theorem aX_M {M : Mem} {s i : Nat} (h : s < 4) (hi : i < 40) : aX (aM M) s i = M 54 (40 * s + i) := by
  show (if s < 4 then cut 40 (fun i => M 54 (40 * s + i)) else fun _ => 0) i = _
  rw [if_pos h]
  exact if_pos hi
theorem okSh_M {M : Mem} (oa : okA (aM M)) {s : Nat} (hs : s < 4) : inB (M 53 s) 0 40 := by
  have := (oa.2.2.2 s hs).2.1
  rwa [show (aM M).2.2.2.2.2.1 s = M 53 s from aN_M hs] at this
def rm_X8_when : Room := { frames := 5, cells := 0, slots := 0, locals := 112 }
set_option maxRecDepth 100000 in
set_option maxHeartbeats 4000000 in
theorem c_X8_when (l : Launch) (g : Gp) (M : Mem) (oa : okA (aM M))  (v : Int32) : Ki l g yX8_when cX8_when 4 .int rm_X8_when [.ref (gad g (40)), .int (v)] M (fun r M' => (r, aM M') = F_when v (aM M) ∧ sameM M M') := by
  refine Ki.of rfl rfl rfl (fun q C hret hcs => ?_)
  have o : okRow (vm M) := oa.1
  refine x_iload_n C dX8_when_0 rfl ?_
  refine x_iconst (v := 0) C dX8_when_1 (by decide) ?_
  refine x_sipush (v := 9999) C dX8_when_2 (by decide) ?_
  refine x_csB C (c_X8_in1 l g _ _ _ _ ) o_X8_in1 mw_X8_59 rfl rfl rfl rfl hcs dX8_when_5 (fun c5 => ?_) (fun c5 => ?_)
  · skip
    refine x_if_neT (tgt := 17) C dX8_when_8 (by decide) (by decide) ?_
    refine x_aload_n C dX8_when_17 rfl ?_
    refine x_cvv C (k := 40) (c_X8_setsAside l g _ ) o_X8_setsAside mw_X8_152 rfl (C.lt rfl) rcv_40 rfl rfl rfl hcs dX8_when_18 (fun Ma ha => ?_)
    have hva : vm Ma = vm M := vm_same (ha.2 41 (by decide))
    refine x_iconst (v := 0) C dX8_when_21 (by decide) ?_
    refine x_istore_n C dX8_when_22 rfl ?_
    refine x_iconst (v := 0) C dX8_when_23 (by decide) ?_
    refine x_istore_n C dX8_when_24 rfl ?_
    refine up_to 101 (P := fun i => ∀ M1 : Mem, vm M1 = dayN (vm M) i → same [41] Ma M1 → (∀ j, j < i → allM (dayN (vm M) j) 8 < v) → X (kmk l rm_X8_when g 4 q) M1 25 [some (.ref (gad g (40))), some (.int (v)), some (.int (nI i)), some (.int (nI (dayC (vm M) i)))] []) (fun i hi ih M1 hv hs hst => ?_) 0 (by omega) Ma hva same.rf (fun j hj => absurd hj (by omega))
    refine x_iload_n C dX8_when_25 rfl ?_
    refine x_bipush (v := 100) C dX8_when_26 (by decide) ?_
    refine x_icmp_gt (tgt := 52) C dX8_when_28 (by decide) (fun c28 => ?_) (fun c28 => ?_)
    · skip
      have hlt : i = 101 := by have := c28; clear hret hcs C ih; exact lp_ge (N := 101) (by decide) hi (by grind [nI])
      refine x_aload_n C dX8_when_52 rfl ?_
      refine x_cvv C (k := 40) (c_X8_laysBack l g _ ) o_X8_laysBack mw_X8_155 rfl (C.lt rfl) rcv_40 rfl rfl rfl hcs dX8_when_53 (fun Mb hb => ?_)
      refine x_iload_n C dX8_when_56 rfl ?_
      refine x_bipush (v := 100) C dX8_when_57 (by decide) ?_
      refine x_icmp_le (tgt := 70) C dX8_when_59 (by decide) (fun c59 => ?_) (fun c59 => ?_)
      · skip
        have hl2 : i < 101 := by have := c59; clear hret hcs C ih; exact lp_lt (N := 101) (by decide) hi (by grind [nI])
        refine x_iload_n C dX8_when_70 rfl ?_
        refine hret _ _ _ _ dX8_when_71 rfl ?_
        first
          | (exfalso; omega)
          | (have eF : fstN (fun i => allM (dayN (vm M) i) 8 < v) 101 = i := fstN_hit hst cv hl2
             exact pu_M ((ifp_t c5).trans ((ifp_t (show fstN (fun i => allM (dayN (vm M) i) 8 < v) 101 < 101 by omega)).trans (congrArg (fun z => (nI z, aM M)) eF))) (back_vm ha.1 hs hb.1) ((ha.2.mono (by simp [SC1])).tr ((hs.mono (by simp [SC1])).tr (hb.2.mono (by simp [SC1])))))
      · skip
        have hl2 : i = 101 := by have := c59; clear hret hcs C ih; exact lp_ge (N := 101) (by decide) hi (by grind [nI])
        refine x_aload_n C dX8_when_62 rfl ?_
        refine x_iconst (v := 3) C dX8_when_63 (by decide) ?_
        refine x_cvi C (k := 40) (c_X8_no l g _ (k := 3) rfl (by decide) ) o_X8_no mw_X8_119 rfl (C.lt rfl) rcv_40 rfl rfl rfl hcs dX8_when_64 (fun rg M1 hg => ?_)
        refine x_goto (tgt := 71) C dX8_when_67 (by decide) ?_
        refine hret _ _ _ _ dX8_when_71 rfl ?_
        first
          | (exfalso; omega)
          | (subst hl2
             have eF : fstN (fun i => allM (dayN (vm M) i) 8 < v) 101 = 101 := fstN_all hst
             exact fi_M (k := 3) ((ifp_t c5).trans (ifp_f (show ¬ fstN (fun i => allM (dayN (vm M) i) 8 < v) 101 < 101 by omega))) hg rfl (by decide) (back_vm ha.1 hs hb.1) ((ha.2.mono (by simp [SC1])).tr ((hs.mono (by simp [SC1])).tr (hb.2.mono (by simp [SC1])))))
    · skip
      have hlt : i < 101 := by have := c28; clear hret hcs C ih; exact lp_lt (N := 101) (by decide) hi (by grind [nI])
      refine x_aload_n C dX8_when_31 rfl ?_
      refine x_cvE C (k := 40) (c_X8_allMinutes l g _ ) o_X8_allMinutes mw_X8_146 rfl (C.lt rfl) rcv_40 rfl rfl rfl hcs dX8_when_32 ?_
      refine x_iload_n C dX8_when_35 rfl ?_
      refine x_icmp_ge (tgt := 52) C dX8_when_36 (by decide) (fun c36 => ?_) (fun c36 => ?_)
      · skip
        have cv : ¬ allM (dayN (vm M) i) 8 < v := by rw [← hv]; exact Int32.not_lt.mpr c36
        refine x_aload_n C dX8_when_52 rfl ?_
        refine x_cvv C (k := 40) (c_X8_laysBack l g _ ) o_X8_laysBack mw_X8_155 rfl (C.lt rfl) rcv_40 rfl rfl rfl hcs dX8_when_53 (fun Mb hb => ?_)
        refine x_iload_n C dX8_when_56 rfl ?_
        refine x_bipush (v := 100) C dX8_when_57 (by decide) ?_
        refine x_icmp_le (tgt := 70) C dX8_when_59 (by decide) (fun c59 => ?_) (fun c59 => ?_)
        · skip
          have hl2 : i < 101 := by have := c59; clear hret hcs C ih; exact lp_lt (N := 101) (by decide) hi (by grind [nI])
          refine x_iload_n C dX8_when_70 rfl ?_
          refine hret _ _ _ _ dX8_when_71 rfl ?_
          first
            | (exfalso; omega)
            | (have eF : fstN (fun i => allM (dayN (vm M) i) 8 < v) 101 = i := fstN_hit hst cv hl2
               exact pu_M ((ifp_t c5).trans ((ifp_t (show fstN (fun i => allM (dayN (vm M) i) 8 < v) 101 < 101 by omega)).trans (congrArg (fun z => (nI z, aM M)) eF))) (back_vm ha.1 hs hb.1) ((ha.2.mono (by simp [SC1])).tr ((hs.mono (by simp [SC1])).tr (hb.2.mono (by simp [SC1])))))
        · skip
          have hl2 : i = 101 := by have := c59; clear hret hcs C ih; exact lp_ge (N := 101) (by decide) hi (by grind [nI])
          refine x_aload_n C dX8_when_62 rfl ?_
          refine x_iconst (v := 3) C dX8_when_63 (by decide) ?_
          refine x_cvi C (k := 40) (c_X8_no l g _ (k := 3) rfl (by decide) ) o_X8_no mw_X8_119 rfl (C.lt rfl) rcv_40 rfl rfl rfl hcs dX8_when_64 (fun rg M2 hg => ?_)
          refine x_goto (tgt := 71) C dX8_when_67 (by decide) ?_
          refine hret _ _ _ _ dX8_when_71 rfl ?_
          first
            | (exfalso; omega)
            | (subst hl2
               have eF : fstN (fun i => allM (dayN (vm M) i) 8 < v) 101 = 101 := fstN_all hst
               exact fi_M (k := 3) ((ifp_t c5).trans (ifp_f (show ¬ fstN (fun i => allM (dayN (vm M) i) 8 < v) 101 < 101 by omega))) hg rfl (by decide) (back_vm ha.1 hs hb.1) ((ha.2.mono (by simp [SC1])).tr ((hs.mono (by simp [SC1])).tr (hb.2.mono (by simp [SC1])))))
      · skip
        have cv : allM (dayN (vm M) i) 8 < v := by rw [← hv]; exact Int32.not_le.mp c36
        refine x_iload_n C dX8_when_39 rfl ?_
        refine x_aload_n C dX8_when_40 rfl ?_
        refine x_cvi C (k := 40) (c_X8_day l g _ ) o_X8_day mw_X8_140 rfl (C.lt rfl) rcv_40 rfl rfl rfl hcs dX8_when_41 (fun r3 M3 h3 => ?_)
        refine x_iadd C dX8_when_44 ?_
        refine x_topE (y := nI (dayC (vm M) (i + 1))) (by rw [h3.1, nI_add, hv]; rfl) ?_
        refine x_istore_n C dX8_when_45 rfl ?_
        refine x_iinc (v := nI (i + 1)) C dX8_when_46 rfl (nI_1 i) rfl ?_
        refine x_goto (tgt := 25) C dX8_when_49 (by decide) ?_
        refine ih hlt M3 ?_ (hs.tr h3.2.2) (fun j hj => by rcases Nat.lt_or_ge j i with z | z; exact hst j z; rw [show j = i by omega]; exact cv)
        rw [h3.2.1, hv]; rfl
  · skip
    refine x_if_neF (tgt := 17) C dX8_when_8 (by decide) (by decide) ?_
    refine x_aload_n C dX8_when_11 rfl ?_
    refine x_iconst (v := 0) C dX8_when_12 (by decide) ?_
    refine x_cvi C (k := 40) (c_X8_no l g _ (k := 0) rfl (by decide) ) o_X8_no mw_X8_119 rfl (C.lt rfl) rcv_40 rfl rfl rfl hcs dX8_when_13 (fun rf M3 hf => ?_)
    refine hret _ _ _ _ dX8_when_16 rfl ?_
    exact fi_M (k := 0) (ifp_f c5) hf rfl (by decide) rfl (same.rf)

def rm_X8_kindFor : Room := { frames := 3, cells := 0, slots := 0, locals := 72 }
set_option maxRecDepth 100000 in
set_option maxHeartbeats 4000000 in
theorem c_X8_kindFor (l : Launch) (g : Gp) (M : Mem) (oa : okA (aM M))  (x n : Int32) : Ki l g yX8_kindFor cX8_kindFor 5 .int rm_X8_kindFor [.ref (gad g (40)), .int (x), .int (n)] M (fun r M' => (r, aM M') = F_kindFor x n (aM M) ∧ sameM M M') := by
  refine Ki.of rfl rfl rfl (fun q C hret hcs => ?_)
  have o : okRow (vm M) := oa.1
  refine x_aload_n C dX8_kindFor_0 rfl ?_
  refine x_iload_n C dX8_kindFor_1 rfl ?_
  refine x_cvB C (k := 40) (c_X8_isEgg l g _ _ ) o_X8_isEgg mw_X8_122 rfl (C.lt rfl) rcv_40 rfl rfl rfl hcs dX8_kindFor_2 (fun c2 => ?_) (fun c2 => ?_)
  · skip
    obtain ⟨he, ex, ht⟩ := eggP_tn c2
    refine x_if_eqF (tgt := 18) C dX8_kindFor_5 (by decide) (by decide) ?_
    refine x_iload_n C dX8_kindFor_8 rfl ?_
    refine x_iconst (v := 0) C dX8_kindFor_9 (by decide) ?_
    refine x_bipush (v := 100) C dX8_kindFor_10 (by decide) ?_
    refine x_csB C (c_X8_in1 l g _ _ _ _ ) o_X8_in1 mw_X8_59 rfl rfl rfl rfl hcs dX8_kindFor_12 (fun c12 => ?_) (fun c12 => ?_)
    · skip
      refine x_if_neT (tgt := 24) C dX8_kindFor_15 (by decide) (by decide) ?_
      refine x_iconst (v := 0) C dX8_kindFor_24 (by decide) ?_
      refine x_istore_n C dX8_kindFor_25 rfl ?_
      refine x_iconst (v := 1) C dX8_kindFor_26 (by decide) ?_
      refine x_istore C dX8_kindFor_27 rfl ?_
      refine up_to 6 (P := fun i => X (kmk l rm_X8_kindFor g 5 q) M 29 [some (.ref (gad g (40))), some (.int (x)), some (.int (n)), some (.int (nI (kforN (vm M) (tn x) n i))), some (.int (nI (i + 1)))] []) (fun i hi ih => ?_) 0 (by omega)
      refine x_iload C dX8_kindFor_29 rfl ?_
      refine x_bipush (v := 6) C dX8_kindFor_31 (by decide) ?_
      refine x_icmp_gt (tgt := 79) C dX8_kindFor_33 (by decide) (fun c33 => ?_) (fun c33 => ?_)
      · skip
        have hlt := lp_gt (N := 6) (by decide) hi c33
        refine x_iload_n C dX8_kindFor_79 rfl ?_
        refine hret _ _ _ _ dX8_kindFor_80 rfl ?_
        subst hlt; exact pu_M0 (ifp_t ⟨c2, c12⟩)
      · skip
        have hlt := lp_ng (N := 6) (by decide) hi c33
        refine x_aload_n C dX8_kindFor_36 rfl ?_
        refine x_iload_n C dX8_kindFor_37 rfl ?_
        refine x_iload C dX8_kindFor_38 rfl ?_
        refine x_aload_n C dX8_kindFor_40 rfl ?_
        refine x_iload_n C dX8_kindFor_41 rfl ?_
        refine x_iconst (v := 2) C dX8_kindFor_42 (by decide) ?_
        refine x_cvE C (k := 40) (c_X8_get l g _ (e := (tn x)) (f := 2) ex he rfl (by decide) ) o_X8_get mw_X8_63 rfl (C.lt rfl) rcv_40 rfl rfl rfl hcs dX8_kindFor_43 ?_
        refine x_iload_n C dX8_kindFor_46 rfl ?_
        refine x_cvE C (k := 40) (c_X8_then l g _ (e := (tn x)) ex he _ _ _ ) o_X8_then mw_X8_158 rfl (C.lt rfl) rcv_40 rfl rfl rfl hcs dX8_kindFor_47 ?_
        refine x_aload_n C dX8_kindFor_50 rfl ?_
        refine x_iload_n C dX8_kindFor_51 rfl ?_
        refine x_iload_n C dX8_kindFor_52 rfl ?_
        refine x_aload_n C dX8_kindFor_53 rfl ?_
        refine x_iload_n C dX8_kindFor_54 rfl ?_
        refine x_iconst (v := 2) C dX8_kindFor_55 (by decide) ?_
        refine x_cvE C (k := 40) (c_X8_get l g _ (e := (tn x)) (f := 2) ex he rfl (by decide) ) o_X8_get mw_X8_63 rfl (C.lt rfl) rcv_40 rfl rfl rfl hcs dX8_kindFor_56 ?_
        refine x_iload_n C dX8_kindFor_59 rfl ?_
        refine x_cvE C (k := 40) (c_X8_then l g _ (e := (tn x)) ex he _ _ _ ) o_X8_then mw_X8_158 rfl (C.lt rfl) rcv_40 rfl rfl rfl hcs dX8_kindFor_60 ?_
        refine x_icmp_le (tgt := 71) C dX8_kindFor_63 (by decide) (fun c63 => ?_) (fun c63 => ?_)
        · skip
          refine x_iload_n C dX8_kindFor_71 rfl ?_
          refine x_istore_n C dX8_kindFor_72 rfl ?_
          refine x_iinc (v := nI (i + 1 + 1)) C dX8_kindFor_73 rfl (nI_1 _) rfl ?_
          refine x_goto (tgt := 29) C dX8_kindFor_76 (by decide) ?_
          have e : kforN (vm M) (tn x) n (i + 1) = kforN (vm M) (tn x) n i := if_neg (Int32.not_lt.mpr c63)
          rw [e] at ih
          exact ih hlt
        · skip
          refine x_iload C dX8_kindFor_66 rfl ?_
          refine x_goto (tgt := 72) C dX8_kindFor_68 (by decide) ?_
          refine x_istore_n C dX8_kindFor_72 rfl ?_
          refine x_iinc (v := nI (i + 1 + 1)) C dX8_kindFor_73 rfl (nI_1 _) rfl ?_
          refine x_goto (tgt := 29) C dX8_kindFor_76 (by decide) ?_
          have e : kforN (vm M) (tn x) n (i + 1) = i + 1 := if_pos (Int32.not_le.mp c63)
          rw [e] at ih
          exact ih hlt
    · skip
      refine x_if_neF (tgt := 24) C dX8_kindFor_15 (by decide) (by decide) ?_
      refine x_aload_n C dX8_kindFor_18 rfl ?_
      refine x_iconst (v := 0) C dX8_kindFor_19 (by decide) ?_
      refine x_cvi C (k := 40) (c_X8_no l g _ (k := 0) rfl (by decide) ) o_X8_no mw_X8_119 rfl (C.lt rfl) rcv_40 rfl rfl rfl hcs dX8_kindFor_20 (fun rf M1 hf => ?_)
      refine hret _ _ _ _ dX8_kindFor_23 rfl ?_
      exact fi_M (k := 0) (ifp_f (fun z => by first | exact c12 z.2 | exact c2 z.1)) hf rfl (by decide) rfl (same.rf)
  · skip
    refine x_if_eqT (tgt := 18) C dX8_kindFor_5 (by decide) (by decide) ?_
    refine x_aload_n C dX8_kindFor_18 rfl ?_
    refine x_iconst (v := 0) C dX8_kindFor_19 (by decide) ?_
    refine x_cvi C (k := 40) (c_X8_no l g _ (k := 0) rfl (by decide) ) o_X8_no mw_X8_119 rfl (C.lt rfl) rcv_40 rfl rfl rfl hcs dX8_kindFor_20 (fun rf M2 hf => ?_)
    refine hret _ _ _ _ dX8_kindFor_23 rfl ?_
    exact fi_M (k := 0) (ifp_f (fun z => by first | exact c12 z.2 | exact c2 z.1)) hf rfl (by decide) rfl (same.rf)

def rm_X8_everyFor : Room := { frames := 5, cells := 0, slots := 0, locals := 112 }
set_option maxRecDepth 100000 in
set_option maxHeartbeats 4000000 in
theorem c_X8_everyFor (l : Launch) (g : Gp) (M : Mem) (oa : okA (aM M))  (x n : Int32) : Ki l g yX8_everyFor cX8_everyFor 8 .int rm_X8_everyFor [.ref (gad g (40)), .int (x), .int (n)] M (fun r M' => (r, aM M') = F_everyFor x n (aM M) ∧ sameM M M') := by
  refine Ki.of rfl rfl rfl (fun q C hret hcs => ?_)
  have o : okRow (vm M) := oa.1
  refine x_iload_n C dX8_everyFor_0 rfl ?_
  refine x_csB C (c_X8_isHen l g _ _ ) o_X8_isHen mw_X8_125 rfl rfl rfl rfl hcs dX8_everyFor_1 (fun c1 => ?_) (fun c1 => ?_)
  · skip
    have qx := ix_tn (n := 4) (by decide) c1
    refine x_if_eqF (tgt := 17) C dX8_everyFor_4 (by decide) (by decide) ?_
    refine x_iload_n C dX8_everyFor_7 rfl ?_
    refine x_iconst (v := 0) C dX8_everyFor_8 (by decide) ?_
    refine x_bipush (v := 60) C dX8_everyFor_9 (by decide) ?_
    refine x_csB C (c_X8_in1 l g _ _ _ _ ) o_X8_in1 mw_X8_59 rfl rfl rfl rfl hcs dX8_everyFor_11 (fun c11 => ?_) (fun c11 => ?_)
    · skip
      have qn := inB_tn (n := 60) (by decide) c11
      refine x_if_neT (tgt := 23) C dX8_everyFor_14 (by decide) (by decide) ?_
      refine x_aload_n C dX8_everyFor_23 rfl ?_
      refine x_cvv C (k := 40) (c_X8_setsAside l g _ ) o_X8_setsAside mw_X8_152 rfl (C.lt rfl) rcv_40 rfl rfl rfl hcs dX8_everyFor_24 (fun Ma ha => ?_)
      have hva : vm Ma = vm M := vm_same (ha.2 41 (by decide))
      refine x_iconst (v := 0) C dX8_everyFor_27 (by decide) ?_
      refine x_istore_n C dX8_everyFor_28 rfl ?_
      refine x_iconst (v := 0) C dX8_everyFor_29 (by decide) ?_
      refine x_istore C dX8_everyFor_30 rfl ?_
      refine x_iconst (v := 0) C dX8_everyFor_32 (by decide) ?_
      refine x_istore C dX8_everyFor_33 rfl ?_
      refine x_iconst (v := 1) C dX8_everyFor_35 (by decide) ?_
      refine x_istore C dX8_everyFor_36 rfl ?_
      refine X.le (ls' := [some (.ref (gad g (40))), some (.int (x)), some (.int (n)), some (.int (nI (bstN (vm M) (tn x) (tn n) 0))), some (.int (mstN (vm M) (tn x) (tn n) 0)), some (.int (0)), some (.int (nI (0 + 1))), none]) (lle_s rfl (lle_s rfl (lle_s rfl (lle_s rfl (lle_s rfl (lle_s rfl (lle_s rfl (lle_n lle_e)))))))) ?_
      refine up_to 30 (P := fun i => ∀ (M1 : Mem) (sp : Int32), vm M1 = vm M → (∀ k, k < 93 → M1 43 k = M 41 k) → same [41, 43] M M1 → X (kmk l rm_X8_everyFor g 8 q) M1 38 [some (.ref (gad g (40))), some (.int (x)), some (.int (n)), some (.int (nI (bstN (vm M) (tn x) (tn n) i))), some (.int (mstN (vm M) (tn x) (tn n) i)), some (.int (sp)), some (.int (nI (i + 1))), none] []) (fun i hi ih M1 sp hv1 hA1 hs1 => ?_) 0 (by omega) Ma 0 hva ha.1 (ha.2.mono (by simp))
      refine x_iload C dX8_everyFor_38 rfl ?_
      refine x_bipush (v := 30) C dX8_everyFor_40 (by decide) ?_
      refine x_icmp_gt (tgt := 142) C dX8_everyFor_42 (by decide) (fun c42 => ?_) (fun c42 => ?_)
      · skip
        have hlt := lp_gt (N := 30) (by decide) hi c42
        refine x_iload_n C dX8_everyFor_142 rfl ?_
        refine hret _ _ _ _ dX8_everyFor_143 rfl ?_
        subst hlt
        exact pu_M (ifp_t ⟨c1, c11⟩) hv1 (hs1.mono (by simp [SC1]))
      · skip
        have hlt := lp_ng (N := 30) (by decide) hi c42
        refine x_aload_n C dX8_everyFor_45 rfl ?_
        refine x_getf (k := 40) C bk_X8 (C.lt rfl) rfl ent_40 0 fw_X8_9 rfl rfl dX8_everyFor_46 ?_
        refine x_bipush (v := 43) C dX8_everyFor_49 (by decide) ?_
        refine x_iconst (v := 4) C dX8_everyFor_51 (by decide) ?_
        refine x_iload_n C dX8_everyFor_52 rfl ?_
        refine x_imul C dX8_everyFor_53 ?_
        refine x_iadd C dX8_everyFor_54 ?_
        refine x_iconst (v := 0) C dX8_everyFor_55 (by decide) ?_
        refine x_iadd C dX8_everyFor_56 ?_
        refine x_iload C dX8_everyFor_57 rfl ?_
        refine x_iast (j := 43 + 4 * tn x + 0) (k := 41) C (C.lt rfl) rfl ent_41 (ix_h qx.2 rfl) (by have := qx.1; omega) rfl dX8_everyFor_59 ?_
        refine x_memI (fun M2 eM2 => ?_)
        have hv2 : vm M2 = upd (vm M) (43 + 4 * tn x) (nI (i + 1)) := by rw [eM2, vm_up (by have := qx.1; omega), hv1]; rfl
        have hA2 : ∀ k, k < 93 → M2 43 k = M 41 k := fun k hk => by rw [eM2, up_n (by decide)]; exact hA1 k hk
        refine x_iconst (v := 0) C dX8_everyFor_60 (by decide) ?_
        refine x_istore C dX8_everyFor_61 rfl ?_
        refine up_to (tn n) (P := fun j => ∀ (M3 : Mem) (sq : Int32), vm M3 = dayN (upd (vm M) (43 + 4 * tn x) (nI (i + 1))) j → same [41] M2 M3 → X (kmk l rm_X8_everyFor g 8 q) M3 63 [some (.ref (gad g (40))), some (.int (x)), some (.int (n)), some (.int (nI (bstN (vm M) (tn x) (tn n) i))), some (.int (mstN (vm M) (tn x) (tn n) i)), some (.int (sq)), some (.int (nI (i + 1))), some (.int (nI j))] []) (fun j hj ij M3 sq hv3 hs3 => ?_) 0 (Nat.zero_le _) M2 sp hv2 same.rf
        refine x_iload C dX8_everyFor_63 rfl ?_
        refine x_iload_n C dX8_everyFor_65 rfl ?_
        refine x_icmp_ge (tgt := 84) C dX8_everyFor_66 (by decide) (fun c66 => ?_) (fun c66 => ?_)
        · skip
          have hjt := lp_ge (N := tn n) (by omega) hj (by rw [← qn.2]; exact c66)
          subst hjt
          have hg3 : allM (vm M3) 8 = eveM (vm M) (tn x) (tn n) (i + 1) := by rw [hv3]; rfl
          have key : ∀ z : Int32, ((z = 1 ∧ (nI (bstN (vm M) (tn x) (tn n) i) = 0 ∨ mstN (vm M) (tn x) (tn n) i < eveM (vm M) (tn x) (tn n) (i + 1))) ∨ (z = 0 ∧ ¬ (nI (bstN (vm M) (tn x) (tn n) i) = 0 ∨ mstN (vm M) (tn x) (tn n) i < eveM (vm M) (tn x) (tn n) (i + 1)))) → X (kmk l rm_X8_everyFor g 8 q) M3 102 [some (.ref (gad g (40))), some (.int (x)), some (.int (n)), some (.int (nI (bstN (vm M) (tn x) (tn n) i))), some (.int (mstN (vm M) (tn x) (tn n) i)), some (.int (sq)), some (.int (nI (i + 1))), none] [.int (z)] := by
            intro z hz
            refine x_istore C dX8_everyFor_102 rfl ?_
            refine x_iload C dX8_everyFor_104 rfl ?_
            refine x_if_eq (tgt := 114) C dX8_everyFor_106 (by decide) (fun c106 => ?_) (fun c106 => ?_)
            · skip
              refine x_iload_n C dX8_everyFor_114 rfl ?_
              refine x_istore_n C dX8_everyFor_115 rfl ?_
              refine x_iload C dX8_everyFor_116 rfl ?_
              refine x_if_eq (tgt := 128) C dX8_everyFor_118 (by decide) (fun c118 => ?_) (fun c118 => ?_)
              · skip
                refine x_iload C dX8_everyFor_128 rfl ?_
                refine x_istore C dX8_everyFor_130 rfl ?_
                refine x_aload_n C dX8_everyFor_132 rfl ?_
                refine x_cvv C (k := 40) (c_X8_laysBack l g _ ) o_X8_laysBack mw_X8_155 rfl (C.lt rfl) rcv_40 rfl rfl rfl hcs dX8_everyFor_133 (fun Mb hb => ?_)
                refine x_iinc (v := nI (i + 1 + 1)) C dX8_everyFor_136 rfl (nI_1 _) rfl ?_
                refine x_goto (tgt := 38) C dX8_everyFor_139 (by decide) ?_
                refine X.le (ls' := [some (.ref (gad g (40))), some (.int (x)), some (.int (n)), some (.int (nI (bstN (vm M) (tn x) (tn n) i))), some (.int (mstN (vm M) (tn x) (tn n) i)), some (.int (sq)), some (.int (nI (i + 1 + 1))), none]) (lle_s rfl (lle_s rfl (lle_s rfl (lle_s rfl (lle_s rfl (lle_s rfl (lle_s rfl (lle_n lle_e)))))))) ?_
                have hvb : vm Mb = vm M := back_vm (Ma := M2) hA2 hs3 hb.1
                have hz : ¬ (nI (bstN (vm M) (tn x) (tn n) i) = 0 ∨ mstN (vm M) (tn x) (tn n) i < eveM (vm M) (tn x) (tn n) (i + 1)) := by
                  rcases hz with ⟨e1, e2⟩ | ⟨e1, e2⟩
                  · exact absurd (e1 ▸ c106) (by decide)
                  · exact e2
                have e := ev_less hlt hz
                rw [e.1, e.2] at ih
                exact ih hlt Mb _ hvb (fun k hk => by rw [hb.2 43 (by decide)]; exact (congrFun (hs3 43 (by decide)) k).trans (hA2 k hk)) (hs1.tr ((by rw [eM2]; exact same.up (by simp) : same [41, 43] M1 M2).tr ((hs3.mono (by simp)).tr (hb.2.mono (by simp)))))
              · skip
                refine x_aload_n C dX8_everyFor_121 rfl ?_
                refine x_cvE C (k := 40) (c_X8_allMinutes l g _ ) o_X8_allMinutes mw_X8_146 rfl (C.lt rfl) rcv_40 rfl rfl rfl hcs dX8_everyFor_122 ?_
                refine x_topE (y := eveM (vm M) (tn x) (tn n) (i + 1)) (hg3) ?_
                refine x_goto (tgt := 130) C dX8_everyFor_125 (by decide) ?_
                refine x_istore C dX8_everyFor_130 rfl ?_
                refine x_aload_n C dX8_everyFor_132 rfl ?_
                refine x_cvv C (k := 40) (c_X8_laysBack l g _ ) o_X8_laysBack mw_X8_155 rfl (C.lt rfl) rcv_40 rfl rfl rfl hcs dX8_everyFor_133 (fun Mb hb => ?_)
                refine x_iinc (v := nI (i + 1 + 1)) C dX8_everyFor_136 rfl (nI_1 _) rfl ?_
                refine x_goto (tgt := 38) C dX8_everyFor_139 (by decide) ?_
                exfalso
                first | exact c118 c106 | exact c106 c118
            · skip
              refine x_iload C dX8_everyFor_109 rfl ?_
              refine x_goto (tgt := 115) C dX8_everyFor_111 (by decide) ?_
              refine x_istore_n C dX8_everyFor_115 rfl ?_
              refine x_iload C dX8_everyFor_116 rfl ?_
              refine x_if_eq (tgt := 128) C dX8_everyFor_118 (by decide) (fun c118 => ?_) (fun c118 => ?_)
              · skip
                refine x_iload C dX8_everyFor_128 rfl ?_
                refine x_istore C dX8_everyFor_130 rfl ?_
                refine x_aload_n C dX8_everyFor_132 rfl ?_
                refine x_cvv C (k := 40) (c_X8_laysBack l g _ ) o_X8_laysBack mw_X8_155 rfl (C.lt rfl) rcv_40 rfl rfl rfl hcs dX8_everyFor_133 (fun Mb hb => ?_)
                refine x_iinc (v := nI (i + 1 + 1)) C dX8_everyFor_136 rfl (nI_1 _) rfl ?_
                refine x_goto (tgt := 38) C dX8_everyFor_139 (by decide) ?_
                exfalso
                first | exact c118 c106 | exact c106 c118
              · skip
                refine x_aload_n C dX8_everyFor_121 rfl ?_
                refine x_cvE C (k := 40) (c_X8_allMinutes l g _ ) o_X8_allMinutes mw_X8_146 rfl (C.lt rfl) rcv_40 rfl rfl rfl hcs dX8_everyFor_122 ?_
                refine x_topE (y := eveM (vm M) (tn x) (tn n) (i + 1)) (hg3) ?_
                refine x_goto (tgt := 130) C dX8_everyFor_125 (by decide) ?_
                refine x_istore C dX8_everyFor_130 rfl ?_
                refine x_aload_n C dX8_everyFor_132 rfl ?_
                refine x_cvv C (k := 40) (c_X8_laysBack l g _ ) o_X8_laysBack mw_X8_155 rfl (C.lt rfl) rcv_40 rfl rfl rfl hcs dX8_everyFor_133 (fun Mb hb => ?_)
                refine x_iinc (v := nI (i + 1 + 1)) C dX8_everyFor_136 rfl (nI_1 _) rfl ?_
                refine x_goto (tgt := 38) C dX8_everyFor_139 (by decide) ?_
                refine X.le (ls' := [some (.ref (gad g (40))), some (.int (x)), some (.int (n)), some (.int (nI (i + 1))), some (.int (eveM (vm M) (tn x) (tn n) (i + 1))), some (.int (sq)), some (.int (nI (i + 1 + 1))), none]) (lle_s rfl (lle_s rfl (lle_s rfl (lle_s rfl (lle_s rfl (lle_s rfl (lle_s rfl (lle_n lle_e)))))))) ?_
                have hvb : vm Mb = vm M := back_vm (Ma := M2) hA2 hs3 hb.1
                have hz : nI (bstN (vm M) (tn x) (tn n) i) = 0 ∨ mstN (vm M) (tn x) (tn n) i < eveM (vm M) (tn x) (tn n) (i + 1) := by
                  rcases hz with ⟨e1, e2⟩ | ⟨e1, e2⟩
                  · exact e2
                  · exact absurd e1 c106
                have e := ev_more hlt hz
                rw [e.1, e.2] at ih
                exact ih hlt Mb _ hvb (fun k hk => by rw [hb.2 43 (by decide)]; exact (congrFun (hs3 43 (by decide)) k).trans (hA2 k hk)) (hs1.tr ((by rw [eM2]; exact same.up (by simp) : same [41, 43] M1 M2).tr ((hs3.mono (by simp)).tr (hb.2.mono (by simp)))))
          refine x_iload_n C dX8_everyFor_84 rfl ?_
          refine x_if_eq (tgt := 97) C dX8_everyFor_85 (by decide) (fun c85 => ?_) (fun c85 => ?_)
          · skip
            refine x_iconst (v := 1) C dX8_everyFor_97 (by decide) ?_
            refine x_goto (tgt := 102) C dX8_everyFor_98 (by decide) ?_
            refine X.le (ls' := [some (.ref (gad g (40))), some (.int (x)), some (.int (n)), some (.int (nI (bstN (vm M) (tn x) (tn n) i))), some (.int (mstN (vm M) (tn x) (tn n) i)), some (.int (sq)), some (.int (nI (i + 1))), none]) (lle_s rfl (lle_s rfl (lle_s rfl (lle_s rfl (lle_s rfl (lle_s rfl (lle_s rfl (lle_n lle_e)))))))) ?_
            first | exact key _ (Or.inl ⟨rfl, Or.inl c85⟩) | exact key _ (Or.inl ⟨rfl, Or.inr (Int32.not_le.mp c94)⟩) | exact key _ (Or.inr ⟨rfl, fun q => q.elim c85 (Int32.not_lt.mpr c94)⟩)
          · skip
            refine x_aload_n C dX8_everyFor_88 rfl ?_
            refine x_cvE C (k := 40) (c_X8_allMinutes l g _ ) o_X8_allMinutes mw_X8_146 rfl (C.lt rfl) rcv_40 rfl rfl rfl hcs dX8_everyFor_89 ?_
            refine x_topE (y := eveM (vm M) (tn x) (tn n) (i + 1)) (hg3) ?_
            refine x_iload C dX8_everyFor_92 rfl ?_
            refine x_icmp_le (tgt := 101) C dX8_everyFor_94 (by decide) (fun c94 => ?_) (fun c94 => ?_)
            · skip
              refine x_iconst (v := 0) C dX8_everyFor_101 (by decide) ?_
              refine X.le (ls' := [some (.ref (gad g (40))), some (.int (x)), some (.int (n)), some (.int (nI (bstN (vm M) (tn x) (tn n) i))), some (.int (mstN (vm M) (tn x) (tn n) i)), some (.int (sq)), some (.int (nI (i + 1))), none]) (lle_s rfl (lle_s rfl (lle_s rfl (lle_s rfl (lle_s rfl (lle_s rfl (lle_s rfl (lle_n lle_e)))))))) ?_
              first | exact key _ (Or.inl ⟨rfl, Or.inl c85⟩) | exact key _ (Or.inl ⟨rfl, Or.inr (Int32.not_le.mp c94)⟩) | exact key _ (Or.inr ⟨rfl, fun q => q.elim c85 (Int32.not_lt.mpr c94)⟩)
            · skip
              refine x_iconst (v := 1) C dX8_everyFor_97 (by decide) ?_
              refine x_goto (tgt := 102) C dX8_everyFor_98 (by decide) ?_
              refine X.le (ls' := [some (.ref (gad g (40))), some (.int (x)), some (.int (n)), some (.int (nI (bstN (vm M) (tn x) (tn n) i))), some (.int (mstN (vm M) (tn x) (tn n) i)), some (.int (sq)), some (.int (nI (i + 1))), none]) (lle_s rfl (lle_s rfl (lle_s rfl (lle_s rfl (lle_s rfl (lle_s rfl (lle_s rfl (lle_n lle_e)))))))) ?_
              first | exact key _ (Or.inl ⟨rfl, Or.inl c85⟩) | exact key _ (Or.inl ⟨rfl, Or.inr (Int32.not_le.mp c94)⟩) | exact key _ (Or.inr ⟨rfl, fun q => q.elim c85 (Int32.not_lt.mpr c94)⟩)
        · skip
          have hjt := lp_lt (N := tn n) (by omega) hj (by rw [← qn.2]; exact c66)
          refine x_iload C dX8_everyFor_69 rfl ?_
          refine x_aload_n C dX8_everyFor_71 rfl ?_
          refine x_cvi C (k := 40) (c_X8_day l g _ ) o_X8_day mw_X8_140 rfl (C.lt rfl) rcv_40 rfl rfl rfl hcs dX8_everyFor_72 (fun r4 M4 h4 => ?_)
          refine x_iadd C dX8_everyFor_75 ?_
          refine x_istore C dX8_everyFor_76 rfl ?_
          refine x_iinc (v := nI (j + 1)) C dX8_everyFor_78 rfl (nI_1 j) rfl ?_
          refine x_goto (tgt := 63) C dX8_everyFor_81 (by decide) ?_
          refine ij hjt M4 _ ?_ (hs3.tr h4.2.2)
          rw [h4.2.1, hv3]; rfl
    · skip
      refine x_if_neF (tgt := 23) C dX8_everyFor_14 (by decide) (by decide) ?_
      refine x_aload_n C dX8_everyFor_17 rfl ?_
      refine x_iconst (v := 0) C dX8_everyFor_18 (by decide) ?_
      refine x_cvi C (k := 40) (c_X8_no l g _ (k := 0) rfl (by decide) ) o_X8_no mw_X8_119 rfl (C.lt rfl) rcv_40 rfl rfl rfl hcs dX8_everyFor_19 (fun rf M1 hf => ?_)
      refine hret _ _ _ _ dX8_everyFor_22 rfl ?_
      exact fi_M (k := 0) (ifp_f (fun z => by first | exact c11 z.2 | exact c1 z.1)) hf rfl (by decide) rfl (same.rf)
  · skip
    refine x_if_eqT (tgt := 17) C dX8_everyFor_4 (by decide) (by decide) ?_
    refine x_aload_n C dX8_everyFor_17 rfl ?_
    refine x_iconst (v := 0) C dX8_everyFor_18 (by decide) ?_
    refine x_cvi C (k := 40) (c_X8_no l g _ (k := 0) rfl (by decide) ) o_X8_no mw_X8_119 rfl (C.lt rfl) rcv_40 rfl rfl rfl hcs dX8_everyFor_19 (fun rf M2 hf => ?_)
    refine hret _ _ _ _ dX8_everyFor_22 rfl ?_
    exact fi_M (k := 0) (ifp_f (fun z => by first | exact c11 z.2 | exact c1 z.1)) hf rfl (by decide) rfl (same.rf)

def rm_X8_does : Room := { frames := 4, cells := 0, slots := 0, locals := 91 }
set_option maxRecDepth 100000 in
set_option maxHeartbeats 4000000 in
theorem c_X8_does (l : Launch) (g : Gp) (M : Mem) (o : okRow (vm M)) {x y : Int32} {s w : Nat} (hx : x = nI s) (hs : s < 256) (hy : y = nI w) (hw : w < 6) : Kp l g yX8_does cX8_does 3 .boolean rm_X8_does [.ref (gad g (40)), .int (x), .int (y)] M (bv (doesP (vm M) w s)) := by
  unfold Kp
  refine Ki.of rfl rfl rfl (fun q C hret hcs => ?_)
  refine x_iload_n C dX8_does_0 rfl ?_
  refine x_aload_n C dX8_does_1 rfl ?_
  refine x_cvE C (k := 40) (c_X8_eggs l g _ ) o_X8_eggs mw_X8_95 rfl (C.lt rfl) rcv_40 rfl rfl rfl hcs dX8_does_2 ?_
  refine x_iconst (v := -1) C dX8_does_5 (by decide) ?_
  refine x_ixor C dX8_does_6 ?_
  refine x_iand C dX8_does_7 ?_
  refine x_if_ne (tgt := 48) C dX8_does_8 (by decide) (fun c8 => ?_) (fun c8 => ?_)
  · skip
    have ce : ¬ ofEg (vm M) s := fun z => c8 (by rw [hx]; exact (ofEg_i hs).mpr z)
    refine x_iconst (v := 0) C dX8_does_48 (by decide) ?_
    refine hret _ _ _ _ dX8_does_49 rfl ⟨Or.inr ⟨rfl, ?_⟩, rfl⟩
    first | exact fun z => Int32.not_lt.mpr z.2.2 c41 | exact fun z => (z.2.1.elim hs0 (fun q => q c17)) | exact fun z => ce z.1
  · skip
    have ce : ofEg (vm M) s := (ofEg_i hs).mp (by rw [← hx]; first | exact c8 | exact Classical.not_not.mp c8)
    refine x_iload_n C dX8_does_11 rfl ?_
    refine x_if_eq (tgt := 23) C dX8_does_12 (by decide) (fun c12 => ?_) (fun c12 => ?_)
    · skip
      have hs0 : s = 0 := (nI_eq (a := s) (b := 0) (by omega) (by decide)).mp (hx ▸ c12)
      refine x_aload_n C dX8_does_23 rfl ?_
      refine x_iload_n C dX8_does_24 rfl ?_
      refine x_iconst (v := 3) C dX8_does_25 (by decide) ?_
      refine x_cvE C (k := 40) (c_X8_works l g _ (e := w) (f := 3) hy hw rfl (by decide) ) o_X8_works mw_X8_131 rfl (C.lt rfl) rcv_40 rfl rfl rfl hcs dX8_does_26 ?_
      refine x_aload_n C dX8_does_29 rfl ?_
      refine x_iload_n C dX8_does_30 rfl ?_
      refine x_cvE C (k := 40) (c_X8_sumOf l g _ (s := s) hx hs ) o_X8_sumOf mw_X8_99 rfl (C.lt rfl) rcv_40 rfl rfl rfl hcs dX8_does_31 ?_
      refine x_iadd C dX8_does_34 ?_
      refine x_aload_n C dX8_does_35 rfl ?_
      refine x_iload_n C dX8_does_36 rfl ?_
      refine x_iconst (v := 0) C dX8_does_37 (by decide) ?_
      refine x_cvE C (k := 40) (c_X8_works l g _ (e := w) (f := 0) hy hw rfl (by decide) ) o_X8_works mw_X8_131 rfl (C.lt rfl) rcv_40 rfl rfl rfl hcs dX8_does_38 ?_
      refine x_icmp_lt (tgt := 48) C dX8_does_41 (by decide) (fun c41 => ?_) (fun c41 => ?_)
      · skip
        refine x_iconst (v := 0) C dX8_does_48 (by decide) ?_
        refine hret _ _ _ _ dX8_does_49 rfl ⟨Or.inr ⟨rfl, ?_⟩, rfl⟩
        first | exact fun z => Int32.not_lt.mpr z.2.2 c41 | exact fun z => (z.2.1.elim hs0 (fun q => q c17)) | exact fun z => ce z.1
      · skip
        refine x_iconst (v := 1) C dX8_does_44 (by decide) ?_
        refine x_goto (tgt := 49) C dX8_does_45 (by decide) ?_
        refine hret _ _ _ _ dX8_does_49 rfl ⟨Or.inl ⟨rfl, ?_⟩, rfl⟩
        first | exact ⟨ce, Or.inl hs0, Int32.not_lt.mp c41⟩ | exact ⟨ce, Or.inr c17, Int32.not_lt.mp c41⟩
    · skip
      have hs0 : ¬ s = 0 := fun z => c12 (by rw [hx, z]; rfl)
      refine x_aload_n C dX8_does_15 rfl ?_
      refine x_iload_n C dX8_does_16 rfl ?_
      refine x_cvB C (k := 40) (c_X8_isOver l g _ (w := w) hy hw ) o_X8_isOver mw_X8_137 rfl (C.lt rfl) rcv_40 rfl rfl rfl hcs dX8_does_17 (fun c17 => ?_) (fun c17 => ?_)
      · skip
        refine x_if_neT (tgt := 48) C dX8_does_20 (by decide) (by decide) ?_
        refine x_iconst (v := 0) C dX8_does_48 (by decide) ?_
        refine hret _ _ _ _ dX8_does_49 rfl ⟨Or.inr ⟨rfl, ?_⟩, rfl⟩
        first | exact fun z => Int32.not_lt.mpr z.2.2 c41 | exact fun z => (z.2.1.elim hs0 (fun q => q c17)) | exact fun z => ce z.1
      · skip
        refine x_if_neF (tgt := 48) C dX8_does_20 (by decide) (by decide) ?_
        refine x_aload_n C dX8_does_23 rfl ?_
        refine x_iload_n C dX8_does_24 rfl ?_
        refine x_iconst (v := 3) C dX8_does_25 (by decide) ?_
        refine x_cvE C (k := 40) (c_X8_works l g _ (e := w) (f := 3) hy hw rfl (by decide) ) o_X8_works mw_X8_131 rfl (C.lt rfl) rcv_40 rfl rfl rfl hcs dX8_does_26 ?_
        refine x_aload_n C dX8_does_29 rfl ?_
        refine x_iload_n C dX8_does_30 rfl ?_
        refine x_cvE C (k := 40) (c_X8_sumOf l g _ (s := s) hx hs ) o_X8_sumOf mw_X8_99 rfl (C.lt rfl) rcv_40 rfl rfl rfl hcs dX8_does_31 ?_
        refine x_iadd C dX8_does_34 ?_
        refine x_aload_n C dX8_does_35 rfl ?_
        refine x_iload_n C dX8_does_36 rfl ?_
        refine x_iconst (v := 0) C dX8_does_37 (by decide) ?_
        refine x_cvE C (k := 40) (c_X8_works l g _ (e := w) (f := 0) hy hw rfl (by decide) ) o_X8_works mw_X8_131 rfl (C.lt rfl) rcv_40 rfl rfl rfl hcs dX8_does_38 ?_
        refine x_icmp_lt (tgt := 48) C dX8_does_41 (by decide) (fun c41 => ?_) (fun c41 => ?_)
        · skip
          refine x_iconst (v := 0) C dX8_does_48 (by decide) ?_
          refine hret _ _ _ _ dX8_does_49 rfl ⟨Or.inr ⟨rfl, ?_⟩, rfl⟩
          first | exact fun z => Int32.not_lt.mpr z.2.2 c41 | exact fun z => (z.2.1.elim hs0 (fun q => q c17)) | exact fun z => ce z.1
        · skip
          refine x_iconst (v := 1) C dX8_does_44 (by decide) ?_
          refine x_goto (tgt := 49) C dX8_does_45 (by decide) ?_
          refine hret _ _ _ _ dX8_does_49 rfl ⟨Or.inl ⟨rfl, ?_⟩, rfl⟩
          first | exact ⟨ce, Or.inl hs0, Int32.not_lt.mp c41⟩ | exact ⟨ce, Or.inr c17, Int32.not_lt.mp c41⟩

def rm_X8_fewest : Room := { frames := 5, cells := 0, slots := 0, locals := 113 }
set_option maxRecDepth 100000 in
set_option maxHeartbeats 4000000 in
theorem c_X8_fewest (l : Launch) (g : Gp) (M : Mem) (oa : okA (aM M))  (x : Int32) : Ki l g yX8_fewest cX8_fewest 5 .int rm_X8_fewest [.ref (gad g (40)), .int (x)] M (fun r M' => (r, aM M') = F_fewest x (aM M) ∧ sameM M M') := by
  refine Ki.of rfl rfl rfl (fun q C hret hcs => ?_)
  have o : okRow (vm M) := oa.1
  refine x_iload_n C dX8_fewest_0 rfl ?_
  refine x_csB C (c_X8_isWork l g _ _ ) o_X8_isWork mw_X8_128 rfl rfl rfl rfl hcs dX8_fewest_1 (fun c1 => ?_) (fun c1 => ?_)
  · skip
    have qx := ix_tn (n := 6) (by decide) c1
    refine x_if_neT (tgt := 13) C dX8_fewest_4 (by decide) (by decide) ?_
    refine x_iconst (v := -1) C dX8_fewest_13 (by decide) ?_
    refine x_istore_n C dX8_fewest_14 rfl ?_
    refine x_iconst (v := 0) C dX8_fewest_15 (by decide) ?_
    refine x_istore_n C dX8_fewest_16 rfl ?_
    refine up_to 256 (P := fun i => X (kmk l rm_X8_fewest g 5 q) M 17 [some (.ref (gad g (40))), some (.int (x)), some (.int (fewN (vm M) (tn x) i)), some (.int (nI i)), none] []) (fun i hi ih => ?_) 0 (by omega)
    refine x_iload_n C dX8_fewest_17 rfl ?_
    refine x_sipush (v := 256) C dX8_fewest_18 (by decide) ?_
    refine x_icmp_ge (tgt := 72) C dX8_fewest_21 (by decide) (fun c21 => ?_) (fun c21 => ?_)
    · skip
      have hlt := lp_ge (N := 256) (by decide) hi c21
      refine x_iload_n C dX8_fewest_72 rfl ?_
      refine x_if_ge (tgt := 84) C dX8_fewest_73 (by decide) (fun c73 => ?_) (fun c73 => ?_)
      · skip
        refine x_iload_n C dX8_fewest_84 rfl ?_
        refine hret _ _ _ _ dX8_fewest_85 rfl ?_
        subst hlt
        exact pu_M0 ((ifp_t c1).trans (ifp_f (Int32.not_lt.mpr c73)))
      · skip
        refine x_aload_n C dX8_fewest_76 rfl ?_
        refine x_iconst (v := 3) C dX8_fewest_77 (by decide) ?_
        refine x_cvi C (k := 40) (c_X8_no l g _ (k := 3) rfl (by decide) ) o_X8_no mw_X8_119 rfl (C.lt rfl) rcv_40 rfl rfl rfl hcs dX8_fewest_78 (fun rg M1 hg => ?_)
        refine x_goto (tgt := 85) C dX8_fewest_81 (by decide) ?_
        refine hret _ _ _ _ dX8_fewest_85 rfl ?_
        subst hlt
        exact fi_M (k := 3) ((ifp_t c1).trans (ifp_t (Int32.not_le.mp c73))) hg rfl (by decide) rfl (same.rf)
    · skip
      have hlt := lp_lt (N := 256) (by decide) hi c21
      have key : ∀ z : Int32, ((z = 1 ∧ (fewN (vm M) (tn x) i < 0 ∨ popT i < popT (tn (fewN (vm M) (tn x) i)))) ∨ (z = 0 ∧ ¬ (fewN (vm M) (tn x) i < 0 ∨ popT i < popT (tn (fewN (vm M) (tn x) i))))) → X (kmk l rm_X8_fewest g 5 q) M 44 [some (.ref (gad g (40))), some (.int (x)), some (.int (fewN (vm M) (tn x) i)), some (.int (nI i)), none] [.int (z)] := by
        intro z hz
        refine x_istore C dX8_fewest_44 rfl ?_
        refine x_iload C dX8_fewest_46 rfl ?_
        refine x_if_eq (tgt := 64) C dX8_fewest_48 (by decide) (fun c48 => ?_) (fun c48 => ?_)
        · skip
          refine x_iload_n C dX8_fewest_64 rfl ?_
          refine x_istore_n C dX8_fewest_65 rfl ?_
          refine x_iinc (v := nI (i + 1)) C dX8_fewest_66 rfl (nI_1 i) rfl ?_
          refine x_goto (tgt := 17) C dX8_fewest_69 (by decide) ?_
          refine X.le (ls' := [some (.ref (gad g (40))), some (.int (x)), some (.int (fewN (vm M) (tn x) i)), some (.int (nI (i + 1))), none]) (lle_s rfl (lle_s rfl (lle_s rfl (lle_s rfl (lle_n lle_e))))) ?_
          have e : fewN (vm M) (tn x) (i + 1) = fewN (vm M) (tn x) i := by first | exact ifp_f (fun q => c54 q.1) | exact ifp_f (fun q => by rcases hz with z | z; exact absurd (z.1 ▸ c48) (by decide); exact z.2 q.2)
          rw [e] at ih
          exact ih hlt
        · skip
          refine x_aload_n C dX8_fewest_51 rfl ?_
          refine x_iload_n C dX8_fewest_52 rfl ?_
          refine x_iload_n C dX8_fewest_53 rfl ?_
          refine x_cvB C (k := 40) (c_X8_does l g _ o (s := i) (w := (tn x)) rfl hlt qx.2 qx.1 ) o_X8_does mw_X8_161 rfl (C.lt rfl) rcv_40 rfl rfl rfl hcs dX8_fewest_54 (fun c54 => ?_) (fun c54 => ?_)
          · skip
            refine x_if_eqF (tgt := 64) C dX8_fewest_57 (by decide) (by decide) ?_
            refine x_iload_n C dX8_fewest_60 rfl ?_
            refine x_goto (tgt := 65) C dX8_fewest_61 (by decide) ?_
            refine x_istore_n C dX8_fewest_65 rfl ?_
            refine x_iinc (v := nI (i + 1)) C dX8_fewest_66 rfl (nI_1 i) rfl ?_
            refine x_goto (tgt := 17) C dX8_fewest_69 (by decide) ?_
            refine X.le (ls' := [some (.ref (gad g (40))), some (.int (x)), some (.int (nI i)), some (.int (nI (i + 1))), none]) (lle_s rfl (lle_s rfl (lle_s rfl (lle_s rfl (lle_n lle_e))))) ?_
            have e : fewN (vm M) (tn x) (i + 1) = nI i := ifp_t ⟨c54, by rcases hz with z | z; exact z.2; exact absurd z.1 c48⟩
            rw [e] at ih
            exact ih hlt
          · skip
            refine x_if_eqT (tgt := 64) C dX8_fewest_57 (by decide) (by decide) ?_
            refine x_iload_n C dX8_fewest_64 rfl ?_
            refine x_istore_n C dX8_fewest_65 rfl ?_
            refine x_iinc (v := nI (i + 1)) C dX8_fewest_66 rfl (nI_1 i) rfl ?_
            refine x_goto (tgt := 17) C dX8_fewest_69 (by decide) ?_
            refine X.le (ls' := [some (.ref (gad g (40))), some (.int (x)), some (.int (fewN (vm M) (tn x) i)), some (.int (nI (i + 1))), none]) (lle_s rfl (lle_s rfl (lle_s rfl (lle_s rfl (lle_n lle_e))))) ?_
            have e : fewN (vm M) (tn x) (i + 1) = fewN (vm M) (tn x) i := by first | exact ifp_f (fun q => c54 q.1) | exact ifp_f (fun q => by rcases hz with z | z; exact absurd (z.1 ▸ c48) (by decide); exact z.2 q.2)
            rw [e] at ih
            exact ih hlt
      refine x_iload_n C dX8_fewest_24 rfl ?_
      refine x_if_lt (tgt := 39) C dX8_fewest_25 (by decide) (fun c25 => ?_) (fun c25 => ?_)
      · skip
        refine x_iconst (v := 1) C dX8_fewest_39 (by decide) ?_
        refine x_goto (tgt := 44) C dX8_fewest_40 (by decide) ?_
        first | exact key _ (Or.inl ⟨rfl, Or.inl c25⟩) | exact key _ (Or.inl ⟨rfl, Or.inr (pop_lt.mp (Int32.not_le.mp c36))⟩) | exact key _ (Or.inr ⟨rfl, fun q => q.elim c25 (pop_le.mp c36)⟩)
      · skip
        have qf := (fewN_i (vm M) (tn x) i hi).resolve_left (by first | exact c25 | exact Int32.not_lt.mpr c25)
        refine x_iload_n C dX8_fewest_28 rfl ?_
        refine x_csE C (c_X8_bits l g _ (s := i) rfl hlt ) o_X8_bits mw_X8_143 rfl rfl rfl rfl hcs dX8_fewest_29 ?_
        refine x_iload_n C dX8_fewest_32 rfl ?_
        refine x_csE C (c_X8_bits l g _ (s := (tn (fewN (vm M) (tn x) i))) qf.2 qf.1 ) o_X8_bits mw_X8_143 rfl rfl rfl rfl hcs dX8_fewest_33 ?_
        refine x_icmp_ge (tgt := 43) C dX8_fewest_36 (by decide) (fun c36 => ?_) (fun c36 => ?_)
        · skip
          refine x_iconst (v := 0) C dX8_fewest_43 (by decide) ?_
          first | exact key _ (Or.inl ⟨rfl, Or.inl c25⟩) | exact key _ (Or.inl ⟨rfl, Or.inr (pop_lt.mp (Int32.not_le.mp c36))⟩) | exact key _ (Or.inr ⟨rfl, fun q => q.elim c25 (pop_le.mp c36)⟩)
        · skip
          refine x_iconst (v := 1) C dX8_fewest_39 (by decide) ?_
          refine x_goto (tgt := 44) C dX8_fewest_40 (by decide) ?_
          first | exact key _ (Or.inl ⟨rfl, Or.inl c25⟩) | exact key _ (Or.inl ⟨rfl, Or.inr (pop_lt.mp (Int32.not_le.mp c36))⟩) | exact key _ (Or.inr ⟨rfl, fun q => q.elim c25 (pop_le.mp c36)⟩)
  · skip
    refine x_if_neF (tgt := 13) C dX8_fewest_4 (by decide) (by decide) ?_
    refine x_aload_n C dX8_fewest_7 rfl ?_
    refine x_iconst (v := 0) C dX8_fewest_8 (by decide) ?_
    refine x_cvi C (k := 40) (c_X8_no l g _ (k := 0) rfl (by decide) ) o_X8_no mw_X8_119 rfl (C.lt rfl) rcv_40 rfl rfl rfl hcs dX8_fewest_9 (fun rf M2 hf => ?_)
    refine hret _ _ _ _ dX8_fewest_12 rfl ?_
    exact fi_M (k := 0) (ifp_f c1) hf rfl (by decide) rfl (same.rf)

def rm_X8_thrifty : Room := { frames := 5, cells := 0, slots := 0, locals := 113 }
set_option maxRecDepth 100000 in
set_option maxHeartbeats 4000000 in
theorem c_X8_thrifty (l : Launch) (g : Gp) (M : Mem) (oa : okA (aM M))  (x : Int32) : Ki l g yX8_thrifty cX8_thrifty 5 .int rm_X8_thrifty [.ref (gad g (40)), .int (x)] M (fun r M' => (r, aM M') = F_thrifty x (aM M) ∧ sameM M M') := by
  refine Ki.of rfl rfl rfl (fun q C hret hcs => ?_)
  have o : okRow (vm M) := oa.1
  refine x_iload_n C dX8_thrifty_0 rfl ?_
  refine x_csB C (c_X8_isWork l g _ _ ) o_X8_isWork mw_X8_128 rfl rfl rfl rfl hcs dX8_thrifty_1 (fun c1 => ?_) (fun c1 => ?_)
  · skip
    have qx := ix_tn (n := 6) (by decide) c1
    refine x_if_neT (tgt := 13) C dX8_thrifty_4 (by decide) (by decide) ?_
    refine x_iconst (v := -1) C dX8_thrifty_13 (by decide) ?_
    refine x_istore_n C dX8_thrifty_14 rfl ?_
    refine x_iconst (v := 0) C dX8_thrifty_15 (by decide) ?_
    refine x_istore_n C dX8_thrifty_16 rfl ?_
    refine up_to 256 (P := fun i => X (kmk l rm_X8_thrifty g 5 q) M 17 [some (.ref (gad g (40))), some (.int (x)), some (.int (thrN (vm M) (tn x) i)), some (.int (nI i)), none] []) (fun i hi ih => ?_) 0 (by omega)
    refine x_iload_n C dX8_thrifty_17 rfl ?_
    refine x_sipush (v := 256) C dX8_thrifty_18 (by decide) ?_
    refine x_icmp_ge (tgt := 74) C dX8_thrifty_21 (by decide) (fun c21 => ?_) (fun c21 => ?_)
    · skip
      have hlt := lp_ge (N := 256) (by decide) hi c21
      refine x_iload_n C dX8_thrifty_74 rfl ?_
      refine x_if_ge (tgt := 86) C dX8_thrifty_75 (by decide) (fun c75 => ?_) (fun c75 => ?_)
      · skip
        refine x_iload_n C dX8_thrifty_86 rfl ?_
        refine hret _ _ _ _ dX8_thrifty_87 rfl ?_
        subst hlt
        exact pu_M0 ((ifp_t c1).trans (ifp_f (Int32.not_lt.mpr c75)))
      · skip
        refine x_aload_n C dX8_thrifty_78 rfl ?_
        refine x_iconst (v := 3) C dX8_thrifty_79 (by decide) ?_
        refine x_cvi C (k := 40) (c_X8_no l g _ (k := 3) rfl (by decide) ) o_X8_no mw_X8_119 rfl (C.lt rfl) rcv_40 rfl rfl rfl hcs dX8_thrifty_80 (fun rg M1 hg => ?_)
        refine x_goto (tgt := 87) C dX8_thrifty_83 (by decide) ?_
        refine hret _ _ _ _ dX8_thrifty_87 rfl ?_
        subst hlt
        exact fi_M (k := 3) ((ifp_t c1).trans (ifp_t (Int32.not_le.mp c75))) hg rfl (by decide) rfl (same.rf)
    · skip
      have hlt := lp_lt (N := 256) (by decide) hi c21
      have key : ∀ z : Int32, ((z = 1 ∧ (doesP (vm M) (tn x) i ∧ (thrN (vm M) (tn x) i < 0 ∨ sumN (vm M) i 8 < sumN (vm M) (tn (thrN (vm M) (tn x) i)) 8))) ∨ (z = 0 ∧ ¬ (doesP (vm M) (tn x) i ∧ (thrN (vm M) (tn x) i < 0 ∨ sumN (vm M) i 8 < sumN (vm M) (tn (thrN (vm M) (tn x) i)) 8)))) → X (kmk l rm_X8_thrifty g 5 q) M 55 [some (.ref (gad g (40))), some (.int (x)), some (.int (thrN (vm M) (tn x) i)), some (.int (nI i)), none] [.int (z)] := by
        intro z hz
        refine x_istore C dX8_thrifty_55 rfl ?_
        refine x_iload C dX8_thrifty_57 rfl ?_
        refine x_if_eq (tgt := 66) C dX8_thrifty_59 (by decide) (fun c59 => ?_) (fun c59 => ?_)
        · skip
          refine x_iload_n C dX8_thrifty_66 rfl ?_
          refine x_istore_n C dX8_thrifty_67 rfl ?_
          refine x_iinc (v := nI (i + 1)) C dX8_thrifty_68 rfl (nI_1 i) rfl ?_
          refine x_goto (tgt := 17) C dX8_thrifty_71 (by decide) ?_
          refine X.le (ls' := [some (.ref (gad g (40))), some (.int (x)), some (.int (thrN (vm M) (tn x) i)), some (.int (nI (i + 1))), none]) (lle_s rfl (lle_s rfl (lle_s rfl (lle_s rfl (lle_n lle_e))))) ?_
          have e : thrN (vm M) (tn x) (i + 1) = thrN (vm M) (tn x) i := ifp_f (by rcases hz with z | z; exact absurd (z.1 ▸ c59) (by decide); exact z.2)
          rw [e] at ih
          exact ih hlt
        · skip
          refine x_iload_n C dX8_thrifty_62 rfl ?_
          refine x_goto (tgt := 67) C dX8_thrifty_63 (by decide) ?_
          refine x_istore_n C dX8_thrifty_67 rfl ?_
          refine x_iinc (v := nI (i + 1)) C dX8_thrifty_68 rfl (nI_1 i) rfl ?_
          refine x_goto (tgt := 17) C dX8_thrifty_71 (by decide) ?_
          refine X.le (ls' := [some (.ref (gad g (40))), some (.int (x)), some (.int (nI i)), some (.int (nI (i + 1))), none]) (lle_s rfl (lle_s rfl (lle_s rfl (lle_s rfl (lle_n lle_e))))) ?_
          have e : thrN (vm M) (tn x) (i + 1) = nI i := ifp_t (by rcases hz with z | z; exact z.2; exact absurd z.1 c59)
          rw [e] at ih
          exact ih hlt
      refine x_aload_n C dX8_thrifty_24 rfl ?_
      refine x_iload_n C dX8_thrifty_25 rfl ?_
      refine x_iload_n C dX8_thrifty_26 rfl ?_
      refine x_cvB C (k := 40) (c_X8_does l g _ o (s := i) (w := (tn x)) rfl hlt qx.2 qx.1 ) o_X8_does mw_X8_161 rfl (C.lt rfl) rcv_40 rfl rfl rfl hcs dX8_thrifty_27 (fun c27 => ?_) (fun c27 => ?_)
      · skip
        refine x_if_eqF (tgt := 54) C dX8_thrifty_30 (by decide) (by decide) ?_
        refine x_iload_n C dX8_thrifty_33 rfl ?_
        refine x_if_lt (tgt := 50) C dX8_thrifty_34 (by decide) (fun c34 => ?_) (fun c34 => ?_)
        · skip
          refine x_iconst (v := 1) C dX8_thrifty_50 (by decide) ?_
          refine x_goto (tgt := 55) C dX8_thrifty_51 (by decide) ?_
          first | exact key _ (Or.inl ⟨rfl, c27, Or.inl c34⟩) | exact key _ (Or.inl ⟨rfl, c27, Or.inr (Int32.not_le.mp c47)⟩) | exact key _ (Or.inr ⟨rfl, fun q => q.2.elim c34 (Int32.not_lt.mpr c47)⟩) | exact key _ (Or.inr ⟨rfl, fun q => c27 q.1⟩)
        · skip
          have qf := (thrN_i (vm M) (tn x) i hi).resolve_left (by first | exact c34 | exact Int32.not_lt.mpr c34)
          refine x_aload_n C dX8_thrifty_37 rfl ?_
          refine x_iload_n C dX8_thrifty_38 rfl ?_
          refine x_cvE C (k := 40) (c_X8_sumOf l g _ (s := i) rfl hlt ) o_X8_sumOf mw_X8_99 rfl (C.lt rfl) rcv_40 rfl rfl rfl hcs dX8_thrifty_39 ?_
          refine x_aload_n C dX8_thrifty_42 rfl ?_
          refine x_iload_n C dX8_thrifty_43 rfl ?_
          refine x_cvE C (k := 40) (c_X8_sumOf l g _ (s := (tn (thrN (vm M) (tn x) i))) qf.2 qf.1 ) o_X8_sumOf mw_X8_99 rfl (C.lt rfl) rcv_40 rfl rfl rfl hcs dX8_thrifty_44 ?_
          refine x_icmp_ge (tgt := 54) C dX8_thrifty_47 (by decide) (fun c47 => ?_) (fun c47 => ?_)
          · skip
            refine x_iconst (v := 0) C dX8_thrifty_54 (by decide) ?_
            first | exact key _ (Or.inl ⟨rfl, c27, Or.inl c34⟩) | exact key _ (Or.inl ⟨rfl, c27, Or.inr (Int32.not_le.mp c47)⟩) | exact key _ (Or.inr ⟨rfl, fun q => q.2.elim c34 (Int32.not_lt.mpr c47)⟩) | exact key _ (Or.inr ⟨rfl, fun q => c27 q.1⟩)
          · skip
            refine x_iconst (v := 1) C dX8_thrifty_50 (by decide) ?_
            refine x_goto (tgt := 55) C dX8_thrifty_51 (by decide) ?_
            first | exact key _ (Or.inl ⟨rfl, c27, Or.inl c34⟩) | exact key _ (Or.inl ⟨rfl, c27, Or.inr (Int32.not_le.mp c47)⟩) | exact key _ (Or.inr ⟨rfl, fun q => q.2.elim c34 (Int32.not_lt.mpr c47)⟩) | exact key _ (Or.inr ⟨rfl, fun q => c27 q.1⟩)
      · skip
        refine x_if_eqT (tgt := 54) C dX8_thrifty_30 (by decide) (by decide) ?_
        refine x_iconst (v := 0) C dX8_thrifty_54 (by decide) ?_
        first | exact key _ (Or.inl ⟨rfl, c27, Or.inl c34⟩) | exact key _ (Or.inl ⟨rfl, c27, Or.inr (Int32.not_le.mp c47)⟩) | exact key _ (Or.inr ⟨rfl, fun q => q.2.elim c34 (Int32.not_lt.mpr c47)⟩) | exact key _ (Or.inr ⟨rfl, fun q => c27 q.1⟩)
  · skip
    refine x_if_neF (tgt := 13) C dX8_thrifty_4 (by decide) (by decide) ?_
    refine x_aload_n C dX8_thrifty_7 rfl ?_
    refine x_iconst (v := 0) C dX8_thrifty_8 (by decide) ?_
    refine x_cvi C (k := 40) (c_X8_no l g _ (k := 0) rfl (by decide) ) o_X8_no mw_X8_119 rfl (C.lt rfl) rcv_40 rfl rfl rfl hcs dX8_thrifty_9 (fun rf M2 hf => ?_)
    refine hret _ _ _ _ dX8_thrifty_12 rfl ?_
    exact fi_M (k := 0) (ifp_f c1) hf rfl (by decide) rfl (same.rf)

def rm_X8_soonest : Room := { frames := 5, cells := 0, slots := 0, locals := 112 }
set_option maxRecDepth 100000 in
set_option maxHeartbeats 4000000 in
theorem c_X8_soonest (l : Launch) (g : Gp) (M : Mem) (oa : okA (aM M))  (x : Int32) : Ki l g yX8_soonest cX8_soonest 5 .int rm_X8_soonest [.ref (gad g (40)), .int (x)] M (fun r M' => (r, aM M') = F_soonest x (aM M) ∧ sameM M M') := by
  refine Ki.of rfl rfl rfl (fun q C hret hcs => ?_)
  have o : okRow (vm M) := oa.1
  refine x_iload_n C dX8_soonest_0 rfl ?_
  refine x_csB C (c_X8_isWork l g _ _ ) o_X8_isWork mw_X8_128 rfl rfl rfl rfl hcs dX8_soonest_1 (fun c1 => ?_) (fun c1 => ?_)
  · skip
    have qx := ix_tn (n := 6) (by decide) c1
    refine x_if_neT (tgt := 13) C dX8_soonest_4 (by decide) (by decide) ?_
    refine x_aload_n C dX8_soonest_13 rfl ?_
    refine x_cvv C (k := 40) (c_X8_setsAside l g _ ) o_X8_setsAside mw_X8_152 rfl (C.lt rfl) rcv_40 rfl rfl rfl hcs dX8_soonest_14 (fun Ma ha => ?_)
    have hva : vm Ma = vm M := vm_same (ha.2 41 (by decide))
    refine x_iconst (v := 0) C dX8_soonest_17 (by decide) ?_
    refine x_istore_n C dX8_soonest_18 rfl ?_
    refine x_iconst (v := 0) C dX8_soonest_19 (by decide) ?_
    refine x_istore_n C dX8_soonest_20 rfl ?_
    refine x_iconst (v := 0) C dX8_soonest_21 (by decide) ?_
    have done1 : ∀ (i : Nat) (M1 : Mem) (sp : Int32), i < 61 → fstN (fun j => ¬ (¬ wk (dayN (vm M) j) (tn x) 1 < dayN (vm M) j 0 ∧ wk (dayN (vm M) j) (tn x) 0 ≤ wk (dayN (vm M) j) (tn x) 3 + allM (dayN (vm M) j) 8)) 61 = i → same [41] Ma M1 → X (kmk l rm_X8_soonest g 5 q) M1 24 [some (.ref (gad g (40))), some (.int (x)), some (.int (nI i)), some (.int (sp)), some (.int (1))] [] := by
      intro i M1 sp hi61 eF hs
      have hi : i ≤ 61 := Nat.le_of_lt hi61
      refine x_iload_n C dX8_soonest_24 rfl ?_
      refine x_bipush (v := 60) C dX8_soonest_25 (by decide) ?_
      refine x_icmp_gt (tgt := 88) C dX8_soonest_27 (by decide) (fun c27 => ?_) (fun c27 => ?_)
      · skip
        have hlt : i = 61 := by have := c27; clear hret hcs C; exact lp_ge (N := 61) (by decide) hi (by grind [nI])
        refine x_aload_n C dX8_soonest_88 rfl ?_
        refine x_cvv C (k := 40) (c_X8_laysBack l g _ ) o_X8_laysBack mw_X8_155 rfl (C.lt rfl) rcv_40 rfl rfl rfl hcs dX8_soonest_89 (fun Mb hb => ?_)
        refine x_iload C dX8_soonest_92 rfl ?_
        refine x_if_eqF (tgt := 101) C dX8_soonest_94 (by decide) (by decide) ?_
        refine x_iload_n C dX8_soonest_97 rfl ?_
        refine x_goto (tgt := 106) C dX8_soonest_98 (by decide) ?_
        refine hret _ _ _ _ dX8_soonest_106 rfl ?_
        first
          | (exfalso; omega)
          | exact pu_M ((ifp_t c1).trans ((ifp_t (show fstN (fun j => ¬ (¬ wk (dayN (vm M) j) (tn x) 1 < dayN (vm M) j 0 ∧ wk (dayN (vm M) j) (tn x) 0 ≤ wk (dayN (vm M) j) (tn x) 3 + allM (dayN (vm M) j) 8)) 61 < 61 by omega)).trans (congrArg (fun z => (nI z, aM M)) eF))) (back_vm ha.1 hs hb.1) ((ha.2.mono (by simp [SC1])).tr ((hs.mono (by simp [SC1])).tr (hb.2.mono (by simp [SC1]))))
      · skip
        have hlt : i < 61 := by have := c27; clear hret hcs C; exact lp_lt (N := 61) (by decide) hi (by grind [nI])
        refine x_iload C dX8_soonest_30 rfl ?_
        refine x_if_neT (tgt := 88) C dX8_soonest_32 (by decide) (by decide) ?_
        refine x_aload_n C dX8_soonest_88 rfl ?_
        refine x_cvv C (k := 40) (c_X8_laysBack l g _ ) o_X8_laysBack mw_X8_155 rfl (C.lt rfl) rcv_40 rfl rfl rfl hcs dX8_soonest_89 (fun Mb hb => ?_)
        refine x_iload C dX8_soonest_92 rfl ?_
        refine x_if_eqF (tgt := 101) C dX8_soonest_94 (by decide) (by decide) ?_
        refine x_iload_n C dX8_soonest_97 rfl ?_
        refine x_goto (tgt := 106) C dX8_soonest_98 (by decide) ?_
        refine hret _ _ _ _ dX8_soonest_106 rfl ?_
        first
          | (exfalso; omega)
          | exact pu_M ((ifp_t c1).trans ((ifp_t (show fstN (fun j => ¬ (¬ wk (dayN (vm M) j) (tn x) 1 < dayN (vm M) j 0 ∧ wk (dayN (vm M) j) (tn x) 0 ≤ wk (dayN (vm M) j) (tn x) 3 + allM (dayN (vm M) j) 8)) 61 < 61 by omega)).trans (congrArg (fun z => (nI z, aM M)) eF))) (back_vm ha.1 hs hb.1) ((ha.2.mono (by simp [SC1])).tr ((hs.mono (by simp [SC1])).tr (hb.2.mono (by simp [SC1]))))
    refine x_istore C dX8_soonest_22 rfl ?_
    refine up_to 61 (P := fun i => ∀ (M1 : Mem) (sp : Int32), vm M1 = dayN (vm M) i → same [41] Ma M1 → (∀ j, j < i → ¬ (¬ wk (dayN (vm M) j) (tn x) 1 < dayN (vm M) j 0 ∧ wk (dayN (vm M) j) (tn x) 0 ≤ wk (dayN (vm M) j) (tn x) 3 + allM (dayN (vm M) j) 8)) → X (kmk l rm_X8_soonest g 5 q) M1 24 [some (.ref (gad g (40))), some (.int (x)), some (.int (nI i)), some (.int (sp)), some (.int (0))] []) (fun i hi ih M1 sp hv hs hst => ?_) 0 (by omega) Ma 0 hva same.rf (fun j hj => absurd hj (by omega))
    refine x_iload_n C dX8_soonest_24 rfl ?_
    refine x_bipush (v := 60) C dX8_soonest_25 (by decide) ?_
    refine x_icmp_gt (tgt := 88) C dX8_soonest_27 (by decide) (fun c27 => ?_) (fun c27 => ?_)
    · skip
      have hlt : i = 61 := by have := c27; clear hret hcs C; exact lp_ge (N := 61) (by decide) hi (by grind [nI])
      refine x_aload_n C dX8_soonest_88 rfl ?_
      refine x_cvv C (k := 40) (c_X8_laysBack l g _ ) o_X8_laysBack mw_X8_155 rfl (C.lt rfl) rcv_40 rfl rfl rfl hcs dX8_soonest_89 (fun Mb hb => ?_)
      refine x_iload C dX8_soonest_92 rfl ?_
      refine x_if_eqT (tgt := 101) C dX8_soonest_94 (by decide) (by decide) ?_
      refine x_aload_n C dX8_soonest_101 rfl ?_
      refine x_iconst (v := 3) C dX8_soonest_102 (by decide) ?_
      refine x_cvi C (k := 40) (c_X8_no l g _ (k := 3) rfl (by decide) ) o_X8_no mw_X8_119 rfl (C.lt rfl) rcv_40 rfl rfl rfl hcs dX8_soonest_103 (fun rg M1 hg => ?_)
      refine hret _ _ _ _ dX8_soonest_106 rfl ?_
      subst hlt
      have eF : fstN (fun j => ¬ (¬ wk (dayN (vm M) j) (tn x) 1 < dayN (vm M) j 0 ∧ wk (dayN (vm M) j) (tn x) 0 ≤ wk (dayN (vm M) j) (tn x) 3 + allM (dayN (vm M) j) 8)) 61 = 61 := fstN_all hst
      exact fi_M (k := 3) ((ifp_t c1).trans (ifp_f (show ¬ fstN (fun j => ¬ (¬ wk (dayN (vm M) j) (tn x) 1 < dayN (vm M) j 0 ∧ wk (dayN (vm M) j) (tn x) 0 ≤ wk (dayN (vm M) j) (tn x) 3 + allM (dayN (vm M) j) 8)) 61 < 61 by omega))) hg rfl (by decide) (back_vm ha.1 hs hb.1) ((ha.2.mono (by simp [SC1])).tr ((hs.mono (by simp [SC1])).tr (hb.2.mono (by simp [SC1]))))
    · skip
      have hlt : i < 61 := by have := c27; clear hret hcs C; exact lp_lt (N := 61) (by decide) hi (by grind [nI])
      refine x_iload C dX8_soonest_30 rfl ?_
      refine x_if_neF (tgt := 88) C dX8_soonest_32 (by decide) (by decide) ?_
      refine x_aload_n C dX8_soonest_35 rfl ?_
      refine x_iload_n C dX8_soonest_36 rfl ?_
      refine x_cvB C (k := 40) (c_X8_isOver l g _ (w := (tn x)) qx.2 qx.1 ) o_X8_isOver mw_X8_137 rfl (C.lt rfl) rcv_40 rfl rfl rfl hcs dX8_soonest_37 (fun c37 => ?_) (fun c37 => ?_)
      · skip
        refine x_if_neT (tgt := 67) C dX8_soonest_40 (by decide) (by decide) ?_
        refine x_iconst (v := 0) C dX8_soonest_67 (by decide) ?_
        refine x_istore C dX8_soonest_68 rfl ?_
        refine x_iload C dX8_soonest_70 rfl ?_
        refine x_if_neF (tgt := 24) C dX8_soonest_72 (by decide) (by decide) ?_
        refine x_iload_n C dX8_soonest_75 rfl ?_
        refine x_aload_n C dX8_soonest_76 rfl ?_
        refine x_cvi C (k := 40) (c_X8_day l g _ ) o_X8_day mw_X8_140 rfl (C.lt rfl) rcv_40 rfl rfl rfl hcs dX8_soonest_77 (fun r3 M3 h3 => ?_)
        refine x_iadd C dX8_soonest_80 ?_
        refine x_istore_n C dX8_soonest_81 rfl ?_
        refine x_iinc (v := nI (i + 1)) C dX8_soonest_82 rfl (nI_1 i) rfl ?_
        refine x_goto (tgt := 24) C dX8_soonest_85 (by decide) ?_
        refine ih hlt M3 _ ?_ (hs.tr h3.2.2) (fun j hj => by rcases Nat.lt_or_ge j i with z | z; exact hst j z; rw [show j = i by omega]; exact (by rw [← hv]; first | exact fun q => q.1 c37 | exact fun q => Int32.not_lt.mpr q.2 c60))
        rw [h3.2.1, hv]; rfl
      · skip
        refine x_if_neF (tgt := 67) C dX8_soonest_40 (by decide) (by decide) ?_
        refine x_aload_n C dX8_soonest_43 rfl ?_
        refine x_iload_n C dX8_soonest_44 rfl ?_
        refine x_iconst (v := 3) C dX8_soonest_45 (by decide) ?_
        refine x_cvE C (k := 40) (c_X8_works l g _ (e := (tn x)) (f := 3) qx.2 qx.1 rfl (by decide) ) o_X8_works mw_X8_131 rfl (C.lt rfl) rcv_40 rfl rfl rfl hcs dX8_soonest_46 ?_
        refine x_aload_n C dX8_soonest_49 rfl ?_
        refine x_cvE C (k := 40) (c_X8_allMinutes l g _ ) o_X8_allMinutes mw_X8_146 rfl (C.lt rfl) rcv_40 rfl rfl rfl hcs dX8_soonest_50 ?_
        refine x_iadd C dX8_soonest_53 ?_
        refine x_aload_n C dX8_soonest_54 rfl ?_
        refine x_iload_n C dX8_soonest_55 rfl ?_
        refine x_iconst (v := 0) C dX8_soonest_56 (by decide) ?_
        refine x_cvE C (k := 40) (c_X8_works l g _ (e := (tn x)) (f := 0) qx.2 qx.1 rfl (by decide) ) o_X8_works mw_X8_131 rfl (C.lt rfl) rcv_40 rfl rfl rfl hcs dX8_soonest_57 ?_
        refine x_icmp_lt (tgt := 67) C dX8_soonest_60 (by decide) (fun c60 => ?_) (fun c60 => ?_)
        · skip
          refine x_iconst (v := 0) C dX8_soonest_67 (by decide) ?_
          refine x_istore C dX8_soonest_68 rfl ?_
          refine x_iload C dX8_soonest_70 rfl ?_
          refine x_if_neF (tgt := 24) C dX8_soonest_72 (by decide) (by decide) ?_
          refine x_iload_n C dX8_soonest_75 rfl ?_
          refine x_aload_n C dX8_soonest_76 rfl ?_
          refine x_cvi C (k := 40) (c_X8_day l g _ ) o_X8_day mw_X8_140 rfl (C.lt rfl) rcv_40 rfl rfl rfl hcs dX8_soonest_77 (fun r3 M3 h3 => ?_)
          refine x_iadd C dX8_soonest_80 ?_
          refine x_istore_n C dX8_soonest_81 rfl ?_
          refine x_iinc (v := nI (i + 1)) C dX8_soonest_82 rfl (nI_1 i) rfl ?_
          refine x_goto (tgt := 24) C dX8_soonest_85 (by decide) ?_
          refine ih hlt M3 _ ?_ (hs.tr h3.2.2) (fun j hj => by rcases Nat.lt_or_ge j i with z | z; exact hst j z; rw [show j = i by omega]; exact (by rw [← hv]; first | exact fun q => q.1 c37 | exact fun q => Int32.not_lt.mpr q.2 c60))
          rw [h3.2.1, hv]; rfl
        · skip
          refine x_iconst (v := 1) C dX8_soonest_63 (by decide) ?_
          refine x_goto (tgt := 68) C dX8_soonest_64 (by decide) ?_
          refine x_istore C dX8_soonest_68 rfl ?_
          refine x_iload C dX8_soonest_70 rfl ?_
          refine x_if_neT (tgt := 24) C dX8_soonest_72 (by decide) (by decide) ?_
          exact done1 i M1 _ hlt (fstN_hit hst (fun z => z (by rw [← hv]; exact ⟨c37, Int32.not_lt.mp c60⟩)) hlt) hs
  · skip
    refine x_if_neF (tgt := 13) C dX8_soonest_4 (by decide) (by decide) ?_
    refine x_aload_n C dX8_soonest_7 rfl ?_
    refine x_iconst (v := 0) C dX8_soonest_8 (by decide) ?_
    refine x_cvi C (k := 40) (c_X8_no l g _ (k := 0) rfl (by decide) ) o_X8_no mw_X8_119 rfl (C.lt rfl) rcv_40 rfl rfl rfl hcs dX8_soonest_9 (fun rf M2 hf => ?_)
    refine hret _ _ _ _ dX8_soonest_12 rfl ?_
    exact fi_M (k := 0) (ifp_f c1) hf rfl (by decide) rfl (same.rf)

def rm_X8_nest : Room := { frames := 4, cells := 0, slots := 0, locals := 91 }
set_option maxRecDepth 100000 in
set_option maxHeartbeats 4000000 in
theorem c_X8_nest (l : Launch) (g : Gp) (M : Mem) (oa : okA (aM M))  (n : Int32) : Ki l g yX8_nest cX8_nest 2 .int rm_X8_nest [.ref (gad g (40)), .int (n)] M (fun r M' => (r, aM M') = F_nest n (aM M) ∧ sameM M M') := by
  refine Ki.of rfl rfl rfl (fun q C hret hcs => ?_)
  have o : okRow (vm M) := oa.1
  refine x_iload_n C dX8_nest_0 rfl ?_
  refine x_iconst (v := 0) C dX8_nest_1 (by decide) ?_
  refine x_iconst (v := 3) C dX8_nest_2 (by decide) ?_
  refine x_csB C (c_X8_in1 l g _ _ _ _ ) o_X8_in1 mw_X8_59 rfl rfl rfl rfl hcs dX8_nest_3 (fun c3 => ?_) (fun c3 => ?_)
  · skip
    refine x_if_eqF (tgt := 21) C dX8_nest_6 (by decide) (by decide) ?_
    refine x_aload_n C dX8_nest_9 rfl ?_
    refine x_aload_n C dX8_nest_10 rfl ?_
    refine x_iload_n C dX8_nest_11 rfl ?_
    refine x_cvE C (k := 40) (c_X8_inNest l g _ _ ) o_X8_inNest mw_X8_176 rfl (C.lt rfl) rcv_40 rfl rfl rfl hcs dX8_nest_12 ?_
    refine x_cvE C (k := 40) (c_X8_sumOf l g _ (s := (nsN (vm M) n 8)) rfl (nsN_lt _ _ 8) ) o_X8_sumOf mw_X8_99 rfl (C.lt rfl) rcv_40 rfl rfl rfl hcs dX8_nest_15 ?_
    refine x_goto (tgt := 26) C dX8_nest_18 (by decide) ?_
    refine hret _ _ _ _ dX8_nest_26 rfl ?_
    exact pu_M0 ((ifp_t c3).trans (congrArg (fun z => (z, aM M)) (sum_nest (vm M) n 8 (Nat.le_refl 8)).symm))
  · skip
    refine x_if_eqT (tgt := 21) C dX8_nest_6 (by decide) (by decide) ?_
    refine x_aload_n C dX8_nest_21 rfl ?_
    refine x_iconst (v := 0) C dX8_nest_22 (by decide) ?_
    refine x_cvi C (k := 40) (c_X8_no l g _ (k := 0) rfl (by decide) ) o_X8_no mw_X8_119 rfl (C.lt rfl) rcv_40 rfl rfl rfl hcs dX8_nest_23 (fun rf M1 hf => ?_)
    refine hret _ _ _ _ dX8_nest_26 rfl ?_
    exact fi_M (k := 0) (ifp_f c3) hf rfl (by decide) rfl (same.rf)

def rm_X8_guard : Room := { frames := 4, cells := 0, slots := 0, locals := 91 }
set_option maxRecDepth 100000 in
set_option maxHeartbeats 4000000 in
theorem c_X8_guard (l : Launch) (g : Gp) (M : Mem) (oa : okA (aM M))  : Ki l g yX8_guard cX8_guard 3 .int rm_X8_guard [.ref (gad g (40))] M (fun r M' => (r, aM M') = F_guard (aM M) ∧ sameM M M') := by
  refine Ki.of rfl rfl rfl (fun q C hret hcs => ?_)
  have o : okRow (vm M) := oa.1
  refine x_iconst (v := 0) C dX8_guard_0 (by decide) ?_
  refine x_istore_n C dX8_guard_1 rfl ?_
  refine x_iconst (v := 1) C dX8_guard_2 (by decide) ?_
  refine x_istore_n C dX8_guard_3 rfl ?_
  refine up_to 3 (P := fun i => X (kmk l rm_X8_guard g 3 q) M 4 [some (.ref (gad g (40))), some (.int (nI (guaN (vm M) i))), some (.int (nI (i + 1)))] []) (fun i hi ih => ?_) 0 (by omega)
  refine x_iload_n C dX8_guard_4 rfl ?_
  refine x_iconst (v := 4) C dX8_guard_5 (by decide) ?_
  refine x_icmp_ge (tgt := 42) C dX8_guard_6 (by decide) (fun c6 => ?_) (fun c6 => ?_)
  · skip
    have hlt := lp_ge (N := 4) (by decide) (show i + 1 ≤ 4 by omega) c6
    refine x_iload_n C dX8_guard_42 rfl ?_
    refine hret _ _ _ _ dX8_guard_43 rfl ?_
    have hlt : i = 3 := by omega
    subst hlt
    exact pu_M0 rfl
  · skip
    have hlt := lp_lt (N := 4) (by decide) (show i + 1 ≤ 4 by omega) c6
    refine x_aload_n C dX8_guard_9 rfl ?_
    refine x_aload_n C dX8_guard_10 rfl ?_
    refine x_iload_n C dX8_guard_11 rfl ?_
    refine x_cvE C (k := 40) (c_X8_inNest l g _ _ ) o_X8_inNest mw_X8_176 rfl (C.lt rfl) rcv_40 rfl rfl rfl hcs dX8_guard_12 ?_
    refine x_cvE C (k := 40) (c_X8_sumOf l g _ (s := (nsN (vm M) (nI (i + 1)) 8)) rfl (nsN_lt _ _ 8) ) o_X8_sumOf mw_X8_99 rfl (C.lt rfl) rcv_40 rfl rfl rfl hcs dX8_guard_15 ?_
    refine x_topE (y := nestM (vm M) (nI (i + 1)) 8) (sum_nest _ _ 8 (Nat.le_refl 8)) ?_
    refine x_aload_n C dX8_guard_18 rfl ?_
    refine x_aload_n C dX8_guard_19 rfl ?_
    refine x_iload_n C dX8_guard_20 rfl ?_
    refine x_cvE C (k := 40) (c_X8_inNest l g _ _ ) o_X8_inNest mw_X8_176 rfl (C.lt rfl) rcv_40 rfl rfl rfl hcs dX8_guard_21 ?_
    refine x_cvE C (k := 40) (c_X8_sumOf l g _ (s := (nsN (vm M) (nI (guaN (vm M) i)) 8)) rfl (nsN_lt _ _ 8) ) o_X8_sumOf mw_X8_99 rfl (C.lt rfl) rcv_40 rfl rfl rfl hcs dX8_guard_24 ?_
    refine x_topE (y := nestM (vm M) (nI (guaN (vm M) i)) 8) (sum_nest _ _ 8 (Nat.le_refl 8)) ?_
    refine x_icmp_le (tgt := 34) C dX8_guard_27 (by decide) (fun c27 => ?_) (fun c27 => ?_)
    · skip
      refine x_iload_n C dX8_guard_34 rfl ?_
      refine x_istore_n C dX8_guard_35 rfl ?_
      refine x_iinc (v := nI (i + 1 + 1)) C dX8_guard_36 rfl (nI_1 _) rfl ?_
      refine x_goto (tgt := 4) C dX8_guard_39 (by decide) ?_
      have e : guaN (vm M) (i + 1) = guaN (vm M) i := if_neg (Int32.not_lt.mpr c27)
      rw [e] at ih
      exact ih (by omega)
    · skip
      refine x_iload_n C dX8_guard_30 rfl ?_
      refine x_goto (tgt := 35) C dX8_guard_31 (by decide) ?_
      refine x_istore_n C dX8_guard_35 rfl ?_
      refine x_iinc (v := nI (i + 1 + 1)) C dX8_guard_36 rfl (nI_1 _) rfl ?_
      refine x_goto (tgt := 4) C dX8_guard_39 (by decide) ?_
      have e : guaN (vm M) (i + 1) = i + 1 := if_pos (Int32.not_le.mp c27)
      rw [e] at ih
      exact ih (by omega)

def rm_X8_apartBy : Room := { frames := 5, cells := 0, slots := 0, locals := 111 }
set_option maxRecDepth 100000 in
set_option maxHeartbeats 4000000 in
theorem c_X8_apartBy (l : Launch) (g : Gp) (M : Mem) {x : Int32} {s : Nat} (hx : x = nI s) (hs : s < 256) : Kp l g yX8_apartBy cX8_apartBy 3 .int rm_X8_apartBy [.ref (gad g (40)), .int (x)] M (fun r => r = aparN (vm M) s) := by
  unfold Kp
  refine Ki.of rfl rfl rfl (fun q C hret hcs => ?_)
  refine x_iconst (v := 2) C dX8_apartBy_0 (by decide) ?_
  refine x_aload_n C dX8_apartBy_1 rfl ?_
  refine x_iload_n C dX8_apartBy_2 rfl ?_
  refine x_cvE C (k := 40) (c_X8_sumOf l g _ (s := s) hx hs ) o_X8_sumOf mw_X8_99 rfl (C.lt rfl) rcv_40 rfl rfl rfl hcs dX8_apartBy_3 ?_
  refine x_imul C dX8_apartBy_6 ?_
  refine x_aload_n C dX8_apartBy_7 rfl ?_
  refine x_cvE C (k := 40) (c_X8_allMinutes l g _ ) o_X8_allMinutes mw_X8_146 rfl (C.lt rfl) rcv_40 rfl rfl rfl hcs dX8_apartBy_8 ?_
  refine x_isub C dX8_apartBy_11 ?_
  refine x_topE (y := 2 * sumN (vm M) s 8 - allM (vm M) 8) (rfl) ?_
  refine x_istore_n C dX8_apartBy_12 rfl ?_
  refine x_iload_n C dX8_apartBy_13 rfl ?_
  refine x_if_ge (tgt := 22) C dX8_apartBy_14 (by decide) (fun c14 => ?_) (fun c14 => ?_)
  · skip
    refine x_iload_n C dX8_apartBy_22 rfl ?_
    refine hret _ _ _ _ dX8_apartBy_23 rfl ⟨?_, rfl⟩
    unfold aparN; first | rw [if_neg (Int32.not_lt.mpr c14)] | rw [if_pos (Int32.not_le.mp c14)]
  · skip
    refine x_iload_n C dX8_apartBy_17 rfl ?_
    refine x_ineg C dX8_apartBy_18 ?_
    refine x_goto (tgt := 23) C dX8_apartBy_19 (by decide) ?_
    refine hret _ _ _ _ dX8_apartBy_23 rfl ⟨?_, rfl⟩
    unfold aparN; first | rw [if_neg (Int32.not_lt.mpr c14)] | rw [if_pos (Int32.not_le.mp c14)]

def rm_X8_bestHalf : Room := { frames := 6, cells := 0, slots := 0, locals := 133 }
set_option maxRecDepth 100000 in
set_option maxHeartbeats 4000000 in
theorem c_X8_bestHalf (l : Launch) (g : Gp) (M : Mem) : Kp l g yX8_bestHalf cX8_bestHalf 3 .int rm_X8_bestHalf [.ref (gad g (40))] M (fun r => r = nI (halN (vm M) 255)) := by
  unfold Kp
  refine Ki.of rfl rfl rfl (fun q C hret hcs => ?_)
  refine x_iconst (v := 0) C dX8_bestHalf_0 (by decide) ?_
  refine x_istore_n C dX8_bestHalf_1 rfl ?_
  refine x_iconst (v := 1) C dX8_bestHalf_2 (by decide) ?_
  refine x_istore_n C dX8_bestHalf_3 rfl ?_
  refine up_to 255 (P := fun i => X (kmk l rm_X8_bestHalf g 3 q) M 4 [some (.ref (gad g (40))), some (.int (nI (halN (vm M) i))), some (.int (nI (i + 1)))] []) (fun i hi ih => ?_) 0 (by omega)
  refine x_iload_n C dX8_bestHalf_4 rfl ?_
  refine x_sipush (v := 256) C dX8_bestHalf_5 (by decide) ?_
  refine x_icmp_ge (tgt := 47) C dX8_bestHalf_8 (by decide) (fun c8 => ?_) (fun c8 => ?_)
  · skip
    have hlt := lp_ge (N := 256) (by decide) (show i + 1 ≤ 256 by omega) c8
    refine x_iload_n C dX8_bestHalf_47 rfl ?_
    refine hret _ _ _ _ dX8_bestHalf_48 rfl ⟨?_, rfl⟩
    have hlt : i = 255 := by omega
    subst hlt; rfl
  · skip
    have hlt := lp_lt (N := 256) (by decide) (show i + 1 ≤ 256 by omega) c8
    have hb := halN_lt (vm M) i
    refine x_iload_n C dX8_bestHalf_11 rfl ?_
    refine x_aload_n C dX8_bestHalf_12 rfl ?_
    refine x_cvE C (k := 40) (c_X8_eggs l g _ ) o_X8_eggs mw_X8_95 rfl (C.lt rfl) rcv_40 rfl rfl rfl hcs dX8_bestHalf_13 ?_
    refine x_iconst (v := -1) C dX8_bestHalf_16 (by decide) ?_
    refine x_ixor C dX8_bestHalf_17 ?_
    refine x_iand C dX8_bestHalf_18 ?_
    refine x_if_ne (tgt := 39) C dX8_bestHalf_19 (by decide) (fun c19 => ?_) (fun c19 => ?_)
    · skip
      have ce : ¬ ofEg (vm M) (i + 1) := fun z => c19 ((ofEg_i hlt).mpr z)
      refine x_iload_n C dX8_bestHalf_39 rfl ?_
      refine x_istore_n C dX8_bestHalf_40 rfl ?_
      refine x_iinc (v := nI (i + 1 + 1)) C dX8_bestHalf_41 rfl (nI_1 _) rfl ?_
      refine x_goto (tgt := 4) C dX8_bestHalf_44 (by decide) ?_
      have e : halN (vm M) (i + 1) = halN (vm M) i := by first | exact ifp_f (fun z => ce z.1) | exact ifp_f (fun z => Int32.not_lt.mpr c32 z.2)
      rw [e] at ih
      exact ih (by omega)
    · skip
      have ce : ofEg (vm M) (i + 1) := (ofEg_i hlt).mp (by first | exact c19 | exact Classical.not_not.mp c19)
      refine x_aload_n C dX8_bestHalf_22 rfl ?_
      refine x_iload_n C dX8_bestHalf_23 rfl ?_
      refine x_cvE C (k := 40) (c_X8_apartBy l g _ (s := (i + 1)) rfl hlt ) o_X8_apartBy mw_X8_179 rfl (C.lt rfl) rcv_40 rfl rfl rfl hcs dX8_bestHalf_24 ?_
      refine x_aload_n C dX8_bestHalf_27 rfl ?_
      refine x_iload_n C dX8_bestHalf_28 rfl ?_
      refine x_cvE C (k := 40) (c_X8_apartBy l g _ (s := (halN (vm M) i)) rfl (by omega) ) o_X8_apartBy mw_X8_179 rfl (C.lt rfl) rcv_40 rfl rfl rfl hcs dX8_bestHalf_29 ?_
      refine x_icmp_ge (tgt := 39) C dX8_bestHalf_32 (by decide) (fun c32 => ?_) (fun c32 => ?_)
      · skip
        refine x_iload_n C dX8_bestHalf_39 rfl ?_
        refine x_istore_n C dX8_bestHalf_40 rfl ?_
        refine x_iinc (v := nI (i + 1 + 1)) C dX8_bestHalf_41 rfl (nI_1 _) rfl ?_
        refine x_goto (tgt := 4) C dX8_bestHalf_44 (by decide) ?_
        have e : halN (vm M) (i + 1) = halN (vm M) i := by first | exact ifp_f (fun z => ce z.1) | exact ifp_f (fun z => Int32.not_lt.mpr c32 z.2)
        rw [e] at ih
        exact ih (by omega)
      · skip
        refine x_iload_n C dX8_bestHalf_35 rfl ?_
        refine x_goto (tgt := 40) C dX8_bestHalf_36 (by decide) ?_
        refine x_istore_n C dX8_bestHalf_40 rfl ?_
        refine x_iinc (v := nI (i + 1 + 1)) C dX8_bestHalf_41 rfl (nI_1 _) rfl ?_
        refine x_goto (tgt := 4) C dX8_bestHalf_44 (by decide) ?_
        have e : halN (vm M) (i + 1) = i + 1 := ifp_t ⟨ce, Int32.not_le.mp c32⟩
        rw [e] at ih
        exact ih (by omega)

def rm_X8_halves : Room := { frames := 7, cells := 0, slots := 0, locals := 155 }
set_option maxRecDepth 100000 in
set_option maxHeartbeats 4000000 in
theorem c_X8_halves (l : Launch) (g : Gp) (M : Mem) (oa : okA (aM M))  : Ki l g yX8_halves cX8_halves 1 .int rm_X8_halves [.ref (gad g (40))] M (fun r M' => (r, aM M') = F_halves (aM M) ∧ sameM M M') := by
  refine Ki.of rfl rfl rfl (fun q C hret hcs => ?_)
  have o : okRow (vm M) := oa.1
  refine x_aload_n C dX8_halves_0 rfl ?_
  refine x_cvE C (k := 40) (c_X8_bestHalf l g _ ) o_X8_bestHalf mw_X8_182 rfl (C.lt rfl) rcv_40 rfl rfl rfl hcs dX8_halves_1 ?_
  refine hret _ _ _ _ dX8_halves_4 rfl ?_
  exact pu_M0 rfl

def rm_X8_apart : Room := { frames := 7, cells := 0, slots := 0, locals := 155 }
set_option maxRecDepth 100000 in
set_option maxHeartbeats 4000000 in
theorem c_X8_apart (l : Launch) (g : Gp) (M : Mem) (oa : okA (aM M))  : Ki l g yX8_apart cX8_apart 1 .int rm_X8_apart [.ref (gad g (40))] M (fun r M' => (r, aM M') = F_apart (aM M) ∧ sameM M M') := by
  refine Ki.of rfl rfl rfl (fun q C hret hcs => ?_)
  have o : okRow (vm M) := oa.1
  refine x_aload_n C dX8_apart_0 rfl ?_
  refine x_aload_n C dX8_apart_1 rfl ?_
  refine x_cvE C (k := 40) (c_X8_bestHalf l g _ ) o_X8_bestHalf mw_X8_182 rfl (C.lt rfl) rcv_40 rfl rfl rfl hcs dX8_apart_2 ?_
  refine x_cvE C (k := 40) (c_X8_apartBy l g _ (s := (halN (vm M) 255)) rfl (by have := halN_lt (vm M) 255; omega) ) o_X8_apartBy mw_X8_179 rfl (C.lt rfl) rcv_40 rfl rfl rfl hcs dX8_apart_5 ?_
  refine hret _ _ _ _ dX8_apart_8 rfl ?_
  exact pu_M0 rfl

def rm_X8_sets : Room := { frames := 4, cells := 0, slots := 0, locals := 91 }
set_option maxRecDepth 100000 in
set_option maxHeartbeats 4000000 in
theorem c_X8_sets (l : Launch) (g : Gp) (M : Mem) (oa : okA (aM M))  (v : Int32) : Ki l g yX8_sets cX8_sets 4 .int rm_X8_sets [.ref (gad g (40)), .int (v)] M (fun r M' => (r, aM M') = F_sets v (aM M) ∧ sameM M M') := by
  refine Ki.of rfl rfl rfl (fun q C hret hcs => ?_)
  have o : okRow (vm M) := oa.1
  refine x_iload_n C dX8_sets_0 rfl ?_
  refine x_sipush (v := -9999) C dX8_sets_1 (by decide) ?_
  refine x_sipush (v := 9999) C dX8_sets_4 (by decide) ?_
  refine x_csB C (c_X8_in1 l g _ _ _ _ ) o_X8_in1 mw_X8_59 rfl rfl rfl rfl hcs dX8_sets_7 (fun c7 => ?_) (fun c7 => ?_)
  · skip
    refine x_if_neT (tgt := 19) C dX8_sets_10 (by decide) (by decide) ?_
    refine x_iconst (v := 0) C dX8_sets_19 (by decide) ?_
    refine x_istore_n C dX8_sets_20 rfl ?_
    refine x_iconst (v := 0) C dX8_sets_21 (by decide) ?_
    refine x_istore_n C dX8_sets_22 rfl ?_
    refine up_to 256 (P := fun i => X (kmk l rm_X8_sets g 4 q) M 23 [some (.ref (gad g (40))), some (.int (v)), some (.int (nI (setN (vm M) v i))), some (.int (nI i))] []) (fun i hi ih => ?_) 0 (by omega)
    refine x_iload_n C dX8_sets_23 rfl ?_
    refine x_sipush (v := 256) C dX8_sets_24 (by decide) ?_
    refine x_icmp_ge (tgt := 64) C dX8_sets_27 (by decide) (fun c27 => ?_) (fun c27 => ?_)
    · skip
      have hlt := lp_ge (N := 256) (by decide) hi c27
      refine x_iload_n C dX8_sets_64 rfl ?_
      refine hret _ _ _ _ dX8_sets_65 rfl ?_
      subst hlt; exact pu_M0 (ifp_t c7)
    · skip
      have hlt := lp_lt (N := 256) (by decide) hi c27
      refine x_iload_n C dX8_sets_30 rfl ?_
      refine x_iload_n C dX8_sets_31 rfl ?_
      refine x_aload_n C dX8_sets_32 rfl ?_
      refine x_cvE C (k := 40) (c_X8_eggs l g _ ) o_X8_eggs mw_X8_95 rfl (C.lt rfl) rcv_40 rfl rfl rfl hcs dX8_sets_33 ?_
      refine x_iconst (v := -1) C dX8_sets_36 (by decide) ?_
      refine x_ixor C dX8_sets_37 ?_
      refine x_iand C dX8_sets_38 ?_
      refine x_if_ne (tgt := 55) C dX8_sets_39 (by decide) (fun c39 => ?_) (fun c39 => ?_)
      · skip
        have ce : ¬ ofEg (vm M) i := fun z => c39 ((ofEg_i hlt).mpr z)
        refine x_iconst (v := 0) C dX8_sets_55 (by decide) ?_
        refine x_iadd C dX8_sets_56 ?_
        refine x_topE (y := nI (setN (vm M) v (i + 1))) (by show _ = nI (_ + ifp _ _ _); first | (rw [ifp_f (fun z => ce z.1)]; exact Int32.add_zero _) | (rw [ifp_t ⟨ce, by first | exact c48 | exact Classical.not_not.mp c48⟩]; exact nI_add _ 1) | (rw [ifp_f (fun z => c48 z.2)]; exact Int32.add_zero _)) ?_
        refine x_istore_n C dX8_sets_57 rfl ?_
        refine x_iinc (v := nI (i + 1)) C dX8_sets_58 rfl (nI_1 i) rfl ?_
        refine x_goto (tgt := 23) C dX8_sets_61 (by decide) ?_
        exact ih hlt
      · skip
        have ce : ofEg (vm M) i := (ofEg_i hlt).mp (by first | exact c39 | exact Classical.not_not.mp c39)
        refine x_aload_n C dX8_sets_42 rfl ?_
        refine x_iload_n C dX8_sets_43 rfl ?_
        refine x_cvE C (k := 40) (c_X8_sumOf l g _ (s := i) rfl hlt ) o_X8_sumOf mw_X8_99 rfl (C.lt rfl) rcv_40 rfl rfl rfl hcs dX8_sets_44 ?_
        refine x_iload_n C dX8_sets_47 rfl ?_
        refine x_icmp_ne (tgt := 55) C dX8_sets_48 (by decide) (fun c48 => ?_) (fun c48 => ?_)
        · skip
          refine x_iconst (v := 0) C dX8_sets_55 (by decide) ?_
          refine x_iadd C dX8_sets_56 ?_
          refine x_topE (y := nI (setN (vm M) v (i + 1))) (by show _ = nI (_ + ifp _ _ _); first | (rw [ifp_f (fun z => ce z.1)]; exact Int32.add_zero _) | (rw [ifp_t ⟨ce, by first | exact c48 | exact Classical.not_not.mp c48⟩]; exact nI_add _ 1) | (rw [ifp_f (fun z => c48 z.2)]; exact Int32.add_zero _)) ?_
          refine x_istore_n C dX8_sets_57 rfl ?_
          refine x_iinc (v := nI (i + 1)) C dX8_sets_58 rfl (nI_1 i) rfl ?_
          refine x_goto (tgt := 23) C dX8_sets_61 (by decide) ?_
          exact ih hlt
        · skip
          refine x_iconst (v := 1) C dX8_sets_51 (by decide) ?_
          refine x_goto (tgt := 56) C dX8_sets_52 (by decide) ?_
          refine x_iadd C dX8_sets_56 ?_
          refine x_topE (y := nI (setN (vm M) v (i + 1))) (by show _ = nI (_ + ifp _ _ _); first | (rw [ifp_f (fun z => ce z.1)]; exact Int32.add_zero _) | (rw [ifp_t ⟨ce, by first | exact c48 | exact Classical.not_not.mp c48⟩]; exact nI_add _ 1) | (rw [ifp_f (fun z => c48 z.2)]; exact Int32.add_zero _)) ?_
          refine x_istore_n C dX8_sets_57 rfl ?_
          refine x_iinc (v := nI (i + 1)) C dX8_sets_58 rfl (nI_1 i) rfl ?_
          refine x_goto (tgt := 23) C dX8_sets_61 (by decide) ?_
          exact ih hlt
  · skip
    refine x_if_neF (tgt := 19) C dX8_sets_10 (by decide) (by decide) ?_
    refine x_aload_n C dX8_sets_13 rfl ?_
    refine x_iconst (v := 0) C dX8_sets_14 (by decide) ?_
    refine x_cvi C (k := 40) (c_X8_no l g _ (k := 0) rfl (by decide) ) o_X8_no mw_X8_119 rfl (C.lt rfl) rcv_40 rfl rfl rfl hcs dX8_sets_15 (fun rf M1 hf => ?_)
    refine hret _ _ _ _ dX8_sets_18 rfl ?_
    exact fi_M (k := 0) (ifp_f c7) hf rfl (by decide) rfl (same.rf)

def rm_X8_isSheet : Room := { frames := 1, cells := 0, slots := 0, locals := 22 }
set_option maxRecDepth 100000 in
set_option maxHeartbeats 4000000 in
theorem c_X8_isSheet (l : Launch) (g : Gp) (M : Mem) (x : Int32) : Kp l g yX8_isSheet cX8_isSheet 1 .boolean rm_X8_isSheet [.int (x)] M (bv (inB x 0 3)) := by
  unfold Kp
  refine Ki.of rfl rfl rfl (fun q C hret hcs => ?_)
  refine x_iload_n C dX8_isSheet_0 rfl ?_
  refine x_iconst (v := 0) C dX8_isSheet_1 (by decide) ?_
  refine x_iconst (v := 3) C dX8_isSheet_2 (by decide) ?_
  refine x_csB C (c_X8_in1 l g _ _ _ _ ) o_X8_in1 mw_X8_59 rfl rfl rfl rfl hcs dX8_isSheet_3 (fun c3 => ?_) (fun c3 => ?_)
  · skip
    refine hret _ _ _ _ dX8_isSheet_6 rfl ⟨Or.inl ⟨rfl, ?_⟩, rfl⟩
    unfold inB; clear hret hcs C; grind
  · skip
    refine hret _ _ _ _ dX8_isSheet_6 rfl ⟨Or.inr ⟨rfl, ?_⟩, rfl⟩
    unfold inB; clear hret hcs C; grind

def rm_X8_isSpot : Room := { frames := 1, cells := 0, slots := 0, locals := 22 }
set_option maxRecDepth 100000 in
set_option maxHeartbeats 4000000 in
theorem c_X8_isSpot (l : Launch) (g : Gp) (M : Mem) (x : Int32) : Kp l g yX8_isSpot cX8_isSpot 1 .boolean rm_X8_isSpot [.int (x)] M (bv (inB x 0 9)) := by
  unfold Kp
  refine Ki.of rfl rfl rfl (fun q C hret hcs => ?_)
  refine x_iload_n C dX8_isSpot_0 rfl ?_
  refine x_iconst (v := 0) C dX8_isSpot_1 (by decide) ?_
  refine x_bipush (v := 9) C dX8_isSpot_2 (by decide) ?_
  refine x_csB C (c_X8_in1 l g _ _ _ _ ) o_X8_in1 mw_X8_59 rfl rfl rfl rfl hcs dX8_isSpot_4 (fun c4 => ?_) (fun c4 => ?_)
  · skip
    refine hret _ _ _ _ dX8_isSpot_7 rfl ⟨Or.inl ⟨rfl, ?_⟩, rfl⟩
    unfold inB; clear hret hcs C; grind
  · skip
    refine hret _ _ _ _ dX8_isSpot_7 rfl ⟨Or.inr ⟨rfl, ?_⟩, rfl⟩
    unfold inB; clear hret hcs C; grind

def rm_X8_wrongSheet : Room := { frames := 2, cells := 0, slots := 0, locals := 42 }
set_option maxRecDepth 100000 in
set_option maxHeartbeats 4000000 in
theorem c_X8_wrongSheet (l : Launch) (g : Gp) (M : Mem) (x : Int32) : Kp l g yX8_wrongSheet cX8_wrongSheet 2 .int rm_X8_wrongSheet [.ref (gad g (40)), .int (x)] M (fun r => r = wrgS (aM M) x) := by
  unfold Kp
  refine Ki.of rfl rfl rfl (fun q C hret hcs => ?_)
  refine x_iload_n C dX8_wrongSheet_0 rfl ?_
  refine x_csB C (c_X8_isSheet l g _ _ ) o_X8_isSheet mw_X8_185 rfl rfl rfl rfl hcs dX8_wrongSheet_1 (fun c1 => ?_) (fun c1 => ?_)
  · skip
    have qx := inB_tn (n := 3) (by decide) c1
    refine x_if_neT (tgt := 11) C dX8_wrongSheet_4 (by decide) (by decide) ?_
    refine x_aload_n C dX8_wrongSheet_11 rfl ?_
    refine x_getf (k := 40) C bk_X8 (C.lt rfl) rfl ent_40 17 fw_X8_45 rfl rfl dX8_wrongSheet_12 ?_
    refine x_iload_n C dX8_wrongSheet_15 rfl ?_
    refine x_iald (j := (tn x)) (k := 52) C (C.lt rfl) rfl ent_52 (qx.2) (qx.1) rfl dX8_wrongSheet_16 ?_
    refine x_if_ne (tgt := 24) C dX8_wrongSheet_17 (by decide) (fun c17 => ?_) (fun c17 => ?_)
    · skip
      refine x_iconst (v := -1) C dX8_wrongSheet_24 (by decide) ?_
      refine hret _ _ _ _ dX8_wrongSheet_25 rfl ⟨?_, rfl⟩
      unfold wrgS; rw [ifp_t c1, aW_M qx.1]; first | rw [if_pos c17] | rw [if_neg c17]
    · skip
      refine x_iconst (v := 5) C dX8_wrongSheet_20 (by decide) ?_
      refine x_goto (tgt := 25) C dX8_wrongSheet_21 (by decide) ?_
      refine hret _ _ _ _ dX8_wrongSheet_25 rfl ⟨?_, rfl⟩
      unfold wrgS; rw [ifp_t c1, aW_M qx.1]; first | rw [if_pos c17] | rw [if_neg c17]
  · skip
    refine x_if_neF (tgt := 11) C dX8_wrongSheet_4 (by decide) (by decide) ?_
    refine x_iconst (v := 0) C dX8_wrongSheet_7 (by decide) ?_
    refine x_goto (tgt := 25) C dX8_wrongSheet_8 (by decide) ?_
    refine hret _ _ _ _ dX8_wrongSheet_25 rfl ⟨?_, rfl⟩
    unfold wrgS; rw [ifp_f c1]

def rm_X8_wrongAges : Room := { frames := 3, cells := 0, slots := 0, locals := 64 }
set_option maxRecDepth 100000 in
set_option maxHeartbeats 4000000 in
theorem c_X8_wrongAges (l : Launch) (g : Gp) (M : Mem) (x e : Int32) : Kp l g yX8_wrongAges cX8_wrongAges 4 .int rm_X8_wrongAges [.ref (gad g (40)), .int (x), .int (e)] M (fun r => r = wrgT (aM M) x e) := by
  unfold Kp
  refine Ki.of rfl rfl rfl (fun q C hret hcs => ?_)
  refine x_aload_n C dX8_wrongAges_0 rfl ?_
  refine x_iload_n C dX8_wrongAges_1 rfl ?_
  refine x_cvE C (k := 40) (c_X8_wrongSheet l g _ _ ) o_X8_wrongSheet mw_X8_188 rfl (C.lt rfl) rcv_40 rfl rfl rfl hcs dX8_wrongAges_2 ?_
  refine x_topi (fun x3 ex3 => ?_)
  refine x_istore_n C dX8_wrongAges_5 rfl ?_
  refine x_iload_n C dX8_wrongAges_6 rfl ?_
  refine x_if_lt (tgt := 14) C dX8_wrongAges_7 (by decide) (fun c7 => ?_) (fun c7 => ?_)
  · skip
    refine x_aload_n C dX8_wrongAges_14 rfl ?_
    refine x_iload_n C dX8_wrongAges_15 rfl ?_
    refine x_cvB C (k := 40) (c_X8_isEgg l g _ _ ) o_X8_isEgg mw_X8_122 rfl (C.lt rfl) rcv_40 rfl rfl rfl hcs dX8_wrongAges_16 (fun c16 => ?_) (fun c16 => ?_)
    · skip
      refine x_if_eqF (tgt := 26) C dX8_wrongAges_19 (by decide) (by decide) ?_
      refine x_iconst (v := -1) C dX8_wrongAges_22 (by decide) ?_
      refine x_goto (tgt := 27) C dX8_wrongAges_23 (by decide) ?_
      refine hret _ _ _ _ dX8_wrongAges_27 rfl ⟨?_, rfl⟩
      unfold wrgT; rw [ex3] at c7; rw [ifp_t c7]; exact (ifp_t c16).symm
    · skip
      refine x_if_eqT (tgt := 26) C dX8_wrongAges_19 (by decide) (by decide) ?_
      refine x_iconst (v := 0) C dX8_wrongAges_26 (by decide) ?_
      refine hret _ _ _ _ dX8_wrongAges_27 rfl ⟨?_, rfl⟩
      unfold wrgT; rw [ex3] at c7; rw [ifp_t c7]; exact (ifp_f c16).symm
  · skip
    refine x_iload_n C dX8_wrongAges_10 rfl ?_
    refine x_goto (tgt := 27) C dX8_wrongAges_11 (by decide) ?_
    refine hret _ _ _ _ dX8_wrongAges_27 rfl ⟨?_, rfl⟩
    unfold wrgT; rw [ex3] at c7; rw [ifp_f (by first | exact c7 | exact Int32.not_lt.mpr c7)]; exact ex3

def rm_X8_agesSo : Room := { frames := 3, cells := 0, slots := 0, locals := 72 }
set_option maxRecDepth 100000 in
set_option maxHeartbeats 4000000 in
theorem c_X8_agesSo (l : Launch) (g : Gp) (M : Mem) (oa : okA (aM M)) {x : Int32} {s : Nat} (hx : x = nI s) (hs : s < 4) (e age : Int32) (hE : e = nI (tn e)) (he : tn e < 8) : Kp l g yX8_agesSo cX8_agesSo 7 .boolean rm_X8_agesSo [.ref (gad g (40)), .int (x), .int (e), .int (age)] M (bv (fitP (aM M) s (tn e) age)) := by
  unfold Kp
  refine Ki.of rfl rfl rfl (fun q C hret hcs => ?_)
  have hl := inB_tn (n := 40) (by decide) (okSh_M oa hs)
  have hN : tn (aN (aM M) s) = tn (M 53 s) := by rw [aN_M hs]
  refine x_iconst (v := 1) C dX8_agesSo_0 (by decide) ?_
  refine x_istore C dX8_agesSo_1 rfl ?_
  refine x_iconst (v := 0) C dX8_agesSo_3 (by decide) ?_
  refine x_istore C dX8_agesSo_4 rfl ?_
  refine up_to (tn (M 53 s)) (P := fun i => ∀ b : Int32, ((b = 1 ∧ ∀ j, j < i → (aX (aM M) s j = -1 ∨ aX (aM M) s j = thenE (vm M) (tn e) (eg (vm M) (tn e) 0) age (nI j))) ∨ (b = 0 ∧ ∃ j, j < i ∧ ¬ (aX (aM M) s j = -1 ∨ aX (aM M) s j = thenE (vm M) (tn e) (eg (vm M) (tn e) 0) age (nI j)))) → X (kmk l rm_X8_agesSo g 7 q) M 6 [some (.ref (gad g (40))), some (.int (x)), some (.int (e)), some (.int (age)), some (.int (b)), some (.int (nI i)), none] []) (fun i hi ih b hb => ?_) 0 (Nat.zero_le _) 1 (Or.inl ⟨rfl, fun j hj => absurd hj (by omega)⟩)
  refine x_iload C dX8_agesSo_6 rfl ?_
  refine x_aload_n C dX8_agesSo_8 rfl ?_
  refine x_getf (k := 40) C bk_X8 (C.lt rfl) rfl ent_40 18 fw_X8_48 rfl rfl dX8_agesSo_9 ?_
  refine x_iload_n C dX8_agesSo_12 rfl ?_
  refine x_iald (j := s) (k := 53) C (C.lt rfl) rfl ent_53 (hx) (hs) rfl dX8_agesSo_13 ?_
  refine x_icmp_ge (tgt := 74) C dX8_agesSo_14 (by decide) (fun c14 => ?_) (fun c14 => ?_)
  · skip
    have hlt := lp_ge (N := tn (M 53 s)) (by omega) hi (by rw [← hl.2]; exact c14)
    refine x_iload C dX8_agesSo_74 rfl ?_
    refine hret _ _ _ _ dX8_agesSo_76 (by rcases hb with hb | hb <;> rw [hb.1] <;> rfl) ⟨?_, rfl⟩
    subst hlt
    rcases hb with hb | hb
    · exact Or.inl ⟨hb.1, fun n hn => hb.2 n (by rw [hN] at hn; exact hn)⟩
    · refine Or.inr ⟨hb.1, fun z => ?_⟩
      obtain ⟨j, hj, h⟩ := hb.2
      exact h (z j (by rw [hN]; exact hj))
  · skip
    have hlt := lp_lt (N := tn (M 53 s)) (by omega) hi (by rw [← hl.2]; exact c14)
    refine x_aload_n C dX8_agesSo_17 rfl ?_
    refine x_getf (k := 40) C bk_X8 (C.lt rfl) rfl ent_40 19 fw_X8_51 rfl rfl dX8_agesSo_18 ?_
    refine x_bipush (v := 40) C dX8_agesSo_21 (by decide) ?_
    refine x_iload_n C dX8_agesSo_23 rfl ?_
    refine x_imul C dX8_agesSo_24 ?_
    refine x_iload C dX8_agesSo_25 rfl ?_
    refine x_iadd C dX8_agesSo_27 ?_
    refine x_iald (j := 40 * s + i) (k := 54) C (C.lt rfl) rfl ent_54 (by rw [hx, show (40 : Int32) = nI 40 from rfl, pk_mul, nI_add]) (by omega) rfl dX8_agesSo_28 ?_
    refine x_topE (y := aX (aM M) s i) ((aX_M hs (by omega)).symm) ?_
    refine x_istore C dX8_agesSo_29 rfl ?_
    refine x_iload C dX8_agesSo_31 rfl ?_
    refine x_if_eq (tgt := 65) C dX8_agesSo_33 (by decide) (fun c33 => ?_) (fun c33 => ?_)
    · skip
      refine x_iconst (v := 0) C dX8_agesSo_65 (by decide) ?_
      refine x_istore C dX8_agesSo_66 rfl ?_
      refine x_iinc (v := nI (i + 1)) C dX8_agesSo_68 rfl (nI_1 i) rfl ?_
      refine x_goto (tgt := 6) C dX8_agesSo_71 (by decide) ?_
      refine X.le (ls' := [some (.ref (gad g (40))), some (.int (x)), some (.int (e)), some (.int (age)), some (.int (0)), some (.int (nI (i + 1))), none]) (lle_s rfl (lle_s rfl (lle_s rfl (lle_s rfl (lle_s rfl (lle_s rfl (lle_n lle_e))))))) ?_
      refine ih hlt 0 (Or.inr ⟨rfl, ?_⟩)
      rcases hb with hb | hb
      · first
        | exact absurd (hb.1 ▸ c33) (by decide)
        | exact ⟨i, Nat.lt_succ_self i, fun z => z.elim c39 c58⟩
      · obtain ⟨j, hj, h⟩ := hb.2; exact ⟨j, Nat.lt_succ_of_lt hj, h⟩
    · skip
      refine x_iload C dX8_agesSo_36 rfl ?_
      refine x_iconst (v := -1) C dX8_agesSo_38 (by decide) ?_
      refine x_icmp_eq (tgt := 61) C dX8_agesSo_39 (by decide) (fun c39 => ?_) (fun c39 => ?_)
      · skip
        refine x_iconst (v := 1) C dX8_agesSo_61 (by decide) ?_
        refine x_goto (tgt := 66) C dX8_agesSo_62 (by decide) ?_
        refine x_istore C dX8_agesSo_66 rfl ?_
        refine x_iinc (v := nI (i + 1)) C dX8_agesSo_68 rfl (nI_1 i) rfl ?_
        refine x_goto (tgt := 6) C dX8_agesSo_71 (by decide) ?_
        refine X.le (ls' := [some (.ref (gad g (40))), some (.int (x)), some (.int (e)), some (.int (age)), some (.int (1)), some (.int (nI (i + 1))), none]) (lle_s rfl (lle_s rfl (lle_s rfl (lle_s rfl (lle_s rfl (lle_s rfl (lle_n lle_e))))))) ?_
        refine ih hlt 1 (Or.inl ⟨rfl, fun j hj => ?_⟩)
        rcases hb with hb | hb
        · rcases Nat.lt_or_ge j i with z | z
          · exact hb.2 j z
          · rw [show j = i by omega]; first | exact Or.inl c39 | exact Or.inr c58 | exact Or.inr (Classical.not_not.mp c58)
        · exact absurd hb.1 c33
      · skip
        refine x_iload C dX8_agesSo_42 rfl ?_
        refine x_aload_n C dX8_agesSo_44 rfl ?_
        refine x_iload_n C dX8_agesSo_45 rfl ?_
        refine x_aload_n C dX8_agesSo_46 rfl ?_
        refine x_iload_n C dX8_agesSo_47 rfl ?_
        refine x_iconst (v := 0) C dX8_agesSo_48 (by decide) ?_
        refine x_cvE C (k := 40) (c_X8_get l g _ (e := (tn e)) (f := 0) hE he rfl (by decide) ) o_X8_get mw_X8_63 rfl (C.lt rfl) rcv_40 rfl rfl rfl hcs dX8_agesSo_49 ?_
        refine x_iload_n C dX8_agesSo_52 rfl ?_
        refine x_iload C dX8_agesSo_53 rfl ?_
        refine x_cvE C (k := 40) (c_X8_then l g _ (e := (tn e)) hE he _ _ _ ) o_X8_then mw_X8_158 rfl (C.lt rfl) rcv_40 rfl rfl rfl hcs dX8_agesSo_55 ?_
        refine x_icmp_ne (tgt := 65) C dX8_agesSo_58 (by decide) (fun c58 => ?_) (fun c58 => ?_)
        · skip
          refine x_iconst (v := 0) C dX8_agesSo_65 (by decide) ?_
          refine x_istore C dX8_agesSo_66 rfl ?_
          refine x_iinc (v := nI (i + 1)) C dX8_agesSo_68 rfl (nI_1 i) rfl ?_
          refine x_goto (tgt := 6) C dX8_agesSo_71 (by decide) ?_
          refine X.le (ls' := [some (.ref (gad g (40))), some (.int (x)), some (.int (e)), some (.int (age)), some (.int (0)), some (.int (nI (i + 1))), none]) (lle_s rfl (lle_s rfl (lle_s rfl (lle_s rfl (lle_s rfl (lle_s rfl (lle_n lle_e))))))) ?_
          refine ih hlt 0 (Or.inr ⟨rfl, ?_⟩)
          rcases hb with hb | hb
          · first
            | exact absurd (hb.1 ▸ c33) (by decide)
            | exact ⟨i, Nat.lt_succ_self i, fun z => z.elim c39 c58⟩
          · obtain ⟨j, hj, h⟩ := hb.2; exact ⟨j, Nat.lt_succ_of_lt hj, h⟩
        · skip
          refine x_iconst (v := 1) C dX8_agesSo_61 (by decide) ?_
          refine x_goto (tgt := 66) C dX8_agesSo_62 (by decide) ?_
          refine x_istore C dX8_agesSo_66 rfl ?_
          refine x_iinc (v := nI (i + 1)) C dX8_agesSo_68 rfl (nI_1 i) rfl ?_
          refine x_goto (tgt := 6) C dX8_agesSo_71 (by decide) ?_
          refine X.le (ls' := [some (.ref (gad g (40))), some (.int (x)), some (.int (e)), some (.int (age)), some (.int (1)), some (.int (nI (i + 1))), none]) (lle_s rfl (lle_s rfl (lle_s rfl (lle_s rfl (lle_s rfl (lle_s rfl (lle_n lle_e))))))) ?_
          refine ih hlt 1 (Or.inl ⟨rfl, fun j hj => ?_⟩)
          rcases hb with hb | hb
          · rcases Nat.lt_or_ge j i with z | z
            · exact hb.2 j z
            · rw [show j = i by omega]; first | exact Or.inl c39 | exact Or.inr c58 | exact Or.inr (Classical.not_not.mp c58)
          · exact absurd hb.1 c33

def rm_X8_ages : Room := { frames := 4, cells := 0, slots := 0, locals := 98 }
set_option maxRecDepth 100000 in
set_option maxHeartbeats 4000000 in
theorem c_X8_ages (l : Launch) (g : Gp) (M : Mem) (oa : okA (aM M))  (x e : Int32) : Ki l g yX8_ages cX8_ages 6 .int rm_X8_ages [.ref (gad g (40)), .int (x), .int (e)] M (fun r M' => (r, aM M') = F_ages x e (aM M) ∧ sameM M M') := by
  refine Ki.of rfl rfl rfl (fun q C hret hcs => ?_)
  have o : okRow (vm M) := oa.1
  refine x_aload_n C dX8_ages_0 rfl ?_
  refine x_iload_n C dX8_ages_1 rfl ?_
  refine x_iload_n C dX8_ages_2 rfl ?_
  refine x_cvE C (k := 40) (c_X8_wrongAges l g _ _ _ ) o_X8_wrongAges mw_X8_191 rfl (C.lt rfl) rcv_40 rfl rfl rfl hcs dX8_ages_3 ?_
  refine x_topi (fun x3 ex3 => ?_)
  refine x_istore_n C dX8_ages_6 rfl ?_
  refine x_iload_n C dX8_ages_7 rfl ?_
  refine x_if_lt (tgt := 17) C dX8_ages_8 (by decide) (fun c8 => ?_) (fun c8 => ?_)
  · skip
    have qq := wrgT_lt (by rw [← ex3]; exact c8)
    obtain ⟨he, ex, ht⟩ := eggP_tn qq.2.2
    have qs := inB_tn (n := 3) (by decide) qq.1
    refine x_iconst (v := 0) C dX8_ages_17 (by decide) ?_
    refine x_istore C dX8_ages_18 rfl ?_
    refine x_iconst (v := 0) C dX8_ages_20 (by decide) ?_
    refine x_istore C dX8_ages_21 rfl ?_
    refine up_to 100 (P := fun i => X (kmk l rm_X8_ages g 6 q) M 23 [some (.ref (gad g (40))), some (.int (x)), some (.int (e)), some (.int (x3)), some (.int (nI (ageN (aM M) (tn x) (tn e) i))), some (.int (nI i))] []) (fun i hi ih => ?_) 0 (by omega)
    refine x_iload C dX8_ages_23 rfl ?_
    refine x_bipush (v := 99) C dX8_ages_25 (by decide) ?_
    refine x_icmp_gt (tgt := 57) C dX8_ages_27 (by decide) (fun c27 => ?_) (fun c27 => ?_)
    · skip
      have hlt := lp_ge (N := 100) (by decide) hi (by have := c27; clear hret hcs C ih; grind [nI])
      refine x_iload C dX8_ages_57 rfl ?_
      refine hret _ _ _ _ dX8_ages_59 rfl ?_
      subst hlt
      exact pu_M0 (ifp_t (by rw [← ex3]; exact c8))
    · skip
      have hlt := lp_lt (N := 100) (by decide) hi (by have := c27; clear hret hcs C ih; grind [nI])
      refine x_iload C dX8_ages_30 rfl ?_
      refine x_aload_n C dX8_ages_32 rfl ?_
      refine x_iload_n C dX8_ages_33 rfl ?_
      refine x_iload_n C dX8_ages_34 rfl ?_
      refine x_iload C dX8_ages_35 rfl ?_
      refine x_cvB C (k := 40) (c_X8_agesSo l g _ oa (s := (tn x)) qs.2 qs.1 _ _ ex he ) o_X8_agesSo mw_X8_194 rfl (C.lt rfl) rcv_40 rfl rfl rfl hcs dX8_ages_37 (fun c37 => ?_) (fun c37 => ?_)
      · skip
        refine x_if_eqF (tgt := 47) C dX8_ages_40 (by decide) (by decide) ?_
        refine x_iconst (v := 1) C dX8_ages_43 (by decide) ?_
        refine x_goto (tgt := 48) C dX8_ages_44 (by decide) ?_
        refine x_iadd C dX8_ages_48 ?_
        refine x_topE (y := nI (ageN (aM M) (tn x) (tn e) (i + 1))) (by show _ = nI (_ + ifp _ _ _); first | (rw [ifp_t c37]; exact nI_add _ 1) | (rw [ifp_f c37]; exact Int32.add_zero _)) ?_
        refine x_istore C dX8_ages_49 rfl ?_
        refine x_iinc (v := nI (i + 1)) C dX8_ages_51 rfl (nI_1 i) rfl ?_
        refine x_goto (tgt := 23) C dX8_ages_54 (by decide) ?_
        exact ih hlt
      · skip
        refine x_if_eqT (tgt := 47) C dX8_ages_40 (by decide) (by decide) ?_
        refine x_iconst (v := 0) C dX8_ages_47 (by decide) ?_
        refine x_iadd C dX8_ages_48 ?_
        refine x_topE (y := nI (ageN (aM M) (tn x) (tn e) (i + 1))) (by show _ = nI (_ + ifp _ _ _); first | (rw [ifp_t c37]; exact nI_add _ 1) | (rw [ifp_f c37]; exact Int32.add_zero _)) ?_
        refine x_istore C dX8_ages_49 rfl ?_
        refine x_iinc (v := nI (i + 1)) C dX8_ages_51 rfl (nI_1 i) rfl ?_
        refine x_goto (tgt := 23) C dX8_ages_54 (by decide) ?_
        exact ih hlt
  · skip
    have qq := wrgT_ge (by rw [← ex3]; exact Int32.not_lt.mpr (Int32.not_lt.mp c8))
    refine x_aload_n C dX8_ages_11 rfl ?_
    refine x_iload_n C dX8_ages_12 rfl ?_
    refine x_cvi C (k := 40) (c_X8_no l g _ (k := (tn (wrgT (aM M) x e))) (ex3.trans qq.1) qq.2 ) o_X8_no mw_X8_119 rfl (C.lt rfl) rcv_40 rfl rfl rfl hcs dX8_ages_13 (fun rf M1 hf => ?_)
    refine hret _ _ _ _ dX8_ages_16 rfl ?_
    exact fi_M (k := tn (wrgT (aM M) x e)) (ifp_f (by rw [← ex3]; exact c8)) hf (ex3.trans qq.1) qq.2 rfl same.rf

def rm_X8_youngest : Room := { frames := 4, cells := 0, slots := 0, locals := 98 }
set_option maxRecDepth 100000 in
set_option maxHeartbeats 4000000 in
theorem c_X8_youngest (l : Launch) (g : Gp) (M : Mem) (oa : okA (aM M))  (x e : Int32) : Ki l g yX8_youngest cX8_youngest 5 .int rm_X8_youngest [.ref (gad g (40)), .int (x), .int (e)] M (fun r M' => (r, aM M') = F_youngest x e (aM M) ∧ sameM M M') := by
  refine Ki.of rfl rfl rfl (fun q C hret hcs => ?_)
  have o : okRow (vm M) := oa.1
  refine x_aload_n C dX8_youngest_0 rfl ?_
  refine x_iload_n C dX8_youngest_1 rfl ?_
  refine x_iload_n C dX8_youngest_2 rfl ?_
  refine x_cvE C (k := 40) (c_X8_wrongAges l g _ _ _ ) o_X8_wrongAges mw_X8_191 rfl (C.lt rfl) rcv_40 rfl rfl rfl hcs dX8_youngest_3 ?_
  refine x_topi (fun x3 ex3 => ?_)
  refine x_istore_n C dX8_youngest_6 rfl ?_
  refine x_iload_n C dX8_youngest_7 rfl ?_
  refine x_if_lt (tgt := 17) C dX8_youngest_8 (by decide) (fun c8 => ?_) (fun c8 => ?_)
  · skip
    have qq := wrgT_lt (by rw [← ex3]; exact c8)
    obtain ⟨he, ex, ht⟩ := eggP_tn qq.2.2
    have qs := inB_tn (n := 3) (by decide) qq.1
    refine x_iconst (v := 0) C dX8_youngest_17 (by decide) ?_
    refine x_istore C dX8_youngest_18 rfl ?_
    refine up_to 100 (P := fun i => (∀ j, j < i → ¬ fitP (aM M) (tn x) (tn e) (nI j)) → X (kmk l rm_X8_youngest g 5 q) M 20 [some (.ref (gad g (40))), some (.int (x)), some (.int (e)), some (.int (x3)), some (.int (nI i))] []) (fun i hi ih hst => ?_) 0 (by omega) (fun j hj => absurd hj (by omega))
    refine x_iload C dX8_youngest_20 rfl ?_
    refine x_bipush (v := 99) C dX8_youngest_22 (by decide) ?_
    refine x_icmp_gt (tgt := 47) C dX8_youngest_24 (by decide) (fun c24 => ?_) (fun c24 => ?_)
    · skip
      have hlt := lp_ge (N := 100) (by decide) hi (by have := c24; clear hret hcs C ih; grind [nI])
      refine x_aload_n C dX8_youngest_47 rfl ?_
      refine x_iconst (v := 3) C dX8_youngest_48 (by decide) ?_
      refine x_cvi C (k := 40) (c_X8_no l g _ (k := 3) rfl (by decide) ) o_X8_no mw_X8_119 rfl (C.lt rfl) rcv_40 rfl rfl rfl hcs dX8_youngest_49 (fun rg M1 hg => ?_)
      refine hret _ _ _ _ dX8_youngest_52 rfl ?_
      subst hlt
      have eF : fstN (fun i => ¬ fitP (aM M) (tn x) (tn e) (nI i)) 100 = 100 := fstN_all hst
      exact fi_M (k := 3) ((ifp_t (by rw [← ex3]; exact c8)).trans (ifp_f (show ¬ fstN (fun i => ¬ fitP (aM M) (tn x) (tn e) (nI i)) 100 < 100 by omega))) hg rfl (by decide) rfl (same.rf)
    · skip
      have hlt := lp_lt (N := 100) (by decide) hi (by have := c24; clear hret hcs C ih; grind [nI])
      refine x_aload_n C dX8_youngest_27 rfl ?_
      refine x_iload_n C dX8_youngest_28 rfl ?_
      refine x_iload_n C dX8_youngest_29 rfl ?_
      refine x_iload C dX8_youngest_30 rfl ?_
      refine x_cvB C (k := 40) (c_X8_agesSo l g _ oa (s := (tn x)) qs.2 qs.1 _ _ ex he ) o_X8_agesSo mw_X8_194 rfl (C.lt rfl) rcv_40 rfl rfl rfl hcs dX8_youngest_32 (fun c32 => ?_) (fun c32 => ?_)
      · skip
        refine x_if_eqF (tgt := 41) C dX8_youngest_35 (by decide) (by decide) ?_
        refine x_iload C dX8_youngest_38 rfl ?_
        refine hret _ _ _ _ dX8_youngest_40 rfl ?_
        have eF : fstN (fun i => ¬ fitP (aM M) (tn x) (tn e) (nI i)) 100 = i := fstN_hit hst (fun z => z c32) hlt
        exact pu_M0 ((ifp_t (by rw [← ex3]; exact c8)).trans ((ifp_t (show fstN (fun i => ¬ fitP (aM M) (tn x) (tn e) (nI i)) 100 < 100 by omega)).trans (congrArg (fun z => (nI z, aM M)) eF)))
      · skip
        refine x_if_eqT (tgt := 41) C dX8_youngest_35 (by decide) (by decide) ?_
        refine x_iinc (v := nI (i + 1)) C dX8_youngest_41 rfl (nI_1 i) rfl ?_
        refine x_goto (tgt := 20) C dX8_youngest_44 (by decide) ?_
        exact ih hlt (fun j hj => by rcases Nat.lt_or_ge j i with z | z; exact hst j z; rw [show j = i by omega]; exact c32)
  · skip
    have qq := wrgT_ge (by rw [← ex3]; exact Int32.not_lt.mpr (Int32.not_lt.mp c8))
    refine x_aload_n C dX8_youngest_11 rfl ?_
    refine x_iload_n C dX8_youngest_12 rfl ?_
    refine x_cvi C (k := 40) (c_X8_no l g _ (k := (tn (wrgT (aM M) x e))) (ex3.trans qq.1) qq.2 ) o_X8_no mw_X8_119 rfl (C.lt rfl) rcv_40 rfl rfl rfl hcs dX8_youngest_13 (fun rf M2 hf => ?_)
    refine hret _ _ _ _ dX8_youngest_16 rfl ?_
    exact fi_M (k := tn (wrgT (aM M) x e)) (ifp_f (by rw [← ex3]; exact c8)) hf (ex3.trans qq.1) qq.2 rfl same.rf

