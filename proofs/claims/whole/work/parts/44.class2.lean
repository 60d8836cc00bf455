/-! ===== contracts: the class's own calls, second part ===== -/
def rm_X7_ripe : Room := { frames := 4, cells := 0, slots := 0, locals := 92 }
set_option maxRecDepth 100000 in
set_option maxHeartbeats 4000000 in
theorem c_X7_ripe (l : Launch) (g : Gp) (M : Mem) (oa : okA (aC M))  (x : Int32) : Ki l g yX7_ripe cX7_ripe 8 .int rm_X7_ripe [.ref (gad g (0)), .int (x)] M (fun r M' => (r, aC M') = F_ripe x (aC M) ∧ sameC M M') := by
  refine Ki.of rfl rfl rfl (fun q C hret hcs => ?_)
  have o : okRow (vw M 1) := oa.1
  refine x_aload_n C dX7_ripe_0 rfl ?_
  refine x_getf (k := 0) C bk_X7 (C.lt rfl) rfl ent_0 0 fw_X7_10 rfl rfl dX7_ripe_1 ?_
  refine x_iload_n C dX7_ripe_4 rfl ?_
  refine x_cvB C (k := 1) (c_X1_hasEgg l g (h := 1) (Or.inl rfl) _ _ ) o_X1_hasEgg mw_X7_73 rfl (C.lt' (isH_lt (Or.inl rfl) 0 (by decide))) (rcv_H (Or.inl rfl)) rfl rfl rfl hcs dX7_ripe_5 (fun c5 => ?_) (fun c5 => ?_)
  · skip
    obtain ⟨he, ex, ht⟩ := eggP_tn c5
    have hk := okE_kind he o ht
    refine x_if_neT (tgt := 17) C dX7_ripe_8 (by decide) (by decide) ?_
    refine x_aload_n C dX7_ripe_17 rfl ?_
    refine x_getf (k := 0) C bk_X7 (C.lt rfl) rfl ent_0 0 fw_X7_10 rfl rfl dX7_ripe_18 ?_
    refine x_getf (k := 1) C bk_X1 (C.lt' (isH_lt (Or.inl rfl) 0 (by decide))) rfl (ent_H0 (Or.inl rfl)) 0 fw_X7_51 rfl rfl dX7_ripe_21 ?_
    refine x_iload_n C dX7_ripe_24 rfl ?_
    refine x_iconst (v := 0) C dX7_ripe_25 (by decide) ?_
    refine x_cvE C (k := 1 + (0 + 1)) (c_X5_at l g (h := 1) (j := 0) (Or.inl rfl) (by decide) _ _ _ ) o_X5_at mw_X7_84 rfl (C.lt' (isH_lt (Or.inl rfl) (0 + 1) (by omega))) (rcv_HT (Or.inl rfl) 0 (by decide)) rfl rfl rfl hcs dX7_ripe_26 ?_
    refine x_topE (y := (eg (vw M 1) (tn x) 0)) (tab_eg ex rfl he (by decide) ht) ?_
    refine x_istore_n C dX7_ripe_29 rfl ?_
    refine x_aload_n C dX7_ripe_30 rfl ?_
    refine x_getf (k := 0) C bk_X7 (C.lt rfl) rfl ent_0 0 fw_X7_10 rfl rfl dX7_ripe_31 ?_
    refine x_getf (k := 1) C bk_X1 (C.lt' (isH_lt (Or.inl rfl) 0 (by decide))) rfl (ent_H0 (Or.inl rfl)) 0 fw_X7_51 rfl rfl dX7_ripe_34 ?_
    refine x_iload_n C dX7_ripe_37 rfl ?_
    refine x_iconst (v := 2) C dX7_ripe_38 (by decide) ?_
    refine x_cvE C (k := 1 + (0 + 1)) (c_X5_at l g (h := 1) (j := 0) (Or.inl rfl) (by decide) _ _ _ ) o_X5_at mw_X7_84 rfl (C.lt' (isH_lt (Or.inl rfl) (0 + 1) (by omega))) (rcv_HT (Or.inl rfl) 0 (by decide)) rfl rfl rfl hcs dX7_ripe_39 ?_
    refine x_topE (y := (eg (vw M 1) (tn x) 2)) (tab_eg ex rfl he (by decide) ht) ?_
    refine x_istore_n C dX7_ripe_42 rfl ?_
    refine x_iconst (v := 0) C dX7_ripe_43 (by decide) ?_
    refine x_istore C dX7_ripe_44 rfl ?_
    refine x_aload_n C dX7_ripe_46 rfl ?_
    refine x_getf (k := 0) C bk_X7 (C.lt rfl) rfl ent_0 0 fw_X7_10 rfl rfl dX7_ripe_47 ?_
    refine x_iload_n C dX7_ripe_50 rfl ?_
    refine x_cvE C (k := 1) (c_X1_minutesOf l g (h := 1) (Or.inl rfl) _ (e := (tn x)) ex he o ) o_X1_minutesOf mw_X7_81 rfl (C.lt' (isH_lt (Or.inl rfl) 0 (by decide))) (rcv_H (Or.inl rfl)) rfl rfl rfl hcs dX7_ripe_51 ?_
    refine x_topE (y := thenE (vw M 1) (tn x) (eg (vw M 1) (tn x) 0) (eg (vw M 1) (tn x) 2) (nI (ripN (vw M 1) (tn x) 0))) ((then_0 ht o).symm) ?_
    refine x_istore C dX7_ripe_54 rfl ?_
    refine x_iconst (v := 1) C dX7_ripe_56 (by decide) ?_
    refine x_istore C dX7_ripe_57 rfl ?_
    refine X.le (ls' := [some (.ref (gad g (0))), some (.int (x)), some (.int ((eg (vw M 1) (tn x) 0))), some (.int ((eg (vw M 1) (tn x) 2))), some (.int (nI (ripN (vw M 1) (tn x) 0))), some (.int (thenE (vw M 1) (tn x) (eg (vw M 1) (tn x) 0) (eg (vw M 1) (tn x) 2) (nI (ripN (vw M 1) (tn x) 0)))), some (.int (nI (0 + 1))), none]) (lle_s rfl (lle_s rfl (lle_s rfl (lle_s rfl (lle_s rfl (lle_s rfl (lle_s rfl (lle_n lle_e)))))))) ?_
    refine up_to 100 (P := fun i => (∀ j, j < i → staysP (eg (vw M 1) (tn x) 0) (eg (vw M 1) (tn x) 2) (nI (j + 1))) → X (kmk l rm_X7_ripe g 8 q) M 59 [some (.ref (gad g (0))), some (.int (x)), some (.int ((eg (vw M 1) (tn x) 0))), some (.int ((eg (vw M 1) (tn x) 2))), some (.int (nI (ripN (vw M 1) (tn x) i))), some (.int (thenE (vw M 1) (tn x) (eg (vw M 1) (tn x) 0) (eg (vw M 1) (tn x) 2) (nI (ripN (vw M 1) (tn x) i)))), some (.int (nI (i + 1))), none] []) (fun i hi ih hst => ?_) 0 (by omega) (fun j hj => absurd hj (by omega))
    refine x_iload C dX7_ripe_59 rfl ?_
    refine x_bipush (v := 100) C dX7_ripe_61 (by decide) ?_
    refine x_icmp_gt (tgt := 111) C dX7_ripe_63 (by decide) (fun c63 => ?_) (fun c63 => ?_)
    · skip
      have hlt := lp_gt (N := 100) (by decide) hi c63
      refine x_iload C dX7_ripe_111 rfl ?_
      refine hret _ _ _ _ dX7_ripe_113 rfl ?_
      first | exact pu_C0 ((ifp_t c5).trans (congrArg (fun z => (nI (ripN (vw M 1) (tn x) z), aC M)) (fstN_hit hst c70 hlt))) | (subst hlt; exact pu_C0 ((ifp_t c5).trans (congrArg (fun z => (nI (ripN (vw M 1) (tn x) z), aC M)) (fstN_all hst))))
    · skip
      have hlt := lp_ng (N := 100) (by decide) hi c63
      refine x_iload_n C dX7_ripe_66 rfl ?_
      refine x_iload_n C dX7_ripe_67 rfl ?_
      refine x_iload C dX7_ripe_68 rfl ?_
      refine x_csB C (c_X2_stays l g _ hk) o_X2_stays mw_X7_151 rfl rfl rfl rfl hcs dX7_ripe_70 (fun c70 => ?_) (fun c70 => ?_)
      · skip
        refine x_if_eqF (tgt := 111) C dX7_ripe_73 (by decide) (by decide) ?_
        refine x_aload_n C dX7_ripe_76 rfl ?_
        refine x_getf (k := 0) C bk_X7 (C.lt rfl) rfl ent_0 0 fw_X7_10 rfl rfl dX7_ripe_77 ?_
        refine x_iload_n C dX7_ripe_80 rfl ?_
        refine x_iload_n C dX7_ripe_81 rfl ?_
        refine x_iload_n C dX7_ripe_82 rfl ?_
        refine x_iload C dX7_ripe_83 rfl ?_
        refine x_cvE C (k := 1) (c_X1_minutesBehind l g (h := 1) (Or.inl rfl) _ (e := (tn x)) ex he _ _ _ ht hk ) o_X1_minutesBehind mw_X7_154 rfl (C.lt' (isH_lt (Or.inl rfl) 0 (by decide))) (rcv_H (Or.inl rfl)) rfl rfl rfl hcs dX7_ripe_85 ?_
        refine x_topE (y := thenE (vw M 1) (tn x) (eg (vw M 1) (tn x) 0) (eg (vw M 1) (tn x) 2) (nI (i + 1))) (rfl) ?_
        refine x_istore C dX7_ripe_88 rfl ?_
        refine x_iload C dX7_ripe_90 rfl ?_
        refine x_iload C dX7_ripe_92 rfl ?_
        refine x_icmp_le (tgt := 105) C dX7_ripe_94 (by decide) (fun c94 => ?_) (fun c94 => ?_)
        · skip
          refine x_iinc (v := nI (i + 1 + 1)) C dX7_ripe_105 rfl (nI_1 _) rfl ?_
          refine x_goto (tgt := 59) C dX7_ripe_108 (by decide) ?_
          refine X.le (ls' := [some (.ref (gad g (0))), some (.int (x)), some (.int ((eg (vw M 1) (tn x) 0))), some (.int ((eg (vw M 1) (tn x) 2))), some (.int (nI (ripN (vw M 1) (tn x) i))), some (.int (thenE (vw M 1) (tn x) (eg (vw M 1) (tn x) 0) (eg (vw M 1) (tn x) 2) (nI (ripN (vw M 1) (tn x) i)))), some (.int (nI (i + 1 + 1))), none]) (lle_s rfl (lle_s rfl (lle_s rfl (lle_s rfl (lle_s rfl (lle_s rfl (lle_s rfl (lle_n lle_e)))))))) ?_
          have e : ripN (vw M 1) (tn x) (i + 1) = ripN (vw M 1) (tn x) i := if_neg (by clear hret hcs C ih hst; grind)
          rw [e] at ih
          exact ih hlt (fun j hj => by rcases Nat.lt_or_ge j i with z | z; exact hst j z; rw [show j = i by omega]; exact c70)
        · skip
          refine x_iload C dX7_ripe_97 rfl ?_
          refine x_istore C dX7_ripe_99 rfl ?_
          refine x_iload C dX7_ripe_101 rfl ?_
          refine x_istore C dX7_ripe_103 rfl ?_
          refine x_iinc (v := nI (i + 1 + 1)) C dX7_ripe_105 rfl (nI_1 _) rfl ?_
          refine x_goto (tgt := 59) C dX7_ripe_108 (by decide) ?_
          refine X.le (ls' := [some (.ref (gad g (0))), some (.int (x)), some (.int ((eg (vw M 1) (tn x) 0))), some (.int ((eg (vw M 1) (tn x) 2))), some (.int (nI (i + 1))), some (.int (thenE (vw M 1) (tn x) (eg (vw M 1) (tn x) 0) (eg (vw M 1) (tn x) 2) (nI (i + 1)))), some (.int (nI (i + 1 + 1))), none]) (lle_s rfl (lle_s rfl (lle_s rfl (lle_s rfl (lle_s rfl (lle_s rfl (lle_s rfl (lle_n lle_e)))))))) ?_
          have e : ripN (vw M 1) (tn x) (i + 1) = i + 1 := if_pos (by clear hret hcs C ih hst; grind)
          rw [e] at ih
          exact ih hlt (fun j hj => by rcases Nat.lt_or_ge j i with z | z; exact hst j z; rw [show j = i by omega]; exact c70)
      · skip
        refine x_if_eqT (tgt := 111) C dX7_ripe_73 (by decide) (by decide) ?_
        refine x_iload C dX7_ripe_111 rfl ?_
        refine hret _ _ _ _ dX7_ripe_113 rfl ?_
        first | exact pu_C0 ((ifp_t c5).trans (congrArg (fun z => (nI (ripN (vw M 1) (tn x) z), aC M)) (fstN_hit hst c70 hlt))) | (subst hlt; exact pu_C0 ((ifp_t c5).trans (congrArg (fun z => (nI (ripN (vw M 1) (tn x) z), aC M)) (fstN_all hst))))
  · skip
    refine x_if_neF (tgt := 17) C dX7_ripe_8 (by decide) (by decide) ?_
    refine x_aload_n C dX7_ripe_11 rfl ?_
    refine x_iconst (v := 0) C dX7_ripe_12 (by decide) ?_
    refine x_cvi C (k := 0) (c_X7_finding l g _ (k := 0) rfl (by decide) ) o_X7_finding mw_X7_61 rfl (C.lt rfl) rcv_0 rfl rfl rfl hcs dX7_ripe_13 (fun rf M1 hf => ?_)
    refine hret _ _ _ _ dX7_ripe_16 rfl ?_
    exact fi_C (k := 0) (ifp_f c5) hf rfl (by decide) same.rf

def rm_X7_lasts : Room := { frames := 2, cells := 0, slots := 0, locals := 43 }
set_option maxRecDepth 100000 in
set_option maxHeartbeats 4000000 in
theorem c_X7_lasts (l : Launch) (g : Gp) (M : Mem) (oa : okA (aC M))  (x : Int32) : Ki l g yX7_lasts cX7_lasts 5 .int rm_X7_lasts [.ref (gad g (0)), .int (x)] M (fun r M' => (r, aC M') = F_lasts x (aC M) ∧ sameC M M') := by
  refine Ki.of rfl rfl rfl (fun q C hret hcs => ?_)
  have o : okRow (vw M 1) := oa.1
  refine x_aload_n C dX7_lasts_0 rfl ?_
  refine x_getf (k := 0) C bk_X7 (C.lt rfl) rfl ent_0 0 fw_X7_10 rfl rfl dX7_lasts_1 ?_
  refine x_iload_n C dX7_lasts_4 rfl ?_
  refine x_cvB C (k := 1) (c_X1_hasEgg l g (h := 1) (Or.inl rfl) _ _ ) o_X1_hasEgg mw_X7_73 rfl (C.lt' (isH_lt (Or.inl rfl) 0 (by decide))) (rcv_H (Or.inl rfl)) rfl rfl rfl hcs dX7_lasts_5 (fun c5 => ?_) (fun c5 => ?_)
  · skip
    obtain ⟨he, ex, ht⟩ := eggP_tn c5
    have hk := okE_kind he o ht
    refine x_if_neT (tgt := 17) C dX7_lasts_8 (by decide) (by decide) ?_
    refine x_aload_n C dX7_lasts_17 rfl ?_
    refine x_getf (k := 0) C bk_X7 (C.lt rfl) rfl ent_0 0 fw_X7_10 rfl rfl dX7_lasts_18 ?_
    refine x_getf (k := 1) C bk_X1 (C.lt' (isH_lt (Or.inl rfl) 0 (by decide))) rfl (ent_H0 (Or.inl rfl)) 0 fw_X7_51 rfl rfl dX7_lasts_21 ?_
    refine x_iload_n C dX7_lasts_24 rfl ?_
    refine x_iconst (v := 0) C dX7_lasts_25 (by decide) ?_
    refine x_cvE C (k := 1 + (0 + 1)) (c_X5_at l g (h := 1) (j := 0) (Or.inl rfl) (by decide) _ _ _ ) o_X5_at mw_X7_84 rfl (C.lt' (isH_lt (Or.inl rfl) (0 + 1) (by omega))) (rcv_HT (Or.inl rfl) 0 (by decide)) rfl rfl rfl hcs dX7_lasts_26 ?_
    refine x_topE (y := (eg (vw M 1) (tn x) 0)) (tab_eg ex rfl he (by decide) ht) ?_
    refine x_istore_n C dX7_lasts_29 rfl ?_
    refine x_aload_n C dX7_lasts_30 rfl ?_
    refine x_getf (k := 0) C bk_X7 (C.lt rfl) rfl ent_0 0 fw_X7_10 rfl rfl dX7_lasts_31 ?_
    refine x_getf (k := 1) C bk_X1 (C.lt' (isH_lt (Or.inl rfl) 0 (by decide))) rfl (ent_H0 (Or.inl rfl)) 0 fw_X7_51 rfl rfl dX7_lasts_34 ?_
    refine x_iload_n C dX7_lasts_37 rfl ?_
    refine x_iconst (v := 2) C dX7_lasts_38 (by decide) ?_
    refine x_cvE C (k := 1 + (0 + 1)) (c_X5_at l g (h := 1) (j := 0) (Or.inl rfl) (by decide) _ _ _ ) o_X5_at mw_X7_84 rfl (C.lt' (isH_lt (Or.inl rfl) (0 + 1) (by omega))) (rcv_HT (Or.inl rfl) 0 (by decide)) rfl rfl rfl hcs dX7_lasts_39 ?_
    refine x_topE (y := (eg (vw M 1) (tn x) 2)) (tab_eg ex rfl he (by decide) ht) ?_
    refine x_istore_n C dX7_lasts_42 rfl ?_
    refine x_iconst (v := 0) C dX7_lasts_43 (by decide) ?_
    refine x_istore C dX7_lasts_44 rfl ?_
    refine up_to 100 (P := fun i => (∀ j, j < i → staysP (eg (vw M 1) (tn x) 0) (eg (vw M 1) (tn x) 2) (nI j)) → X (kmk l rm_X7_lasts g 5 q) M 46 [some (.ref (gad g (0))), some (.int (x)), some (.int ((eg (vw M 1) (tn x) 0))), some (.int ((eg (vw M 1) (tn x) 2))), some (.int (nI i))] []) (fun i hi ih hst => ?_) 0 (by omega) (fun j hj => absurd hj (by omega))
    refine x_iload C dX7_lasts_46 rfl ?_
    refine x_bipush (v := 100) C dX7_lasts_48 (by decide) ?_
    refine x_icmp_ge (tgt := 69) C dX7_lasts_50 (by decide) (fun c50 => ?_) (fun c50 => ?_)
    · skip
      have hlt := lp_ge (N := 100) (by decide) hi c50
      refine x_iload C dX7_lasts_69 rfl ?_
      refine hret _ _ _ _ dX7_lasts_71 rfl ?_
      first | exact pu_C0 ((ifp_t c5).trans (congrArg (fun z => (nI z, aC M)) (fstN_hit hst c57 hlt))) | (subst hlt; exact pu_C0 ((ifp_t c5).trans (congrArg (fun z => (nI z, aC M)) (fstN_all hst))))
    · skip
      have hlt := lp_lt (N := 100) (by decide) hi c50
      refine x_iload_n C dX7_lasts_53 rfl ?_
      refine x_iload_n C dX7_lasts_54 rfl ?_
      refine x_iload C dX7_lasts_55 rfl ?_
      refine x_csB C (c_X2_stays l g _ hk) o_X2_stays mw_X7_151 rfl rfl rfl rfl hcs dX7_lasts_57 (fun c57 => ?_) (fun c57 => ?_)
      · skip
        refine x_if_eqF (tgt := 69) C dX7_lasts_60 (by decide) (by decide) ?_
        refine x_iinc (v := nI (i + 1)) C dX7_lasts_63 rfl (nI_1 _) rfl ?_
        refine x_goto (tgt := 46) C dX7_lasts_66 (by decide) ?_
        exact ih hlt (fun j hj => by rcases Nat.lt_or_ge j i with z | z; exact hst j z; rw [show j = i by omega]; exact c57)
      · skip
        refine x_if_eqT (tgt := 69) C dX7_lasts_60 (by decide) (by decide) ?_
        refine x_iload C dX7_lasts_69 rfl ?_
        refine hret _ _ _ _ dX7_lasts_71 rfl ?_
        first | exact pu_C0 ((ifp_t c5).trans (congrArg (fun z => (nI z, aC M)) (fstN_hit hst c57 hlt))) | (subst hlt; exact pu_C0 ((ifp_t c5).trans (congrArg (fun z => (nI z, aC M)) (fstN_all hst))))
  · skip
    refine x_if_neF (tgt := 17) C dX7_lasts_8 (by decide) (by decide) ?_
    refine x_aload_n C dX7_lasts_11 rfl ?_
    refine x_iconst (v := 0) C dX7_lasts_12 (by decide) ?_
    refine x_cvi C (k := 0) (c_X7_finding l g _ (k := 0) rfl (by decide) ) o_X7_finding mw_X7_61 rfl (C.lt rfl) rcv_0 rfl rfl rfl hcs dX7_lasts_13 (fun rf M1 hf => ?_)
    refine hret _ _ _ _ dX7_lasts_16 rfl ?_
    exact fi_C (k := 0) (ifp_f c5) hf rfl (by decide) same.rf

def rm_X7_when : Room := { frames := 5, cells := 0, slots := 0, locals := 114 }
set_option maxRecDepth 100000 in
set_option maxHeartbeats 4000000 in
theorem c_X7_when (l : Launch) (g : Gp) (M : Mem) (oa : okA (aC M))  (v : Int32) : Ki l g yX7_when cX7_when 3 .int rm_X7_when [.ref (gad g (0)), .int (v)] M (fun r M' => (r, aC M') = F_when v (aC M) ∧ sameC M M') := by
  refine Ki.of rfl rfl rfl (fun q C hret hcs => ?_)
  have o : okRow (vw M 1) := oa.1
  refine x_iload_n C dX7_when_0 rfl ?_
  refine x_iconst (v := 0) C dX7_when_1 (by decide) ?_
  refine x_sipush (v := 9999) C dX7_when_2 (by decide) ?_
  refine x_csB C (c_X7_within l g _ _ _ _ ) o_X7_within mw_X7_77 rfl rfl rfl rfl hcs dX7_when_5 (fun c5 => ?_) (fun c5 => ?_)
  · skip
    refine x_if_neT (tgt := 17) C dX7_when_8 (by decide) (by decide) ?_
    refine x_aload_n C dX7_when_17 rfl ?_
    refine x_getf (k := 0) C bk_X7 (C.lt rfl) rfl ent_0 2 fw_X7_19 rfl rfl dX7_when_18 ?_
    refine x_aload_n C dX7_when_21 rfl ?_
    refine x_getf (k := 0) C bk_X7 (C.lt rfl) rfl ent_0 0 fw_X7_10 rfl rfl dX7_when_22 ?_
    refine x_cvv C (k := 17) (c_X1_become l g (h := 17) (h2 := 1) (Or.inr (Or.inr rfl)) (Or.inl rfl) (by decide) _ ) o_X1_become mw_X7_147 rfl (C.lt' (isH_lt (Or.inr (Or.inr rfl)) 0 (by decide))) (rcv_H (Or.inr (Or.inr rfl))) rfl rfl rfl hcs dX7_when_25 (fun M0 h0 => ?_)
    refine x_iconst (v := 0) C dX7_when_28 (by decide) ?_
    refine x_istore_n C dX7_when_29 rfl ?_
    refine up_to 101 (P := fun i => ∀ M1 : Mem, vw M1 17 = dayN (vw M 1) i → same SCR M M1 → (∀ j, j < i → allM (dayN (vw M 1) j) 8 < v) → X (kmk l rm_X7_when g 3 q) M1 30 [some (.ref (gad g (0))), some (.int (v)), some (.int (nI i))] []) (fun i hi ih M1 hv hs hst => ?_) 0 (by omega) M0 h0.1 (h0.2.mono (by simp [SCR])) (fun j hj => absurd hj (by omega))
    have o1 : okRow (vw M1 17) := by rw [hv]; exact okRow_dayN o i
    refine x_iload_n C dX7_when_30 rfl ?_
    refine x_bipush (v := 100) C dX7_when_31 (by decide) ?_
    refine x_icmp_gt (tgt := 64) C dX7_when_33 (by decide) (fun c33 => ?_) (fun c33 => ?_)
    · skip
      have hlt := lp_ge (N := 101) (by decide) hi (by have := c33; clear hret hcs C ih hst; grind [nI])
      refine x_aload_n C dX7_when_64 rfl ?_
      refine x_iconst (v := 3) C dX7_when_65 (by decide) ?_
      refine x_cvi C (k := 0) (c_X7_finding l g _ (k := 3) rfl (by decide) ) o_X7_finding mw_X7_61 rfl (C.lt rfl) rcv_0 rfl rfl rfl hcs dX7_when_66 (fun rg M1 hg => ?_)
      refine hret _ _ _ _ dX7_when_69 rfl ?_
      subst hlt
      have eF : fstN (fun i => allM (dayN (vw M 1) i) 8 < v) 101 = 101 := fstN_all hst
      exact fi_C (k := 3) ((ifp_t c5).trans (ifp_f (show ¬ fstN (fun i => allM (dayN (vw M 1) i) 8 < v) 101 < 101 by omega))) hg rfl (by decide) (hs)
    · skip
      have hlt := lp_lt (N := 101) (by decide) hi (by have := c33; clear hret hcs C ih hst; grind [nI])
      refine x_aload_n C dX7_when_36 rfl ?_
      refine x_getf (k := 0) C bk_X7 (C.lt rfl) rfl ent_0 2 fw_X7_19 rfl rfl dX7_when_37 ?_
      refine x_cvE C (k := 17) (c_X1_allMinutes l g (h := 17) (Or.inr (Or.inr rfl)) _ o1 ) o_X1_allMinutes mw_X7_138 rfl (C.lt' (isH_lt (Or.inr (Or.inr rfl)) 0 (by decide))) (rcv_H (Or.inr (Or.inr rfl))) rfl rfl rfl hcs dX7_when_40 ?_
      refine x_iload_n C dX7_when_43 rfl ?_
      refine x_icmp_lt (tgt := 49) C dX7_when_44 (by decide) (fun c44 => ?_) (fun c44 => ?_)
      · skip
        refine x_aload_n C dX7_when_49 rfl ?_
        refine x_getf (k := 0) C bk_X7 (C.lt rfl) rfl ent_0 2 fw_X7_19 rfl rfl dX7_when_50 ?_
        refine x_iconst (v := 1) C dX7_when_53 (by decide) ?_
        refine x_cvi C (k := 17) (c_X1_daysGoBy l g (h := 17) (Or.inr (Or.inr rfl)) _ (N := 1) rfl (by decide) o1 ) o_X1_daysGoBy mw_X7_127 rfl (C.lt' (isH_lt (Or.inr (Or.inr rfl)) 0 (by decide))) (rcv_H (Or.inr (Or.inr rfl))) rfl rfl rfl hcs dX7_when_54 (fun r3 M3 h3 => ?_)
        refine x_pop C dX7_when_57 rfl ?_
        refine x_iinc (v := nI (i + 1)) C dX7_when_58 rfl (nI_1 _) rfl ?_
        refine x_goto (tgt := 30) C dX7_when_61 (by decide) ?_
        refine ih hlt M3 ?_ (hs.tr (h3.2.2.mono (by simp [SCR]))) (fun j hj => by rcases Nat.lt_or_ge j i with z | z; exact hst j z; rw [show j = i by omega]; exact (by rw [← hv]; exact c44))
        rw [h3.2.1, hv]; rfl
      · skip
        refine x_iload_n C dX7_when_47 rfl ?_
        refine hret _ _ _ _ dX7_when_48 rfl ?_
        have eF : fstN (fun i => allM (dayN (vw M 1) i) 8 < v) 101 = i := fstN_hit hst (by rw [← hv]; exact c44) hlt
        exact pu_C ((ifp_t c5).trans ((ifp_t (show fstN (fun i => allM (dayN (vw M 1) i) 8 < v) 101 < 101 by omega)).trans (by rw [show fstN (fun i => allM (dayN (aC M).1 i) 8 < v) 101 = i from eF]))) hs
  · skip
    refine x_if_neF (tgt := 17) C dX7_when_8 (by decide) (by decide) ?_
    refine x_aload_n C dX7_when_11 rfl ?_
    refine x_iconst (v := 0) C dX7_when_12 (by decide) ?_
    refine x_cvi C (k := 0) (c_X7_finding l g _ (k := 0) rfl (by decide) ) o_X7_finding mw_X7_61 rfl (C.lt rfl) rcv_0 rfl rfl rfl hcs dX7_when_13 (fun rf M2 hf => ?_)
    refine hret _ _ _ _ dX7_when_16 rfl ?_
    exact fi_C (k := 0) (ifp_f c5) hf rfl (by decide) same.rf

def rm_X7_kindFor : Room := { frames := 3, cells := 0, slots := 0, locals := 71 }
set_option maxRecDepth 100000 in
set_option maxHeartbeats 4000000 in
theorem c_X7_kindFor (l : Launch) (g : Gp) (M : Mem) (oa : okA (aC M))  (x n : Int32) : Ki l g yX7_kindFor cX7_kindFor 8 .int rm_X7_kindFor [.ref (gad g (0)), .int (x), .int (n)] M (fun r M' => (r, aC M') = F_kindFor x n (aC M) ∧ sameC M M') := by
  refine Ki.of rfl rfl rfl (fun q C hret hcs => ?_)
  have o : okRow (vw M 1) := oa.1
  refine x_aload_n C dX7_kindFor_0 rfl ?_
  refine x_getf (k := 0) C bk_X7 (C.lt rfl) rfl ent_0 0 fw_X7_10 rfl rfl dX7_kindFor_1 ?_
  refine x_iload_n C dX7_kindFor_4 rfl ?_
  refine x_cvB C (k := 1) (c_X1_hasEgg l g (h := 1) (Or.inl rfl) _ _ ) o_X1_hasEgg mw_X7_73 rfl (C.lt' (isH_lt (Or.inl rfl) 0 (by decide))) (rcv_H (Or.inl rfl)) rfl rfl rfl hcs dX7_kindFor_5 (fun c5 => ?_) (fun c5 => ?_)
  · skip
    obtain ⟨he, ex, ht⟩ := eggP_tn c5
    have hk := okE_kind he o ht
    refine x_if_eqF (tgt := 21) C dX7_kindFor_8 (by decide) (by decide) ?_
    refine x_iload_n C dX7_kindFor_11 rfl ?_
    refine x_iconst (v := 0) C dX7_kindFor_12 (by decide) ?_
    refine x_bipush (v := 100) C dX7_kindFor_13 (by decide) ?_
    refine x_csB C (c_X7_within l g _ _ _ _ ) o_X7_within mw_X7_77 rfl rfl rfl rfl hcs dX7_kindFor_15 (fun c15 => ?_) (fun c15 => ?_)
    · skip
      refine x_if_neT (tgt := 27) C dX7_kindFor_18 (by decide) (by decide) ?_
      refine x_aload_n C dX7_kindFor_27 rfl ?_
      refine x_getf (k := 0) C bk_X7 (C.lt rfl) rfl ent_0 0 fw_X7_10 rfl rfl dX7_kindFor_28 ?_
      refine x_getf (k := 1) C bk_X1 (C.lt' (isH_lt (Or.inl rfl) 0 (by decide))) rfl (ent_H0 (Or.inl rfl)) 0 fw_X7_51 rfl rfl dX7_kindFor_31 ?_
      refine x_iload_n C dX7_kindFor_34 rfl ?_
      refine x_iconst (v := 2) C dX7_kindFor_35 (by decide) ?_
      refine x_cvE C (k := 1 + (0 + 1)) (c_X5_at l g (h := 1) (j := 0) (Or.inl rfl) (by decide) _ _ _ ) o_X5_at mw_X7_84 rfl (C.lt' (isH_lt (Or.inl rfl) (0 + 1) (by omega))) (rcv_HT (Or.inl rfl) 0 (by decide)) rfl rfl rfl hcs dX7_kindFor_36 ?_
      refine x_topE (y := (eg (vw M 1) (tn x) 2)) (tab_eg ex rfl he (by decide) ht) ?_
      refine x_istore_n C dX7_kindFor_39 rfl ?_
      refine x_iconst (v := 0) C dX7_kindFor_40 (by decide) ?_
      refine x_istore C dX7_kindFor_41 rfl ?_
      refine x_aload_n C dX7_kindFor_43 rfl ?_
      refine x_getf (k := 0) C bk_X7 (C.lt rfl) rfl ent_0 0 fw_X7_10 rfl rfl dX7_kindFor_44 ?_
      refine x_iload_n C dX7_kindFor_47 rfl ?_
      refine x_iconst (v := 0) C dX7_kindFor_48 (by decide) ?_
      refine x_iload_n C dX7_kindFor_49 rfl ?_
      refine x_iload_n C dX7_kindFor_50 rfl ?_
      refine x_cvE C (k := 1) (c_X1_minutesBehind l g (h := 1) (Or.inl rfl) _ (e := (tn x)) ex he _ _ _ ht ⟨by decide, by decide⟩ ) o_X1_minutesBehind mw_X7_154 rfl (C.lt' (isH_lt (Or.inl rfl) 0 (by decide))) (rcv_H (Or.inl rfl)) rfl rfl rfl hcs dX7_kindFor_51 ?_
      refine x_topE (y := thenE (vw M 1) (tn x) (nI (kforN (vw M 1) (tn x) n 0)) (eg (vw M 1) (tn x) 2) n) (rfl) ?_
      refine x_istore C dX7_kindFor_54 rfl ?_
      refine x_iconst (v := 1) C dX7_kindFor_56 (by decide) ?_
      refine x_istore C dX7_kindFor_57 rfl ?_
      refine X.le (ls' := [some (.ref (gad g (0))), some (.int (x)), some (.int (n)), some (.int ((eg (vw M 1) (tn x) 2))), some (.int (nI (kforN (vw M 1) (tn x) n 0))), some (.int (thenE (vw M 1) (tn x) (nI (kforN (vw M 1) (tn x) n 0)) (eg (vw M 1) (tn x) 2) n)), some (.int (nI (0 + 1))), none]) (lle_s rfl (lle_s rfl (lle_s rfl (lle_s rfl (lle_s rfl (lle_s rfl (lle_s rfl (lle_n lle_e)))))))) ?_
      refine up_to 6 (P := fun i => X (kmk l rm_X7_kindFor g 8 q) M 59 [some (.ref (gad g (0))), some (.int (x)), some (.int (n)), some (.int ((eg (vw M 1) (tn x) 2))), some (.int (nI (kforN (vw M 1) (tn x) n i))), some (.int (thenE (vw M 1) (tn x) (nI (kforN (vw M 1) (tn x) n i)) (eg (vw M 1) (tn x) 2) n)), some (.int (nI (i + 1))), none] []) (fun i hi ih => ?_) 0 (by omega)
      refine x_iload C dX7_kindFor_59 rfl ?_
      refine x_bipush (v := 7) C dX7_kindFor_61 (by decide) ?_
      refine x_icmp_ge (tgt := 101) C dX7_kindFor_63 (by decide) (fun c63 => ?_) (fun c63 => ?_)
      · skip
        have hlt := lp_ge (N := 7) (by decide) (show i + 1 ≤ 7 by omega) c63
        refine x_iload C dX7_kindFor_101 rfl ?_
        refine hret _ _ _ _ dX7_kindFor_103 rfl ?_
        have hlt : i = 6 := by omega
        subst hlt
        exact pu_C0 (ifp_t ⟨c5, c15⟩)
      · skip
        have hlt := lp_lt (N := 7) (by decide) (show i + 1 ≤ 7 by omega) c63
        refine x_aload_n C dX7_kindFor_66 rfl ?_
        refine x_getf (k := 0) C bk_X7 (C.lt rfl) rfl ent_0 0 fw_X7_10 rfl rfl dX7_kindFor_67 ?_
        refine x_iload_n C dX7_kindFor_70 rfl ?_
        refine x_iload C dX7_kindFor_71 rfl ?_
        refine x_iload_n C dX7_kindFor_73 rfl ?_
        refine x_iload_n C dX7_kindFor_74 rfl ?_
        refine x_cvE C (k := 1) (c_X1_minutesBehind l g (h := 1) (Or.inl rfl) _ (e := (tn x)) ex he _ _ _ ht (inB_nI (m := 6) (by decide) (by omega)) ) o_X1_minutesBehind mw_X7_154 rfl (C.lt' (isH_lt (Or.inl rfl) 0 (by decide))) (rcv_H (Or.inl rfl)) rfl rfl rfl hcs dX7_kindFor_75 ?_
        refine x_topE (y := thenE (vw M 1) (tn x) (nI (i + 1)) (eg (vw M 1) (tn x) 2) n) (rfl) ?_
        refine x_istore C dX7_kindFor_78 rfl ?_
        refine x_iload C dX7_kindFor_80 rfl ?_
        refine x_iload C dX7_kindFor_82 rfl ?_
        refine x_icmp_le (tgt := 95) C dX7_kindFor_84 (by decide) (fun c84 => ?_) (fun c84 => ?_)
        · skip
          refine x_iinc (v := nI (i + 1 + 1)) C dX7_kindFor_95 rfl (nI_1 _) rfl ?_
          refine x_goto (tgt := 59) C dX7_kindFor_98 (by decide) ?_
          refine X.le (ls' := [some (.ref (gad g (0))), some (.int (x)), some (.int (n)), some (.int ((eg (vw M 1) (tn x) 2))), some (.int (nI (kforN (vw M 1) (tn x) n i))), some (.int (thenE (vw M 1) (tn x) (nI (kforN (vw M 1) (tn x) n i)) (eg (vw M 1) (tn x) 2) n)), some (.int (nI (i + 1 + 1))), none]) (lle_s rfl (lle_s rfl (lle_s rfl (lle_s rfl (lle_s rfl (lle_s rfl (lle_s rfl (lle_n lle_e)))))))) ?_
          have e : kforN (vw M 1) (tn x) n (i + 1) = kforN (vw M 1) (tn x) n i := if_neg (by clear hret hcs C ih; grind)
          rw [e] at ih
          exact ih (by omega)
        · skip
          refine x_iload C dX7_kindFor_87 rfl ?_
          refine x_istore C dX7_kindFor_89 rfl ?_
          refine x_iload C dX7_kindFor_91 rfl ?_
          refine x_istore C dX7_kindFor_93 rfl ?_
          refine x_iinc (v := nI (i + 1 + 1)) C dX7_kindFor_95 rfl (nI_1 _) rfl ?_
          refine x_goto (tgt := 59) C dX7_kindFor_98 (by decide) ?_
          refine X.le (ls' := [some (.ref (gad g (0))), some (.int (x)), some (.int (n)), some (.int ((eg (vw M 1) (tn x) 2))), some (.int (nI (i + 1))), some (.int (thenE (vw M 1) (tn x) (nI (i + 1)) (eg (vw M 1) (tn x) 2) n)), some (.int (nI (i + 1 + 1))), none]) (lle_s rfl (lle_s rfl (lle_s rfl (lle_s rfl (lle_s rfl (lle_s rfl (lle_s rfl (lle_n lle_e)))))))) ?_
          have e : kforN (vw M 1) (tn x) n (i + 1) = i + 1 := if_pos (by clear hret hcs C ih; grind)
          rw [e] at ih
          exact ih (by omega)
    · skip
      refine x_if_neF (tgt := 27) C dX7_kindFor_18 (by decide) (by decide) ?_
      refine x_aload_n C dX7_kindFor_21 rfl ?_
      refine x_iconst (v := 0) C dX7_kindFor_22 (by decide) ?_
      refine x_cvi C (k := 0) (c_X7_finding l g _ (k := 0) rfl (by decide) ) o_X7_finding mw_X7_61 rfl (C.lt rfl) rcv_0 rfl rfl rfl hcs dX7_kindFor_23 (fun rf M1 hf => ?_)
      refine hret _ _ _ _ dX7_kindFor_26 rfl ?_
      exact fi_C (k := 0) (ifp_f (fun z => by first | exact c15 z.2 | exact c5 z.1)) hf rfl (by decide) same.rf
  · skip
    refine x_if_eqT (tgt := 21) C dX7_kindFor_8 (by decide) (by decide) ?_
    refine x_aload_n C dX7_kindFor_21 rfl ?_
    refine x_iconst (v := 0) C dX7_kindFor_22 (by decide) ?_
    refine x_cvi C (k := 0) (c_X7_finding l g _ (k := 0) rfl (by decide) ) o_X7_finding mw_X7_61 rfl (C.lt rfl) rcv_0 rfl rfl rfl hcs dX7_kindFor_23 (fun rf M2 hf => ?_)
    refine hret _ _ _ _ dX7_kindFor_26 rfl ?_
    exact fi_C (k := 0) (ifp_f (fun z => by first | exact c15 z.2 | exact c5 z.1)) hf rfl (by decide) same.rf

def rm_X7_minutesWithEvery : Room := { frames := 5, cells := 0, slots := 0, locals := 114 }
set_option maxRecDepth 100000 in
set_option maxHeartbeats 4000000 in
theorem c_X7_minutesWithEvery (l : Launch) (g : Gp) (M : Mem) (o : okRow (vw M 1)) {x y z : Int32} {h k n : Nat} (hx : x = nI h) (hh : h < 4) (hy : y = nI k) (hk : k ≤ 30) (hz : z = nI n) (hn : n < 1000) : Ki l g yX7_minutesWithEvery cX7_minutesWithEvery 4 .int rm_X7_minutesWithEvery [.ref (gad g (0)), .int (x), .int (y), .int (z)] M (fun r M' => r = eveM (vw M 1) h n k ∧ same SCR M M') := by
  refine Ki.of rfl rfl rfl (fun q C hret hcs => ?_)
  refine x_aload_n C dX7_minutesWithEvery_0 rfl ?_
  refine x_getf (k := 0) C bk_X7 (C.lt rfl) rfl ent_0 2 fw_X7_19 rfl rfl dX7_minutesWithEvery_1 ?_
  refine x_aload_n C dX7_minutesWithEvery_4 rfl ?_
  refine x_getf (k := 0) C bk_X7 (C.lt rfl) rfl ent_0 0 fw_X7_10 rfl rfl dX7_minutesWithEvery_5 ?_
  refine x_cvv C (k := 17) (c_X1_become l g (h := 17) (h2 := 1) (Or.inr (Or.inr rfl)) (Or.inl rfl) (by decide) _ ) o_X1_become mw_X7_147 rfl (C.lt' (isH_lt (Or.inr (Or.inr rfl)) 0 (by decide))) (rcv_H (Or.inr (Or.inr rfl))) rfl rfl rfl hcs dX7_minutesWithEvery_8 (fun M1 h1 => ?_)
  refine x_aload_n C dX7_minutesWithEvery_11 rfl ?_
  refine x_getf (k := 0) C bk_X7 (C.lt rfl) rfl ent_0 2 fw_X7_19 rfl rfl dX7_minutesWithEvery_12 ?_
  refine x_getf (k := 17) C bk_X1 (C.lt' (isH_lt (Or.inr (Or.inr rfl)) 0 (by decide))) rfl (ent_H0 (Or.inr (Or.inr rfl))) 1 fw_X7_97 rfl rfl dX7_minutesWithEvery_15 ?_
  refine x_iload_n C dX7_minutesWithEvery_18 rfl ?_
  refine x_iconst (v := 0) C dX7_minutesWithEvery_19 (by decide) ?_
  refine x_iload_n C dX7_minutesWithEvery_20 rfl ?_
  refine x_cvv C (k := 17 + (1 + 1)) (c_X5_put l g (h := 17) (j := 1) (Or.inr (Or.inr rfl)) (by decide) _ _ _ _ ) o_X5_put mw_X7_162 rfl (C.lt' (isH_lt (Or.inr (Or.inr rfl)) (1 + 1) (by omega))) (rcv_HT (Or.inr (Or.inr rfl)) 1 (by decide)) rfl rfl rfl hcs dX7_minutesWithEvery_21 (fun M2 h2 => ?_)
  have h2 := h2.trans (tabPut_e (j := 1) (a := h) (b := 0) hx rfl (by decide) hh (by decide))
  have hv2 : vw M2 17 = upd (vw M 1) (43 + 4 * h) y := by rw [h2, vw_h (by omega), h1.1]; rfl
  have o2 : okRow (vw M2 17) := by rw [hv2]; exact okRow_hn (f := 0) hh (by decide) (by rw [hy]; exact inB_nI (m := 30) (by decide) hk) o
  refine x_aload_n C dX7_minutesWithEvery_24 rfl ?_
  refine x_getf (k := 0) C bk_X7 (C.lt rfl) rfl ent_0 2 fw_X7_19 rfl rfl dX7_minutesWithEvery_25 ?_
  refine x_iload_n C dX7_minutesWithEvery_28 rfl ?_
  refine x_cvi C (k := 17) (c_X1_daysGoBy l g (h := 17) (Or.inr (Or.inr rfl)) _ (N := n) hz hn o2 ) o_X1_daysGoBy mw_X7_127 rfl (C.lt' (isH_lt (Or.inr (Or.inr rfl)) 0 (by decide))) (rcv_H (Or.inr (Or.inr rfl))) rfl rfl rfl hcs dX7_minutesWithEvery_29 (fun r3 M3 h3 => ?_)
  refine x_pop C dX7_minutesWithEvery_32 rfl ?_
  refine x_aload_n C dX7_minutesWithEvery_33 rfl ?_
  refine x_getf (k := 0) C bk_X7 (C.lt rfl) rfl ent_0 2 fw_X7_19 rfl rfl dX7_minutesWithEvery_34 ?_
  refine x_cvE C (k := 17) (c_X1_allMinutes l g (h := 17) (Or.inr (Or.inr rfl)) _ (by rw [h3.2.1]; exact okRow_dayN o2 _) ) o_X1_allMinutes mw_X7_138 rfl (C.lt' (isH_lt (Or.inr (Or.inr rfl)) 0 (by decide))) (rcv_H (Or.inr (Or.inr rfl))) rfl rfl rfl hcs dX7_minutesWithEvery_37 ?_
  refine hret _ _ _ _ dX7_minutesWithEvery_40 rfl ?_
  refine ⟨by rw [h3.2.1, hv2, hy]; rfl, (h1.2.mono (by simp [SCR])).tr ((by rw [h2]; exact same.up (by simp [SCR]) : same SCR M1 M2).tr (h3.2.2.mono (by simp [SCR])))⟩

def rm_X7_everyFor : Room := { frames := 6, cells := 0, slots := 0, locals := 137 }
set_option maxRecDepth 100000 in
set_option maxHeartbeats 4000000 in
theorem c_X7_everyFor (l : Launch) (g : Gp) (M : Mem) (oa : okA (aC M))  (x n : Int32) : Ki l g yX7_everyFor cX7_everyFor 7 .int rm_X7_everyFor [.ref (gad g (0)), .int (x), .int (n)] M (fun r M' => (r, aC M') = F_everyFor x n (aC M) ∧ sameC M M') := by
  refine Ki.of rfl rfl rfl (fun q C hret hcs => ?_)
  have o : okRow (vw M 1) := oa.1
  refine x_aload_n C dX7_everyFor_0 rfl ?_
  refine x_getf (k := 0) C bk_X7 (C.lt rfl) rfl ent_0 0 fw_X7_10 rfl rfl dX7_everyFor_1 ?_
  refine x_getf (k := 1) C bk_X1 (C.lt' (isH_lt (Or.inl rfl) 0 (by decide))) rfl (ent_H0 (Or.inl rfl)) 1 fw_X7_97 rfl rfl dX7_everyFor_4 ?_
  refine x_iload_n C dX7_everyFor_7 rfl ?_
  refine x_cvB C (k := 1 + (1 + 1)) (c_X5_hasRow l g (h := 1) (j := 1) (Or.inl rfl) (by decide) _ _ ) o_X5_hasRow mw_X7_103 rfl (C.lt' (isH_lt (Or.inl rfl) (1 + 1) (by omega))) (rcv_HT (Or.inl rfl) 1 (by decide)) rfl rfl rfl hcs dX7_everyFor_8 (fun c8 => ?_) (fun c8 => ?_)
  · skip
    have qx := ix_tn (n := 4) (by decide) c8
    refine x_if_eqF (tgt := 24) C dX7_everyFor_11 (by decide) (by decide) ?_
    refine x_iload_n C dX7_everyFor_14 rfl ?_
    refine x_iconst (v := 0) C dX7_everyFor_15 (by decide) ?_
    refine x_bipush (v := 60) C dX7_everyFor_16 (by decide) ?_
    refine x_csB C (c_X7_within l g _ _ _ _ ) o_X7_within mw_X7_77 rfl rfl rfl rfl hcs dX7_everyFor_18 (fun c18 => ?_) (fun c18 => ?_)
    · skip
      have qn := inB_tn (n := 60) (by decide) c18
      refine x_if_neT (tgt := 30) C dX7_everyFor_21 (by decide) (by decide) ?_
      refine x_iconst (v := 1) C dX7_everyFor_30 (by decide) ?_
      refine x_istore_n C dX7_everyFor_31 rfl ?_
      refine x_aload_n C dX7_everyFor_32 rfl ?_
      refine x_iload_n C dX7_everyFor_33 rfl ?_
      refine x_iconst (v := 1) C dX7_everyFor_34 (by decide) ?_
      refine x_iload_n C dX7_everyFor_35 rfl ?_
      refine x_cvi C (k := 0) (c_X7_minutesWithEvery l g _ o (h := (tn x)) (k := 1) (n := (tn n)) qx.2 qx.1 rfl (by decide) qn.2 (by omega) ) o_X7_minutesWithEvery mw_X7_158 rfl (C.lt rfl) rcv_0 rfl rfl rfl hcs dX7_everyFor_36 (fun r0 M0 h0 => ?_)
      refine x_topE (y := eveM (vw M 1) (tn x) (tn n) (eveN (vw M 1) (tn x) (tn n) 0)) (h0.1) ?_
      refine x_istore C dX7_everyFor_39 rfl ?_
      refine x_iconst (v := 2) C dX7_everyFor_41 (by decide) ?_
      refine x_istore C dX7_everyFor_42 rfl ?_
      refine X.le (ls' := [some (.ref (gad g (0))), some (.int (x)), some (.int (n)), some (.int (nI (eveN (vw M 1) (tn x) (tn n) 0))), some (.int (eveM (vw M 1) (tn x) (tn n) (eveN (vw M 1) (tn x) (tn n) 0))), some (.int (nI (0 + 2))), none]) (lle_s rfl (lle_s rfl (lle_s rfl (lle_s rfl (lle_s rfl (lle_s rfl (lle_n lle_e))))))) ?_
      refine up_to 29 (P := fun i => ∀ M1 : Mem, same SCR M M1 → X (kmk l rm_X7_everyFor g 7 q) M1 44 [some (.ref (gad g (0))), some (.int (x)), some (.int (n)), some (.int (nI (eveN (vw M 1) (tn x) (tn n) i))), some (.int (eveM (vw M 1) (tn x) (tn n) (eveN (vw M 1) (tn x) (tn n) i))), some (.int (nI (i + 2))), none] []) (fun i hi ih M1 hs => ?_) 0 (by omega) M0 h0.2
      have hv : vw M1 1 = vw M 1 := vw_same hs (by decide) (by decide) (by decide) (by decide) (by decide)
      have o1 : okRow (vw M1 1) := by rw [hv]; exact o
      refine x_iload C dX7_everyFor_44 rfl ?_
      refine x_bipush (v := 30) C dX7_everyFor_46 (by decide) ?_
      refine x_icmp_gt (tgt := 81) C dX7_everyFor_48 (by decide) (fun c48 => ?_) (fun c48 => ?_)
      · skip
        have hlt : i = 29 := by have := lp_gt (N := 30) (i := i + 1) (by decide) (by omega) c48; omega
        refine x_iload_n C dX7_everyFor_81 rfl ?_
        refine hret _ _ _ _ dX7_everyFor_82 rfl ?_
        subst hlt
        exact pu_C (ifp_t ⟨c8, c18⟩) hs
      · skip
        have hlt : i < 29 := by have := lp_ng (N := 30) (i := i + 1) (by decide) (by omega) c48; omega
        refine x_aload_n C dX7_everyFor_51 rfl ?_
        refine x_iload_n C dX7_everyFor_52 rfl ?_
        refine x_iload C dX7_everyFor_53 rfl ?_
        refine x_iload_n C dX7_everyFor_55 rfl ?_
        refine x_cvi C (k := 0) (c_X7_minutesWithEvery l g _ o1 (h := (tn x)) (k := (i + 2)) (n := (tn n)) qx.2 qx.1 rfl (by omega) qn.2 (by omega) ) o_X7_minutesWithEvery mw_X7_158 rfl (C.lt rfl) rcv_0 rfl rfl rfl hcs dX7_everyFor_56 (fun r2 M2 h2 => ?_)
        refine x_topE (y := eveM (vw M 1) (tn x) (tn n) (i + 2)) (by rw [h2.1, hv]) ?_
        refine x_istore C dX7_everyFor_59 rfl ?_
        refine x_iload C dX7_everyFor_61 rfl ?_
        refine x_iload C dX7_everyFor_63 rfl ?_
        refine x_icmp_le (tgt := 75) C dX7_everyFor_65 (by decide) (fun c65 => ?_) (fun c65 => ?_)
        · skip
          refine x_iinc (v := nI (i + 1 + 2)) C dX7_everyFor_75 rfl (nI_1 (i + 2)) rfl ?_
          refine x_goto (tgt := 44) C dX7_everyFor_78 (by decide) ?_
          refine X.le (ls' := [some (.ref (gad g (0))), some (.int (x)), some (.int (n)), some (.int (nI (eveN (vw M 1) (tn x) (tn n) i))), some (.int (eveM (vw M 1) (tn x) (tn n) (eveN (vw M 1) (tn x) (tn n) i))), some (.int (nI (i + 1 + 2))), none]) (lle_s rfl (lle_s rfl (lle_s rfl (lle_s rfl (lle_s rfl (lle_s rfl (lle_n lle_e))))))) ?_
          have e : eveN (vw M 1) (tn x) (tn n) (i + 1) = eveN (vw M 1) (tn x) (tn n) i := if_neg (by clear hret hcs C ih; grind)
          rw [e] at ih
          exact ih (by omega) M2 (hs.tr h2.2)
        · skip
          refine x_iload C dX7_everyFor_68 rfl ?_
          refine x_istore C dX7_everyFor_70 rfl ?_
          refine x_iload C dX7_everyFor_72 rfl ?_
          refine x_istore_n C dX7_everyFor_74 rfl ?_
          refine x_iinc (v := nI (i + 1 + 2)) C dX7_everyFor_75 rfl (nI_1 (i + 2)) rfl ?_
          refine x_goto (tgt := 44) C dX7_everyFor_78 (by decide) ?_
          refine X.le (ls' := [some (.ref (gad g (0))), some (.int (x)), some (.int (n)), some (.int (nI (i + 2))), some (.int (eveM (vw M 1) (tn x) (tn n) (i + 2))), some (.int (nI (i + 1 + 2))), none]) (lle_s rfl (lle_s rfl (lle_s rfl (lle_s rfl (lle_s rfl (lle_s rfl (lle_n lle_e))))))) ?_
          have e : eveN (vw M 1) (tn x) (tn n) (i + 1) = i + 2 := if_pos (by clear hret hcs C ih; grind)
          rw [e] at ih
          exact ih (by omega) M2 (hs.tr h2.2)
    · skip
      refine x_if_neF (tgt := 30) C dX7_everyFor_21 (by decide) (by decide) ?_
      refine x_aload_n C dX7_everyFor_24 rfl ?_
      refine x_iconst (v := 0) C dX7_everyFor_25 (by decide) ?_
      refine x_cvi C (k := 0) (c_X7_finding l g _ (k := 0) rfl (by decide) ) o_X7_finding mw_X7_61 rfl (C.lt rfl) rcv_0 rfl rfl rfl hcs dX7_everyFor_26 (fun rf M1 hf => ?_)
      refine hret _ _ _ _ dX7_everyFor_29 rfl ?_
      exact fi_C (k := 0) (ifp_f (fun z => by first | exact c18 z.2 | exact c8 z.1)) hf rfl (by decide) same.rf
  · skip
    refine x_if_eqT (tgt := 24) C dX7_everyFor_11 (by decide) (by decide) ?_
    refine x_aload_n C dX7_everyFor_24 rfl ?_
    refine x_iconst (v := 0) C dX7_everyFor_25 (by decide) ?_
    refine x_cvi C (k := 0) (c_X7_finding l g _ (k := 0) rfl (by decide) ) o_X7_finding mw_X7_61 rfl (C.lt rfl) rcv_0 rfl rfl rfl hcs dX7_everyFor_26 (fun rf M2 hf => ?_)
    refine hret _ _ _ _ dX7_everyFor_29 rfl ?_
    exact fi_C (k := 0) (ifp_f (fun z => by first | exact c18 z.2 | exact c8 z.1)) hf rfl (by decide) same.rf

def rm_X7_soonest : Room := { frames := 5, cells := 0, slots := 0, locals := 114 }
set_option maxRecDepth 100000 in
set_option maxHeartbeats 4000000 in
theorem c_X7_soonest (l : Launch) (g : Gp) (M : Mem) (oa : okA (aC M))  (x : Int32) : Ki l g yX7_soonest cX7_soonest 3 .int rm_X7_soonest [.ref (gad g (0)), .int (x)] M (fun r M' => (r, aC M') = F_soonest x (aC M) ∧ sameC M M') := by
  refine Ki.of rfl rfl rfl (fun q C hret hcs => ?_)
  have o : okRow (vw M 1) := oa.1
  refine x_aload_n C dX7_soonest_0 rfl ?_
  refine x_getf (k := 0) C bk_X7 (C.lt rfl) rfl ent_0 0 fw_X7_10 rfl rfl dX7_soonest_1 ?_
  refine x_getf (k := 1) C bk_X1 (C.lt' (isH_lt (Or.inl rfl) 0 (by decide))) rfl (ent_H0 (Or.inl rfl)) 2 fw_X7_100 rfl rfl dX7_soonest_4 ?_
  refine x_iload_n C dX7_soonest_7 rfl ?_
  refine x_cvB C (k := 1 + (2 + 1)) (c_X5_hasRow l g (h := 1) (j := 2) (Or.inl rfl) (by decide) _ _ ) o_X5_hasRow mw_X7_103 rfl (C.lt' (isH_lt (Or.inl rfl) (2 + 1) (by omega))) (rcv_HT (Or.inl rfl) 2 (by decide)) rfl rfl rfl hcs dX7_soonest_8 (fun c8 => ?_) (fun c8 => ?_)
  · skip
    have qx := ix_tn (n := 6) (by decide) c8
    refine x_if_neT (tgt := 20) C dX7_soonest_11 (by decide) (by decide) ?_
    refine x_aload_n C dX7_soonest_20 rfl ?_
    refine x_getf (k := 0) C bk_X7 (C.lt rfl) rfl ent_0 2 fw_X7_19 rfl rfl dX7_soonest_21 ?_
    refine x_aload_n C dX7_soonest_24 rfl ?_
    refine x_getf (k := 0) C bk_X7 (C.lt rfl) rfl ent_0 0 fw_X7_10 rfl rfl dX7_soonest_25 ?_
    refine x_cvv C (k := 17) (c_X1_become l g (h := 17) (h2 := 1) (Or.inr (Or.inr rfl)) (Or.inl rfl) (by decide) _ ) o_X1_become mw_X7_147 rfl (C.lt' (isH_lt (Or.inr (Or.inr rfl)) 0 (by decide))) (rcv_H (Or.inr (Or.inr rfl))) rfl rfl rfl hcs dX7_soonest_28 (fun M0 h0 => ?_)
    refine x_iconst (v := 0) C dX7_soonest_31 (by decide) ?_
    refine x_istore_n C dX7_soonest_32 rfl ?_
    refine up_to 61 (P := fun i => ∀ M1 : Mem, vw M1 17 = dayN (vw M 1) i → same SCR M M1 → (∀ j, j < i → ¬ (¬ wk (dayN (vw M 1) j) (tn x) 1 < dayN (vw M 1) j 0 ∧ wk (dayN (vw M 1) j) (tn x) 0 ≤ wk (dayN (vw M 1) j) (tn x) 3 + allM (dayN (vw M 1) j) 8)) → X (kmk l rm_X7_soonest g 3 q) M1 33 [some (.ref (gad g (0))), some (.int (x)), some (.int (nI i))] []) (fun i hi ih M1 hv hs hst => ?_) 0 (by omega) M0 h0.1 (h0.2.mono (by simp [SCR])) (fun j hj => absurd hj (by omega))
    have o1 : okRow (vw M1 17) := by rw [hv]; exact okRow_dayN o i
    refine x_iload_n C dX7_soonest_33 rfl ?_
    refine x_bipush (v := 60) C dX7_soonest_34 (by decide) ?_
    refine x_icmp_gt (tgt := 85) C dX7_soonest_36 (by decide) (fun c36 => ?_) (fun c36 => ?_)
    · skip
      have hlt := lp_ge (N := 61) (by decide) hi (by have := c36; clear hret hcs C ih hst; grind [nI])
      refine x_aload_n C dX7_soonest_85 rfl ?_
      refine x_iconst (v := 3) C dX7_soonest_86 (by decide) ?_
      refine x_cvi C (k := 0) (c_X7_finding l g _ (k := 3) rfl (by decide) ) o_X7_finding mw_X7_61 rfl (C.lt rfl) rcv_0 rfl rfl rfl hcs dX7_soonest_87 (fun rg M1 hg => ?_)
      refine hret _ _ _ _ dX7_soonest_90 rfl ?_
      have eF : fstN (fun j => ¬ (¬ wk (dayN (vw M 1) j) (tn x) 1 < dayN (vw M 1) j 0 ∧ wk (dayN (vw M 1) j) (tn x) 0 ≤ wk (dayN (vw M 1) j) (tn x) 3 + allM (dayN (vw M 1) j) 8)) 61 = 61 := by
        refine fstN_all (fun j hj => ?_)
        rcases Nat.lt_or_ge j i with z | z
        · exact hst j z
        · first | exact absurd hj (by omega) | exact fun q => q.1 (late_on qx.1 o (by rw [← hv]; exact Classical.not_not.mp c44) j z)
      exact fi_C (k := 3) ((ifp_t c8).trans (ifp_f (show ¬ fstN (fun j => ¬ (¬ wk (dayN (vw M 1) j) (tn x) 1 < dayN (vw M 1) j 0 ∧ wk (dayN (vw M 1) j) (tn x) 0 ≤ wk (dayN (vw M 1) j) (tn x) 3 + allM (dayN (vw M 1) j) 8)) 61 < 61 by omega))) hg rfl (by decide) (hs)
    · skip
      have hlt := lp_lt (N := 61) (by decide) hi (by have := c36; clear hret hcs C ih hst; grind [nI])
      refine x_aload_n C dX7_soonest_39 rfl ?_
      refine x_getf (k := 0) C bk_X7 (C.lt rfl) rfl ent_0 2 fw_X7_19 rfl rfl dX7_soonest_40 ?_
      refine x_iload_n C dX7_soonest_43 rfl ?_
      refine x_cvB C (k := 17) (c_X1_isInTime l g (h := 17) (Or.inr (Or.inr rfl)) _ (w := (tn x)) qx.2 qx.1 ) o_X1_isInTime mw_X7_112 rfl (C.lt' (isH_lt (Or.inr (Or.inr rfl)) 0 (by decide))) (rcv_H (Or.inr (Or.inr rfl))) rfl rfl rfl hcs dX7_soonest_44 (fun c44 => ?_) (fun c44 => ?_)
      · skip
        refine x_if_eqF (tgt := 85) C dX7_soonest_47 (by decide) (by decide) ?_
        refine x_aload_n C dX7_soonest_50 rfl ?_
        refine x_getf (k := 0) C bk_X7 (C.lt rfl) rfl ent_0 2 fw_X7_19 rfl rfl dX7_soonest_51 ?_
        refine x_iload_n C dX7_soonest_54 rfl ?_
        refine x_cvE C (k := 17) (c_X1_lacks l g (h := 17) (Or.inr (Or.inr rfl)) _ (w := (tn x)) qx.2 qx.1 ) o_X1_lacks mw_X7_186 rfl (C.lt' (isH_lt (Or.inr (Or.inr rfl)) 0 (by decide))) (rcv_H (Or.inr (Or.inr rfl))) rfl rfl rfl hcs dX7_soonest_55 ?_
        refine x_aload_n C dX7_soonest_58 rfl ?_
        refine x_getf (k := 0) C bk_X7 (C.lt rfl) rfl ent_0 2 fw_X7_19 rfl rfl dX7_soonest_59 ?_
        refine x_cvE C (k := 17) (c_X1_allMinutes l g (h := 17) (Or.inr (Or.inr rfl)) _ o1 ) o_X1_allMinutes mw_X7_138 rfl (C.lt' (isH_lt (Or.inr (Or.inr rfl)) 0 (by decide))) (rcv_H (Or.inr (Or.inr rfl))) rfl rfl rfl hcs dX7_soonest_62 ?_
        refine x_icmp_gt (tgt := 70) C dX7_soonest_65 (by decide) (fun c65 => ?_) (fun c65 => ?_)
        · skip
          have c65 := fun z => (absurd : _ → _ → False) ((lack_i (wk_need qx.1 o1).1 (wk_need qx.1 o1).2 (allM_b o1)).mpr z) (Int32.not_le.mpr c65)
          refine x_aload_n C dX7_soonest_70 rfl ?_
          refine x_getf (k := 0) C bk_X7 (C.lt rfl) rfl ent_0 2 fw_X7_19 rfl rfl dX7_soonest_71 ?_
          refine x_iconst (v := 1) C dX7_soonest_74 (by decide) ?_
          refine x_cvi C (k := 17) (c_X1_daysGoBy l g (h := 17) (Or.inr (Or.inr rfl)) _ (N := 1) rfl (by decide) o1 ) o_X1_daysGoBy mw_X7_127 rfl (C.lt' (isH_lt (Or.inr (Or.inr rfl)) 0 (by decide))) (rcv_H (Or.inr (Or.inr rfl))) rfl rfl rfl hcs dX7_soonest_75 (fun r3 M3 h3 => ?_)
          refine x_pop C dX7_soonest_78 rfl ?_
          refine x_iinc (v := nI (i + 1)) C dX7_soonest_79 rfl (nI_1 _) rfl ?_
          refine x_goto (tgt := 33) C dX7_soonest_82 (by decide) ?_
          refine ih hlt M3 ?_ (hs.tr (h3.2.2.mono (by simp [SCR]))) (fun j hj => by rcases Nat.lt_or_ge j i with z | z; exact hst j z; rw [show j = i by omega]; exact (fun q => c65 (by rw [hv]; exact q.2)))
          rw [h3.2.1, hv]; rfl
        · skip
          have c65 := (lack_i (wk_need qx.1 o1).1 (wk_need qx.1 o1).2 (allM_b o1)).mp (Int32.not_lt.mp c65)
          refine x_iload_n C dX7_soonest_68 rfl ?_
          refine hret _ _ _ _ dX7_soonest_69 rfl ?_
          have eF : fstN (fun j => ¬ (¬ wk (dayN (vw M 1) j) (tn x) 1 < dayN (vw M 1) j 0 ∧ wk (dayN (vw M 1) j) (tn x) 0 ≤ wk (dayN (vw M 1) j) (tn x) 3 + allM (dayN (vw M 1) j) 8)) 61 = i := fstN_hit hst (fun z => z (by rw [← hv]; exact ⟨c44, c65⟩)) hlt
          exact pu_C ((ifp_t c8).trans ((ifp_t (show fstN (fun j => ¬ (¬ wk (dayN (vw M 1) j) (tn x) 1 < dayN (vw M 1) j 0 ∧ wk (dayN (vw M 1) j) (tn x) 0 ≤ wk (dayN (vw M 1) j) (tn x) 3 + allM (dayN (vw M 1) j) 8)) 61 < 61 by omega)).trans (by rw [← eF]; rfl))) hs
      · skip
        refine x_if_eqT (tgt := 85) C dX7_soonest_47 (by decide) (by decide) ?_
        refine x_aload_n C dX7_soonest_85 rfl ?_
        refine x_iconst (v := 3) C dX7_soonest_86 (by decide) ?_
        refine x_cvi C (k := 0) (c_X7_finding l g _ (k := 3) rfl (by decide) ) o_X7_finding mw_X7_61 rfl (C.lt rfl) rcv_0 rfl rfl rfl hcs dX7_soonest_87 (fun rg M2 hg => ?_)
        refine hret _ _ _ _ dX7_soonest_90 rfl ?_
        have eF : fstN (fun j => ¬ (¬ wk (dayN (vw M 1) j) (tn x) 1 < dayN (vw M 1) j 0 ∧ wk (dayN (vw M 1) j) (tn x) 0 ≤ wk (dayN (vw M 1) j) (tn x) 3 + allM (dayN (vw M 1) j) 8)) 61 = 61 := by
          refine fstN_all (fun j hj => ?_)
          rcases Nat.lt_or_ge j i with z | z
          · exact hst j z
          · first | exact absurd hj (by omega) | exact fun q => q.1 (late_on qx.1 o (by rw [← hv]; exact Classical.not_not.mp c44) j z)
        exact fi_C (k := 3) ((ifp_t c8).trans (ifp_f (show ¬ fstN (fun j => ¬ (¬ wk (dayN (vw M 1) j) (tn x) 1 < dayN (vw M 1) j 0 ∧ wk (dayN (vw M 1) j) (tn x) 0 ≤ wk (dayN (vw M 1) j) (tn x) 3 + allM (dayN (vw M 1) j) 8)) 61 < 61 by omega))) hg rfl (by decide) (hs)
  · skip
    refine x_if_neF (tgt := 20) C dX7_soonest_11 (by decide) (by decide) ?_
    refine x_aload_n C dX7_soonest_14 rfl ?_
    refine x_iconst (v := 0) C dX7_soonest_15 (by decide) ?_
    refine x_cvi C (k := 0) (c_X7_finding l g _ (k := 0) rfl (by decide) ) o_X7_finding mw_X7_61 rfl (C.lt rfl) rcv_0 rfl rfl rfl hcs dX7_soonest_16 (fun rf M3 hf => ?_)
    refine hret _ _ _ _ dX7_soonest_19 rfl ?_
    exact fi_C (k := 0) (ifp_f c8) hf rfl (by decide) same.rf

def rm_X7_nest : Room := { frames := 5, cells := 0, slots := 0, locals := 115 }
set_option maxRecDepth 100000 in
set_option maxHeartbeats 4000000 in
theorem c_X7_nest (l : Launch) (g : Gp) (M : Mem) (oa : okA (aC M))  (n : Int32) : Ki l g yX7_nest cX7_nest 2 .int rm_X7_nest [.ref (gad g (0)), .int (n)] M (fun r M' => (r, aC M') = F_nest n (aC M) ∧ sameC M M') := by
  refine Ki.of rfl rfl rfl (fun q C hret hcs => ?_)
  have o : okRow (vw M 1) := oa.1
  refine x_iload_n C dX7_nest_0 rfl ?_
  refine x_iconst (v := 0) C dX7_nest_1 (by decide) ?_
  refine x_iconst (v := 3) C dX7_nest_2 (by decide) ?_
  refine x_csB C (c_X7_within l g _ _ _ _ ) o_X7_within mw_X7_77 rfl rfl rfl rfl hcs dX7_nest_3 (fun c3 => ?_) (fun c3 => ?_)
  · skip
    refine x_if_eqF (tgt := 20) C dX7_nest_6 (by decide) (by decide) ?_
    refine x_aload_n C dX7_nest_9 rfl ?_
    refine x_getf (k := 0) C bk_X7 (C.lt rfl) rfl ent_0 0 fw_X7_10 rfl rfl dX7_nest_10 ?_
    refine x_iload_n C dX7_nest_13 rfl ?_
    refine x_cvE C (k := 1) (c_X1_minutesIn l g (h := 1) (Or.inl rfl) _ _ o ) o_X1_minutesIn mw_X7_189 rfl (C.lt' (isH_lt (Or.inl rfl) 0 (by decide))) (rcv_H (Or.inl rfl)) rfl rfl rfl hcs dX7_nest_14 ?_
    refine x_goto (tgt := 25) C dX7_nest_17 (by decide) ?_
    refine hret _ _ _ _ dX7_nest_25 rfl ?_
    exact pu_C0 (ifp_t c3)
  · skip
    refine x_if_eqT (tgt := 20) C dX7_nest_6 (by decide) (by decide) ?_
    refine x_aload_n C dX7_nest_20 rfl ?_
    refine x_iconst (v := 0) C dX7_nest_21 (by decide) ?_
    refine x_cvi C (k := 0) (c_X7_finding l g _ (k := 0) rfl (by decide) ) o_X7_finding mw_X7_61 rfl (C.lt rfl) rcv_0 rfl rfl rfl hcs dX7_nest_22 (fun rf M1 hf => ?_)
    refine hret _ _ _ _ dX7_nest_25 rfl ?_
    exact fi_C (k := 0) (ifp_f c3) hf rfl (by decide) same.rf

def rm_X7_guard : Room := { frames := 5, cells := 0, slots := 0, locals := 115 }
set_option maxRecDepth 100000 in
set_option maxHeartbeats 4000000 in
theorem c_X7_guard (l : Launch) (g : Gp) (M : Mem) (oa : okA (aC M))  : Ki l g yX7_guard cX7_guard 3 .int rm_X7_guard [.ref (gad g (0))] M (fun r M' => (r, aC M') = F_guard (aC M) ∧ sameC M M') := by
  refine Ki.of rfl rfl rfl (fun q C hret hcs => ?_)
  have o : okRow (vw M 1) := oa.1
  refine x_iconst (v := 0) C dX7_guard_0 (by decide) ?_
  refine x_istore_n C dX7_guard_1 rfl ?_
  refine x_iconst (v := 1) C dX7_guard_2 (by decide) ?_
  refine x_istore_n C dX7_guard_3 rfl ?_
  refine up_to 3 (P := fun i => X (kmk l rm_X7_guard g 3 q) M 4 [some (.ref (gad g (0))), some (.int (nI (guaN (vw M 1) i))), some (.int (nI (i + 1)))] []) (fun i hi ih => ?_) 0 (by omega)
  refine x_iload_n C dX7_guard_4 rfl ?_
  refine x_iconst (v := 4) C dX7_guard_5 (by decide) ?_
  refine x_icmp_ge (tgt := 36) C dX7_guard_6 (by decide) (fun c6 => ?_) (fun c6 => ?_)
  · skip
    have hlt := lp_ge (N := 4) (by decide) (show i + 1 ≤ 4 by omega) c6
    refine x_iload_n C dX7_guard_36 rfl ?_
    refine hret _ _ _ _ dX7_guard_37 rfl ?_
    have hlt : i = 3 := by omega
    subst hlt
    exact pu_C0 rfl
  · skip
    have hlt := lp_lt (N := 4) (by decide) (show i + 1 ≤ 4 by omega) c6
    refine x_aload_n C dX7_guard_9 rfl ?_
    refine x_getf (k := 0) C bk_X7 (C.lt rfl) rfl ent_0 0 fw_X7_10 rfl rfl dX7_guard_10 ?_
    refine x_iload_n C dX7_guard_13 rfl ?_
    refine x_cvE C (k := 1) (c_X1_minutesIn l g (h := 1) (Or.inl rfl) _ _ o ) o_X1_minutesIn mw_X7_189 rfl (C.lt' (isH_lt (Or.inl rfl) 0 (by decide))) (rcv_H (Or.inl rfl)) rfl rfl rfl hcs dX7_guard_14 ?_
    refine x_aload_n C dX7_guard_17 rfl ?_
    refine x_getf (k := 0) C bk_X7 (C.lt rfl) rfl ent_0 0 fw_X7_10 rfl rfl dX7_guard_18 ?_
    refine x_iload_n C dX7_guard_21 rfl ?_
    refine x_cvE C (k := 1) (c_X1_minutesIn l g (h := 1) (Or.inl rfl) _ _ o ) o_X1_minutesIn mw_X7_189 rfl (C.lt' (isH_lt (Or.inl rfl) 0 (by decide))) (rcv_H (Or.inl rfl)) rfl rfl rfl hcs dX7_guard_22 ?_
    refine x_icmp_le (tgt := 30) C dX7_guard_25 (by decide) (fun c25 => ?_) (fun c25 => ?_)
    · skip
      refine x_iinc (v := nI (i + 1 + 1)) C dX7_guard_30 rfl (nI_1 _) rfl ?_
      refine x_goto (tgt := 4) C dX7_guard_33 (by decide) ?_
      have e : guaN (vw M 1) (i + 1) = guaN (vw M 1) i := if_neg (by clear hret hcs C ih; grind)
      rw [e] at ih
      exact ih (by omega)
    · skip
      refine x_iload_n C dX7_guard_28 rfl ?_
      refine x_istore_n C dX7_guard_29 rfl ?_
      refine x_iinc (v := nI (i + 1 + 1)) C dX7_guard_30 rfl (nI_1 _) rfl ?_
      refine x_goto (tgt := 4) C dX7_guard_33 (by decide) ?_
      have e : guaN (vw M 1) (i + 1) = i + 1 := if_pos (by clear hret hcs C ih; grind)
      rw [e] at ih
      exact ih (by omega)

