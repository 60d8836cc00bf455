/-! ===== contracts: the model's calls, third part ===== -/
def rm_X8_draw : Room := { frames := 0, cells := 0, slots := 0, locals := 0 }
set_option maxRecDepth 100000 in
set_option maxHeartbeats 4000000 in
theorem c_X8_draw (l : Launch) (g : Gp) (M : Mem) : Ki l g yX8_draw cX8_draw 1 .int rm_X8_draw [.ref (gad g (40))] M (fun r M' => r = foxU (foxZ (vm M 2)) ∧ vm M' = upd (vm M) 2 (foxZ (vm M 2)) ∧ same [41] M M') := by
  refine Ki.of rfl rfl rfl (fun q C hret hcs => ?_)
  refine x_aload_n C dX8_draw_0 rfl ?_
  refine x_getf (k := 40) C bk_X8 (C.lt rfl) rfl ent_40 0 fw_X8_9 rfl rfl dX8_draw_1 ?_
  refine x_iconst (v := 2) C dX8_draw_4 (by decide) ?_
  refine x_aload_n C dX8_draw_5 rfl ?_
  refine x_getf (k := 40) C bk_X8 (C.lt rfl) rfl ent_40 0 fw_X8_9 rfl rfl dX8_draw_6 ?_
  refine x_iconst (v := 2) C dX8_draw_9 (by decide) ?_
  refine x_iald (j := 2) (k := 41) C (C.lt rfl) rfl ent_41 (rfl) (by decide) rfl dX8_draw_10 ?_
  refine x_ldc C kw_X8_197 dX8_draw_11 ?_
  refine x_imul C dX8_draw_13 ?_
  refine x_sipush (v := 12345) C dX8_draw_14 (by decide) ?_
  refine x_iadd C dX8_draw_17 ?_
  refine x_topE (y := foxZ (vm M 2)) (rfl) ?_
  refine x_iast (j := 2) (k := 41) C (C.lt rfl) rfl ent_41 (rfl) (by decide) rfl dX8_draw_18 ?_
  refine x_memI (fun M1 eM1 => ?_)
  refine x_aload_n C dX8_draw_19 rfl ?_
  refine x_getf (k := 40) C bk_X8 (C.lt rfl) rfl ent_40 0 fw_X8_9 rfl rfl dX8_draw_20 ?_
  refine x_iconst (v := 2) C dX8_draw_23 (by decide) ?_
  refine x_iald (j := 2) (k := 41) C (C.lt rfl) rfl ent_41 (rfl) (by decide) rfl dX8_draw_24 ?_
  refine x_bipush (v := 8) C dX8_draw_25 (by decide) ?_
  refine x_iushr C dX8_draw_27 rfl ?_
  refine x_topE (y := foxU (foxZ (vm M 2))) (by rw [eM1, up_ss]; rfl) ?_
  refine hret _ _ _ _ dX8_draw_28 rfl ?_
  rw [eM1]; exact ⟨rfl, vm_up (by decide), same.up (by simp)⟩

def rm_X8_foxes : Room := { frames := 5, cells := 0, slots := 0, locals := 112 }
set_option maxRecDepth 100000 in
set_option maxHeartbeats 4000000 in
theorem c_X8_foxes (l : Launch) (g : Gp) (M : Mem) (oa : okA (aM M))  (n : Int32) : Ki l g yX8_foxes cX8_foxes 7 .int rm_X8_foxes [.ref (gad g (40)), .int (n)] M (fun r M' => (r, aM M') = F_foxes n (aM M) ∧ sameM M M') := by
  refine Ki.of rfl rfl rfl (fun q C hret hcs => ?_)
  have o : okRow (vm M) := oa.1
  refine x_iload_n C dX8_foxes_0 rfl ?_
  refine x_iconst (v := 1) C dX8_foxes_1 (by decide) ?_
  refine x_bipush (v := 20) C dX8_foxes_2 (by decide) ?_
  refine x_csB C (c_X8_in1 l g _ _ _ _ ) o_X8_in1 mw_X8_59 rfl rfl rfl rfl hcs dX8_foxes_4 (fun c4 => ?_) (fun c4 => ?_)
  · skip
    have qn := inB_tn (n := 20) (by decide) (show inB n 0 20 from ⟨by have := c4.1; clear hret hcs C; grind, c4.2⟩)
    refine x_if_neT (tgt := 16) C dX8_foxes_7 (by decide) (by decide) ?_
    refine x_aload_n C dX8_foxes_16 rfl ?_
    refine x_getf (k := 40) C bk_X8 (C.lt rfl) rfl ent_40 0 fw_X8_9 rfl rfl dX8_foxes_17 ?_
    refine x_iconst (v := 0) C dX8_foxes_20 (by decide) ?_
    refine x_iald (j := 0) (k := 41) C (C.lt rfl) rfl ent_41 (rfl) (by decide) rfl dX8_foxes_21 ?_
    refine x_iload_n C dX8_foxes_22 rfl ?_
    refine x_iadd C dX8_foxes_23 ?_
    refine x_ldc C kw_X8_57 dX8_foxes_24 ?_
    refine x_icmp_le (tgt := 35) C dX8_foxes_26 (by decide) (fun c26 => ?_) (fun c26 => ?_)
    · skip
      refine x_iconst (v := 0) C dX8_foxes_35 (by decide) ?_
      refine x_istore_n C dX8_foxes_36 rfl ?_
      refine x_iconst (v := 0) C dX8_foxes_37 (by decide) ?_
      refine x_istore_n C dX8_foxes_38 rfl ?_
      refine x_iconst (v := 0) C dX8_foxes_39 (by decide) ?_
      refine x_istore C dX8_foxes_40 rfl ?_
      refine up_to (tn n) (P := fun i => ∀ (M1 : Mem) (sp : Int32), vm M1 = foxsS (vm M) i → same [41] M M1 → X (kmk l rm_X8_foxes g 7 q) M1 42 [some (.ref (gad g (40))), some (.int (n)), some (.int (nI (foxsC (vm M) i))), some (.int (sp)), some (.int (nI i)), none, none] []) (fun i hi ih M1 sp hv hs => ?_) 0 (Nat.zero_le _) M 0 rfl same.rf
      refine x_iload C dX8_foxes_42 rfl ?_
      refine x_iload_n C dX8_foxes_44 rfl ?_
      refine x_icmp_ge (tgt := 108) C dX8_foxes_45 (by decide) (fun c45 => ?_) (fun c45 => ?_)
      · skip
        have hlt := lp_ge (N := tn n) (by omega) hi (by rw [← qn.2]; exact c45)
        refine x_iload_n C dX8_foxes_108 rfl ?_
        refine hret _ _ _ _ dX8_foxes_109 rfl ?_
        subst hlt; exact st_M ((ifp_t c4).trans (ifp_f (Int32.not_lt.mpr c26))) hv (hs.mono (by simp [SC1]))
      · skip
        have hlt := lp_lt (N := tn n) (by omega) hi (by rw [← qn.2]; exact c45)
        refine x_aload_n C dX8_foxes_48 rfl ?_
        refine x_aload_n C dX8_foxes_49 rfl ?_
        refine x_cvi C (k := 40) (c_X8_draw l g _ ) o_X8_draw mw_X8_198 rfl (C.lt rfl) rcv_40 rfl rfl rfl hcs dX8_foxes_50 (fun r2 M2 h2 => ?_)
        refine x_iconst (v := 4) C dX8_foxes_53 (by decide) ?_
        refine x_irem C dX8_foxes_54 (by decide) ?_
        refine x_topE (y := (foxT (foxZ (vm M1 2)))) (by rw [h2.1]; rfl) ?_
        refine x_cvE C (k := 40) (c_X8_inNest l g _ _ ) o_X8_inNest mw_X8_176 rfl (C.lt rfl) rcv_40 rfl rfl rfl hcs dX8_foxes_55 ?_
        refine x_topE (y := nI (nsN (upd (vm M1) 2 (foxZ (vm M1 2))) (foxT (foxZ (vm M1 2))) 8)) (by rw [h2.2.1]) ?_
        refine x_istore C dX8_foxes_58 rfl ?_
        refine x_iconst (v := 0) C dX8_foxes_60 (by decide) ?_
        refine x_istore C dX8_foxes_61 rfl ?_
        refine up_to 8 (P := fun e => ∀ M3 : Mem, vm M3 = foxL (upd (vm M1) 2 (foxZ (vm M1 2))) (foxT (foxZ (vm M1 2))) e → same [41] M2 M3 → X (kmk l rm_X8_foxes g 7 q) M3 63 [some (.ref (gad g (40))), some (.int (n)), some (.int (nI (foxsC (vm M) i + foxN (upd (vm M1) 2 (foxZ (vm M1 2))) (foxT (foxZ (vm M1 2))) e))), some (.int (sp)), some (.int (nI i)), some (.int (nI (nsN (upd (vm M1) 2 (foxZ (vm M1 2))) (foxT (foxZ (vm M1 2))) 8))), some (.int (nI e))] []) (fun e he ie M3 hv3 hs3 => ?_) 0 (by omega) M2 h2.2.1 same.rf
        refine x_iload C dX8_foxes_63 rfl ?_
        refine x_bipush (v := 8) C dX8_foxes_65 (by decide) ?_
        refine x_icmp_ge (tgt := 95) C dX8_foxes_67 (by decide) (fun c67 => ?_) (fun c67 => ?_)
        · skip
          have het := lp_ge (N := 8) (by decide) he c67
          refine x_iload_n C dX8_foxes_95 rfl ?_
          refine x_aload_n C dX8_foxes_96 rfl ?_
          refine x_cvi C (k := 40) (c_X8_day l g _ ) o_X8_day mw_X8_140 rfl (C.lt rfl) rcv_40 rfl rfl rfl hcs dX8_foxes_97 (fun r5 M5 h5 => ?_)
          refine x_iadd C dX8_foxes_100 ?_
          refine x_istore_n C dX8_foxes_101 rfl ?_
          refine x_iinc (v := nI (i + 1)) C dX8_foxes_102 rfl (nI_1 i) rfl ?_
          refine x_goto (tgt := 42) C dX8_foxes_105 (by decide) ?_
          refine X.le (ls' := [some (.ref (gad g (40))), some (.int (n)), some (.int (nI (foxsC (vm M) i + foxN (upd (vm M1) 2 (foxZ (vm M1 2))) (foxT (foxZ (vm M1 2))) e))), some (.int ((sp + r5))), some (.int (nI (i + 1))), none, none]) (lle_s rfl (lle_s rfl (lle_s rfl (lle_s rfl (lle_s rfl (lle_n (lle_n lle_e))))))) ?_
          subst het
          have e2 : foxsC (vm M) i + foxN (upd (vm M1) 2 (foxZ (vm M1 2))) (foxT (foxZ (vm M1 2))) 8 = foxsC (vm M) (i + 1) := by rw [hv]; rfl
          rw [e2]
          refine ih hlt M5 _ ?_ (hs.tr (h2.2.2.tr (hs3.tr h5.2.2)))
          rw [h5.2.1, hv3, hv]; rfl
        · skip
          have het := lp_lt (N := 8) (by decide) he c67
          refine x_iload C dX8_foxes_70 rfl ?_
          refine x_iload C dX8_foxes_72 rfl ?_
          refine x_csB C (c_X8_isIn l g _ (s := (nsN (upd (vm M1) 2 (foxZ (vm M1 2))) (foxT (foxZ (vm M1 2))) 8)) (k := e) rfl (by have := nsN_lt (upd (vm M1) 2 (foxZ (vm M1 2))) (foxT (foxZ (vm M1 2))) 8; omega) rfl (by omega) ) o_X8_isIn mw_X8_88 rfl rfl rfl rfl hcs dX8_foxes_74 (fun c74 => ?_) (fun c74 => ?_)
          · skip
            rw [ns_bit (upd (vm M1) 2 (foxZ (vm M1 2))) (foxT (foxZ (vm M1 2))) 8 e het] at c74
            have cf : thr (foxL (upd (vm M1) 2 (foxZ (vm M1 2))) (foxT (foxZ (vm M1 2))) e) e ∧ eg (foxL (upd (vm M1) 2 (foxZ (vm M1 2))) (foxT (foxZ (vm M1 2))) e) e 3 = (foxT (foxZ (vm M1 2))) := by have := of_decide_eq_true c74; unfold thr at this ⊢; rw [foxL_eg (Nat.le_refl e), foxL_eg (Nat.le_refl e)]; exact this
            refine x_if_eqF (tgt := 89) C dX8_foxes_77 (by decide) (by decide) ?_
            refine x_aload_n C dX8_foxes_80 rfl ?_
            refine x_iload C dX8_foxes_81 rfl ?_
            refine x_cvv C (k := 40) (c_X8_goesEgg l g _ (e := e) rfl het ) o_X8_goesEgg mw_X8_109 rfl (C.lt rfl) rcv_40 rfl rfl rfl hcs dX8_foxes_83 (fun M4 h4 => ?_)
            refine x_iinc (v := nI (foxsC (vm M) i + foxN (upd (vm M1) 2 (foxZ (vm M1 2))) (foxT (foxZ (vm M1 2))) e + 1)) C dX8_foxes_86 rfl (nI_1 _) rfl ?_
            refine x_iinc (v := nI (e + 1)) C dX8_foxes_89 rfl (nI_1 e) rfl ?_
            refine x_goto (tgt := 63) C dX8_foxes_92 (by decide) ?_
            obtain ⟨e1, e2⟩ := fox_take cf.1 cf.2
            rw [e2] at ie
            exact ie het M4 (by rw [e1, h4.1, hv3]) (hs3.tr h4.2)
          · skip
            rw [ns_bit (upd (vm M1) 2 (foxZ (vm M1 2))) (foxT (foxZ (vm M1 2))) 8 e het] at c74
            have cf : ¬ (thr (foxL (upd (vm M1) 2 (foxZ (vm M1 2))) (foxT (foxZ (vm M1 2))) e) e ∧ eg (foxL (upd (vm M1) 2 (foxZ (vm M1 2))) (foxT (foxZ (vm M1 2))) e) e 3 = (foxT (foxZ (vm M1 2)))) := by intro z; unfold thr at z; rw [foxL_eg (Nat.le_refl e), foxL_eg (Nat.le_refl e)] at z; exact c74 (decide_eq_true z)
            refine x_if_eqT (tgt := 89) C dX8_foxes_77 (by decide) (by decide) ?_
            refine x_iinc (v := nI (e + 1)) C dX8_foxes_89 rfl (nI_1 e) rfl ?_
            refine x_goto (tgt := 63) C dX8_foxes_92 (by decide) ?_
            obtain ⟨e1, e2⟩ := fox_not cf
            rw [e2] at ie
            exact ie het M3 (by rw [e1]; exact hv3) hs3
    · skip
      refine x_aload_n C dX8_foxes_29 rfl ?_
      refine x_iconst (v := 4) C dX8_foxes_30 (by decide) ?_
      refine x_cvi C (k := 40) (c_X8_no l g _ (k := 4) rfl (by decide) ) o_X8_no mw_X8_119 rfl (C.lt rfl) rcv_40 rfl rfl rfl hcs dX8_foxes_31 (fun rg M1 hg => ?_)
      refine hret _ _ _ _ dX8_foxes_34 rfl ?_
      exact fi_M (k := 4) ((ifp_t c4).trans (ifp_t (Int32.not_le.mp c26))) hg rfl (by decide) rfl (same.rf)
  · skip
    refine x_if_neF (tgt := 16) C dX8_foxes_7 (by decide) (by decide) ?_
    refine x_aload_n C dX8_foxes_10 rfl ?_
    refine x_iconst (v := 0) C dX8_foxes_11 (by decide) ?_
    refine x_cvi C (k := 40) (c_X8_no l g _ (k := 0) rfl (by decide) ) o_X8_no mw_X8_119 rfl (C.lt rfl) rcv_40 rfl rfl rfl hcs dX8_foxes_12 (fun rf M2 hf => ?_)
    refine hret _ _ _ _ dX8_foxes_15 rfl ?_
    exact fi_M (k := 0) (ifp_f c4) hf rfl (by decide) rfl (same.rf)

def rm_X8_odds : Room := { frames := 1, cells := 0, slots := 0, locals := 22 }
set_option maxRecDepth 100000 in
set_option maxHeartbeats 4000000 in
theorem c_X8_odds (l : Launch) (g : Gp) (M : Mem) (oa : okA (aM M))  (n w : Int32) : Kl l g yX8_odds cX8_odds 8 rm_X8_odds [.ref (gad g (40)), .int (n), .int (w)] M (fun r M' => (r, aM M') = F_odds n w (aM M) ∧ sameM M M') := by
  refine Kl.of rfl rfl rfl (fun q C hret hcs => ?_)
  have o : okRow (vm M) := oa.1
  refine x_iload_n C dX8_odds_0 rfl ?_
  refine x_iconst (v := 0) C dX8_odds_1 (by decide) ?_
  refine x_bipush (v := 20) C dX8_odds_2 (by decide) ?_
  refine x_csB C (c_X8_in1 l g _ _ _ _ ) o_X8_in1 mw_X8_59 rfl rfl rfl rfl hcs dX8_odds_4 (fun c4 => ?_) (fun c4 => ?_)
  · skip
    have qn := inB_tn (n := 20) (by decide) c4
    refine x_if_eqF (tgt := 19) C dX8_odds_7 (by decide) (by decide) ?_
    refine x_iload_n C dX8_odds_10 rfl ?_
    refine x_iconst (v := 0) C dX8_odds_11 (by decide) ?_
    refine x_iconst (v := 1) C dX8_odds_12 (by decide) ?_
    refine x_csB C (c_X8_in1 l g _ _ _ _ ) o_X8_in1 mw_X8_59 rfl rfl rfl rfl hcs dX8_odds_13 (fun c13 => ?_) (fun c13 => ?_)
    · skip
      refine x_if_neT (tgt := 26) C dX8_odds_16 (by decide) (by decide) ?_
      refine x_lconst (v := 1) C dX8_odds_26 rfl ?_
      refine x_lstore_n C dX8_odds_27 rfl ?_
      refine x_lconst (v := 1) C dX8_odds_28 rfl ?_
      refine x_lstore C dX8_odds_29 rfl ?_
      refine x_iconst (v := 0) C dX8_odds_31 (by decide) ?_
      refine x_istore C dX8_odds_32 rfl ?_
      refine X.le (ls' := [some (.ref (gad g (40))), some (.int (n)), some (.int (w)), some (.long (powL 3 0)), none, some (.long (powL 4 0)), none, some (.int (nI 0))]) (lle_s rfl (lle_s rfl (lle_s rfl (lle_s rfl (lle_n (lle_s rfl (lle_n (lle_s rfl lle_e)))))))) ?_
      refine up_to (tn n) (P := fun i => X (kmk l rm_X8_odds g 8 q) M 34 [some (.ref (gad g (40))), some (.int (n)), some (.int (w)), some (.long (powL 3 i)), none, some (.long (powL 4 i)), none, some (.int (nI i))] []) (fun i hi ih => ?_) 0 (Nat.zero_le _)
      refine x_iload C dX8_odds_34 rfl ?_
      refine x_iload_n C dX8_odds_36 rfl ?_
      refine x_icmp_ge (tgt := 60) C dX8_odds_37 (by decide) (fun c37 => ?_) (fun c37 => ?_)
      · skip
        have hlt := lp_ge (N := tn n) (by omega) hi (by rw [← qn.2]; exact c37)
        refine x_iload_n C dX8_odds_60 rfl ?_
        refine x_if_ne (tgt := 68) C dX8_odds_61 (by decide) (fun c61 => ?_) (fun c61 => ?_)
        · skip
          refine x_lload C dX8_odds_68 rfl ?_
          refine hret _ _ _ _ dX8_odds_70 ?_
          subst hlt
          refine ⟨?_, sameM.rf⟩
          rw [show F_odds n w (aM M) = _ from ifp_t ⟨c4, c13⟩]
          first | rw [if_pos c61] | rw [if_neg c61]
        · skip
          refine x_lload_n C dX8_odds_64 rfl ?_
          refine x_goto (tgt := 70) C dX8_odds_65 (by decide) ?_
          refine hret _ _ _ _ dX8_odds_70 ?_
          subst hlt
          refine ⟨?_, sameM.rf⟩
          rw [show F_odds n w (aM M) = _ from ifp_t ⟨c4, c13⟩]
          first | rw [if_pos c61] | rw [if_neg c61]
      · skip
        have hlt := lp_lt (N := tn n) (by omega) hi (by rw [← qn.2]; exact c37)
        refine x_lload_n C dX8_odds_40 rfl ?_
        refine x_ldc2 C kw_X8_201 dX8_odds_41 ?_
        refine x_lmul C dX8_odds_44 ?_
        refine x_topl (fun y3 ey3 => ?_)
        refine x_lstore_n C dX8_odds_45 rfl ?_
        refine x_lload C dX8_odds_46 rfl ?_
        refine x_ldc2 C kw_X8_203 dX8_odds_48 ?_
        refine x_lmul C dX8_odds_51 ?_
        refine x_topl (fun y5 ey5 => ?_)
        refine x_lstore C dX8_odds_52 rfl ?_
        refine x_iinc (v := nI (i + 1)) C dX8_odds_54 rfl (nI_1 i) rfl ?_
        refine x_goto (tgt := 34) C dX8_odds_57 (by decide) ?_
        have e3 : y3 = powL 3 (i + 1) := ey3
        have e5 : y5 = powL 4 (i + 1) := ey5
        rw [e3, e5]
        exact ih hlt
    · skip
      refine x_if_neF (tgt := 26) C dX8_odds_16 (by decide) (by decide) ?_
      refine x_aload_n C dX8_odds_19 rfl ?_
      refine x_iconst (v := 0) C dX8_odds_20 (by decide) ?_
      refine x_cvi C (k := 40) (c_X8_no l g _ (k := 0) rfl (by decide) ) o_X8_no mw_X8_119 rfl (C.lt rfl) rcv_40 rfl rfl rfl hcs dX8_odds_21 (fun rf M1 hf => ?_)
      refine x_i2l C dX8_odds_24 rfl ?_
      refine hret _ _ _ _ dX8_odds_25 ?_
      have q := fi_M (M := M) (k := 0) (P := noA (aM M) 0) rfl hf rfl (by decide) rfl same.rf; refine ⟨?_, q.2⟩; rw [show F_odds n w (aM M) = ((noA (aM M) 0).1.toInt64, (noA (aM M) 0).2) from ifp_f (fun z => by first | exact c13 z.2 | exact c4 z.1), ← q.1]
  · skip
    refine x_if_eqT (tgt := 19) C dX8_odds_7 (by decide) (by decide) ?_
    refine x_aload_n C dX8_odds_19 rfl ?_
    refine x_iconst (v := 0) C dX8_odds_20 (by decide) ?_
    refine x_cvi C (k := 40) (c_X8_no l g _ (k := 0) rfl (by decide) ) o_X8_no mw_X8_119 rfl (C.lt rfl) rcv_40 rfl rfl rfl hcs dX8_odds_21 (fun rf M2 hf => ?_)
    refine x_i2l C dX8_odds_24 rfl ?_
    refine hret _ _ _ _ dX8_odds_25 ?_
    have q := fi_M (M := M) (k := 0) (P := noA (aM M) 0) rfl hf rfl (by decide) rfl same.rf; refine ⟨?_, q.2⟩; rw [show F_odds n w (aM M) = ((noA (aM M) 0).1.toInt64, (noA (aM M) 0).2) from ifp_f (fun z => by first | exact c13 z.2 | exact c4 z.1), ← q.1]

def rm_X8_seed : Room := { frames := 0, cells := 0, slots := 0, locals := 0 }
set_option maxRecDepth 100000 in
set_option maxHeartbeats 4000000 in
theorem c_X8_seed (l : Launch) (g : Gp) (M : Mem) (oa : okA (aM M))  (v : Int32) : Ki l g yX8_seed cX8_seed 3 .int rm_X8_seed [.ref (gad g (40)), .int (v)] M (fun r M' => (r, aM M') = F_seed v (aM M) ∧ sameM M M') := by
  refine Ki.of rfl rfl rfl (fun q C hret hcs => ?_)
  have o : okRow (vm M) := oa.1
  refine x_aload_n C dX8_seed_0 rfl ?_
  refine x_getf (k := 40) C bk_X8 (C.lt rfl) rfl ent_40 0 fw_X8_9 rfl rfl dX8_seed_1 ?_
  refine x_iconst (v := 2) C dX8_seed_4 (by decide) ?_
  refine x_iald (j := 2) (k := 41) C (C.lt rfl) rfl ent_41 (rfl) (by decide) rfl dX8_seed_5 ?_
  refine x_topE (y := vm M 2) (rfl) ?_
  refine x_istore_n C dX8_seed_6 rfl ?_
  refine x_aload_n C dX8_seed_7 rfl ?_
  refine x_getf (k := 40) C bk_X8 (C.lt rfl) rfl ent_40 0 fw_X8_9 rfl rfl dX8_seed_8 ?_
  refine x_iconst (v := 2) C dX8_seed_11 (by decide) ?_
  refine x_iload_n C dX8_seed_12 rfl ?_
  refine x_iast (j := 2) (k := 41) C (C.lt rfl) rfl ent_41 (rfl) (by decide) rfl dX8_seed_13 ?_
  refine x_memI (fun M1 eM1 => ?_)
  refine x_iload_n C dX8_seed_14 rfl ?_
  refine hret _ _ _ _ dX8_seed_15 rfl ?_
  exact st_M rfl (by rw [eM1]; exact vm_up (by decide)) (by rw [eM1]; exact same.up (by simp [SC1]))

def rm_X8_wipe : Room := { frames := 0, cells := 0, slots := 0, locals := 0 }
set_option maxRecDepth 100000 in
set_option maxHeartbeats 4000000 in
theorem c_X8_wipe (l : Launch) (g : Gp) (M : Mem) (oa : okA (aM M))  : Ki l g yX8_wipe cX8_wipe 2 .int rm_X8_wipe [.ref (gad g (40))] M (fun r M' => (r, aM M') = F_wipe (aM M) ∧ sameM M M') := by
  refine Ki.of rfl rfl rfl (fun q C hret hcs => ?_)
  have o : okRow (vm M) := oa.1
  refine x_aload_n C dX8_wipe_0 rfl ?_
  refine x_getf (k := 40) C bk_X8 (C.lt rfl) rfl ent_40 8 fw_X8_205 rfl rfl dX8_wipe_1 ?_
  refine x_istore_n C dX8_wipe_4 rfl ?_
  refine x_aload_n C dX8_wipe_5 rfl ?_
  refine x_iconst (v := 0) C dX8_wipe_6 (by decide) ?_
  refine x_putf (k := 40) C bk_X8 (C.lt rfl) rfl ent_40 8 fw_X8_205 rfl (fun _ => rfl) rfl rfl rfl rfl dX8_wipe_7 ?_
  refine x_memI (fun M1 eM1 => ?_)
  refine x_iload_n C dX8_wipe_10 rfl ?_
  refine hret _ _ _ _ dX8_wipe_11 rfl ?_
  exact ta_M rfl (by rw [eM1, up_n (by decide)]; rfl) (by rw [eM1]; exact up_ss) (by rw [eM1]; exact up_sn (by decide)) (by rw [eM1]; exact same.up (by simp))

def rm_X8_hold : Room := { frames := 2, cells := 0, slots := 0, locals := 42 }
set_option maxRecDepth 100000 in
set_option maxHeartbeats 4000000 in
theorem c_X8_hold (l : Launch) (g : Gp) (M : Mem) (oa : okA (aM M))  (k e : Int32) : Ki l g yX8_hold cX8_hold 3 .int rm_X8_hold [.ref (gad g (40)), .int (k), .int (e)] M (fun r M' => (r, aM M') = F_hold k e (aM M) ∧ sameM M M') := by
  refine Ki.of rfl rfl rfl (fun q C hret hcs => ?_)
  have o : okRow (vm M) := oa.1
  refine x_iload_n C dX8_hold_0 rfl ?_
  refine x_csB C (c_X8_isSpot l g _ _ ) o_X8_isSpot mw_X8_263 rfl rfl rfl rfl hcs dX8_hold_1 (fun c1 => ?_) (fun c1 => ?_)
  · skip
    have qk := inB_tn (n := 9) (by decide) c1
    refine x_if_eqF (tgt := 19) C dX8_hold_4 (by decide) (by decide) ?_
    refine x_iload_n C dX8_hold_7 rfl ?_
    refine x_iconst (v := -1) C dX8_hold_8 (by decide) ?_
    refine x_icmp_eq (tgt := 25) C dX8_hold_9 (by decide) (fun c9 => ?_) (fun c9 => ?_)
    · skip
      refine x_aload_n C dX8_hold_25 rfl ?_
      refine x_getf (k := 40) C bk_X8 (C.lt rfl) rfl ent_40 0 fw_X8_9 rfl rfl dX8_hold_26 ?_
      refine x_bipush (v := 83) C dX8_hold_29 (by decide) ?_
      refine x_iload_n C dX8_hold_31 rfl ?_
      refine x_iadd C dX8_hold_32 ?_
      refine x_iload_n C dX8_hold_33 rfl ?_
      refine x_iast (j := 83 + tn k) (k := 41) C (C.lt rfl) rfl ent_41 ((congrArg (fun z => 83 + z) qk.2).trans (nI_add 83 _)) (by have := qk.1; omega) rfl dX8_hold_34 ?_
      refine x_memI (fun M1 eM1 => ?_)
      refine x_iconst (v := 1) C dX8_hold_35 (by decide) ?_
      refine hret _ _ _ _ dX8_hold_36 rfl ?_
      exact st_M (ifp_t ⟨c1, by unfold inB; clear hret hcs C; grind⟩) (by rw [eM1]; exact vm_up (by have := qk.1; omega)) (by rw [eM1]; exact same.up (by simp [SC1]))
    · skip
      refine x_iload_n C dX8_hold_12 rfl ?_
      refine x_csB C (c_X8_isPlace l g _ _ ) o_X8_isPlace mw_X8_67 rfl rfl rfl rfl hcs dX8_hold_13 (fun c13 => ?_) (fun c13 => ?_)
      · skip
        refine x_if_neT (tgt := 25) C dX8_hold_16 (by decide) (by decide) ?_
        refine x_aload_n C dX8_hold_25 rfl ?_
        refine x_getf (k := 40) C bk_X8 (C.lt rfl) rfl ent_40 0 fw_X8_9 rfl rfl dX8_hold_26 ?_
        refine x_bipush (v := 83) C dX8_hold_29 (by decide) ?_
        refine x_iload_n C dX8_hold_31 rfl ?_
        refine x_iadd C dX8_hold_32 ?_
        refine x_iload_n C dX8_hold_33 rfl ?_
        refine x_iast (j := 83 + tn k) (k := 41) C (C.lt rfl) rfl ent_41 ((congrArg (fun z => 83 + z) qk.2).trans (nI_add 83 _)) (by have := qk.1; omega) rfl dX8_hold_34 ?_
        refine x_memI (fun M1 eM1 => ?_)
        refine x_iconst (v := 1) C dX8_hold_35 (by decide) ?_
        refine hret _ _ _ _ dX8_hold_36 rfl ?_
        exact st_M (ifp_t ⟨c1, by unfold inB; clear hret hcs C; grind⟩) (by rw [eM1]; exact vm_up (by have := qk.1; omega)) (by rw [eM1]; exact same.up (by simp [SC1]))
      · skip
        refine x_if_neF (tgt := 25) C dX8_hold_16 (by decide) (by decide) ?_
        refine x_aload_n C dX8_hold_19 rfl ?_
        refine x_iconst (v := 0) C dX8_hold_20 (by decide) ?_
        refine x_cvi C (k := 40) (c_X8_no l g _ (k := 0) rfl (by decide) ) o_X8_no mw_X8_119 rfl (C.lt rfl) rcv_40 rfl rfl rfl hcs dX8_hold_21 (fun rf M1 hf => ?_)
        refine hret _ _ _ _ dX8_hold_24 rfl ?_
        exact fi_M (k := 0) (ifp_f (fun z => by first | (have z2 := z.2; unfold inB at z2; clear hret hcs C hf; grind) | exact c1 z.1)) hf rfl (by decide) rfl (same.rf)
  · skip
    refine x_if_eqT (tgt := 19) C dX8_hold_4 (by decide) (by decide) ?_
    refine x_aload_n C dX8_hold_19 rfl ?_
    refine x_iconst (v := 0) C dX8_hold_20 (by decide) ?_
    refine x_cvi C (k := 40) (c_X8_no l g _ (k := 0) rfl (by decide) ) o_X8_no mw_X8_119 rfl (C.lt rfl) rcv_40 rfl rfl rfl hcs dX8_hold_21 (fun rf M2 hf => ?_)
    refine hret _ _ _ _ dX8_hold_24 rfl ?_
    exact fi_M (k := 0) (ifp_f (fun z => by first | (have z2 := z.2; unfold inB at z2; clear hret hcs C hf; grind) | exact c1 z.1)) hf rfl (by decide) rfl (same.rf)

def rm_X8_above : Room := { frames := 0, cells := 0, slots := 0, locals := 0 }
set_option maxRecDepth 100000 in
set_option maxHeartbeats 4000000 in
theorem c_X8_above (l : Launch) (g : Gp) (M : Mem) (k : Int32) : Kp l g yX8_above cX8_above 1 .int rm_X8_above [.int (k)] M (fun r => r = abvF k) := by
  unfold Kp
  refine Ki.of rfl rfl rfl (fun q C hret hcs => ?_)
  refine x_iload_n C dX8_above_0 rfl ?_
  refine x_iconst (v := 3) C dX8_above_1 (by decide) ?_
  refine x_icmp_ne (tgt := 9) C dX8_above_2 (by decide) (fun c2 => ?_) (fun c2 => ?_)
  · skip
    refine x_iload_n C dX8_above_9 rfl ?_
    refine x_iconst (v := 4) C dX8_above_10 (by decide) ?_
    refine x_icmp_ne (tgt := 18) C dX8_above_11 (by decide) (fun c11 => ?_) (fun c11 => ?_)
    · skip
      refine x_iload_n C dX8_above_18 rfl ?_
      refine x_bipush (v := 6) C dX8_above_19 (by decide) ?_
      refine x_icmp_ne (tgt := 28) C dX8_above_21 (by decide) (fun c21 => ?_) (fun c21 => ?_)
      · skip
        refine x_iconst (v := 0) C dX8_above_28 (by decide) ?_
        refine hret _ _ _ _ dX8_above_29 rfl ⟨?_, rfl⟩
        unfold abvF; clear hret hcs C; grind
      · skip
        refine x_iconst (v := 1) C dX8_above_24 (by decide) ?_
        refine x_goto (tgt := 29) C dX8_above_25 (by decide) ?_
        refine hret _ _ _ _ dX8_above_29 rfl ⟨?_, rfl⟩
        unfold abvF; clear hret hcs C; grind
    · skip
      refine x_iconst (v := 3) C dX8_above_14 (by decide) ?_
      refine x_goto (tgt := 29) C dX8_above_15 (by decide) ?_
      refine hret _ _ _ _ dX8_above_29 rfl ⟨?_, rfl⟩
      unfold abvF; clear hret hcs C; grind
  · skip
    refine x_iconst (v := 2) C dX8_above_5 (by decide) ?_
    refine x_goto (tgt := 29) C dX8_above_6 (by decide) ?_
    refine hret _ _ _ _ dX8_above_29 rfl ⟨?_, rfl⟩
    unfold abvF; clear hret hcs C; grind

def rm_X8_as : Room := { frames := 2, cells := 0, slots := 0, locals := 43 }
set_option maxRecDepth 100000 in
set_option maxHeartbeats 4000000 in
theorem c_X8_as (l : Launch) (g : Gp) (M : Mem) (oa : okA (aM M))  (k w : Int32) : Ki l g yX8_as cX8_as 5 .int rm_X8_as [.ref (gad g (40)), .int (k), .int (w)] M (fun r M' => (r, aM M') = F_as k w (aM M) ∧ sameM M M') := by
  refine Ki.of rfl rfl rfl (fun q C hret hcs => ?_)
  have o : okRow (vm M) := oa.1
  refine x_iload_n C dX8_as_0 rfl ?_
  refine x_csB C (c_X8_isSpot l g _ _ ) o_X8_isSpot mw_X8_263 rfl rfl rfl rfl hcs dX8_as_1 (fun c1 => ?_) (fun c1 => ?_)
  · skip
    have qk := inB_tn (n := 9) (by decide) c1
    have hsp : inB (vm M (83 + tn k)) (-1) 7 := o.2.2.2.2.2.1 _ (by have := qk.1; omega)
    refine x_if_eqF (tgt := 17) C dX8_as_4 (by decide) (by decide) ?_
    refine x_iload_n C dX8_as_7 rfl ?_
    refine x_iconst (v := 0) C dX8_as_8 (by decide) ?_
    refine x_bipush (v := 6) C dX8_as_9 (by decide) ?_
    refine x_csB C (c_X8_in1 l g _ _ _ _ ) o_X8_in1 mw_X8_59 rfl rfl rfl rfl hcs dX8_as_11 (fun c11 => ?_) (fun c11 => ?_)
    · skip
      have qw := inB_tn (n := 6) (by decide) c11
      refine x_if_neT (tgt := 23) C dX8_as_14 (by decide) (by decide) ?_
      refine x_aload_n C dX8_as_23 rfl ?_
      refine x_getf (k := 40) C bk_X8 (C.lt rfl) rfl ent_40 0 fw_X8_9 rfl rfl dX8_as_24 ?_
      refine x_bipush (v := 83) C dX8_as_27 (by decide) ?_
      refine x_iload_n C dX8_as_29 rfl ?_
      refine x_iadd C dX8_as_30 ?_
      refine x_iald (j := 83 + tn k) (k := 41) C (C.lt rfl) rfl ent_41 (by rw [qk.2, tn_nI (by omega)]; exact nI_add 83 _) (by have := qk.1; omega) rfl dX8_as_31 ?_
      refine x_topE (y := (vm M (83 + tn k))) ((vm_at (by have := qk.1; omega)).symm) ?_
      refine x_istore_n C dX8_as_32 rfl ?_
      refine x_iload_n C dX8_as_33 rfl ?_
      refine x_if_lt (tgt := 45) C dX8_as_34 (by decide) (fun c34 => ?_) (fun c34 => ?_)
      · skip
        refine x_aload_n C dX8_as_45 rfl ?_
        refine x_iconst (v := 5) C dX8_as_46 (by decide) ?_
        refine x_cvi C (k := 40) (c_X8_no l g _ (k := 5) rfl (by decide) ) o_X8_no mw_X8_119 rfl (C.lt rfl) rcv_40 rfl rfl rfl hcs dX8_as_47 (fun rg M1 hg => ?_)
        refine hret _ _ _ _ dX8_as_50 rfl ?_
        exact fi_M (k := 5) ((ifp_t ⟨c1, c11⟩).trans (ifp_f (fun z => by first | exact c39 z.2 | exact Int32.not_lt.mpr (Int32.not_lt.mp z.1.1) c34))) hg rfl (by decide) rfl (same.rf)
      · skip
        have qe := inB_tn (n := 7) (by decide) (show inB (vm M (83 + tn k)) 0 7 from ⟨by first | exact c34 | exact Int32.not_lt.mp c34, hsp.2⟩)
        refine x_aload_n C dX8_as_37 rfl ?_
        refine x_iload_n C dX8_as_38 rfl ?_
        refine x_cvB C (k := 40) (c_X8_isThere l g _ (e := (tn (vm M (83 + tn k)))) qe.2 qe.1 ) o_X8_isThere mw_X8_71 rfl (C.lt rfl) rcv_40 rfl rfl rfl hcs dX8_as_39 (fun c39 => ?_) (fun c39 => ?_)
        · skip
          have hep : eggP (vm M) (vm M (83 + tn k)) := ⟨⟨by have := qe.2; rw [this]; exact nI_pos (by have := qe.1; omega), by have := hsp.2; clear hret hcs C; grind⟩, c39⟩
          have qq := inB_tn (n := 6) (by decide) (okE_kind qe.1 o c39)
          refine x_if_neT (tgt := 51) C dX8_as_42 (by decide) (by decide) ?_
          refine x_aload_n C dX8_as_51 rfl ?_
          refine x_iload_n C dX8_as_52 rfl ?_
          refine x_iconst (v := 0) C dX8_as_53 (by decide) ?_
          refine x_cvE C (k := 40) (c_X8_get l g _ (e := (tn (vm M (83 + tn k)))) (f := 0) qe.2 qe.1 rfl (by decide) ) o_X8_get mw_X8_63 rfl (C.lt rfl) rcv_40 rfl rfl rfl hcs dX8_as_54 ?_
          refine x_topE (y := abN (eg (vm M) (tn (vm M (83 + tn k))) 0) 0) (rfl) ?_
          refine x_istore C dX8_as_57 rfl ?_
          refine up_to 4 (P := fun i => (∀ j, j < i → ¬ abN (eg (vm M) (tn (vm M (83 + tn k))) 0) j = w) → X (kmk l rm_X8_as g 5 q) M 59 [some (.ref (gad g (40))), some (.int (k)), some (.int (w)), some (.int ((vm M (83 + tn k)))), some (.int (abN (eg (vm M) (tn (vm M (83 + tn k))) 0) i))] []) (fun i hi ih hst => ?_) 0 (by omega) (fun j hj => absurd hj (by omega))
          refine x_iload C dX8_as_59 rfl ?_
          refine x_iload_n C dX8_as_61 rfl ?_
          refine x_icmp_eq (tgt := 80) C dX8_as_62 (by decide) (fun c62 => ?_) (fun c62 => ?_)
          · skip
            refine x_iload C dX8_as_80 rfl ?_
            refine x_iload_n C dX8_as_82 rfl ?_
            refine x_icmp_ne (tgt := 90) C dX8_as_83 (by decide) (fun c83 => ?_) (fun c83 => ?_)
            · skip
              refine x_aload_n C dX8_as_90 rfl ?_
              refine x_iconst (v := 2) C dX8_as_91 (by decide) ?_
              refine x_cvi C (k := 40) (c_X8_no l g _ (k := 2) rfl (by decide) ) o_X8_no mw_X8_119 rfl (C.lt rfl) rcv_40 rfl rfl rfl hcs dX8_as_92 (fun ru M2 hu => ?_)
              refine hret _ _ _ _ dX8_as_95 rfl ?_
              first
                | exact absurd c62 c83
                | (have hn2 : ¬ undB (eg (vm M) (tn (vm M (83 + tn k))) 0) w := by
                     have h := und_mno (i := i) qq.1 qw.1
                     rw [← qq.2, ← qw.2] at h
                     exact h hst c67 c83
                   exact fi_M (k := 2) ((ifp_t ⟨c1, c11⟩).trans ((ifp_t hep).trans (ifp_f hn2))) hu rfl (by decide) rfl same.rf)
            · skip
              refine x_iload_n C dX8_as_86 rfl ?_
              refine x_goto (tgt := 95) C dX8_as_87 (by decide) ?_
              refine hret _ _ _ _ dX8_as_95 rfl ?_
              have hu : undB (eg (vm M) (tn (vm M (83 + tn k))) 0) w := by rw [qq.2, qw.2, und_mi qq.1 qw.1]; exact ⟨i, by omega, by rw [← qq.2, ← qw.2]; first | exact c83 | exact Classical.not_not.mp c83⟩
              exact pu_M0 ((ifp_t ⟨c1, c11⟩).trans ((ifp_t hep).trans (ifp_t hu)))
          · skip
            refine x_iload C dX8_as_65 rfl ?_
            refine x_if_eq (tgt := 80) C dX8_as_67 (by decide) (fun c67 => ?_) (fun c67 => ?_)
            · skip
              refine x_iload C dX8_as_80 rfl ?_
              refine x_iload_n C dX8_as_82 rfl ?_
              refine x_icmp_ne (tgt := 90) C dX8_as_83 (by decide) (fun c83 => ?_) (fun c83 => ?_)
              · skip
                refine x_aload_n C dX8_as_90 rfl ?_
                refine x_iconst (v := 2) C dX8_as_91 (by decide) ?_
                refine x_cvi C (k := 40) (c_X8_no l g _ (k := 2) rfl (by decide) ) o_X8_no mw_X8_119 rfl (C.lt rfl) rcv_40 rfl rfl rfl hcs dX8_as_92 (fun ru M3 hu => ?_)
                refine hret _ _ _ _ dX8_as_95 rfl ?_
                first
                  | exact absurd c62 c83
                  | (have hn2 : ¬ undB (eg (vm M) (tn (vm M (83 + tn k))) 0) w := by
                       have h := und_mno (i := i) qq.1 qw.1
                       rw [← qq.2, ← qw.2] at h
                       exact h hst c67 c83
                     exact fi_M (k := 2) ((ifp_t ⟨c1, c11⟩).trans ((ifp_t hep).trans (ifp_f hn2))) hu rfl (by decide) rfl same.rf)
              · skip
                refine x_iload_n C dX8_as_86 rfl ?_
                refine x_goto (tgt := 95) C dX8_as_87 (by decide) ?_
                refine hret _ _ _ _ dX8_as_95 rfl ?_
                have hu : undB (eg (vm M) (tn (vm M (83 + tn k))) 0) w := by rw [qq.2, qw.2, und_mi qq.1 qw.1]; exact ⟨i, by omega, by rw [← qq.2, ← qw.2]; first | exact c83 | exact Classical.not_not.mp c83⟩
                exact pu_M0 ((ifp_t ⟨c1, c11⟩).trans ((ifp_t hep).trans (ifp_t hu)))
            · skip
              have hlt : i < 4 := by rcases Nat.lt_or_ge i 4 with z | z; exact z; exact absurd (by rw [show i = 4 by omega]; have := abN_4 _ qq.1; rwa [← qq.2] at this) c67
              refine x_iload C dX8_as_70 rfl ?_
              refine x_csE C (c_X8_above l g _ _ ) o_X8_above mw_X8_266 rfl rfl rfl rfl hcs dX8_as_72 ?_
              refine x_topE (y := abN (eg (vm M) (tn (vm M (83 + tn k))) 0) (i + 1)) (rfl) ?_
              refine x_istore C dX8_as_75 rfl ?_
              refine x_goto (tgt := 59) C dX8_as_77 (by decide) ?_
              exact ih hlt (fun j hj => by rcases Nat.lt_or_ge j i with z | z; exact hst j z; rw [show j = i by omega]; exact c62)
        · skip
          refine x_if_neF (tgt := 51) C dX8_as_42 (by decide) (by decide) ?_
          refine x_aload_n C dX8_as_45 rfl ?_
          refine x_iconst (v := 5) C dX8_as_46 (by decide) ?_
          refine x_cvi C (k := 40) (c_X8_no l g _ (k := 5) rfl (by decide) ) o_X8_no mw_X8_119 rfl (C.lt rfl) rcv_40 rfl rfl rfl hcs dX8_as_47 (fun rg M4 hg => ?_)
          refine hret _ _ _ _ dX8_as_50 rfl ?_
          exact fi_M (k := 5) ((ifp_t ⟨c1, c11⟩).trans (ifp_f (fun z => by first | exact c39 z.2 | exact Int32.not_lt.mpr (Int32.not_lt.mp z.1.1) c34))) hg rfl (by decide) rfl (same.rf)
    · skip
      refine x_if_neF (tgt := 23) C dX8_as_14 (by decide) (by decide) ?_
      refine x_aload_n C dX8_as_17 rfl ?_
      refine x_iconst (v := 0) C dX8_as_18 (by decide) ?_
      refine x_cvi C (k := 40) (c_X8_no l g _ (k := 0) rfl (by decide) ) o_X8_no mw_X8_119 rfl (C.lt rfl) rcv_40 rfl rfl rfl hcs dX8_as_19 (fun rf M5 hf => ?_)
      refine hret _ _ _ _ dX8_as_22 rfl ?_
      exact fi_M (k := 0) (ifp_f (fun z => by first | exact c11 z.2 | exact c1 z.1)) hf rfl (by decide) rfl (same.rf)
  · skip
    refine x_if_eqT (tgt := 17) C dX8_as_4 (by decide) (by decide) ?_
    refine x_aload_n C dX8_as_17 rfl ?_
    refine x_iconst (v := 0) C dX8_as_18 (by decide) ?_
    refine x_cvi C (k := 40) (c_X8_no l g _ (k := 0) rfl (by decide) ) o_X8_no mw_X8_119 rfl (C.lt rfl) rcv_40 rfl rfl rfl hcs dX8_as_19 (fun rf M6 hf => ?_)
    refine hret _ _ _ _ dX8_as_22 rfl ?_
    exact fi_M (k := 0) (ifp_f (fun z => by first | exact c11 z.2 | exact c1 z.1)) hf rfl (by decide) rfl (same.rf)

def rm_X8_sheet : Room := { frames := 2, cells := 0, slots := 0, locals := 42 }
set_option maxRecDepth 100000 in
set_option maxHeartbeats 4000000 in
theorem c_X8_sheet (l : Launch) (g : Gp) (M : Mem) (oa : okA (aM M))  (x b n : Int32) : Ki l g yX8_sheet cX8_sheet 5 .int rm_X8_sheet [.ref (gad g (40)), .int (x), .int (b), .int (n)] M (fun r M' => (r, aM M') = F_sheet x b n (aM M) ∧ sameM M M') := by
  refine Ki.of rfl rfl rfl (fun q C hret hcs => ?_)
  have o : okRow (vm M) := oa.1
  have key0 : inB x 0 3 → (b = 0 ∨ b = 8 ∨ b = 16 ∨ b = 32) → X (kmk l rm_X8_sheet g 5 q) M 35 [some (.ref (gad g (40))), some (.int (x)), some (.int (b)), some (.int (n)), none] [] := by
    intro c1 hbb
    have qx := inB_tn (n := 3) (by decide) c1
    refine x_iload_n C dX8_sheet_35 rfl ?_
    refine x_if_ge (tgt := 46) C dX8_sheet_36 (by decide) (fun c36 => ?_) (fun c36 => ?_)
    · skip
      refine x_iload_n C dX8_sheet_46 rfl ?_
      refine x_bipush (v := 40) C dX8_sheet_47 (by decide) ?_
      refine x_icmp_le (tgt := 58) C dX8_sheet_49 (by decide) (fun c49 => ?_) (fun c49 => ?_)
      · skip
        refine x_aload_n C dX8_sheet_58 rfl ?_
        refine x_getf (k := 40) C bk_X8 (C.lt rfl) rfl ent_40 17 fw_X8_45 rfl rfl dX8_sheet_59 ?_
        refine x_iload_n C dX8_sheet_62 rfl ?_
        refine x_iload_n C dX8_sheet_63 rfl ?_
        refine x_iast (j := (tn x)) (k := 52) C (C.lt rfl) rfl ent_52 (qx.2) (qx.1) rfl dX8_sheet_64 ?_
        refine x_memI (fun M1 eM1 => ?_)
        refine x_aload_n C dX8_sheet_65 rfl ?_
        refine x_getf (k := 40) C bk_X8 (C.lt rfl) rfl ent_40 18 fw_X8_48 rfl rfl dX8_sheet_66 ?_
        refine x_iload_n C dX8_sheet_69 rfl ?_
        have key : ∀ v : Int32, v = (if b = 0 then 0 else n) → X (kmk l rm_X8_sheet g 5 q) M1 79 [some (.ref (gad g (40))), some (.int (x)), some (.int (b)), some (.int (n)), none] [.int (v), .int (x), .ref (gad g (53))] := by
          intro v ev
          refine x_iast (j := (tn x)) (k := 53) C (C.lt rfl) rfl ent_53 (qx.2) (qx.1) rfl dX8_sheet_79 ?_
          refine x_memI (fun M2 eM2 => ?_)
          refine x_iconst (v := 0) C dX8_sheet_80 (by decide) ?_
          refine x_istore C dX8_sheet_81 rfl ?_
          refine up_to 40 (P := fun i => ∀ M3 : Mem, (∀ j, j < i → M3 54 (40 * tn x + j) = 0) → (∀ j, (j < 40 * tn x ∨ 40 * tn x + 40 ≤ j) → M3 54 j = M2 54 j) → same [54] M2 M3 → X (kmk l rm_X8_sheet g 5 q) M3 83 [some (.ref (gad g (40))), some (.int (x)), some (.int (b)), some (.int (n)), some (.int (nI i))] []) (fun i hi ih M3 h3a h3b hs3 => ?_) 0 (by omega) M2 (fun j hj => absurd hj (by omega)) (fun j _ => rfl) same.rf
          refine x_iload C dX8_sheet_83 rfl ?_
          refine x_bipush (v := 40) C dX8_sheet_85 (by decide) ?_
          refine x_icmp_ge (tgt := 109) C dX8_sheet_87 (by decide) (fun c87 => ?_) (fun c87 => ?_)
          · skip
            have hlt := lp_ge (N := 40) (by decide) hi c87
            refine x_aload_n C dX8_sheet_109 rfl ?_
            refine x_getf (k := 40) C bk_X8 (C.lt rfl) rfl ent_40 18 fw_X8_48 rfl rfl dX8_sheet_110 ?_
            refine x_iload_n C dX8_sheet_113 rfl ?_
            refine x_iald (j := (tn x)) (k := 53) C (C.lt rfl) rfl ent_53 (qx.2) (qx.1) rfl dX8_sheet_114 ?_
            refine hret _ _ _ _ dX8_sheet_115 rfl ?_
            subst hlt
            rw [show M3 53 (tn x) = (if b = 0 then 0 else n) by rw [hs3 53 (by decide), eM2, up_ss, ev]]
            refine sh_M ?_ (shm_new (v := (if b = 0 then 0 else n)) qx.1 (by rw [hs3 52 (by decide), eM2, up_n (by decide), eM1, up_s]) (by rw [hs3 53 (by decide), eM2, up_s, eM1, up_n (by decide), ev]) h3a (fun j hj => by rw [h3b j hj, eM2, up_n (by decide), eM1, up_n (by decide)])) (((by rw [eM1]; exact same.up (by simp) : same [52, 53, 54, 55] M M1).tr (by rw [eM2]; exact same.up (by simp) : same [52, 53, 54, 55] M1 M2)).tr (hs3.mono (by simp)))
            exact (ifp_t ⟨c1, hbb⟩).trans ((ifp_f (by clear hret hcs C ih; grind)).trans (ifp_f (by clear hret hcs C ih; grind)))
          · skip
            have hlt := lp_lt (N := 40) (by decide) hi c87
            refine x_aload_n C dX8_sheet_90 rfl ?_
            refine x_getf (k := 40) C bk_X8 (C.lt rfl) rfl ent_40 19 fw_X8_51 rfl rfl dX8_sheet_91 ?_
            refine x_bipush (v := 40) C dX8_sheet_94 (by decide) ?_
            refine x_iload_n C dX8_sheet_96 rfl ?_
            refine x_imul C dX8_sheet_97 ?_
            refine x_iload C dX8_sheet_98 rfl ?_
            refine x_iadd C dX8_sheet_100 ?_
            refine x_iconst (v := 0) C dX8_sheet_101 (by decide) ?_
            refine x_iast (j := 40 * tn x + i) (k := 54) C (C.lt rfl) rfl ent_54 (by rw [show (40 : Int32) = nI 40 from rfl]; conv => lhs; rw [qx.2]; rw [pk_mul, nI_add]) (by have := qx.1; omega) rfl dX8_sheet_102 ?_
            refine x_memI (fun M4 eM4 => ?_)
            refine x_iinc (v := nI (i + 1)) C dX8_sheet_103 rfl (nI_1 i) rfl ?_
            refine x_goto (tgt := 83) C dX8_sheet_106 (by decide) ?_
            refine ih hlt M4 (fun j hj => ?_) (fun j hj => by rw [eM4, up_sn (by omega)]; exact h3b j hj) (hs3.tr (by rw [eM4]; exact same.up (by simp)))
            rw [eM4]
            by_cases q : j = i
            · subst q; exact up_ss
            · rw [up_sn (by omega)]; exact h3a j (by omega)
        refine x_iload_n C dX8_sheet_70 rfl ?_
        refine x_if_ne (tgt := 78) C dX8_sheet_71 (by decide) (fun c71 => ?_) (fun c71 => ?_)
        · skip
          refine x_iload_n C dX8_sheet_78 rfl ?_
          exact key _ (by first | rw [if_pos c71] | rw [if_neg c71])
        · skip
          refine x_iconst (v := 0) C dX8_sheet_74 (by decide) ?_
          refine x_goto (tgt := 79) C dX8_sheet_75 (by decide) ?_
          exact key _ (by first | rw [if_pos c71] | rw [if_neg c71])
      · skip
        refine x_aload_n C dX8_sheet_52 rfl ?_
        refine x_iconst (v := 0) C dX8_sheet_53 (by decide) ?_
        refine x_cvi C (k := 40) (c_X8_no l g _ (k := 0) rfl (by decide) ) o_X8_no mw_X8_119 rfl (C.lt rfl) rcv_40 rfl rfl rfl hcs dX8_sheet_54 (fun rh M1 hh => ?_)
        refine hret _ _ _ _ dX8_sheet_57 rfl ?_
        exact fi_M (k := 0) ((ifp_t ⟨c1, hbb⟩).trans ((ifp_f (by clear hret hcs C hh; grind)).trans (ifp_t (by clear hret hcs C hh; grind)))) hh rfl (by decide) rfl (same.rf)
    · skip
      refine x_aload_n C dX8_sheet_39 rfl ?_
      refine x_bipush (v := 6) C dX8_sheet_40 (by decide) ?_
      refine x_cvi C (k := 40) (c_X8_no l g _ (k := 6) rfl (by decide) ) o_X8_no mw_X8_119 rfl (C.lt rfl) rcv_40 rfl rfl rfl hcs dX8_sheet_42 (fun rg M2 hg => ?_)
      refine hret _ _ _ _ dX8_sheet_45 rfl ?_
      exact fi_M (k := 6) ((ifp_t ⟨c1, hbb⟩).trans (ifp_t (by clear hret hcs C hg; grind))) hg rfl (by decide) rfl (same.rf)
  refine x_iload_n C dX8_sheet_0 rfl ?_
  refine x_csB C (c_X8_isSheet l g _ _ ) o_X8_isSheet mw_X8_185 rfl rfl rfl rfl hcs dX8_sheet_1 (fun c1 => ?_) (fun c1 => ?_)
  · skip
    refine x_if_eqF (tgt := 29) C dX8_sheet_4 (by decide) (by decide) ?_
    refine x_iload_n C dX8_sheet_7 rfl ?_
    refine x_if_eq (tgt := 35) C dX8_sheet_8 (by decide) (fun c8 => ?_) (fun c8 => ?_)
    · skip
      exact key0 c1 (by clear hret hcs C key0; grind)
    · skip
      refine x_iload_n C dX8_sheet_11 rfl ?_
      refine x_bipush (v := 8) C dX8_sheet_12 (by decide) ?_
      refine x_icmp_eq (tgt := 35) C dX8_sheet_14 (by decide) (fun c14 => ?_) (fun c14 => ?_)
      · skip
        exact key0 c1 (by clear hret hcs C key0; grind)
      · skip
        refine x_iload_n C dX8_sheet_17 rfl ?_
        refine x_bipush (v := 16) C dX8_sheet_18 (by decide) ?_
        refine x_icmp_eq (tgt := 35) C dX8_sheet_20 (by decide) (fun c20 => ?_) (fun c20 => ?_)
        · skip
          exact key0 c1 (by clear hret hcs C key0; grind)
        · skip
          refine x_iload_n C dX8_sheet_23 rfl ?_
          refine x_bipush (v := 32) C dX8_sheet_24 (by decide) ?_
          refine x_icmp_eq (tgt := 35) C dX8_sheet_26 (by decide) (fun c26 => ?_) (fun c26 => ?_)
          · skip
            exact key0 c1 (by clear hret hcs C key0; grind)
          · skip
            refine x_aload_n C dX8_sheet_29 rfl ?_
            refine x_iconst (v := 0) C dX8_sheet_30 (by decide) ?_
            refine x_cvi C (k := 40) (c_X8_no l g _ (k := 0) rfl (by decide) ) o_X8_no mw_X8_119 rfl (C.lt rfl) rcv_40 rfl rfl rfl hcs dX8_sheet_31 (fun rf M3 hf => ?_)
            refine hret _ _ _ _ dX8_sheet_34 rfl ?_
            exact fi_M (k := 0) (ifp_f (fun z => by first | (have z2 := z.2; clear hret hcs C hf key0; grind) | exact c1 z.1)) hf rfl (by decide) rfl (same.rf)
  · skip
    refine x_if_eqT (tgt := 29) C dX8_sheet_4 (by decide) (by decide) ?_
    refine x_aload_n C dX8_sheet_29 rfl ?_
    refine x_iconst (v := 0) C dX8_sheet_30 (by decide) ?_
    refine x_cvi C (k := 40) (c_X8_no l g _ (k := 0) rfl (by decide) ) o_X8_no mw_X8_119 rfl (C.lt rfl) rcv_40 rfl rfl rfl hcs dX8_sheet_31 (fun rf M4 hf => ?_)
    refine hret _ _ _ _ dX8_sheet_34 rfl ?_
    exact fi_M (k := 0) (ifp_f (fun z => by first | (have z2 := z.2; clear hret hcs C hf key0; grind) | exact c1 z.1)) hf rfl (by decide) rfl (same.rf)

theorem ix_c {x y : Int32} {a b : Nat} (hx : x = nI a) (hy : y = nI b) : 40 * x + y = nI (40 * a + b) := by
  rw [hx, hy, show (40 : Int32) = nI 40 from rfl, pk_mul, nI_add]
theorem ix_c3 {x y z : Int32} {a b c : Nat} (hx : x = nI a) (hy : y = nI b) (hz : z = nI c) : 40 * x + y + z = nI (40 * a + (b + c)) := by
  rw [ix_c hx hy, hz, nI_add, Nat.add_assoc]
theorem ix_lt6 {i : Nat} (hi : i ≤ 6) (h : ¬ nI i < 0 ∧ nI i < 6) : i < 6 := (nI_ltI (a := i) (b := 6) (by omega) (by decide)).mp h.2
def rm_X8_load : Room := { frames := 3, cells := 0, slots := 0, locals := 63 }
set_option maxRecDepth 100000 in
set_option maxHeartbeats 4000000 in
theorem c_X8_load (l : Launch) (g : Gp) (M : Mem) (oa : okA (aM M))  (x : Int32) : Ki l g yX8_load cX8_load 4 .int rm_X8_load [.ref (gad g (40)), .int (x)] M (fun r M' => (r, aM M') = F_load x (aM M) ∧ sameM M M') := by
  refine Ki.of rfl rfl rfl (fun q C hret hcs => ?_)
  have o : okRow (vm M) := oa.1
  refine x_aload_n C dX8_load_0 rfl ?_
  refine x_iload_n C dX8_load_1 rfl ?_
  refine x_cvE C (k := 40) (c_X8_wrongSheet l g _ _ ) o_X8_wrongSheet mw_X8_188 rfl (C.lt rfl) rcv_40 rfl rfl rfl hcs dX8_load_2 ?_
  refine x_topi (fun x2 ex2 => ?_)
  refine x_istore_n C dX8_load_5 rfl ?_
  refine x_iload_n C dX8_load_6 rfl ?_
  refine x_if_lt (tgt := 16) C dX8_load_7 (by decide) (fun c7 => ?_) (fun c7 => ?_)
  · skip
    have c9 := c7
    have qq := wrgS_lt (by rw [← ex2]; exact c7)
    have qs := inB_tn (n := 3) (by decide) qq.1
    have hl := okSh_M oa qs.1
    refine x_iconst (v := 0) C dX8_load_16 (by decide) ?_
    refine x_istore_n C dX8_load_17 rfl ?_
    refine up_to 6 (P := fun i => ∀ M1 : Mem, vm M1 = loaS (vm M) (aX (aM M) (tn x)) i → same [41] M M1 → (∀ j, j < i → (nI j < aN (aM M) (tn x) ∧ inB (aX (aM M) (tn x) j) 0 999)) → X (kmk l rm_X8_load g 4 q) M1 18 [some (.ref (gad g (40))), some (.int (x)), some (.int (x2)), some (.int (nI i))] []) (fun i hi ih M1 hv hs1 hst => ?_) 0 (by omega) M rfl same.rf (fun j hj => absurd hj (by omega))
    have hnum : ∀ k, k < 40 → M1 54 (40 * tn x + k) = aX (aM M) (tn x) k := fun k hk => by rw [aX_M qs.1 hk, hs1 54 (by decide)]
    have hlen : M1 53 (tn x) = aN (aM M) (tn x) := by rw [aN_M qs.1, hs1 53 (by decide)]
    refine x_iload_n C dX8_load_18 rfl ?_
    refine x_aload_n C dX8_load_19 rfl ?_
    refine x_getf (k := 40) C bk_X8 (C.lt rfl) rfl ent_40 18 fw_X8_48 rfl rfl dX8_load_20 ?_
    refine x_iload_n C dX8_load_23 rfl ?_
    refine x_iald (j := (tn x)) (k := 53) C (C.lt rfl) rfl ent_53 (qs.2) (qs.1) rfl dX8_load_24 ?_
    refine x_icmp_ge (tgt := 86) C dX8_load_25 (by decide) (fun c25 => ?_) (fun c25 => ?_)
    · skip
      have cx : ¬ nI i < aN (aM M) (tn x) := by rw [← hlen]; exact Int32.not_lt.mpr c25
      refine x_iload_n C dX8_load_86 rfl ?_
      refine hret _ _ _ _ dX8_load_87 rfl ?_
      have eF : fstN (fun j => nI j < aN (aM M) (tn x) ∧ inB (aX (aM M) (tn x) j) 0 999) 6 = i := by
        first
          | exact fstN_hit hst (fun z => c50 z.2) hlt
          | (subst h6; exact fstN_all hst)
          | (rcases Nat.lt_or_ge i 6 with z | z; exact fstN_hit hst (fun q => cx q.1) z; rw [show i = 6 by omega] at hst ⊢; exact fstN_all hst)
      refine st_M ?_ hv (hs1.mono (by simp [SC1]))
      refine (ifp_t (by rw [← ex2]; exact c9)).trans ?_
      exact congrArg (fun z => (nI z, wS (aM M) (loaS (vm M) (aX (aM M) (tn x)) z))) eF
    · skip
      have cy : nI i < aN (aM M) (tn x) := by rw [← hlen]; exact Int32.not_le.mp c25
      refine x_iload_n C dX8_load_28 rfl ?_
      refine x_csB C (c_X8_isWork l g _ _ ) o_X8_isWork mw_X8_128 rfl rfl rfl rfl hcs dX8_load_29 (fun c29 => ?_) (fun c29 => ?_)
      · skip
        have hlt : i < 6 := (ix_lt6 hi c29)
        refine x_if_eqF (tgt := 86) C dX8_load_32 (by decide) (by decide) ?_
        refine x_aload_n C dX8_load_35 rfl ?_
        refine x_getf (k := 40) C bk_X8 (C.lt rfl) rfl ent_40 19 fw_X8_51 rfl rfl dX8_load_36 ?_
        refine x_bipush (v := 40) C dX8_load_39 (by decide) ?_
        refine x_iload_n C dX8_load_41 rfl ?_
        refine x_imul C dX8_load_42 ?_
        refine x_iload_n C dX8_load_43 rfl ?_
        refine x_iadd C dX8_load_44 ?_
        refine x_iald (j := 40 * tn x + i) (k := 54) C (C.lt rfl) rfl ent_54 (ix_c qs.2 (rfl)) (by have := qs.1; omega) rfl dX8_load_45 ?_
        refine x_topE (y := aX (aM M) (tn x) i) (hnum i (by omega)) ?_
        refine x_iconst (v := 0) C dX8_load_46 (by decide) ?_
        refine x_sipush (v := 999) C dX8_load_47 (by decide) ?_
        refine x_csB C (c_X8_in1 l g _ _ _ _ ) o_X8_in1 mw_X8_59 rfl rfl rfl rfl hcs dX8_load_50 (fun c50 => ?_) (fun c50 => ?_)
        · skip
          refine x_if_eqF (tgt := 86) C dX8_load_53 (by decide) (by decide) ?_
          refine x_aload_n C dX8_load_56 rfl ?_
          refine x_getf (k := 40) C bk_X8 (C.lt rfl) rfl ent_40 0 fw_X8_9 rfl rfl dX8_load_57 ?_
          refine x_bipush (v := 59) C dX8_load_60 (by decide) ?_
          refine x_iconst (v := 4) C dX8_load_62 (by decide) ?_
          refine x_iload_n C dX8_load_63 rfl ?_
          refine x_imul C dX8_load_64 ?_
          refine x_iadd C dX8_load_65 ?_
          refine x_iconst (v := 0) C dX8_load_66 (by decide) ?_
          refine x_iadd C dX8_load_67 ?_
          refine x_aload_n C dX8_load_68 rfl ?_
          refine x_getf (k := 40) C bk_X8 (C.lt rfl) rfl ent_40 19 fw_X8_51 rfl rfl dX8_load_69 ?_
          refine x_bipush (v := 40) C dX8_load_72 (by decide) ?_
          refine x_iload_n C dX8_load_74 rfl ?_
          refine x_imul C dX8_load_75 ?_
          refine x_iload_n C dX8_load_76 rfl ?_
          refine x_iadd C dX8_load_77 ?_
          refine x_iald (j := 40 * tn x + i) (k := 54) C (C.lt rfl) rfl ent_54 (ix_c qs.2 (rfl)) (by have := qs.1; omega) rfl dX8_load_78 ?_
          refine x_topE (y := aX (aM M) (tn x) i) (hnum i (by omega)) ?_
          refine x_iast (j := 59 + 4 * i + 0) (k := 41) C (C.lt rfl) rfl ent_41 (ix_w rfl rfl) (by omega) rfl dX8_load_79 ?_
          refine x_memI (fun M2 eM2 => ?_)
          refine x_iinc (v := nI (i + 1)) C dX8_load_80 rfl (nI_1 i) rfl ?_
          refine x_goto (tgt := 18) C dX8_load_83 (by decide) ?_
          refine ih hlt M2 (by rw [eM2, vm_up (by omega), hv]; rfl) (hs1.tr (by rw [eM2]; exact same.up (by simp))) (fun j hj => by rcases Nat.lt_or_ge j i with z | z; exact hst j z; rw [show j = i by omega]; exact ⟨cy, c50⟩)
        · skip
          refine x_if_eqT (tgt := 86) C dX8_load_53 (by decide) (by decide) ?_
          refine x_iload_n C dX8_load_86 rfl ?_
          refine hret _ _ _ _ dX8_load_87 rfl ?_
          have eF : fstN (fun j => nI j < aN (aM M) (tn x) ∧ inB (aX (aM M) (tn x) j) 0 999) 6 = i := by
            first
              | exact fstN_hit hst (fun z => c50 z.2) hlt
              | (subst h6; exact fstN_all hst)
              | (rcases Nat.lt_or_ge i 6 with z | z; exact fstN_hit hst (fun q => cx q.1) z; rw [show i = 6 by omega] at hst ⊢; exact fstN_all hst)
          refine st_M ?_ hv (hs1.mono (by simp [SC1]))
          refine (ifp_t (by rw [← ex2]; exact c9)).trans ?_
          exact congrArg (fun z => (nI z, wS (aM M) (loaS (vm M) (aX (aM M) (tn x)) z))) eF
      · skip
        have h6 : i = 6 := by rcases Nat.lt_or_ge i 6 with z | z; exact absurd ⟨nI_pos (by omega), nI_lt z (by decide)⟩ c29; omega
        refine x_if_eqT (tgt := 86) C dX8_load_32 (by decide) (by decide) ?_
        refine x_iload_n C dX8_load_86 rfl ?_
        refine hret _ _ _ _ dX8_load_87 rfl ?_
        have eF : fstN (fun j => nI j < aN (aM M) (tn x) ∧ inB (aX (aM M) (tn x) j) 0 999) 6 = i := by
          first
            | exact fstN_hit hst (fun z => c50 z.2) hlt
            | (subst h6; exact fstN_all hst)
            | (rcases Nat.lt_or_ge i 6 with z | z; exact fstN_hit hst (fun q => cx q.1) z; rw [show i = 6 by omega] at hst ⊢; exact fstN_all hst)
        refine st_M ?_ hv (hs1.mono (by simp [SC1]))
        refine (ifp_t (by rw [← ex2]; exact c9)).trans ?_
        exact congrArg (fun z => (nI z, wS (aM M) (loaS (vm M) (aX (aM M) (tn x)) z))) eF
  · skip
    have c9 := c7
    have qq := wrgS_ge (by rw [← ex2]; exact c7)
    refine x_aload_n C dX8_load_10 rfl ?_
    refine x_iload_n C dX8_load_11 rfl ?_
    refine x_cvi C (k := 40) (c_X8_no l g _ (k := (tn (wrgS (aM M) x))) (ex2.trans qq.1) qq.2 ) o_X8_no mw_X8_119 rfl (C.lt rfl) rcv_40 rfl rfl rfl hcs dX8_load_12 (fun rf M1 hf => ?_)
    refine hret _ _ _ _ dX8_load_15 rfl ?_
    exact fi_M (k := tn (wrgS (aM M) x)) (ifp_f (by rw [← ex2]; exact c9)) hf (ex2.trans qq.1) qq.2 rfl same.rf

def rm_X8_judge : Room := { frames := 3, cells := 0, slots := 0, locals := 68 }
set_option maxRecDepth 100000 in
set_option maxHeartbeats 4000000 in
theorem c_X8_judge (l : Launch) (g : Gp) (M : Mem) (oa : okA (aM M))  (x : Int32) : Ki l g yX8_judge cX8_judge 7 .int rm_X8_judge [.ref (gad g (40)), .int (x)] M (fun r M' => (r, aM M') = F_judge x (aM M) ∧ sameM M M') := by
  refine Ki.of rfl rfl rfl (fun q C hret hcs => ?_)
  have o : okRow (vm M) := oa.1
  refine x_aload_n C dX8_judge_0 rfl ?_
  refine x_iload_n C dX8_judge_1 rfl ?_
  refine x_cvE C (k := 40) (c_X8_wrongSheet l g _ _ ) o_X8_wrongSheet mw_X8_188 rfl (C.lt rfl) rcv_40 rfl rfl rfl hcs dX8_judge_2 ?_
  refine x_topi (fun x2 ex2 => ?_)
  refine x_istore_n C dX8_judge_5 rfl ?_
  refine x_iload_n C dX8_judge_6 rfl ?_
  refine x_if_lt (tgt := 16) C dX8_judge_7 (by decide) (fun c7 => ?_) (fun c7 => ?_)
  · skip
    have c9 := c7
    have qq := wrgS_lt (by rw [← ex2]; exact c7)
    have qs := inB_tn (n := 3) (by decide) qq.1
    have hl := okSh_M oa qs.1
    have hl2 := inB_tn (n := 40) (by decide) hl
    have hN : tn (aN (aM M) (tn x)) = tn (M 53 (tn x)) := by rw [aN_M qs.1]
    refine x_iconst (v := 0) C dX8_judge_16 (by decide) ?_
    refine x_istore_n C dX8_judge_17 rfl ?_
    refine x_iconst (v := 0) C dX8_judge_18 (by decide) ?_
    refine x_istore C dX8_judge_19 rfl ?_
    refine x_iconst (v := 0) C dX8_judge_21 (by decide) ?_
    refine x_istore C dX8_judge_22 rfl ?_
    refine up_to (tn (M 53 (tn x))) (P := fun i => (∀ j, j < i → jdgP (vm M) (aX (aM M) (tn x)) j) → X (kmk l rm_X8_judge g 7 q) M 24 [some (.ref (gad g (40))), some (.int (x)), some (.int (x2)), some (.int (nI (jdgM (aX (aM M) (tn x)) i))), some (.int (jdgL (aX (aM M) (tn x)) i)), some (.int (nI i)), none] []) (fun i hi ih hst => ?_) 0 (Nat.zero_le _) (fun j hj => absurd hj (by omega))
    refine x_iload C dX8_judge_24 rfl ?_
    refine x_aload_n C dX8_judge_26 rfl ?_
    refine x_getf (k := 40) C bk_X8 (C.lt rfl) rfl ent_40 18 fw_X8_48 rfl rfl dX8_judge_27 ?_
    refine x_iload_n C dX8_judge_30 rfl ?_
    refine x_iald (j := (tn x)) (k := 53) C (C.lt rfl) rfl ent_53 (qs.2) (qs.1) rfl dX8_judge_31 ?_
    refine x_icmp_ge (tgt := 109) C dX8_judge_32 (by decide) (fun c32 => ?_) (fun c32 => ?_)
    · skip
      have hlt := lp_ge (N := tn (M 53 (tn x))) (by omega) hi (by rw [← hl2.2]; exact c32)
      refine x_iconst (v := 0) C dX8_judge_109 (by decide) ?_
      refine hret _ _ _ _ dX8_judge_110 rfl ?_
      subst hlt
      have eF : fstN (jdgP (vm M) (aX (aM M) (tn x))) (tn (aN (aM M) (tn x))) = tn (aN (aM M) (tn x)) := fstN_all (fun j hj => hst j (by rw [hN] at hj; exact hj))
      refine pu_M0 ((ifp_t (by rw [← ex2]; exact c9)).trans ?_)
      exact ifp_f (show ¬ fstN (jdgP (vm M) (aX (aM M) (tn x))) (tn (aN (aM M) (tn x))) < _ by omega)
    · skip
      have hlt := lp_lt (N := tn (M 53 (tn x))) (by omega) hi (by rw [← hl2.2]; exact c32)
      have hm8 := jdgM_lt (aX (aM M) (tn x)) i (fun k hk => (eggP_tn (hst k hk).1).1)
      refine x_aload_n C dX8_judge_35 rfl ?_
      refine x_getf (k := 40) C bk_X8 (C.lt rfl) rfl ent_40 19 fw_X8_51 rfl rfl dX8_judge_36 ?_
      refine x_bipush (v := 40) C dX8_judge_39 (by decide) ?_
      refine x_iload_n C dX8_judge_41 rfl ?_
      refine x_imul C dX8_judge_42 ?_
      refine x_iload C dX8_judge_43 rfl ?_
      refine x_iadd C dX8_judge_45 ?_
      refine x_iald (j := 40 * tn x + i) (k := 54) C (C.lt rfl) rfl ent_54 (ix_c qs.2 (rfl)) (by have := qs.1; omega) rfl dX8_judge_46 ?_
      refine x_topE (y := (aX (aM M) (tn x)) i) ((aX_M qs.1 (by omega)).symm) ?_
      refine x_istore C dX8_judge_47 rfl ?_
      refine x_aload_n C dX8_judge_49 rfl ?_
      refine x_iload C dX8_judge_50 rfl ?_
      refine x_cvB C (k := 40) (c_X8_isEgg l g _ _ ) o_X8_isEgg mw_X8_122 rfl (C.lt rfl) rcv_40 rfl rfl rfl hcs dX8_judge_52 (fun c52 => ?_) (fun c52 => ?_)
      · skip
        obtain ⟨he, ex, htr⟩ := eggP_tn c52
        refine x_if_eqF (tgt := 87) C dX8_judge_55 (by decide) (by decide) ?_
        refine x_iload_n C dX8_judge_58 rfl ?_
        refine x_iload C dX8_judge_59 rfl ?_
        refine x_csB C (c_X8_isIn l g _ (s := (jdgM (aX (aM M) (tn x)) i)) (k := (tn ((aX (aM M) (tn x)) i))) rfl (by omega) ex (by omega) ) o_X8_isIn mw_X8_88 rfl rfl rfl rfl hcs dX8_judge_61 (fun c61 => ?_) (fun c61 => ?_)
        · skip
          have hno : ¬ jdgP (vm M) (aX (aM M) (tn x)) i := fun z => by obtain ⟨k, hk, e⟩ := (jdg_bit _ _ i).mp c61; exact z.2.1 k hk ((eggP_tn (hst k hk).1).2.1.trans ((congrArg nI e).trans ex.symm))
          refine x_if_neT (tgt := 87) C dX8_judge_64 (by decide) (by decide) ?_
          refine x_iconst (v := 1) C dX8_judge_87 (by decide) ?_
          refine x_iload C dX8_judge_88 rfl ?_
          refine x_iadd C dX8_judge_90 ?_
          refine hret _ _ _ _ dX8_judge_91 rfl ?_
          have eF : fstN (jdgP (vm M) (aX (aM M) (tn x))) (tn (aN (aM M) (tn x))) = i := fstN_hit hst (hno) (by rw [hN]; exact hlt)
          refine pu_M0 ((ifp_t (by rw [← ex2]; exact c9)).trans ?_)
          refine (ifp_t (show fstN (jdgP (vm M) (aX (aM M) (tn x))) (tn (aN (aM M) (tn x))) < _ by omega)).trans ?_
          exact (congrArg (fun z => (nI (1 + z), aM M)) eF).trans (by rw [← nI_add]; rfl)
        · skip
          have hnew : ∀ k, k < i → ¬ (aX (aM M) (tn x)) k = (aX (aM M) (tn x)) i := fun k hk z => c61 ((jdg_bit _ _ i).mpr ⟨k, hk, by rw [z]⟩)
          refine x_if_neF (tgt := 87) C dX8_judge_64 (by decide) (by decide) ?_
          refine x_iload C dX8_judge_67 rfl ?_
          refine x_if_le (tgt := 92) C dX8_judge_69 (by decide) (fun c69 => ?_) (fun c69 => ?_)
          · skip
            have i0 : i = 0 := by rcases Nat.eq_zero_or_pos i with z | z; exact z; exact absurd c69 (Int32.not_le.mpr ((nI_ltI (a := 0) (by decide) (by omega)).mpr z))
            refine x_iload_n C dX8_judge_92 rfl ?_
            refine x_iconst (v := 1) C dX8_judge_93 (by decide) ?_
            refine x_iload C dX8_judge_94 rfl ?_
            refine x_ishl C dX8_judge_96 ?_
            refine x_ior C dX8_judge_97 ?_
            refine x_topE (y := nI (jdgM (aX (aM M) (tn x)) (i + 1))) ((congrArg (fun z => nI (jdgM (aX (aM M) (tn x)) i) ||| ((1 : Int32) <<< (z &&& 31))) ex).trans (or_pow he)) ?_
            refine x_istore_n C dX8_judge_98 rfl ?_
            refine x_iload C dX8_judge_99 rfl ?_
            refine x_topE (y := jdgL (aX (aM M) (tn x)) (i + 1)) (rfl) ?_
            refine x_istore C dX8_judge_101 rfl ?_
            refine x_iinc (v := nI (i + 1)) C dX8_judge_103 rfl (nI_1 i) rfl ?_
            refine x_goto (tgt := 24) C dX8_judge_106 (by decide) ?_
            refine X.le (ls' := [some (.ref (gad g (40))), some (.int (x)), some (.int (x2)), some (.int (nI (jdgM (aX (aM M) (tn x)) (i + 1)))), some (.int (jdgL (aX (aM M) (tn x)) (i + 1))), some (.int (nI (i + 1))), none]) (lle_s rfl (lle_s rfl (lle_s rfl (lle_s rfl (lle_s rfl (lle_s rfl (lle_n lle_e))))))) ?_
            exact ih hlt (fun j hj => by rcases Nat.lt_or_ge j i with z | z; exact hst j z; rw [show j = i by omega]; exact ⟨c52, hnew, fun k hk => by first | (exfalso; omega) | (rw [show k = p by omega]; exact Int32.not_lt.mpr c84)⟩)
          · skip
            obtain ⟨p, hp⟩ : ∃ p, i = p + 1 := ⟨i - 1, by rcases Nat.eq_zero_or_pos i with z | z; exact absurd (by rw [z]; decide) c69; omega⟩
            obtain ⟨hep, exp, htp⟩ := eggP_tn (hst p (by omega)).1
            have hjl : jdgL (aX (aM M) (tn x)) i = (aX (aM M) (tn x)) p := by rw [hp]; rfl
            refine x_aload_n C dX8_judge_72 rfl ?_
            refine x_iload C dX8_judge_73 rfl ?_
            refine x_cvE C (k := 40) (c_X8_minutes l g _ (e := (tn ((aX (aM M) (tn x)) i))) ex he ) o_X8_minutes mw_X8_92 rfl (C.lt rfl) rcv_40 rfl rfl rfl hcs dX8_judge_75 ?_
            refine x_aload_n C dX8_judge_78 rfl ?_
            refine x_iload C dX8_judge_79 rfl ?_
            refine x_cvE C (k := 40) (c_X8_minutes l g _ (e := (tn ((aX (aM M) (tn x)) p))) (hjl.trans exp) hep ) o_X8_minutes mw_X8_92 rfl (C.lt rfl) rcv_40 rfl rfl rfl hcs dX8_judge_81 ?_
            refine x_icmp_le (tgt := 92) C dX8_judge_84 (by decide) (fun c84 => ?_) (fun c84 => ?_)
            · skip
              refine x_iload_n C dX8_judge_92 rfl ?_
              refine x_iconst (v := 1) C dX8_judge_93 (by decide) ?_
              refine x_iload C dX8_judge_94 rfl ?_
              refine x_ishl C dX8_judge_96 ?_
              refine x_ior C dX8_judge_97 ?_
              refine x_topE (y := nI (jdgM (aX (aM M) (tn x)) (i + 1))) ((congrArg (fun z => nI (jdgM (aX (aM M) (tn x)) i) ||| ((1 : Int32) <<< (z &&& 31))) ex).trans (or_pow he)) ?_
              refine x_istore_n C dX8_judge_98 rfl ?_
              refine x_iload C dX8_judge_99 rfl ?_
              refine x_topE (y := jdgL (aX (aM M) (tn x)) (i + 1)) (rfl) ?_
              refine x_istore C dX8_judge_101 rfl ?_
              refine x_iinc (v := nI (i + 1)) C dX8_judge_103 rfl (nI_1 i) rfl ?_
              refine x_goto (tgt := 24) C dX8_judge_106 (by decide) ?_
              refine X.le (ls' := [some (.ref (gad g (40))), some (.int (x)), some (.int (x2)), some (.int (nI (jdgM (aX (aM M) (tn x)) (i + 1)))), some (.int (jdgL (aX (aM M) (tn x)) (i + 1))), some (.int (nI (i + 1))), none]) (lle_s rfl (lle_s rfl (lle_s rfl (lle_s rfl (lle_s rfl (lle_s rfl (lle_n lle_e))))))) ?_
              exact ih hlt (fun j hj => by rcases Nat.lt_or_ge j i with z | z; exact hst j z; rw [show j = i by omega]; exact ⟨c52, hnew, fun k hk => by first | (exfalso; omega) | (rw [show k = p by omega]; exact Int32.not_lt.mpr c84)⟩)
            · skip
              have hno : ¬ jdgP (vm M) (aX (aM M) (tn x)) i := fun z => z.2.2 p hp (Int32.not_le.mp c84)
              refine x_iconst (v := 1) C dX8_judge_87 (by decide) ?_
              refine x_iload C dX8_judge_88 rfl ?_
              refine x_iadd C dX8_judge_90 ?_
              refine hret _ _ _ _ dX8_judge_91 rfl ?_
              have eF : fstN (jdgP (vm M) (aX (aM M) (tn x))) (tn (aN (aM M) (tn x))) = i := fstN_hit hst (hno) (by rw [hN]; exact hlt)
              refine pu_M0 ((ifp_t (by rw [← ex2]; exact c9)).trans ?_)
              refine (ifp_t (show fstN (jdgP (vm M) (aX (aM M) (tn x))) (tn (aN (aM M) (tn x))) < _ by omega)).trans ?_
              exact (congrArg (fun z => (nI (1 + z), aM M)) eF).trans (by rw [← nI_add]; rfl)
      · skip
        have hno : ¬ jdgP (vm M) (aX (aM M) (tn x)) i := fun z => c52 z.1
        refine x_if_eqT (tgt := 87) C dX8_judge_55 (by decide) (by decide) ?_
        refine x_iconst (v := 1) C dX8_judge_87 (by decide) ?_
        refine x_iload C dX8_judge_88 rfl ?_
        refine x_iadd C dX8_judge_90 ?_
        refine hret _ _ _ _ dX8_judge_91 rfl ?_
        have eF : fstN (jdgP (vm M) (aX (aM M) (tn x))) (tn (aN (aM M) (tn x))) = i := fstN_hit hst (hno) (by rw [hN]; exact hlt)
        refine pu_M0 ((ifp_t (by rw [← ex2]; exact c9)).trans ?_)
        refine (ifp_t (show fstN (jdgP (vm M) (aX (aM M) (tn x))) (tn (aN (aM M) (tn x))) < _ by omega)).trans ?_
        exact (congrArg (fun z => (nI (1 + z), aM M)) eF).trans (by rw [← nI_add]; rfl)
  · skip
    have c9 := c7
    have qq := wrgS_ge (by rw [← ex2]; exact c7)
    refine x_aload_n C dX8_judge_10 rfl ?_
    refine x_iload_n C dX8_judge_11 rfl ?_
    refine x_cvi C (k := 40) (c_X8_no l g _ (k := (tn (wrgS (aM M) x))) (ex2.trans qq.1) qq.2 ) o_X8_no mw_X8_119 rfl (C.lt rfl) rcv_40 rfl rfl rfl hcs dX8_judge_12 (fun rf M1 hf => ?_)
    refine hret _ _ _ _ dX8_judge_15 rfl ?_
    exact fi_M (k := tn (wrgS (aM M) x)) (ifp_f (by rw [← ex2]; exact c9)) hf (ex2.trans qq.1) qq.2 rfl same.rf

def rm_X8_image : Room := { frames := 0, cells := 0, slots := 0, locals := 0 }
set_option maxRecDepth 100000 in
set_option maxHeartbeats 4000000 in
theorem c_X8_image (l : Launch) (g : Gp) (M : Mem) (oa : okA (aM M))  : Ki l g yX8_image cX8_image 2 .int rm_X8_image [.ref (gad g (40))] M (fun r M' => (r, aM M') = F_image (aM M) ∧ sameM M M') := by
  refine Ki.of rfl rfl rfl (fun q C hret hcs => ?_)
  have o : okRow (vm M) := oa.1
  refine x_iconst (v := 0) C dX8_image_0 (by decide) ?_
  refine x_istore_n C dX8_image_1 rfl ?_
  refine up_to 93 (P := fun i => ∀ M1 : Mem, (∀ k, k < i → M1 42 k = M 41 k) → same [42] M M1 → X (kmk l rm_X8_image g 2 q) M1 2 [some (.ref (gad g (40))), some (.int (nI i))] []) (fun i hi ih M1 hv hs => ?_) 0 (by omega) M (fun k hk => absurd hk (by omega)) same.rf
  refine x_iload_n C dX8_image_2 rfl ?_
  refine x_bipush (v := 93) C dX8_image_3 (by decide) ?_
  refine x_icmp_ge (tgt := 26) C dX8_image_5 (by decide) (fun c5 => ?_) (fun c5 => ?_)
  · skip
    have hlt := lp_ge (N := 93) (by decide) hi c5
    refine x_aload_n C dX8_image_26 rfl ?_
    refine x_iconst (v := 1) C dX8_image_27 (by decide) ?_
    refine x_putf (k := 40) C bk_X8 (C.lt rfl) rfl ent_40 3 fw_X8_269 rfl (fun _ => rfl) rfl rfl rfl rfl dX8_image_28 ?_
    refine x_memI (fun M3 eM3 => ?_)
    refine x_iconst (v := 1) C dX8_image_31 (by decide) ?_
    refine hret _ _ _ _ dX8_image_32 rfl ?_
    subst hlt
    refine im_M (K := some (vm M)) rfl ?_ (by rw [eM3, up_sn (by decide), hs 40 (by decide)]) ((hs.mono (by simp)).tr (by rw [eM3]; exact same.up (by simp)))
    rw [show M3 40 3 = 1 by rw [eM3]; exact up_ss, if_neg (by decide)]
    congr 1
    funext k; unfold cut vm
    by_cases q : k < 93
    · rw [if_pos q, if_pos q, eM3, up_n (by decide)]; exact hv k q
    · rw [if_neg q, if_neg q]
  · skip
    have hlt := lp_lt (N := 93) (by decide) hi c5
    refine x_aload_n C dX8_image_8 rfl ?_
    refine x_getf (k := 40) C bk_X8 (C.lt rfl) rfl ent_40 1 fw_X8_13 rfl rfl dX8_image_9 ?_
    refine x_iload_n C dX8_image_12 rfl ?_
    refine x_aload_n C dX8_image_13 rfl ?_
    refine x_getf (k := 40) C bk_X8 (C.lt rfl) rfl ent_40 0 fw_X8_9 rfl rfl dX8_image_14 ?_
    refine x_iload_n C dX8_image_17 rfl ?_
    refine x_iald (j := i) (k := 41) C (C.lt rfl) rfl ent_41 (rfl) (by omega) rfl dX8_image_18 ?_
    refine x_iast (j := i) (k := 42) C (C.lt rfl) rfl ent_42 (rfl) (by omega) rfl dX8_image_19 ?_
    refine x_memI (fun M2 eM2 => ?_)
    refine x_iinc (v := nI (i + 1)) C dX8_image_20 rfl (nI_1 i) rfl ?_
    refine x_goto (tgt := 2) C dX8_image_23 (by decide) ?_
    refine ih hlt M2 (fun k hk => ?_) (hs.tr (by rw [eM2]; exact same.up (by simp)))
    rw [eM2]
    by_cases q : k = i
    · subst q; rw [up_ss, hs 41 (by decide)]
    · rw [up_sn q]; exact hv k (by omega)

def rm_X8_undo : Room := { frames := 1, cells := 0, slots := 0, locals := 21 }
set_option maxRecDepth 100000 in
set_option maxHeartbeats 4000000 in
theorem c_X8_undo (l : Launch) (g : Gp) (M : Mem) (oa : okA (aM M))  : Ki l g yX8_undo cX8_undo 2 .int rm_X8_undo [.ref (gad g (40))] M (fun r M' => (r, aM M') = F_undo (aM M) ∧ sameM M M') := by
  refine Ki.of rfl rfl rfl (fun q C hret hcs => ?_)
  have o : okRow (vm M) := oa.1
  refine x_aload_n C dX8_undo_0 rfl ?_
  refine x_getf (k := 40) C bk_X8 (C.lt rfl) rfl ent_40 3 fw_X8_269 rfl rfl dX8_undo_1 ?_
  refine x_if_ne (tgt := 13) C dX8_undo_4 (by decide) (fun c4 => ?_) (fun c4 => ?_)
  · skip
    refine x_iconst (v := 0) C dX8_undo_13 (by decide) ?_
    refine x_istore_n C dX8_undo_14 rfl ?_
    refine up_to 93 (P := fun i => ∀ M1 : Mem, (∀ k, k < i → M1 41 k = M 42 k) → same [41] M M1 → X (kmk l rm_X8_undo g 2 q) M1 15 [some (.ref (gad g (40))), some (.int (nI i))] []) (fun i hi ih M1 hv hs => ?_) 0 (by omega) M (fun k hk => absurd hk (by omega)) same.rf
    refine x_iload_n C dX8_undo_15 rfl ?_
    refine x_bipush (v := 93) C dX8_undo_16 (by decide) ?_
    refine x_icmp_ge (tgt := 39) C dX8_undo_18 (by decide) (fun c18 => ?_) (fun c18 => ?_)
    · skip
      have hlt := lp_ge (N := 93) (by decide) hi c18
      refine x_aload_n C dX8_undo_39 rfl ?_
      refine x_getf (k := 40) C bk_X8 (C.lt rfl) rfl ent_40 0 fw_X8_9 rfl rfl dX8_undo_40 ?_
      refine x_iconst (v := 0) C dX8_undo_43 (by decide) ?_
      refine x_iald (j := 0) (k := 41) C (C.lt rfl) rfl ent_41 (rfl) (by decide) rfl dX8_undo_44 ?_
      refine hret _ _ _ _ dX8_undo_45 rfl ?_
      subst hlt
      have hvm : vm M1 = cut 93 (M 42) := by
        funext k; unfold cut vm
        by_cases q : k < 93
        · rw [if_pos q, if_pos q]; exact hv k q
        · rw [if_neg q, if_neg q]
      refine st_M (S := cut 93 (M 42)) ?_ hvm (hs.mono (by simp [SC1]))
      rw [hv 0 (by decide)]
      unfold F_undo; rw [aK_M, if_neg c4]; rfl
    · skip
      have hlt := lp_lt (N := 93) (by decide) hi c18
      refine x_aload_n C dX8_undo_21 rfl ?_
      refine x_getf (k := 40) C bk_X8 (C.lt rfl) rfl ent_40 0 fw_X8_9 rfl rfl dX8_undo_22 ?_
      refine x_iload_n C dX8_undo_25 rfl ?_
      refine x_aload_n C dX8_undo_26 rfl ?_
      refine x_getf (k := 40) C bk_X8 (C.lt rfl) rfl ent_40 1 fw_X8_13 rfl rfl dX8_undo_27 ?_
      refine x_iload_n C dX8_undo_30 rfl ?_
      refine x_iald (j := i) (k := 42) C (C.lt rfl) rfl ent_42 (rfl) (by omega) rfl dX8_undo_31 ?_
      refine x_iast (j := i) (k := 41) C (C.lt rfl) rfl ent_41 (rfl) (by omega) rfl dX8_undo_32 ?_
      refine x_memI (fun M2 eM2 => ?_)
      refine x_iinc (v := nI (i + 1)) C dX8_undo_33 rfl (nI_1 i) rfl ?_
      refine x_goto (tgt := 15) C dX8_undo_36 (by decide) ?_
      refine ih hlt M2 (fun k hk => ?_) (hs.tr (by rw [eM2]; exact same.up (by simp)))
      rw [eM2]
      by_cases q : k = i
      · subst q; rw [up_ss, hs 42 (by decide)]
      · rw [up_sn q]; exact hv k (by omega)
  · skip
    refine x_aload_n C dX8_undo_7 rfl ?_
    refine x_iconst (v := 3) C dX8_undo_8 (by decide) ?_
    refine x_cvi C (k := 40) (c_X8_no l g _ (k := 3) rfl (by decide) ) o_X8_no mw_X8_119 rfl (C.lt rfl) rcv_40 rfl rfl rfl hcs dX8_undo_9 (fun rf M1 hf => ?_)
    refine hret _ _ _ _ dX8_undo_12 rfl ?_
    exact fi_M (k := 3) (by unfold F_undo; rw [aK_M, if_pos c4]) hf rfl (by decide) rfl (same.rf)

def rm_X8_tear : Room := { frames := 0, cells := 0, slots := 0, locals := 0 }
set_option maxRecDepth 100000 in
set_option maxHeartbeats 4000000 in
theorem c_X8_tear (l : Launch) (g : Gp) (M : Mem) (oa : okA (aM M))  : Ki l g yX8_tear cX8_tear 2 .int rm_X8_tear [.ref (gad g (40))] M (fun r M' => (r, aM M') = F_tear (aM M) ∧ sameM M M') := by
  refine Ki.of rfl rfl rfl (fun q C hret hcs => ?_)
  have o : okRow (vm M) := oa.1
  refine x_aload_n C dX8_tear_0 rfl ?_
  refine x_getf (k := 40) C bk_X8 (C.lt rfl) rfl ent_40 3 fw_X8_269 rfl rfl dX8_tear_1 ?_
  refine x_if_eq (tgt := 11) C dX8_tear_4 (by decide) (fun c4 => ?_) (fun c4 => ?_)
  · skip
    refine x_iconst (v := 0) C dX8_tear_11 (by decide) ?_
    refine x_istore_n C dX8_tear_12 rfl ?_
    refine x_aload_n C dX8_tear_13 rfl ?_
    refine x_iconst (v := 0) C dX8_tear_14 (by decide) ?_
    refine x_putf (k := 40) C bk_X8 (C.lt rfl) rfl ent_40 3 fw_X8_269 rfl (fun _ => rfl) rfl rfl rfl rfl dX8_tear_15 ?_
    refine x_memI (fun M1 eM1 => ?_)
    refine x_iload_n C dX8_tear_18 rfl ?_
    refine hret _ _ _ _ dX8_tear_19 rfl ?_
    refine im_M (K := none) ?_ (by rw [eM1, up_ss]; rfl) (by rw [eM1]; exact up_sn (by decide)) (by rw [eM1]; exact same.up (by simp))
    unfold F_tear; rw [aK_M]; first | rw [if_neg c4] | rw [if_pos c4]
  · skip
    refine x_iconst (v := 1) C dX8_tear_7 (by decide) ?_
    refine x_goto (tgt := 12) C dX8_tear_8 (by decide) ?_
    refine x_istore_n C dX8_tear_12 rfl ?_
    refine x_aload_n C dX8_tear_13 rfl ?_
    refine x_iconst (v := 0) C dX8_tear_14 (by decide) ?_
    refine x_putf (k := 40) C bk_X8 (C.lt rfl) rfl ent_40 3 fw_X8_269 rfl (fun _ => rfl) rfl rfl rfl rfl dX8_tear_15 ?_
    refine x_memI (fun M1 eM1 => ?_)
    refine x_iload_n C dX8_tear_18 rfl ?_
    refine hret _ _ _ _ dX8_tear_19 rfl ?_
    refine im_M (K := none) ?_ (by rw [eM1, up_ss]; rfl) (by rw [eM1]; exact up_sn (by decide)) (by rw [eM1]; exact same.up (by simp))
    unfold F_tear; rw [aK_M]; first | rw [if_neg c4] | rw [if_pos c4]

def rm_X8_count : Room := { frames := 5, cells := 0, slots := 0, locals := 111 }
set_option maxRecDepth 100000 in
set_option maxHeartbeats 4000000 in
theorem c_X8_count (l : Launch) (g : Gp) (M : Mem) (oa : okA (aM M))  (w : Int32) : Ki l g yX8_count cX8_count 4 .int rm_X8_count [.ref (gad g (40)), .int (w)] M (fun r M' => (r, aM M') = F_count w (aM M) ∧ sameM M M') := by
  refine Ki.of rfl rfl rfl (fun q C hret hcs => ?_)
  have o : okRow (vm M) := oa.1
  refine x_iconst (v := 0) C dX8_count_0 (by decide) ?_
  refine x_istore_n C dX8_count_1 rfl ?_
  refine x_iload_n C dX8_count_2 rfl ?_
  rcases sw_split (w) 0 7 with c3 | c3
  · skip
    refine x_tableOut (tgt := 131) C dX8_count_3 c3 (by decide) ?_
    refine x_aload_n C dX8_count_131 rfl ?_
    refine x_iconst (v := 0) C dX8_count_132 (by decide) ?_
    refine x_cvi C (k := 40) (c_X8_no l g _ (k := 0) rfl (by decide) ) o_X8_no mw_X8_119 rfl (C.lt rfl) rcv_40 rfl rfl rfl hcs dX8_count_133 (fun rf M1 hf => ?_)
    refine hret _ _ _ _ dX8_count_136 rfl ?_
    exact fi_M (k := 0) (F_count_out c3) hf rfl (by decide) rfl (same.rf)
  · skip
    by_cases c3_0 : w = 0
    · skip
      refine x_tableIn (tgt := 48) (off := 45) C dX8_count_3 c3.1 c3.2 (by rw [c3_0]; decide) (by decide) ?_
      refine x_aload_n C dX8_count_48 rfl ?_
      refine x_getf (k := 40) C bk_X8 (C.lt rfl) rfl ent_40 0 fw_X8_9 rfl rfl dX8_count_49 ?_
      refine x_iconst (v := 0) C dX8_count_52 (by decide) ?_
      refine x_iald (j := 0) (k := 41) C (C.lt rfl) rfl ent_41 (rfl) (by decide) rfl dX8_count_53 ?_
      refine hret _ _ _ _ dX8_count_54 rfl ?_
      exact pu_M0 (if_pos c3_0)
    by_cases c3_1 : w = 1
    · skip
      refine x_tableIn (tgt := 55) (off := 52) C dX8_count_3 c3.1 c3.2 (by rw [c3_1]; decide) (by decide) ?_
      refine x_aload_n C dX8_count_55 rfl ?_
      refine x_cvE C (k := 40) (c_X8_eggs l g _ ) o_X8_eggs mw_X8_95 rfl (C.lt rfl) rcv_40 rfl rfl rfl hcs dX8_count_56 ?_
      refine x_csE C (c_X8_bits l g _ (s := (eggN (vm M) 8)) rfl (eggN_lt _ 8) ) o_X8_bits mw_X8_143 rfl rfl rfl rfl hcs dX8_count_59 ?_
      refine hret _ _ _ _ dX8_count_62 rfl ?_
      exact pu_M0 ((if_neg c3_0).trans (if_pos c3_1))
    by_cases c3_2 : w = 2
    · skip
      refine x_tableIn (tgt := 63) (off := 60) C dX8_count_3 c3.1 c3.2 (by rw [c3_2]; decide) (by decide) ?_
      refine x_aload_n C dX8_count_63 rfl ?_
      refine x_cvE C (k := 40) (c_X8_done l g _ ) o_X8_done mw_X8_149 rfl (C.lt rfl) rcv_40 rfl rfl rfl hcs dX8_count_64 ?_
      refine x_csE C (c_X8_bits l g _ (s := (doneN (vm M) 6)) rfl (by have := doneN_lt (vm M) 6; omega) ) o_X8_bits mw_X8_143 rfl rfl rfl rfl hcs dX8_count_67 ?_
      refine hret _ _ _ _ dX8_count_70 rfl ?_
      exact pu_M0 ((if_neg c3_0).trans ((if_neg c3_1).trans (if_pos c3_2)))
    by_cases c3_3 : w = 3
    · skip
      refine x_tableIn (tgt := 71) (off := 68) C dX8_count_3 c3.1 c3.2 (by rw [c3_3]; decide) (by decide) ?_
      refine x_aload_n C dX8_count_71 rfl ?_
      refine x_getf (k := 40) C bk_X8 (C.lt rfl) rfl ent_40 0 fw_X8_9 rfl rfl dX8_count_72 ?_
      refine x_iconst (v := 1) C dX8_count_75 (by decide) ?_
      refine x_iald (j := 1) (k := 41) C (C.lt rfl) rfl ent_41 (rfl) (by decide) rfl dX8_count_76 ?_
      refine hret _ _ _ _ dX8_count_77 rfl ?_
      exact pu_M0 ((if_neg c3_0).trans ((if_neg c3_1).trans ((if_neg c3_2).trans (if_pos c3_3))))
    by_cases c3_4 : w = 4
    · skip
      refine x_tableIn (tgt := 78) (off := 75) C dX8_count_3 c3.1 c3.2 (by rw [c3_4]; decide) (by decide) ?_
      refine x_aload_n C dX8_count_78 rfl ?_
      refine x_cvE C (k := 40) (c_X8_allMinutes l g _ ) o_X8_allMinutes mw_X8_146 rfl (C.lt rfl) rcv_40 rfl rfl rfl hcs dX8_count_79 ?_
      refine hret _ _ _ _ dX8_count_82 rfl ?_
      exact pu_M0 ((if_neg c3_0).trans ((if_neg c3_1).trans ((if_neg c3_2).trans ((if_neg c3_3).trans (if_pos c3_4)))))
    by_cases c3_5 : w = 5
    · skip
      refine x_tableIn (tgt := 83) (off := 80) C dX8_count_3 c3.1 c3.2 (by rw [c3_5]; decide) (by decide) ?_
      refine x_aload_n C dX8_count_83 rfl ?_
      refine x_getf (k := 40) C bk_X8 (C.lt rfl) rfl ent_40 8 fw_X8_205 rfl rfl dX8_count_84 ?_
      refine hret _ _ _ _ dX8_count_87 rfl ?_
      exact pu_M0 ((if_neg c3_0).trans ((if_neg c3_1).trans ((if_neg c3_2).trans ((if_neg c3_3).trans ((if_neg c3_4).trans (if_pos c3_5))))))
    by_cases c3_6 : w = 6
    · skip
      refine x_tableIn (tgt := 88) (off := 85) C dX8_count_3 c3.1 c3.2 (by rw [c3_6]; decide) (by decide) ?_
      refine x_aload_n C dX8_count_88 rfl ?_
      refine x_getf (k := 40) C bk_X8 (C.lt rfl) rfl ent_40 0 fw_X8_9 rfl rfl dX8_count_89 ?_
      refine x_iconst (v := 2) C dX8_count_92 (by decide) ?_
      refine x_iald (j := 2) (k := 41) C (C.lt rfl) rfl ent_41 (rfl) (by decide) rfl dX8_count_93 ?_
      refine hret _ _ _ _ dX8_count_94 rfl ?_
      exact pu_M0 ((if_neg c3_0).trans ((if_neg c3_1).trans ((if_neg c3_2).trans ((if_neg c3_3).trans ((if_neg c3_4).trans ((if_neg c3_5).trans (if_pos c3_6)))))))
    by_cases c3_7 : w = 7
    · skip
      refine x_tableIn (tgt := 95) (off := 92) C dX8_count_3 c3.1 c3.2 (by rw [c3_7]; decide) (by decide) ?_
      refine x_iconst (v := 0) C dX8_count_95 (by decide) ?_
      refine x_istore_n C dX8_count_96 rfl ?_
      refine up_to 10 (P := fun i => X (kmk l rm_X8_count g 4 q) M 97 [some (.ref (gad g (40))), some (.int (w)), some (.int (nI (spotN (vm M) i))), some (.int (nI i))] []) (fun i hi ih => ?_) 0 (by omega)
      refine x_iload_n C dX8_count_97 rfl ?_
      refine x_bipush (v := 10) C dX8_count_98 (by decide) ?_
      refine x_icmp_ge (tgt := 129) C dX8_count_100 (by decide) (fun c100 => ?_) (fun c100 => ?_)
      · skip
        have hlt := lp_ge (N := 10) (by decide) hi c100
        refine x_iload_n C dX8_count_129 rfl ?_
        refine hret _ _ _ _ dX8_count_130 rfl ?_
        subst hlt; exact pu_M0 ((if_neg c3_0).trans ((if_neg c3_1).trans ((if_neg c3_2).trans ((if_neg c3_3).trans ((if_neg c3_4).trans ((if_neg c3_5).trans ((if_neg c3_6).trans (if_pos c3_7))))))))
      · skip
        have hlt := lp_lt (N := 10) (by decide) hi c100
        refine x_iload_n C dX8_count_103 rfl ?_
        refine x_aload_n C dX8_count_104 rfl ?_
        refine x_getf (k := 40) C bk_X8 (C.lt rfl) rfl ent_40 0 fw_X8_9 rfl rfl dX8_count_105 ?_
        refine x_bipush (v := 83) C dX8_count_108 (by decide) ?_
        refine x_iload_n C dX8_count_110 rfl ?_
        refine x_iadd C dX8_count_111 ?_
        refine x_iald (j := 83 + i) (k := 41) C (C.lt rfl) rfl ent_41 (nI_add 83 i) (by omega) rfl dX8_count_112 ?_
        refine x_topE (y := vm M (83 + i)) ((vm_at (by omega)).symm) ?_
        refine x_if_lt (tgt := 120) C dX8_count_113 (by decide) (fun c113 => ?_) (fun c113 => ?_)
        · skip
          refine x_iconst (v := 0) C dX8_count_120 (by decide) ?_
          refine x_iadd C dX8_count_121 ?_
          refine x_topE (y := nI (spotN (vm M) (i + 1))) (by show _ = nI (_ + ite _ _ _); first | (rw [if_pos c113]; exact Int32.add_zero _) | (rw [if_neg c113]; exact nI_add _ 1) | (rw [if_neg (Int32.not_lt.mpr c113)]; exact nI_add _ 1)) ?_
          refine x_istore_n C dX8_count_122 rfl ?_
          refine x_iinc (v := nI (i + 1)) C dX8_count_123 rfl (nI_1 i) rfl ?_
          refine x_goto (tgt := 97) C dX8_count_126 (by decide) ?_
          exact ih hlt
        · skip
          refine x_iconst (v := 1) C dX8_count_116 (by decide) ?_
          refine x_goto (tgt := 121) C dX8_count_117 (by decide) ?_
          refine x_iadd C dX8_count_121 ?_
          refine x_topE (y := nI (spotN (vm M) (i + 1))) (by show _ = nI (_ + ite _ _ _); first | (rw [if_pos c113]; exact Int32.add_zero _) | (rw [if_neg c113]; exact nI_add _ 1) | (rw [if_neg (Int32.not_lt.mpr c113)]; exact nI_add _ 1)) ?_
          refine x_istore_n C dX8_count_122 rfl ?_
          refine x_iinc (v := nI (i + 1)) C dX8_count_123 rfl (nI_1 i) rfl ?_
          refine x_goto (tgt := 97) C dX8_count_126 (by decide) ?_
          exact ih hlt
    exfalso
    have h1 := c3.1; have h2 := c3.2
    simp only [fa_eq] at c3_0 c3_1 c3_2 c3_3 c3_4 c3_5 c3_6 c3_7
    simp at c3_0 c3_1 c3_2 c3_3 c3_4 c3_5 c3_6 c3_7
    omega

def rm_X8_status : Room := { frames := 1, cells := 0, slots := 0, locals := 22 }
set_option maxRecDepth 100000 in
set_option maxHeartbeats 4000000 in
theorem c_X8_status (l : Launch) (g : Gp) (M : Mem) (oa : okA (aM M))  (w : Int32) : Ki l g yX8_status cX8_status 4 .int rm_X8_status [.ref (gad g (40)), .int (w)] M (fun r M' => (r, aM M') = F_status w (aM M) ∧ sameM M M') := by
  refine Ki.of rfl rfl rfl (fun q C hret hcs => ?_)
  have o : okRow (vm M) := oa.1
  refine x_iload_n C dX8_status_0 rfl ?_
  refine x_iconst (v := -1) C dX8_status_1 (by decide) ?_
  refine x_bipush (v := 6) C dX8_status_2 (by decide) ?_
  refine x_csB C (c_X8_in1 l g _ _ _ _ ) o_X8_in1 mw_X8_59 rfl rfl rfl rfl hcs dX8_status_4 (fun c4 => ?_) (fun c4 => ?_)
  · skip
    refine x_if_neT (tgt := 16) C dX8_status_7 (by decide) (by decide) ?_
    refine x_iconst (v := 0) C dX8_status_16 (by decide) ?_
    refine x_istore_n C dX8_status_17 rfl ?_
    refine x_iconst (v := 0) C dX8_status_18 (by decide) ?_
    refine x_istore_n C dX8_status_19 rfl ?_
    refine up_to 7 (P := fun i => X (kmk l rm_X8_status g 4 q) M 20 [some (.ref (gad g (40))), some (.int (w)), some (.int (staN (aF (aM M)) w i)), some (.int (nI i))] []) (fun i hi ih => ?_) 0 (by omega)
    refine x_iload_n C dX8_status_20 rfl ?_
    refine x_bipush (v := 7) C dX8_status_21 (by decide) ?_
    refine x_icmp_ge (tgt := 55) C dX8_status_23 (by decide) (fun c23 => ?_) (fun c23 => ?_)
    · skip
      have hlt := lp_ge (N := 7) (by decide) hi c23
      refine x_iload_n C dX8_status_55 rfl ?_
      refine hret _ _ _ _ dX8_status_56 rfl ?_
      subst hlt
      by_cases q : w = -1
      · rw [sta_all _ q]; exact pu_M0 (if_pos q)
      · have hw : inB w 0 6 := ⟨by have := c4.1; clear hret hcs C ih; grind, c4.2⟩
        have q7 := inB_tn (n := 6) (by decide) hw
        have e1 : staN (aF (aM M)) w 7 = aF (aM M) (tn w) := by
          have e := sta_one (aF (aM M)) q7.1 7 (Nat.le_refl 7)
          rw [if_pos q7.1, ← q7.2] at e
          exact e
        rw [e1]
        exact pu_M0 ((if_neg q).trans (ifp_t hw))
    · skip
      have hlt := lp_lt (N := 7) (by decide) hi c23
      refine x_iload_n C dX8_status_26 rfl ?_
      refine x_iload_n C dX8_status_27 rfl ?_
      refine x_iconst (v := -1) C dX8_status_28 (by decide) ?_
      refine x_icmp_eq (tgt := 37) C dX8_status_29 (by decide) (fun c29 => ?_) (fun c29 => ?_)
      · skip
        refine x_aload_n C dX8_status_37 rfl ?_
        refine x_getf (k := 40) C bk_X8 (C.lt rfl) rfl ent_40 4 fw_X8_19 rfl rfl dX8_status_38 ?_
        refine x_iload_n C dX8_status_41 rfl ?_
        refine x_iald (j := i) (k := 44) C (C.lt rfl) rfl ent_44 (rfl) (by omega) rfl dX8_status_42 ?_
        refine x_goto (tgt := 47) C dX8_status_43 (by decide) ?_
        refine x_iadd C dX8_status_47 ?_
        refine x_topE (y := staN (aF (aM M)) w (i + 1)) (by show _ = _ + ite _ _ _; first | (rw [if_pos (Or.inl c29), show aF (aM M) i = M 44 i from cut_at hlt]) | (rw [if_pos (Or.inr c34), show aF (aM M) i = M 44 i from cut_at hlt]) | (rw [if_pos (Or.inr (Classical.not_not.mp c34)), show aF (aM M) i = M 44 i from cut_at hlt]) | (rw [if_neg (fun z => z.elim c29 c34)])) ?_
        refine x_istore_n C dX8_status_48 rfl ?_
        refine x_iinc (v := nI (i + 1)) C dX8_status_49 rfl (nI_1 i) rfl ?_
        refine x_goto (tgt := 20) C dX8_status_52 (by decide) ?_
        exact ih hlt
      · skip
        refine x_iload_n C dX8_status_32 rfl ?_
        refine x_iload_n C dX8_status_33 rfl ?_
        refine x_icmp_ne (tgt := 46) C dX8_status_34 (by decide) (fun c34 => ?_) (fun c34 => ?_)
        · skip
          refine x_iconst (v := 0) C dX8_status_46 (by decide) ?_
          refine x_iadd C dX8_status_47 ?_
          refine x_topE (y := staN (aF (aM M)) w (i + 1)) (by show _ = _ + ite _ _ _; first | (rw [if_pos (Or.inl c29), show aF (aM M) i = M 44 i from cut_at hlt]) | (rw [if_pos (Or.inr c34), show aF (aM M) i = M 44 i from cut_at hlt]) | (rw [if_pos (Or.inr (Classical.not_not.mp c34)), show aF (aM M) i = M 44 i from cut_at hlt]) | (rw [if_neg (fun z => z.elim c29 c34)])) ?_
          refine x_istore_n C dX8_status_48 rfl ?_
          refine x_iinc (v := nI (i + 1)) C dX8_status_49 rfl (nI_1 i) rfl ?_
          refine x_goto (tgt := 20) C dX8_status_52 (by decide) ?_
          exact ih hlt
        · skip
          refine x_aload_n C dX8_status_37 rfl ?_
          refine x_getf (k := 40) C bk_X8 (C.lt rfl) rfl ent_40 4 fw_X8_19 rfl rfl dX8_status_38 ?_
          refine x_iload_n C dX8_status_41 rfl ?_
          refine x_iald (j := i) (k := 44) C (C.lt rfl) rfl ent_44 (rfl) (by omega) rfl dX8_status_42 ?_
          refine x_goto (tgt := 47) C dX8_status_43 (by decide) ?_
          refine x_iadd C dX8_status_47 ?_
          refine x_topE (y := staN (aF (aM M)) w (i + 1)) (by show _ = _ + ite _ _ _; first | (rw [if_pos (Or.inl c29), show aF (aM M) i = M 44 i from cut_at hlt]) | (rw [if_pos (Or.inr c34), show aF (aM M) i = M 44 i from cut_at hlt]) | (rw [if_pos (Or.inr (Classical.not_not.mp c34)), show aF (aM M) i = M 44 i from cut_at hlt]) | (rw [if_neg (fun z => z.elim c29 c34)])) ?_
          refine x_istore_n C dX8_status_48 rfl ?_
          refine x_iinc (v := nI (i + 1)) C dX8_status_49 rfl (nI_1 i) rfl ?_
          refine x_goto (tgt := 20) C dX8_status_52 (by decide) ?_
          exact ih hlt
  · skip
    refine x_if_neF (tgt := 16) C dX8_status_7 (by decide) (by decide) ?_
    refine x_aload_n C dX8_status_10 rfl ?_
    refine x_iconst (v := 0) C dX8_status_11 (by decide) ?_
    refine x_cvi C (k := 40) (c_X8_no l g _ (k := 0) rfl (by decide) ) o_X8_no mw_X8_119 rfl (C.lt rfl) rcv_40 rfl rfl rfl hcs dX8_status_12 (fun rf M1 hf => ?_)
    refine hret _ _ _ _ dX8_status_15 rfl ?_
    exact fi_M (k := 0) ((if_neg (fun z => c4 (by rw [z]; exact ⟨by decide, by decide⟩))).trans (ifp_f (fun z => c4 ⟨by have := z.1; clear hret hcs C hf; grind, z.2⟩))) hf rfl (by decide) rfl (same.rf)

