/-! ===== contracts: the model's calls, first part ===== -/
def rm_X8_egg : Room := { frames := 4, cells := 0, slots := 0, locals := 89 }
set_option maxRecDepth 100000 in
set_option maxHeartbeats 4000000 in
theorem c_X8_egg (l : Launch) (g : Gp) (M : Mem) (oa : okA (aM M))  (k s n : Int32) : Ki l g yX8_egg cX8_egg 5 .int rm_X8_egg [.ref (gad g (40)), .int (k), .int (s), .int (n)] M (fun r M' => (r, aM M') = F_egg k s n (aM M) ∧ sameM M M') := by
  refine Ki.of rfl rfl rfl (fun q C hret hcs => ?_)
  have o : okRow (vm M) := oa.1
  refine x_iload_n C dX8_egg_0 rfl ?_
  refine x_iconst (v := 0) C dX8_egg_1 (by decide) ?_
  refine x_bipush (v := 6) C dX8_egg_2 (by decide) ?_
  refine x_csB C (c_X8_in1 l g _ _ _ _ ) o_X8_in1 mw_X8_59 rfl rfl rfl rfl hcs dX8_egg_4 (fun c4 => ?_) (fun c4 => ?_)
  · skip
    refine x_if_eqF (tgt := 29) C dX8_egg_7 (by decide) (by decide) ?_
    refine x_iload_n C dX8_egg_10 rfl ?_
    refine x_iconst (v := 1) C dX8_egg_11 (by decide) ?_
    refine x_bipush (v := 99) C dX8_egg_12 (by decide) ?_
    refine x_csB C (c_X8_in1 l g _ _ _ _ ) o_X8_in1 mw_X8_59 rfl rfl rfl rfl hcs dX8_egg_14 (fun c14 => ?_) (fun c14 => ?_)
    · skip
      refine x_if_eqF (tgt := 29) C dX8_egg_17 (by decide) (by decide) ?_
      refine x_iload_n C dX8_egg_20 rfl ?_
      refine x_iconst (v := 0) C dX8_egg_21 (by decide) ?_
      refine x_iconst (v := 3) C dX8_egg_22 (by decide) ?_
      refine x_csB C (c_X8_in1 l g _ _ _ _ ) o_X8_in1 mw_X8_59 rfl rfl rfl rfl hcs dX8_egg_23 (fun c23 => ?_) (fun c23 => ?_)
      · skip
        refine x_if_neT (tgt := 35) C dX8_egg_26 (by decide) (by decide) ?_
        refine x_aload_n C dX8_egg_35 rfl ?_
        refine x_iload_n C dX8_egg_36 rfl ?_
        refine x_iload_n C dX8_egg_37 rfl ?_
        refine x_iconst (v := 0) C dX8_egg_38 (by decide) ?_
        refine x_iload_n C dX8_egg_39 rfl ?_
        refine x_cvi C (k := 40) (c_X8_lays l g _ _ _ _ _ ) o_X8_lays mw_X8_116 rfl (C.lt rfl) rcv_40 rfl rfl rfl hcs dX8_egg_40 (fun r1 Mq h1 => ?_)
        refine x_istore C dX8_egg_43 rfl ?_
        refine x_iload C dX8_egg_45 rfl ?_
        refine x_if_ge (tgt := 58) C dX8_egg_47 (by decide) (fun c47 => ?_) (fun c47 => ?_)
        · skip
          have f8 : frN (vm M) 8 < 8 := frI_lt (by rw [← h1.1]; exact Int32.not_lt.mpr c47)
          have e1 : r1 = nI (frN (vm M) 8) := by rw [h1.1]; exact if_pos f8
          refine x_iload C dX8_egg_58 rfl ?_
          refine hret _ _ _ _ dX8_egg_60 rfl ?_
          rw [e1]; exact st_M ((ifp_t ⟨c4, c14, c23⟩).trans (ifp_t f8)) (h1.2.1.trans (if_pos f8)) (h1.2.2.mono (by simp [SC1]))
        · skip
          have f8 : ¬ frN (vm M) 8 < 8 := frI_ge (by rw [← h1.1]; exact Int32.not_le.mp c47)
          refine x_aload_n C dX8_egg_50 rfl ?_
          refine x_iconst (v := 1) C dX8_egg_51 (by decide) ?_
          refine x_cvi C (k := 40) (c_X8_no l g _ (k := 1) rfl (by decide) ) o_X8_no mw_X8_119 rfl (C.lt rfl) rcv_40 rfl rfl rfl hcs dX8_egg_52 (fun rg M1 hg => ?_)
          refine x_goto (tgt := 60) C dX8_egg_55 (by decide) ?_
          refine hret _ _ _ _ dX8_egg_60 rfl ?_
          exact fi_M (k := 1) ((ifp_t ⟨c4, c14, c23⟩).trans (ifp_f f8)) hg rfl (by decide) (h1.2.1.trans (if_neg f8)) (h1.2.2.mono (by simp [SC1]))
      · skip
        refine x_if_neF (tgt := 35) C dX8_egg_26 (by decide) (by decide) ?_
        refine x_aload_n C dX8_egg_29 rfl ?_
        refine x_iconst (v := 0) C dX8_egg_30 (by decide) ?_
        refine x_cvi C (k := 40) (c_X8_no l g _ (k := 0) rfl (by decide) ) o_X8_no mw_X8_119 rfl (C.lt rfl) rcv_40 rfl rfl rfl hcs dX8_egg_31 (fun rf M2 hf => ?_)
        refine hret _ _ _ _ dX8_egg_34 rfl ?_
        exact fi_M (k := 0) (ifp_f (fun z => by first | exact c23 z.2.2 | exact c14 z.2.1 | exact c4 z.1)) hf rfl (by decide) rfl (same.rf)
    · skip
      refine x_if_eqT (tgt := 29) C dX8_egg_17 (by decide) (by decide) ?_
      refine x_aload_n C dX8_egg_29 rfl ?_
      refine x_iconst (v := 0) C dX8_egg_30 (by decide) ?_
      refine x_cvi C (k := 40) (c_X8_no l g _ (k := 0) rfl (by decide) ) o_X8_no mw_X8_119 rfl (C.lt rfl) rcv_40 rfl rfl rfl hcs dX8_egg_31 (fun rf M3 hf => ?_)
      refine hret _ _ _ _ dX8_egg_34 rfl ?_
      exact fi_M (k := 0) (ifp_f (fun z => by first | exact c23 z.2.2 | exact c14 z.2.1 | exact c4 z.1)) hf rfl (by decide) rfl (same.rf)
  · skip
    refine x_if_eqT (tgt := 29) C dX8_egg_7 (by decide) (by decide) ?_
    refine x_aload_n C dX8_egg_29 rfl ?_
    refine x_iconst (v := 0) C dX8_egg_30 (by decide) ?_
    refine x_cvi C (k := 40) (c_X8_no l g _ (k := 0) rfl (by decide) ) o_X8_no mw_X8_119 rfl (C.lt rfl) rcv_40 rfl rfl rfl hcs dX8_egg_31 (fun rf M4 hf => ?_)
    refine hret _ _ _ _ dX8_egg_34 rfl ?_
    exact fi_M (k := 0) (ifp_f (fun z => by first | exact c23 z.2.2 | exact c14 z.2.1 | exact c4 z.1)) hf rfl (by decide) rfl (same.rf)

def rm_X8_of : Room := { frames := 3, cells := 0, slots := 0, locals := 68 }
set_option maxRecDepth 100000 in
set_option maxHeartbeats 4000000 in
theorem c_X8_of (l : Launch) (g : Gp) (M : Mem) (oa : okA (aM M))  (x w : Int32) : Ki l g yX8_of cX8_of 3 .int rm_X8_of [.ref (gad g (40)), .int (x), .int (w)] M (fun r M' => (r, aM M') = F_of x w (aM M) ∧ sameM M M') := by
  refine Ki.of rfl rfl rfl (fun q C hret hcs => ?_)
  have o : okRow (vm M) := oa.1
  refine x_aload_n C dX8_of_0 rfl ?_
  refine x_iload_n C dX8_of_1 rfl ?_
  refine x_cvB C (k := 40) (c_X8_isEgg l g _ _ ) o_X8_isEgg mw_X8_122 rfl (C.lt rfl) rcv_40 rfl rfl rfl hcs dX8_of_2 (fun c2 => ?_) (fun c2 => ?_)
  · skip
    obtain ⟨he, ex, ht⟩ := eggP_tn c2
    refine x_if_eqF (tgt := 17) C dX8_of_5 (by decide) (by decide) ?_
    refine x_iload_n C dX8_of_8 rfl ?_
    refine x_iconst (v := 0) C dX8_of_9 (by decide) ?_
    refine x_iconst (v := 5) C dX8_of_10 (by decide) ?_
    refine x_csB C (c_X8_in1 l g _ _ _ _ ) o_X8_in1 mw_X8_59 rfl rfl rfl rfl hcs dX8_of_11 (fun c11 => ?_) (fun c11 => ?_)
    · skip
      refine x_if_neT (tgt := 23) C dX8_of_14 (by decide) (by decide) ?_
      refine x_iload_n C dX8_of_23 rfl ?_
      refine x_iconst (v := 4) C dX8_of_24 (by decide) ?_
      refine x_icmp_ge (tgt := 37) C dX8_of_25 (by decide) (fun c25 => ?_) (fun c25 => ?_)
      · skip
        refine x_iload_n C dX8_of_37 rfl ?_
        refine x_iconst (v := 4) C dX8_of_38 (by decide) ?_
        refine x_icmp_ne (tgt := 50) C dX8_of_39 (by decide) (fun c39 => ?_) (fun c39 => ?_)
        · skip
          refine x_aload_n C dX8_of_50 rfl ?_
          refine x_iload_n C dX8_of_51 rfl ?_
          refine x_iconst (v := 0) C dX8_of_52 (by decide) ?_
          refine x_cvE C (k := 40) (c_X8_get l g _ (e := (tn x)) (f := 0) ex he rfl (by decide) ) o_X8_get mw_X8_63 rfl (C.lt rfl) rcv_40 rfl rfl rfl hcs dX8_of_53 ?_
          refine x_csE C (c_X8_keepsBy l g _ _ ) o_X8_keepsBy mw_X8_84 rfl rfl rfl rfl hcs dX8_of_56 ?_
          refine hret _ _ _ _ dX8_of_59 rfl ?_
          refine pu_M0 ((ifp_t ⟨c2, c11⟩).trans ?_)
          first
            | (rw [if_pos c39]; rfl)
            | (rw [if_neg c39, if_pos (show w = 5 from by have := c11; clear hret hcs C; grind)]; rfl)
            | (rw [if_neg (show ¬ w = 4 from by clear hret hcs C; grind), if_neg (show ¬ w = 5 from by clear hret hcs C; grind)]; rfl)
        · skip
          refine x_aload_n C dX8_of_42 rfl ?_
          refine x_iload_n C dX8_of_43 rfl ?_
          refine x_cvE C (k := 40) (c_X8_minutes l g _ (e := (tn x)) ex he ) o_X8_minutes mw_X8_92 rfl (C.lt rfl) rcv_40 rfl rfl rfl hcs dX8_of_44 ?_
          refine x_goto (tgt := 59) C dX8_of_47 (by decide) ?_
          refine hret _ _ _ _ dX8_of_59 rfl ?_
          refine pu_M0 ((ifp_t ⟨c2, c11⟩).trans ?_)
          first
            | (rw [if_pos c39]; rfl)
            | (rw [if_neg c39, if_pos (show w = 5 from by have := c11; clear hret hcs C; grind)]; rfl)
            | (rw [if_neg (show ¬ w = 4 from by clear hret hcs C; grind), if_neg (show ¬ w = 5 from by clear hret hcs C; grind)]; rfl)
      · skip
        have qw := ix_tn (n := 4) (by decide) (show ¬ w < 0 ∧ w < 4 from ⟨Int32.not_lt.mpr c11.1, Int32.not_le.mp c25⟩)
        refine x_aload_n C dX8_of_28 rfl ?_
        refine x_iload_n C dX8_of_29 rfl ?_
        refine x_iload_n C dX8_of_30 rfl ?_
        refine x_cvE C (k := 40) (c_X8_get l g _ (e := (tn x)) (f := (tn w)) ex he qw.2 (by have := qw.1; omega) ) o_X8_get mw_X8_63 rfl (C.lt rfl) rcv_40 rfl rfl rfl hcs dX8_of_31 ?_
        refine x_goto (tgt := 59) C dX8_of_34 (by decide) ?_
        refine hret _ _ _ _ dX8_of_59 rfl ?_
        refine pu_M0 ((ifp_t ⟨c2, c11⟩).trans ?_)
        first
          | (rw [if_pos c39]; rfl)
          | (rw [if_neg c39, if_pos (show w = 5 from by have := c11; clear hret hcs C; grind)]; rfl)
          | (rw [if_neg (show ¬ w = 4 from by clear hret hcs C; grind), if_neg (show ¬ w = 5 from by clear hret hcs C; grind)]; rfl)
    · skip
      refine x_if_neF (tgt := 23) C dX8_of_14 (by decide) (by decide) ?_
      refine x_aload_n C dX8_of_17 rfl ?_
      refine x_iconst (v := 0) C dX8_of_18 (by decide) ?_
      refine x_cvi C (k := 40) (c_X8_no l g _ (k := 0) rfl (by decide) ) o_X8_no mw_X8_119 rfl (C.lt rfl) rcv_40 rfl rfl rfl hcs dX8_of_19 (fun rf M1 hf => ?_)
      refine hret _ _ _ _ dX8_of_22 rfl ?_
      exact fi_M (k := 0) (ifp_f (fun z => by first | exact c11 z.2 | exact c2 z.1)) hf rfl (by decide) rfl (same.rf)
  · skip
    refine x_if_eqT (tgt := 17) C dX8_of_5 (by decide) (by decide) ?_
    refine x_aload_n C dX8_of_17 rfl ?_
    refine x_iconst (v := 0) C dX8_of_18 (by decide) ?_
    refine x_cvi C (k := 40) (c_X8_no l g _ (k := 0) rfl (by decide) ) o_X8_no mw_X8_119 rfl (C.lt rfl) rcv_40 rfl rfl rfl hcs dX8_of_19 (fun rf M2 hf => ?_)
    refine hret _ _ _ _ dX8_of_22 rfl ?_
    exact fi_M (k := 0) (ifp_f (fun z => by first | exact c11 z.2 | exact c2 z.1)) hf rfl (by decide) rfl (same.rf)

def rm_X8_change : Room := { frames := 3, cells := 0, slots := 0, locals := 64 }
set_option maxRecDepth 100000 in
set_option maxHeartbeats 4000000 in
theorem c_X8_change (l : Launch) (g : Gp) (M : Mem) (oa : okA (aM M))  (x w v : Int32) : Ki l g yX8_change cX8_change 6 .int rm_X8_change [.ref (gad g (40)), .int (x), .int (w), .int (v)] M (fun r M' => (r, aM M') = F_change x w v (aM M) ∧ sameM M M') := by
  refine Ki.of rfl rfl rfl (fun q C hret hcs => ?_)
  have o : okRow (vm M) := oa.1
  have key : ∀ m : Int32, m = (if w = 0 then 6 else if w = 3 then 3 else 99) → X (kmk l rm_X8_change g 6 q) M 20 [some (.ref (gad g (40))), some (.int (x)), some (.int (w)), some (.int (v)), none, none] [.int (m)] := by
    intro m hm
    refine x_istore C dX8_change_20 rfl ?_
    refine x_aload_n C dX8_change_22 rfl ?_
    refine x_iload_n C dX8_change_23 rfl ?_
    refine x_cvB C (k := 40) (c_X8_isEgg l g _ _ ) o_X8_isEgg mw_X8_122 rfl (C.lt rfl) rcv_40 rfl rfl rfl hcs dX8_change_24 (fun c24 => ?_) (fun c24 => ?_)
    · skip
      obtain ⟨he, ex, ht⟩ := eggP_tn c24
      refine x_if_eqF (tgt := 58) C dX8_change_27 (by decide) (by decide) ?_
      refine x_iload_n C dX8_change_30 rfl ?_
      refine x_iconst (v := 0) C dX8_change_31 (by decide) ?_
      refine x_iconst (v := 3) C dX8_change_32 (by decide) ?_
      refine x_csB C (c_X8_in1 l g _ _ _ _ ) o_X8_in1 mw_X8_59 rfl rfl rfl rfl hcs dX8_change_33 (fun c33 => ?_) (fun c33 => ?_)
      · skip
        refine x_if_eqF (tgt := 58) C dX8_change_36 (by decide) (by decide) ?_
        refine x_iload_n C dX8_change_39 rfl ?_
        refine x_iload_n C dX8_change_40 rfl ?_
        refine x_iconst (v := 1) C dX8_change_41 (by decide) ?_
        refine x_icmp_ne (tgt := 49) C dX8_change_42 (by decide) (fun c42 => ?_) (fun c42 => ?_)
        · skip
          refine x_iconst (v := 0) C dX8_change_49 (by decide) ?_
          refine x_topE (y := (if w = 1 then 1 else 0)) (by first | rw [if_pos c42] | rw [if_neg c42]) ?_
          refine x_iload C dX8_change_50 rfl ?_
          refine x_csB C (c_X8_in1 l g _ _ _ _ ) o_X8_in1 mw_X8_59 rfl rfl rfl rfl hcs dX8_change_52 (fun c52 => ?_) (fun c52 => ?_)
          · skip
            have tk : takesP 0 w v := (tkM0 c33).mpr (by rw [← hm]; exact c52)
            refine x_if_neT (tgt := 64) C dX8_change_55 (by decide) (by decide) ?_
            refine x_aload_n C dX8_change_64 rfl ?_
            refine x_iload_n C dX8_change_65 rfl ?_
            refine x_iload_n C dX8_change_66 rfl ?_
            refine x_cvE C (k := 40) (c_X8_get l g _ (e := (tn x)) (f := (tn w)) ex he (in3 c33).2 (by have := (in3 c33).1; omega) ) o_X8_get mw_X8_63 rfl (C.lt rfl) rcv_40 rfl rfl rfl hcs dX8_change_67 ?_
            refine x_topE (y := eg (vm M) (tn x) (tn w)) (rfl) ?_
            refine x_istore C dX8_change_70 rfl ?_
            refine x_aload_n C dX8_change_72 rfl ?_
            refine x_iload_n C dX8_change_73 rfl ?_
            refine x_iload_n C dX8_change_74 rfl ?_
            refine x_iload_n C dX8_change_75 rfl ?_
            refine x_cvv C (k := 40) (c_X8_puts l g _ (e := (tn x)) (f := (tn w)) ex he (in3 c33).2 (by have := (in3 c33).1; omega) ) o_X8_puts mw_X8_105 rfl (C.lt rfl) rcv_40 rfl rfl rfl hcs dX8_change_76 (fun M1 h1 => ?_)
            refine x_iload C dX8_change_79 rfl ?_
            refine hret _ _ _ _ dX8_change_81 rfl ?_
            exact st_M (ifp_t ⟨c24, tk⟩) h1.1 (h1.2.mono (by simp [SC1]))
          · skip
            have tk : ¬ takesP 0 w v := fun z => c52 (by rw [hm]; exact (tkM0 c33).mp z)
            refine x_if_neF (tgt := 64) C dX8_change_55 (by decide) (by decide) ?_
            refine x_aload_n C dX8_change_58 rfl ?_
            refine x_iconst (v := 0) C dX8_change_59 (by decide) ?_
            refine x_cvi C (k := 40) (c_X8_no l g _ (k := 0) rfl (by decide) ) o_X8_no mw_X8_119 rfl (C.lt rfl) rcv_40 rfl rfl rfl hcs dX8_change_60 (fun rf M1 hf => ?_)
            refine hret _ _ _ _ dX8_change_63 rfl ?_
            exact fi_M (k := 0) (ifp_f (fun z => by first | exact tk z.2 | exact c33 (tk_in z.2) | exact c24 z.1)) hf rfl (by decide) rfl (same.rf)
        · skip
          refine x_iconst (v := 1) C dX8_change_45 (by decide) ?_
          refine x_goto (tgt := 50) C dX8_change_46 (by decide) ?_
          refine x_topE (y := (if w = 1 then 1 else 0)) (by first | rw [if_pos c42] | rw [if_neg c42]) ?_
          refine x_iload C dX8_change_50 rfl ?_
          refine x_csB C (c_X8_in1 l g _ _ _ _ ) o_X8_in1 mw_X8_59 rfl rfl rfl rfl hcs dX8_change_52 (fun c52 => ?_) (fun c52 => ?_)
          · skip
            have tk : takesP 0 w v := (tkM0 c33).mpr (by rw [← hm]; exact c52)
            refine x_if_neT (tgt := 64) C dX8_change_55 (by decide) (by decide) ?_
            refine x_aload_n C dX8_change_64 rfl ?_
            refine x_iload_n C dX8_change_65 rfl ?_
            refine x_iload_n C dX8_change_66 rfl ?_
            refine x_cvE C (k := 40) (c_X8_get l g _ (e := (tn x)) (f := (tn w)) ex he (in3 c33).2 (by have := (in3 c33).1; omega) ) o_X8_get mw_X8_63 rfl (C.lt rfl) rcv_40 rfl rfl rfl hcs dX8_change_67 ?_
            refine x_topE (y := eg (vm M) (tn x) (tn w)) (rfl) ?_
            refine x_istore C dX8_change_70 rfl ?_
            refine x_aload_n C dX8_change_72 rfl ?_
            refine x_iload_n C dX8_change_73 rfl ?_
            refine x_iload_n C dX8_change_74 rfl ?_
            refine x_iload_n C dX8_change_75 rfl ?_
            refine x_cvv C (k := 40) (c_X8_puts l g _ (e := (tn x)) (f := (tn w)) ex he (in3 c33).2 (by have := (in3 c33).1; omega) ) o_X8_puts mw_X8_105 rfl (C.lt rfl) rcv_40 rfl rfl rfl hcs dX8_change_76 (fun M1 h1 => ?_)
            refine x_iload C dX8_change_79 rfl ?_
            refine hret _ _ _ _ dX8_change_81 rfl ?_
            exact st_M (ifp_t ⟨c24, tk⟩) h1.1 (h1.2.mono (by simp [SC1]))
          · skip
            have tk : ¬ takesP 0 w v := fun z => c52 (by rw [hm]; exact (tkM0 c33).mp z)
            refine x_if_neF (tgt := 64) C dX8_change_55 (by decide) (by decide) ?_
            refine x_aload_n C dX8_change_58 rfl ?_
            refine x_iconst (v := 0) C dX8_change_59 (by decide) ?_
            refine x_cvi C (k := 40) (c_X8_no l g _ (k := 0) rfl (by decide) ) o_X8_no mw_X8_119 rfl (C.lt rfl) rcv_40 rfl rfl rfl hcs dX8_change_60 (fun rf M2 hf => ?_)
            refine hret _ _ _ _ dX8_change_63 rfl ?_
            exact fi_M (k := 0) (ifp_f (fun z => by first | exact tk z.2 | exact c33 (tk_in z.2) | exact c24 z.1)) hf rfl (by decide) rfl (same.rf)
      · skip
        refine x_if_eqT (tgt := 58) C dX8_change_36 (by decide) (by decide) ?_
        refine x_aload_n C dX8_change_58 rfl ?_
        refine x_iconst (v := 0) C dX8_change_59 (by decide) ?_
        refine x_cvi C (k := 40) (c_X8_no l g _ (k := 0) rfl (by decide) ) o_X8_no mw_X8_119 rfl (C.lt rfl) rcv_40 rfl rfl rfl hcs dX8_change_60 (fun rf M3 hf => ?_)
        refine hret _ _ _ _ dX8_change_63 rfl ?_
        exact fi_M (k := 0) (ifp_f (fun z => by first | exact tk z.2 | exact c33 (tk_in z.2) | exact c24 z.1)) hf rfl (by decide) rfl (same.rf)
    · skip
      refine x_if_eqT (tgt := 58) C dX8_change_27 (by decide) (by decide) ?_
      refine x_aload_n C dX8_change_58 rfl ?_
      refine x_iconst (v := 0) C dX8_change_59 (by decide) ?_
      refine x_cvi C (k := 40) (c_X8_no l g _ (k := 0) rfl (by decide) ) o_X8_no mw_X8_119 rfl (C.lt rfl) rcv_40 rfl rfl rfl hcs dX8_change_60 (fun rf M4 hf => ?_)
      refine hret _ _ _ _ dX8_change_63 rfl ?_
      exact fi_M (k := 0) (ifp_f (fun z => by first | exact tk z.2 | exact c33 (tk_in z.2) | exact c24 z.1)) hf rfl (by decide) rfl (same.rf)
  refine x_iload_n C dX8_change_0 rfl ?_
  refine x_if_ne (tgt := 9) C dX8_change_1 (by decide) (fun c1 => ?_) (fun c1 => ?_)
  · skip
    refine x_iload_n C dX8_change_9 rfl ?_
    refine x_iconst (v := 3) C dX8_change_10 (by decide) ?_
    refine x_icmp_ne (tgt := 18) C dX8_change_11 (by decide) (fun c11 => ?_) (fun c11 => ?_)
    · skip
      refine x_bipush (v := 99) C dX8_change_18 (by decide) ?_
      exact key _ (by clear hret hcs C; grind)
    · skip
      refine x_iconst (v := 3) C dX8_change_14 (by decide) ?_
      refine x_goto (tgt := 20) C dX8_change_15 (by decide) ?_
      exact key _ (by clear hret hcs C; grind)
  · skip
    refine x_bipush (v := 6) C dX8_change_4 (by decide) ?_
    refine x_goto (tgt := 20) C dX8_change_6 (by decide) ?_
    exact key _ (by clear hret hcs C; grind)

def rm_X8_hen : Room := { frames := 2, cells := 0, slots := 0, locals := 42 }
set_option maxRecDepth 100000 in
set_option maxHeartbeats 4000000 in
theorem c_X8_hen (l : Launch) (g : Gp) (M : Mem) (oa : okA (aM M))  (x w v : Int32) : Ki l g yX8_hen cX8_hen 6 .int rm_X8_hen [.ref (gad g (40)), .int (x), .int (w), .int (v)] M (fun r M' => (r, aM M') = F_hen x w v (aM M) ∧ sameM M M') := by
  refine Ki.of rfl rfl rfl (fun q C hret hcs => ?_)
  have o : okRow (vm M) := oa.1
  have key : ∀ m : Int32, m = (if w = 0 then 30 else if w = 1 then 6 else if w = 2 then 99 else 3) → X (kmk l rm_X8_hen g 6 q) M 30 [some (.ref (gad g (40))), some (.int (x)), some (.int (w)), some (.int (v)), none, none] [.int (m)] := by
    intro m hm
    refine x_istore C dX8_hen_30 rfl ?_
    refine x_iload_n C dX8_hen_32 rfl ?_
    refine x_csB C (c_X8_isHen l g _ _ ) o_X8_isHen mw_X8_125 rfl rfl rfl rfl hcs dX8_hen_33 (fun c33 => ?_) (fun c33 => ?_)
    · skip
      have qx := ix_tn (n := 4) (by decide) c33
      refine x_if_eqF (tgt := 67) C dX8_hen_36 (by decide) (by decide) ?_
      refine x_iload_n C dX8_hen_39 rfl ?_
      refine x_iconst (v := 0) C dX8_hen_40 (by decide) ?_
      refine x_iconst (v := 3) C dX8_hen_41 (by decide) ?_
      refine x_csB C (c_X8_in1 l g _ _ _ _ ) o_X8_in1 mw_X8_59 rfl rfl rfl rfl hcs dX8_hen_42 (fun c42 => ?_) (fun c42 => ?_)
      · skip
        refine x_if_eqF (tgt := 67) C dX8_hen_45 (by decide) (by decide) ?_
        refine x_iload_n C dX8_hen_48 rfl ?_
        refine x_iload_n C dX8_hen_49 rfl ?_
        refine x_iconst (v := 2) C dX8_hen_50 (by decide) ?_
        refine x_icmp_ne (tgt := 58) C dX8_hen_51 (by decide) (fun c51 => ?_) (fun c51 => ?_)
        · skip
          refine x_iconst (v := 0) C dX8_hen_58 (by decide) ?_
          refine x_topE (y := (if w = 2 then 1 else 0)) (by first | rw [if_pos c51] | rw [if_neg c51]) ?_
          refine x_iload C dX8_hen_59 rfl ?_
          refine x_csB C (c_X8_in1 l g _ _ _ _ ) o_X8_in1 mw_X8_59 rfl rfl rfl rfl hcs dX8_hen_61 (fun c61 => ?_) (fun c61 => ?_)
          · skip
            have tk : takesP 1 w v := (tkM1 c42).mpr (by rw [← hm]; exact c61)
            refine x_if_neT (tgt := 73) C dX8_hen_64 (by decide) (by decide) ?_
            refine x_aload_n C dX8_hen_73 rfl ?_
            refine x_iload_n C dX8_hen_74 rfl ?_
            refine x_iload_n C dX8_hen_75 rfl ?_
            refine x_cvE C (k := 40) (c_X8_hens l g _ (e := (tn x)) (f := (tn w)) qx.2 qx.1 (in3 c42).2 (in3 c42).1 ) o_X8_hens mw_X8_113 rfl (C.lt rfl) rcv_40 rfl rfl rfl hcs dX8_hen_76 ?_
            refine x_topE (y := hn (vm M) (tn x) (tn w)) (rfl) ?_
            refine x_istore C dX8_hen_79 rfl ?_
            refine x_aload_n C dX8_hen_81 rfl ?_
            refine x_getf (k := 40) C bk_X8 (C.lt rfl) rfl ent_40 0 fw_X8_9 rfl rfl dX8_hen_82 ?_
            refine x_bipush (v := 43) C dX8_hen_85 (by decide) ?_
            refine x_iconst (v := 4) C dX8_hen_87 (by decide) ?_
            refine x_iload_n C dX8_hen_88 rfl ?_
            refine x_imul C dX8_hen_89 ?_
            refine x_iadd C dX8_hen_90 ?_
            refine x_iload_n C dX8_hen_91 rfl ?_
            refine x_iadd C dX8_hen_92 ?_
            refine x_iload_n C dX8_hen_93 rfl ?_
            refine x_iast (j := 43 + 4 * tn x + tn w) (k := 41) C (C.lt rfl) rfl ent_41 (ix_h qx.2 (in3 c42).2) (by have := qx.1; have := (in3 c42).1; omega) rfl dX8_hen_94 ?_
            refine x_memI (fun M1 eM1 => ?_)
            refine x_iload C dX8_hen_95 rfl ?_
            refine hret _ _ _ _ dX8_hen_97 rfl ?_
            exact st_M (ifp_t ⟨c33, tk⟩) (by rw [eM1]; exact vm_up (by have := qx.1; have := (in3 c42).1; omega)) (by rw [eM1]; exact same.up (by simp [SC1]))
          · skip
            have tk : ¬ takesP 1 w v := fun z => c61 (by rw [hm]; exact (tkM1 c42).mp z)
            refine x_if_neF (tgt := 73) C dX8_hen_64 (by decide) (by decide) ?_
            refine x_aload_n C dX8_hen_67 rfl ?_
            refine x_iconst (v := 0) C dX8_hen_68 (by decide) ?_
            refine x_cvi C (k := 40) (c_X8_no l g _ (k := 0) rfl (by decide) ) o_X8_no mw_X8_119 rfl (C.lt rfl) rcv_40 rfl rfl rfl hcs dX8_hen_69 (fun rf M1 hf => ?_)
            refine hret _ _ _ _ dX8_hen_72 rfl ?_
            exact fi_M (k := 0) (ifp_f (fun z => by first | exact tk z.2 | exact c42 (tk_in z.2) | exact c33 z.1)) hf rfl (by decide) rfl (same.rf)
        · skip
          refine x_iconst (v := 1) C dX8_hen_54 (by decide) ?_
          refine x_goto (tgt := 59) C dX8_hen_55 (by decide) ?_
          refine x_topE (y := (if w = 2 then 1 else 0)) (by first | rw [if_pos c51] | rw [if_neg c51]) ?_
          refine x_iload C dX8_hen_59 rfl ?_
          refine x_csB C (c_X8_in1 l g _ _ _ _ ) o_X8_in1 mw_X8_59 rfl rfl rfl rfl hcs dX8_hen_61 (fun c61 => ?_) (fun c61 => ?_)
          · skip
            have tk : takesP 1 w v := (tkM1 c42).mpr (by rw [← hm]; exact c61)
            refine x_if_neT (tgt := 73) C dX8_hen_64 (by decide) (by decide) ?_
            refine x_aload_n C dX8_hen_73 rfl ?_
            refine x_iload_n C dX8_hen_74 rfl ?_
            refine x_iload_n C dX8_hen_75 rfl ?_
            refine x_cvE C (k := 40) (c_X8_hens l g _ (e := (tn x)) (f := (tn w)) qx.2 qx.1 (in3 c42).2 (in3 c42).1 ) o_X8_hens mw_X8_113 rfl (C.lt rfl) rcv_40 rfl rfl rfl hcs dX8_hen_76 ?_
            refine x_topE (y := hn (vm M) (tn x) (tn w)) (rfl) ?_
            refine x_istore C dX8_hen_79 rfl ?_
            refine x_aload_n C dX8_hen_81 rfl ?_
            refine x_getf (k := 40) C bk_X8 (C.lt rfl) rfl ent_40 0 fw_X8_9 rfl rfl dX8_hen_82 ?_
            refine x_bipush (v := 43) C dX8_hen_85 (by decide) ?_
            refine x_iconst (v := 4) C dX8_hen_87 (by decide) ?_
            refine x_iload_n C dX8_hen_88 rfl ?_
            refine x_imul C dX8_hen_89 ?_
            refine x_iadd C dX8_hen_90 ?_
            refine x_iload_n C dX8_hen_91 rfl ?_
            refine x_iadd C dX8_hen_92 ?_
            refine x_iload_n C dX8_hen_93 rfl ?_
            refine x_iast (j := 43 + 4 * tn x + tn w) (k := 41) C (C.lt rfl) rfl ent_41 (ix_h qx.2 (in3 c42).2) (by have := qx.1; have := (in3 c42).1; omega) rfl dX8_hen_94 ?_
            refine x_memI (fun M1 eM1 => ?_)
            refine x_iload C dX8_hen_95 rfl ?_
            refine hret _ _ _ _ dX8_hen_97 rfl ?_
            exact st_M (ifp_t ⟨c33, tk⟩) (by rw [eM1]; exact vm_up (by have := qx.1; have := (in3 c42).1; omega)) (by rw [eM1]; exact same.up (by simp [SC1]))
          · skip
            have tk : ¬ takesP 1 w v := fun z => c61 (by rw [hm]; exact (tkM1 c42).mp z)
            refine x_if_neF (tgt := 73) C dX8_hen_64 (by decide) (by decide) ?_
            refine x_aload_n C dX8_hen_67 rfl ?_
            refine x_iconst (v := 0) C dX8_hen_68 (by decide) ?_
            refine x_cvi C (k := 40) (c_X8_no l g _ (k := 0) rfl (by decide) ) o_X8_no mw_X8_119 rfl (C.lt rfl) rcv_40 rfl rfl rfl hcs dX8_hen_69 (fun rf M2 hf => ?_)
            refine hret _ _ _ _ dX8_hen_72 rfl ?_
            exact fi_M (k := 0) (ifp_f (fun z => by first | exact tk z.2 | exact c42 (tk_in z.2) | exact c33 z.1)) hf rfl (by decide) rfl (same.rf)
      · skip
        refine x_if_eqT (tgt := 67) C dX8_hen_45 (by decide) (by decide) ?_
        refine x_aload_n C dX8_hen_67 rfl ?_
        refine x_iconst (v := 0) C dX8_hen_68 (by decide) ?_
        refine x_cvi C (k := 40) (c_X8_no l g _ (k := 0) rfl (by decide) ) o_X8_no mw_X8_119 rfl (C.lt rfl) rcv_40 rfl rfl rfl hcs dX8_hen_69 (fun rf M3 hf => ?_)
        refine hret _ _ _ _ dX8_hen_72 rfl ?_
        exact fi_M (k := 0) (ifp_f (fun z => by first | exact tk z.2 | exact c42 (tk_in z.2) | exact c33 z.1)) hf rfl (by decide) rfl (same.rf)
    · skip
      refine x_if_eqT (tgt := 67) C dX8_hen_36 (by decide) (by decide) ?_
      refine x_aload_n C dX8_hen_67 rfl ?_
      refine x_iconst (v := 0) C dX8_hen_68 (by decide) ?_
      refine x_cvi C (k := 40) (c_X8_no l g _ (k := 0) rfl (by decide) ) o_X8_no mw_X8_119 rfl (C.lt rfl) rcv_40 rfl rfl rfl hcs dX8_hen_69 (fun rf M4 hf => ?_)
      refine hret _ _ _ _ dX8_hen_72 rfl ?_
      exact fi_M (k := 0) (ifp_f (fun z => by first | exact tk z.2 | exact c42 (tk_in z.2) | exact c33 z.1)) hf rfl (by decide) rfl (same.rf)
  refine x_iload_n C dX8_hen_0 rfl ?_
  refine x_if_ne (tgt := 9) C dX8_hen_1 (by decide) (fun c1 => ?_) (fun c1 => ?_)
  · skip
    refine x_iload_n C dX8_hen_9 rfl ?_
    refine x_iconst (v := 1) C dX8_hen_10 (by decide) ?_
    refine x_icmp_ne (tgt := 19) C dX8_hen_11 (by decide) (fun c11 => ?_) (fun c11 => ?_)
    · skip
      refine x_iload_n C dX8_hen_19 rfl ?_
      refine x_iconst (v := 2) C dX8_hen_20 (by decide) ?_
      refine x_icmp_ne (tgt := 29) C dX8_hen_21 (by decide) (fun c21 => ?_) (fun c21 => ?_)
      · skip
        refine x_iconst (v := 3) C dX8_hen_29 (by decide) ?_
        exact key _ (by clear hret hcs C; grind)
      · skip
        refine x_bipush (v := 99) C dX8_hen_24 (by decide) ?_
        refine x_goto (tgt := 30) C dX8_hen_26 (by decide) ?_
        exact key _ (by clear hret hcs C; grind)
    · skip
      refine x_bipush (v := 6) C dX8_hen_14 (by decide) ?_
      refine x_goto (tgt := 30) C dX8_hen_16 (by decide) ?_
      exact key _ (by clear hret hcs C; grind)
  · skip
    refine x_bipush (v := 30) C dX8_hen_4 (by decide) ?_
    refine x_goto (tgt := 30) C dX8_hen_6 (by decide) ?_
    exact key _ (by clear hret hcs C; grind)

def rm_X8_work : Room := { frames := 2, cells := 0, slots := 0, locals := 42 }
set_option maxRecDepth 100000 in
set_option maxHeartbeats 4000000 in
theorem c_X8_work (l : Launch) (g : Gp) (M : Mem) (oa : okA (aM M))  (x w v : Int32) : Ki l g yX8_work cX8_work 6 .int rm_X8_work [.ref (gad g (40)), .int (x), .int (w), .int (v)] M (fun r M' => (r, aM M') = F_work x w v (aM M) ∧ sameM M M') := by
  refine Ki.of rfl rfl rfl (fun q C hret hcs => ?_)
  have o : okRow (vm M) := oa.1
  have key : ∀ m : Int32, m = (if w = 0 then 999 else if w = 1 then 99999 else if w = 2 then 99 else 9999) → X (kmk l rm_X8_work g 6 q) M 33 [some (.ref (gad g (40))), some (.int (x)), some (.int (w)), some (.int (v)), none, none] [.int (m)] := by
    intro m hm
    refine x_istore C dX8_work_33 rfl ?_
    refine x_iload_n C dX8_work_35 rfl ?_
    refine x_csB C (c_X8_isWork l g _ _ ) o_X8_isWork mw_X8_128 rfl rfl rfl rfl hcs dX8_work_36 (fun c36 => ?_) (fun c36 => ?_)
    · skip
      have qx := ix_tn (n := 6) (by decide) c36
      refine x_if_eqF (tgt := 72) C dX8_work_39 (by decide) (by decide) ?_
      refine x_iload_n C dX8_work_42 rfl ?_
      refine x_iconst (v := 0) C dX8_work_43 (by decide) ?_
      refine x_iconst (v := 3) C dX8_work_44 (by decide) ?_
      refine x_csB C (c_X8_in1 l g _ _ _ _ ) o_X8_in1 mw_X8_59 rfl rfl rfl rfl hcs dX8_work_45 (fun c45 => ?_) (fun c45 => ?_)
      · skip
        refine x_if_eqF (tgt := 72) C dX8_work_48 (by decide) (by decide) ?_
        refine x_iload_n C dX8_work_51 rfl ?_
        refine x_iload_n C dX8_work_52 rfl ?_
        refine x_iconst (v := 3) C dX8_work_53 (by decide) ?_
        refine x_icmp_ne (tgt := 63) C dX8_work_54 (by decide) (fun c54 => ?_) (fun c54 => ?_)
        · skip
          refine x_iconst (v := 0) C dX8_work_63 (by decide) ?_
          refine x_topE (y := (if w = 3 then -9999 else 0)) (by first | rw [if_pos c54] | rw [if_neg c54]) ?_
          refine x_iload C dX8_work_64 rfl ?_
          refine x_csB C (c_X8_in1 l g _ _ _ _ ) o_X8_in1 mw_X8_59 rfl rfl rfl rfl hcs dX8_work_66 (fun c66 => ?_) (fun c66 => ?_)
          · skip
            have tk : takesP 2 w v := (tkM2 c45).mpr (by rw [← hm]; exact c66)
            refine x_if_neT (tgt := 78) C dX8_work_69 (by decide) (by decide) ?_
            refine x_aload_n C dX8_work_78 rfl ?_
            refine x_iload_n C dX8_work_79 rfl ?_
            refine x_iload_n C dX8_work_80 rfl ?_
            refine x_cvE C (k := 40) (c_X8_works l g _ (e := (tn x)) (f := (tn w)) qx.2 qx.1 (in3 c45).2 (in3 c45).1 ) o_X8_works mw_X8_131 rfl (C.lt rfl) rcv_40 rfl rfl rfl hcs dX8_work_81 ?_
            refine x_topE (y := wk (vm M) (tn x) (tn w)) (rfl) ?_
            refine x_istore C dX8_work_84 rfl ?_
            refine x_aload_n C dX8_work_86 rfl ?_
            refine x_getf (k := 40) C bk_X8 (C.lt rfl) rfl ent_40 0 fw_X8_9 rfl rfl dX8_work_87 ?_
            refine x_bipush (v := 59) C dX8_work_90 (by decide) ?_
            refine x_iconst (v := 4) C dX8_work_92 (by decide) ?_
            refine x_iload_n C dX8_work_93 rfl ?_
            refine x_imul C dX8_work_94 ?_
            refine x_iadd C dX8_work_95 ?_
            refine x_iload_n C dX8_work_96 rfl ?_
            refine x_iadd C dX8_work_97 ?_
            refine x_iload_n C dX8_work_98 rfl ?_
            refine x_iast (j := 59 + 4 * tn x + tn w) (k := 41) C (C.lt rfl) rfl ent_41 (ix_w qx.2 (in3 c45).2) (by have := qx.1; have := (in3 c45).1; omega) rfl dX8_work_99 ?_
            refine x_memI (fun M1 eM1 => ?_)
            refine x_iload C dX8_work_100 rfl ?_
            refine hret _ _ _ _ dX8_work_102 rfl ?_
            exact st_M (ifp_t ⟨c36, tk⟩) (by rw [eM1]; exact vm_up (by have := qx.1; have := (in3 c45).1; omega)) (by rw [eM1]; exact same.up (by simp [SC1]))
          · skip
            have tk : ¬ takesP 2 w v := fun z => c66 (by rw [hm]; exact (tkM2 c45).mp z)
            refine x_if_neF (tgt := 78) C dX8_work_69 (by decide) (by decide) ?_
            refine x_aload_n C dX8_work_72 rfl ?_
            refine x_iconst (v := 0) C dX8_work_73 (by decide) ?_
            refine x_cvi C (k := 40) (c_X8_no l g _ (k := 0) rfl (by decide) ) o_X8_no mw_X8_119 rfl (C.lt rfl) rcv_40 rfl rfl rfl hcs dX8_work_74 (fun rf M1 hf => ?_)
            refine hret _ _ _ _ dX8_work_77 rfl ?_
            exact fi_M (k := 0) (ifp_f (fun z => by first | exact tk z.2 | exact c45 (tk_in z.2) | exact c36 z.1)) hf rfl (by decide) rfl (same.rf)
        · skip
          refine x_sipush (v := -9999) C dX8_work_57 (by decide) ?_
          refine x_goto (tgt := 64) C dX8_work_60 (by decide) ?_
          refine x_topE (y := (if w = 3 then -9999 else 0)) (by first | rw [if_pos c54] | rw [if_neg c54]) ?_
          refine x_iload C dX8_work_64 rfl ?_
          refine x_csB C (c_X8_in1 l g _ _ _ _ ) o_X8_in1 mw_X8_59 rfl rfl rfl rfl hcs dX8_work_66 (fun c66 => ?_) (fun c66 => ?_)
          · skip
            have tk : takesP 2 w v := (tkM2 c45).mpr (by rw [← hm]; exact c66)
            refine x_if_neT (tgt := 78) C dX8_work_69 (by decide) (by decide) ?_
            refine x_aload_n C dX8_work_78 rfl ?_
            refine x_iload_n C dX8_work_79 rfl ?_
            refine x_iload_n C dX8_work_80 rfl ?_
            refine x_cvE C (k := 40) (c_X8_works l g _ (e := (tn x)) (f := (tn w)) qx.2 qx.1 (in3 c45).2 (in3 c45).1 ) o_X8_works mw_X8_131 rfl (C.lt rfl) rcv_40 rfl rfl rfl hcs dX8_work_81 ?_
            refine x_topE (y := wk (vm M) (tn x) (tn w)) (rfl) ?_
            refine x_istore C dX8_work_84 rfl ?_
            refine x_aload_n C dX8_work_86 rfl ?_
            refine x_getf (k := 40) C bk_X8 (C.lt rfl) rfl ent_40 0 fw_X8_9 rfl rfl dX8_work_87 ?_
            refine x_bipush (v := 59) C dX8_work_90 (by decide) ?_
            refine x_iconst (v := 4) C dX8_work_92 (by decide) ?_
            refine x_iload_n C dX8_work_93 rfl ?_
            refine x_imul C dX8_work_94 ?_
            refine x_iadd C dX8_work_95 ?_
            refine x_iload_n C dX8_work_96 rfl ?_
            refine x_iadd C dX8_work_97 ?_
            refine x_iload_n C dX8_work_98 rfl ?_
            refine x_iast (j := 59 + 4 * tn x + tn w) (k := 41) C (C.lt rfl) rfl ent_41 (ix_w qx.2 (in3 c45).2) (by have := qx.1; have := (in3 c45).1; omega) rfl dX8_work_99 ?_
            refine x_memI (fun M1 eM1 => ?_)
            refine x_iload C dX8_work_100 rfl ?_
            refine hret _ _ _ _ dX8_work_102 rfl ?_
            exact st_M (ifp_t ⟨c36, tk⟩) (by rw [eM1]; exact vm_up (by have := qx.1; have := (in3 c45).1; omega)) (by rw [eM1]; exact same.up (by simp [SC1]))
          · skip
            have tk : ¬ takesP 2 w v := fun z => c66 (by rw [hm]; exact (tkM2 c45).mp z)
            refine x_if_neF (tgt := 78) C dX8_work_69 (by decide) (by decide) ?_
            refine x_aload_n C dX8_work_72 rfl ?_
            refine x_iconst (v := 0) C dX8_work_73 (by decide) ?_
            refine x_cvi C (k := 40) (c_X8_no l g _ (k := 0) rfl (by decide) ) o_X8_no mw_X8_119 rfl (C.lt rfl) rcv_40 rfl rfl rfl hcs dX8_work_74 (fun rf M2 hf => ?_)
            refine hret _ _ _ _ dX8_work_77 rfl ?_
            exact fi_M (k := 0) (ifp_f (fun z => by first | exact tk z.2 | exact c45 (tk_in z.2) | exact c36 z.1)) hf rfl (by decide) rfl (same.rf)
      · skip
        refine x_if_eqT (tgt := 72) C dX8_work_48 (by decide) (by decide) ?_
        refine x_aload_n C dX8_work_72 rfl ?_
        refine x_iconst (v := 0) C dX8_work_73 (by decide) ?_
        refine x_cvi C (k := 40) (c_X8_no l g _ (k := 0) rfl (by decide) ) o_X8_no mw_X8_119 rfl (C.lt rfl) rcv_40 rfl rfl rfl hcs dX8_work_74 (fun rf M3 hf => ?_)
        refine hret _ _ _ _ dX8_work_77 rfl ?_
        exact fi_M (k := 0) (ifp_f (fun z => by first | exact tk z.2 | exact c45 (tk_in z.2) | exact c36 z.1)) hf rfl (by decide) rfl (same.rf)
    · skip
      refine x_if_eqT (tgt := 72) C dX8_work_39 (by decide) (by decide) ?_
      refine x_aload_n C dX8_work_72 rfl ?_
      refine x_iconst (v := 0) C dX8_work_73 (by decide) ?_
      refine x_cvi C (k := 40) (c_X8_no l g _ (k := 0) rfl (by decide) ) o_X8_no mw_X8_119 rfl (C.lt rfl) rcv_40 rfl rfl rfl hcs dX8_work_74 (fun rf M4 hf => ?_)
      refine hret _ _ _ _ dX8_work_77 rfl ?_
      exact fi_M (k := 0) (ifp_f (fun z => by first | exact tk z.2 | exact c45 (tk_in z.2) | exact c36 z.1)) hf rfl (by decide) rfl (same.rf)
  refine x_iload_n C dX8_work_0 rfl ?_
  refine x_if_ne (tgt := 10) C dX8_work_1 (by decide) (fun c1 => ?_) (fun c1 => ?_)
  · skip
    refine x_iload_n C dX8_work_10 rfl ?_
    refine x_iconst (v := 1) C dX8_work_11 (by decide) ?_
    refine x_icmp_ne (tgt := 20) C dX8_work_12 (by decide) (fun c12 => ?_) (fun c12 => ?_)
    · skip
      refine x_iload_n C dX8_work_20 rfl ?_
      refine x_iconst (v := 2) C dX8_work_21 (by decide) ?_
      refine x_icmp_ne (tgt := 30) C dX8_work_22 (by decide) (fun c22 => ?_) (fun c22 => ?_)
      · skip
        refine x_sipush (v := 9999) C dX8_work_30 (by decide) ?_
        exact key _ (by clear hret hcs C; grind)
      · skip
        refine x_bipush (v := 99) C dX8_work_25 (by decide) ?_
        refine x_goto (tgt := 33) C dX8_work_27 (by decide) ?_
        exact key _ (by clear hret hcs C; grind)
    · skip
      refine x_ldc C kw_X8_57 dX8_work_15 ?_
      refine x_goto (tgt := 33) C dX8_work_17 (by decide) ?_
      exact key _ (by clear hret hcs C; grind)
  · skip
    refine x_sipush (v := 999) C dX8_work_4 (by decide) ?_
    refine x_goto (tgt := 33) C dX8_work_7 (by decide) ?_
    exact key _ (by clear hret hcs C; grind)

def rm_X8_henOf : Room := { frames := 2, cells := 0, slots := 0, locals := 42 }
set_option maxRecDepth 100000 in
set_option maxHeartbeats 4000000 in
theorem c_X8_henOf (l : Launch) (g : Gp) (M : Mem) (oa : okA (aM M))  (x w : Int32) : Ki l g yX8_henOf cX8_henOf 3 .int rm_X8_henOf [.ref (gad g (40)), .int (x), .int (w)] M (fun r M' => (r, aM M') = F_henOf x w (aM M) ∧ sameM M M') := by
  refine Ki.of rfl rfl rfl (fun q C hret hcs => ?_)
  have o : okRow (vm M) := oa.1
  refine x_iload_n C dX8_henOf_0 rfl ?_
  refine x_csB C (c_X8_isHen l g _ _ ) o_X8_isHen mw_X8_125 rfl rfl rfl rfl hcs dX8_henOf_1 (fun c1 => ?_) (fun c1 => ?_)
  · skip
    have qx := ix_tn (n := 4) (by decide) c1
    refine x_if_eqF (tgt := 25) C dX8_henOf_4 (by decide) (by decide) ?_
    refine x_iload_n C dX8_henOf_7 rfl ?_
    refine x_iconst (v := 0) C dX8_henOf_8 (by decide) ?_
    refine x_iconst (v := 3) C dX8_henOf_9 (by decide) ?_
    refine x_csB C (c_X8_in1 l g _ _ _ _ ) o_X8_in1 mw_X8_59 rfl rfl rfl rfl hcs dX8_henOf_10 (fun c10 => ?_) (fun c10 => ?_)
    · skip
      refine x_if_eqF (tgt := 25) C dX8_henOf_13 (by decide) (by decide) ?_
      refine x_aload_n C dX8_henOf_16 rfl ?_
      refine x_iload_n C dX8_henOf_17 rfl ?_
      refine x_iload_n C dX8_henOf_18 rfl ?_
      refine x_cvE C (k := 40) (c_X8_hens l g _ (e := (tn x)) (f := (tn w)) qx.2 qx.1 (in3 c10).2 (in3 c10).1 ) o_X8_hens mw_X8_113 rfl (C.lt rfl) rcv_40 rfl rfl rfl hcs dX8_henOf_19 ?_
      refine x_topE (y := hn (vm M) (tn x) (tn w)) (rfl) ?_
      refine x_goto (tgt := 30) C dX8_henOf_22 (by decide) ?_
      refine hret _ _ _ _ dX8_henOf_30 rfl ?_
      exact pu_M0 (ifp_t ⟨c1, by have := c10; clear hret hcs C; grind⟩)
    · skip
      refine x_if_eqT (tgt := 25) C dX8_henOf_13 (by decide) (by decide) ?_
      refine x_aload_n C dX8_henOf_25 rfl ?_
      refine x_iconst (v := 0) C dX8_henOf_26 (by decide) ?_
      refine x_cvi C (k := 40) (c_X8_no l g _ (k := 0) rfl (by decide) ) o_X8_no mw_X8_119 rfl (C.lt rfl) rcv_40 rfl rfl rfl hcs dX8_henOf_27 (fun rf M1 hf => ?_)
      refine hret _ _ _ _ dX8_henOf_30 rfl ?_
      exact fi_M (k := 0) (ifp_f (fun z => by first | exact c10 (by have := z.2; clear hret hcs C hf; grind) | exact c1 z.1)) hf rfl (by decide) rfl (same.rf)
  · skip
    refine x_if_eqT (tgt := 25) C dX8_henOf_4 (by decide) (by decide) ?_
    refine x_aload_n C dX8_henOf_25 rfl ?_
    refine x_iconst (v := 0) C dX8_henOf_26 (by decide) ?_
    refine x_cvi C (k := 40) (c_X8_no l g _ (k := 0) rfl (by decide) ) o_X8_no mw_X8_119 rfl (C.lt rfl) rcv_40 rfl rfl rfl hcs dX8_henOf_27 (fun rf M2 hf => ?_)
    refine hret _ _ _ _ dX8_henOf_30 rfl ?_
    exact fi_M (k := 0) (ifp_f (fun z => by first | exact c10 (by have := z.2; clear hret hcs C hf; grind) | exact c1 z.1)) hf rfl (by decide) rfl (same.rf)

def rm_X8_workOf : Room := { frames := 2, cells := 0, slots := 0, locals := 43 }
set_option maxRecDepth 100000 in
set_option maxHeartbeats 4000000 in
theorem c_X8_workOf (l : Launch) (g : Gp) (M : Mem) (oa : okA (aM M))  (x w : Int32) : Ki l g yX8_workOf cX8_workOf 3 .int rm_X8_workOf [.ref (gad g (40)), .int (x), .int (w)] M (fun r M' => (r, aM M') = F_workOf x w (aM M) ∧ sameM M M') := by
  refine Ki.of rfl rfl rfl (fun q C hret hcs => ?_)
  have o : okRow (vm M) := oa.1
  refine x_iload_n C dX8_workOf_0 rfl ?_
  refine x_csB C (c_X8_isWork l g _ _ ) o_X8_isWork mw_X8_128 rfl rfl rfl rfl hcs dX8_workOf_1 (fun c1 => ?_) (fun c1 => ?_)
  · skip
    have qx := ix_tn (n := 6) (by decide) c1
    refine x_if_eqF (tgt := 16) C dX8_workOf_4 (by decide) (by decide) ?_
    refine x_iload_n C dX8_workOf_7 rfl ?_
    refine x_iconst (v := 0) C dX8_workOf_8 (by decide) ?_
    refine x_iconst (v := 4) C dX8_workOf_9 (by decide) ?_
    refine x_csB C (c_X8_in1 l g _ _ _ _ ) o_X8_in1 mw_X8_59 rfl rfl rfl rfl hcs dX8_workOf_10 (fun c10 => ?_) (fun c10 => ?_)
    · skip
      refine x_if_neT (tgt := 22) C dX8_workOf_13 (by decide) (by decide) ?_
      refine x_iload_n C dX8_workOf_22 rfl ?_
      refine x_iconst (v := 4) C dX8_workOf_23 (by decide) ?_
      refine x_icmp_ge (tgt := 36) C dX8_workOf_24 (by decide) (fun c24 => ?_) (fun c24 => ?_)
      · skip
        refine x_aload_n C dX8_workOf_36 rfl ?_
        refine x_iload_n C dX8_workOf_37 rfl ?_
        refine x_cvB C (k := 40) (c_X8_isDone l g _ (w := (tn x)) qx.2 qx.1 ) o_X8_isDone mw_X8_134 rfl (C.lt rfl) rcv_40 rfl rfl rfl hcs dX8_workOf_38 (fun c38 => ?_) (fun c38 => ?_)
        · skip
          refine x_if_eqF (tgt := 48) C dX8_workOf_41 (by decide) (by decide) ?_
          refine x_iconst (v := 1) C dX8_workOf_44 (by decide) ?_
          refine x_goto (tgt := 49) C dX8_workOf_45 (by decide) ?_
          refine hret _ _ _ _ dX8_workOf_49 rfl ?_
          refine pu_M0 ((ifp_t ⟨c1, c10⟩).trans ?_)
          rw [if_pos (show w = 4 from by have := c10; clear hret hcs C; grind)]
          exact congrArg (fun z => (z, aM M)) (ifp_t c38)
        · skip
          refine x_if_eqT (tgt := 48) C dX8_workOf_41 (by decide) (by decide) ?_
          refine x_iconst (v := 0) C dX8_workOf_48 (by decide) ?_
          refine hret _ _ _ _ dX8_workOf_49 rfl ?_
          refine pu_M0 ((ifp_t ⟨c1, c10⟩).trans ?_)
          rw [if_pos (show w = 4 from by have := c10; clear hret hcs C; grind)]
          exact congrArg (fun z => (z, aM M)) (ifp_f c38)
      · skip
        have qw := ix_tn (n := 4) (by decide) (show ¬ w < 0 ∧ w < 4 from ⟨Int32.not_lt.mpr c10.1, Int32.not_le.mp c24⟩)
        refine x_aload_n C dX8_workOf_27 rfl ?_
        refine x_iload_n C dX8_workOf_28 rfl ?_
        refine x_iload_n C dX8_workOf_29 rfl ?_
        refine x_cvE C (k := 40) (c_X8_works l g _ (e := (tn x)) (f := (tn w)) qx.2 qx.1 qw.2 qw.1 ) o_X8_works mw_X8_131 rfl (C.lt rfl) rcv_40 rfl rfl rfl hcs dX8_workOf_30 ?_
        refine x_goto (tgt := 49) C dX8_workOf_33 (by decide) ?_
        refine hret _ _ _ _ dX8_workOf_49 rfl ?_
        refine pu_M0 ((ifp_t ⟨c1, c10⟩).trans ?_)
        rw [if_neg (show ¬ w = 4 from by clear hret hcs C; grind)]; rfl
    · skip
      refine x_if_neF (tgt := 22) C dX8_workOf_13 (by decide) (by decide) ?_
      refine x_aload_n C dX8_workOf_16 rfl ?_
      refine x_iconst (v := 0) C dX8_workOf_17 (by decide) ?_
      refine x_cvi C (k := 40) (c_X8_no l g _ (k := 0) rfl (by decide) ) o_X8_no mw_X8_119 rfl (C.lt rfl) rcv_40 rfl rfl rfl hcs dX8_workOf_18 (fun rf M1 hf => ?_)
      refine hret _ _ _ _ dX8_workOf_21 rfl ?_
      exact fi_M (k := 0) (ifp_f (fun z => by first | exact c10 z.2 | exact c1 z.1)) hf rfl (by decide) rfl (same.rf)
  · skip
    refine x_if_eqT (tgt := 16) C dX8_workOf_4 (by decide) (by decide) ?_
    refine x_aload_n C dX8_workOf_16 rfl ?_
    refine x_iconst (v := 0) C dX8_workOf_17 (by decide) ?_
    refine x_cvi C (k := 40) (c_X8_no l g _ (k := 0) rfl (by decide) ) o_X8_no mw_X8_119 rfl (C.lt rfl) rcv_40 rfl rfl rfl hcs dX8_workOf_18 (fun rf M2 hf => ?_)
    refine hret _ _ _ _ dX8_workOf_21 rfl ?_
    exact fi_M (k := 0) (ifp_f (fun z => by first | exact c10 z.2 | exact c1 z.1)) hf rfl (by decide) rfl (same.rf)

def rm_X8_spend : Room := { frames := 3, cells := 0, slots := 0, locals := 68 }
set_option maxRecDepth 100000 in
set_option maxHeartbeats 4000000 in
theorem c_X8_spend (l : Launch) (g : Gp) (M : Mem) (oa : okA (aM M))  (x w : Int32) : Ki l g yX8_spend cX8_spend 4 .int rm_X8_spend [.ref (gad g (40)), .int (x), .int (w)] M (fun r M' => (r, aM M') = F_spend x w (aM M) ∧ sameM M M') := by
  refine Ki.of rfl rfl rfl (fun q C hret hcs => ?_)
  have o : okRow (vm M) := oa.1
  refine x_aload_n C dX8_spend_0 rfl ?_
  refine x_iload_n C dX8_spend_1 rfl ?_
  refine x_cvB C (k := 40) (c_X8_isEgg l g _ _ ) o_X8_isEgg mw_X8_122 rfl (C.lt rfl) rcv_40 rfl rfl rfl hcs dX8_spend_2 (fun c2 => ?_) (fun c2 => ?_)
  · skip
    obtain ⟨he, ex, ht⟩ := eggP_tn c2
    refine x_if_eqF (tgt := 15) C dX8_spend_5 (by decide) (by decide) ?_
    refine x_iload_n C dX8_spend_8 rfl ?_
    refine x_csB C (c_X8_isWork l g _ _ ) o_X8_isWork mw_X8_128 rfl rfl rfl rfl hcs dX8_spend_9 (fun c9 => ?_) (fun c9 => ?_)
    · skip
      have qw := ix_tn (n := 6) (by decide) c9
      refine x_if_neT (tgt := 21) C dX8_spend_12 (by decide) (by decide) ?_
      refine x_aload_n C dX8_spend_21 rfl ?_
      refine x_iload_n C dX8_spend_22 rfl ?_
      refine x_cvB C (k := 40) (c_X8_isOver l g _ (w := (tn w)) qw.2 qw.1 ) o_X8_isOver mw_X8_137 rfl (C.lt rfl) rcv_40 rfl rfl rfl hcs dX8_spend_23 (fun c23 => ?_) (fun c23 => ?_)
      · skip
        refine x_if_eqF (tgt := 35) C dX8_spend_26 (by decide) (by decide) ?_
        refine x_aload_n C dX8_spend_29 rfl ?_
        refine x_iconst (v := 4) C dX8_spend_30 (by decide) ?_
        refine x_cvi C (k := 40) (c_X8_no l g _ (k := 4) rfl (by decide) ) o_X8_no mw_X8_119 rfl (C.lt rfl) rcv_40 rfl rfl rfl hcs dX8_spend_31 (fun rg M1 hg => ?_)
        refine hret _ _ _ _ dX8_spend_34 rfl ?_
        exact fi_M (k := 4) ((ifp_t ⟨c2, c9⟩).trans (ifp_t c23)) hg rfl (by decide) rfl (same.rf)
      · skip
        refine x_if_eqT (tgt := 35) C dX8_spend_26 (by decide) (by decide) ?_
        refine x_sipush (v := -9999) C dX8_spend_35 (by decide) ?_
        refine x_sipush (v := 9999) C dX8_spend_38 (by decide) ?_
        refine x_aload_n C dX8_spend_41 rfl ?_
        refine x_iload_n C dX8_spend_42 rfl ?_
        refine x_iconst (v := 3) C dX8_spend_43 (by decide) ?_
        refine x_cvE C (k := 40) (c_X8_works l g _ (e := (tn w)) (f := 3) qw.2 qw.1 rfl (by decide) ) o_X8_works mw_X8_131 rfl (C.lt rfl) rcv_40 rfl rfl rfl hcs dX8_spend_44 ?_
        refine x_aload_n C dX8_spend_47 rfl ?_
        refine x_iload_n C dX8_spend_48 rfl ?_
        refine x_cvE C (k := 40) (c_X8_minutes l g _ (e := (tn x)) ex he ) o_X8_minutes mw_X8_92 rfl (C.lt rfl) rcv_40 rfl rfl rfl hcs dX8_spend_49 ?_
        refine x_iadd C dX8_spend_52 ?_
        refine x_csE C (c_X8_less l g _ _ _ ) o_X8_less mw_X8_77 rfl rfl rfl rfl hcs dX8_spend_53 ?_
        refine x_csE C (c_X8_greater l g _ _ _ ) o_X8_greater mw_X8_74 rfl rfl rfl rfl hcs dX8_spend_56 ?_
        refine x_topE (y := spdG (vm M) (tn x) (tn w)) (by unfold spdG; rw [mE_minE he o]; rfl) ?_
        refine x_istore_n C dX8_spend_59 rfl ?_
        refine x_aload_n C dX8_spend_60 rfl ?_
        refine x_getf (k := 40) C bk_X8 (C.lt rfl) rfl ent_40 0 fw_X8_9 rfl rfl dX8_spend_61 ?_
        refine x_bipush (v := 59) C dX8_spend_64 (by decide) ?_
        refine x_iconst (v := 4) C dX8_spend_66 (by decide) ?_
        refine x_iload_n C dX8_spend_67 rfl ?_
        refine x_imul C dX8_spend_68 ?_
        refine x_iadd C dX8_spend_69 ?_
        refine x_iconst (v := 3) C dX8_spend_70 (by decide) ?_
        refine x_iadd C dX8_spend_71 ?_
        refine x_iload_n C dX8_spend_72 rfl ?_
        refine x_iast (j := 59 + 4 * tn w + 3) (k := 41) C (C.lt rfl) rfl ent_41 (ix_w qw.2 rfl) (by have := qw.1; omega) rfl dX8_spend_73 ?_
        refine x_memI (fun M1 eM1 => ?_)
        refine x_aload_n C dX8_spend_74 rfl ?_
        refine x_iload_n C dX8_spend_75 rfl ?_
        refine x_cvv C (k := 40) (c_X8_goesEgg l g _ (e := (tn x)) ex he ) o_X8_goesEgg mw_X8_109 rfl (C.lt rfl) rcv_40 rfl rfl rfl hcs dX8_spend_76 (fun M2 h2 => ?_)
        refine x_iload_n C dX8_spend_79 rfl ?_
        refine hret _ _ _ _ dX8_spend_80 rfl ?_
        have hv1 : vm M1 = upd (vm M) (59 + 4 * tn w + 3) (spdG (vm M) (tn x) (tn w)) := by rw [eM1]; exact vm_up (by have := qw.1; omega)
        exact st_M ((ifp_t ⟨c2, c9⟩).trans (ifp_f c23)) (by rw [h2.1, hv1]; rfl) ((by rw [eM1]; exact same.up (by simp [SC1]) : same SC1 M M1).tr (h2.2.mono (by simp [SC1])))
    · skip
      refine x_if_neF (tgt := 21) C dX8_spend_12 (by decide) (by decide) ?_
      refine x_aload_n C dX8_spend_15 rfl ?_
      refine x_iconst (v := 0) C dX8_spend_16 (by decide) ?_
      refine x_cvi C (k := 40) (c_X8_no l g _ (k := 0) rfl (by decide) ) o_X8_no mw_X8_119 rfl (C.lt rfl) rcv_40 rfl rfl rfl hcs dX8_spend_17 (fun rf M2 hf => ?_)
      refine hret _ _ _ _ dX8_spend_20 rfl ?_
      exact fi_M (k := 0) (ifp_f (fun z => by first | exact c9 z.2 | exact c2 z.1)) hf rfl (by decide) rfl (same.rf)
  · skip
    refine x_if_eqT (tgt := 15) C dX8_spend_5 (by decide) (by decide) ?_
    refine x_aload_n C dX8_spend_15 rfl ?_
    refine x_iconst (v := 0) C dX8_spend_16 (by decide) ?_
    refine x_cvi C (k := 40) (c_X8_no l g _ (k := 0) rfl (by decide) ) o_X8_no mw_X8_119 rfl (C.lt rfl) rcv_40 rfl rfl rfl hcs dX8_spend_17 (fun rf M3 hf => ?_)
    refine hret _ _ _ _ dX8_spend_20 rfl ?_
    exact fi_M (k := 0) (ifp_f (fun z => by first | exact c9 z.2 | exact c2 z.1)) hf rfl (by decide) rfl (same.rf)

def rm_X8_broken : Room := { frames := 3, cells := 0, slots := 0, locals := 68 }
set_option maxRecDepth 100000 in
set_option maxHeartbeats 4000000 in
theorem c_X8_broken (l : Launch) (g : Gp) (M : Mem) (oa : okA (aM M))  (x : Int32) : Ki l g yX8_broken cX8_broken 3 .int rm_X8_broken [.ref (gad g (40)), .int (x)] M (fun r M' => (r, aM M') = F_broken x (aM M) ∧ sameM M M') := by
  refine Ki.of rfl rfl rfl (fun q C hret hcs => ?_)
  have o : okRow (vm M) := oa.1
  refine x_aload_n C dX8_broken_0 rfl ?_
  refine x_iload_n C dX8_broken_1 rfl ?_
  refine x_cvB C (k := 40) (c_X8_isEgg l g _ _ ) o_X8_isEgg mw_X8_122 rfl (C.lt rfl) rcv_40 rfl rfl rfl hcs dX8_broken_2 (fun c2 => ?_) (fun c2 => ?_)
  · skip
    obtain ⟨he, ex, ht⟩ := eggP_tn c2
    refine x_if_neT (tgt := 14) C dX8_broken_5 (by decide) (by decide) ?_
    refine x_aload_n C dX8_broken_14 rfl ?_
    refine x_iload_n C dX8_broken_15 rfl ?_
    refine x_cvE C (k := 40) (c_X8_minutes l g _ (e := (tn x)) ex he ) o_X8_minutes mw_X8_92 rfl (C.lt rfl) rcv_40 rfl rfl rfl hcs dX8_broken_16 ?_
    refine x_topE (y := mE (vm M) (tn x)) ((mE_minE he o).symm) ?_
    refine x_istore_n C dX8_broken_19 rfl ?_
    refine x_aload_n C dX8_broken_20 rfl ?_
    refine x_iload_n C dX8_broken_21 rfl ?_
    refine x_cvv C (k := 40) (c_X8_goesEgg l g _ (e := (tn x)) ex he ) o_X8_goesEgg mw_X8_109 rfl (C.lt rfl) rcv_40 rfl rfl rfl hcs dX8_broken_22 (fun M1 h1 => ?_)
    refine x_iload_n C dX8_broken_25 rfl ?_
    refine hret _ _ _ _ dX8_broken_26 rfl ?_
    exact st_M (ifp_t c2) h1.1 (h1.2.mono (by simp [SC1]))
  · skip
    refine x_if_neF (tgt := 14) C dX8_broken_5 (by decide) (by decide) ?_
    refine x_aload_n C dX8_broken_8 rfl ?_
    refine x_iconst (v := 0) C dX8_broken_9 (by decide) ?_
    refine x_cvi C (k := 40) (c_X8_no l g _ (k := 0) rfl (by decide) ) o_X8_no mw_X8_119 rfl (C.lt rfl) rcv_40 rfl rfl rfl hcs dX8_broken_10 (fun rf M1 hf => ?_)
    refine hret _ _ _ _ dX8_broken_13 rfl ?_
    exact fi_M (k := 0) (ifp_f c2) hf rfl (by decide) rfl (same.rf)

def rm_X8_go : Room := { frames := 5, cells := 0, slots := 0, locals := 112 }
set_option maxRecDepth 100000 in
set_option maxHeartbeats 4000000 in
theorem c_X8_go (l : Launch) (g : Gp) (M : Mem) (oa : okA (aM M))  (n : Int32) : Ki l g yX8_go cX8_go 4 .int rm_X8_go [.ref (gad g (40)), .int (n)] M (fun r M' => (r, aM M') = F_go n (aM M) ∧ sameM M M') := by
  refine Ki.of rfl rfl rfl (fun q C hret hcs => ?_)
  have o : okRow (vm M) := oa.1
  refine x_iload_n C dX8_go_0 rfl ?_
  refine x_iconst (v := 1) C dX8_go_1 (by decide) ?_
  refine x_bipush (v := 60) C dX8_go_2 (by decide) ?_
  refine x_csB C (c_X8_in1 l g _ _ _ _ ) o_X8_in1 mw_X8_59 rfl rfl rfl rfl hcs dX8_go_4 (fun c4 => ?_) (fun c4 => ?_)
  · skip
    have qn := inB_tn (n := 60) (by decide) (show inB n 0 60 from ⟨by have := c4.1; clear hret hcs C; grind, c4.2⟩)
    refine x_if_neT (tgt := 16) C dX8_go_7 (by decide) (by decide) ?_
    refine x_aload_n C dX8_go_16 rfl ?_
    refine x_getf (k := 40) C bk_X8 (C.lt rfl) rfl ent_40 0 fw_X8_9 rfl rfl dX8_go_17 ?_
    refine x_iconst (v := 0) C dX8_go_20 (by decide) ?_
    refine x_iald (j := 0) (k := 41) C (C.lt rfl) rfl ent_41 (rfl) (by decide) rfl dX8_go_21 ?_
    refine x_iload_n C dX8_go_22 rfl ?_
    refine x_iadd C dX8_go_23 ?_
    refine x_ldc C kw_X8_57 dX8_go_24 ?_
    refine x_icmp_le (tgt := 35) C dX8_go_26 (by decide) (fun c26 => ?_) (fun c26 => ?_)
    · skip
      refine x_iconst (v := 0) C dX8_go_35 (by decide) ?_
      refine x_istore_n C dX8_go_36 rfl ?_
      refine x_iconst (v := 0) C dX8_go_37 (by decide) ?_
      refine x_istore_n C dX8_go_38 rfl ?_
      refine up_to (tn n) (P := fun i => ∀ M1 : Mem, vm M1 = dayN (vm M) i → same [41] M M1 → X (kmk l rm_X8_go g 4 q) M1 39 [some (.ref (gad g (40))), some (.int (n)), some (.int (nI (dayC (vm M) i))), some (.int (nI i))] []) (fun i hi ih M1 hv hs => ?_) 0 (Nat.zero_le _) M rfl same.rf
      refine x_iload_n C dX8_go_39 rfl ?_
      refine x_iload_n C dX8_go_40 rfl ?_
      refine x_icmp_ge (tgt := 57) C dX8_go_41 (by decide) (fun c41 => ?_) (fun c41 => ?_)
      · skip
        have hlt := lp_ge (N := tn n) (by omega) hi (by rw [← qn.2]; exact c41)
        refine x_aload_n C dX8_go_57 rfl ?_
        refine x_cvE C (k := 40) (c_X8_eggs l g _ ) o_X8_eggs mw_X8_95 rfl (C.lt rfl) rcv_40 rfl rfl rfl hcs dX8_go_58 ?_
        refine x_csE C (c_X8_bits l g _ (s := (eggN (vm M1) 8)) rfl (eggN_lt _ 8) ) o_X8_bits mw_X8_143 rfl rfl rfl rfl hcs dX8_go_61 ?_
        refine hret _ _ _ _ dX8_go_64 rfl ?_
        subst hlt; rw [hv]; exact st_M ((ifp_t c4).trans (ifp_f (Int32.not_lt.mpr c26))) hv (hs.mono (by simp [SC1]))
      · skip
        have hlt := lp_lt (N := tn n) (by omega) hi (by rw [← qn.2]; exact c41)
        refine x_iload_n C dX8_go_44 rfl ?_
        refine x_aload_n C dX8_go_45 rfl ?_
        refine x_cvi C (k := 40) (c_X8_day l g _ ) o_X8_day mw_X8_140 rfl (C.lt rfl) rcv_40 rfl rfl rfl hcs dX8_go_46 (fun r3 M3 h3 => ?_)
        refine x_iadd C dX8_go_49 ?_
        refine x_topE (y := nI (dayC (vm M) (i + 1))) (by rw [h3.1, nI_add, hv]; rfl) ?_
        refine x_istore_n C dX8_go_50 rfl ?_
        refine x_iinc (v := nI (i + 1)) C dX8_go_51 rfl (nI_1 i) rfl ?_
        refine x_goto (tgt := 39) C dX8_go_54 (by decide) ?_
        refine ih hlt M3 ?_ (hs.tr h3.2.2)
        rw [h3.2.1, hv]; rfl
    · skip
      refine x_aload_n C dX8_go_29 rfl ?_
      refine x_iconst (v := 4) C dX8_go_30 (by decide) ?_
      refine x_cvi C (k := 40) (c_X8_no l g _ (k := 4) rfl (by decide) ) o_X8_no mw_X8_119 rfl (C.lt rfl) rcv_40 rfl rfl rfl hcs dX8_go_31 (fun rg M1 hg => ?_)
      refine hret _ _ _ _ dX8_go_34 rfl ?_
      exact fi_M (k := 4) ((ifp_t c4).trans (ifp_t (Int32.not_le.mp c26))) hg rfl (by decide) rfl (same.rf)
  · skip
    refine x_if_neF (tgt := 16) C dX8_go_7 (by decide) (by decide) ?_
    refine x_aload_n C dX8_go_10 rfl ?_
    refine x_iconst (v := 0) C dX8_go_11 (by decide) ?_
    refine x_cvi C (k := 40) (c_X8_no l g _ (k := 0) rfl (by decide) ) o_X8_no mw_X8_119 rfl (C.lt rfl) rcv_40 rfl rfl rfl hcs dX8_go_12 (fun rf M2 hf => ?_)
    refine hret _ _ _ _ dX8_go_15 rfl ?_
    exact fi_M (k := 0) (ifp_f c4) hf rfl (by decide) rfl (same.rf)

def rm_X8_now : Room := { frames := 5, cells := 0, slots := 0, locals := 111 }
set_option maxRecDepth 100000 in
set_option maxHeartbeats 4000000 in
theorem c_X8_now (l : Launch) (g : Gp) (M : Mem) (oa : okA (aM M))  (w : Int32) : Ki l g yX8_now cX8_now 2 .int rm_X8_now [.ref (gad g (40)), .int (w)] M (fun r M' => (r, aM M') = F_now w (aM M) ∧ sameM M M') := by
  refine Ki.of rfl rfl rfl (fun q C hret hcs => ?_)
  have o : okRow (vm M) := oa.1
  refine x_iload_n C dX8_now_0 rfl ?_
  rcases sw_split (w) 0 4 with c1 | c1
  · skip
    refine x_tableOut (tgt := 65) C dX8_now_1 c1 (by decide) ?_
    refine x_aload_n C dX8_now_65 rfl ?_
    refine x_iconst (v := 0) C dX8_now_66 (by decide) ?_
    refine x_cvi C (k := 40) (c_X8_no l g _ (k := 0) rfl (by decide) ) o_X8_no mw_X8_119 rfl (C.lt rfl) rcv_40 rfl rfl rfl hcs dX8_now_67 (fun rf M1 hf => ?_)
    refine hret _ _ _ _ dX8_now_70 rfl ?_
    exact fi_M (k := 0) (F_now_out c1) hf rfl (by decide) rfl (same.rf)
  · skip
    by_cases c1_0 : w = 0
    · skip
      refine x_tableIn (tgt := 36) (off := 35) C dX8_now_1 c1.1 c1.2 (by rw [c1_0]; decide) (by decide) ?_
      refine x_aload_n C dX8_now_36 rfl ?_
      refine x_getf (k := 40) C bk_X8 (C.lt rfl) rfl ent_40 0 fw_X8_9 rfl rfl dX8_now_37 ?_
      refine x_iconst (v := 0) C dX8_now_40 (by decide) ?_
      refine x_iald (j := 0) (k := 41) C (C.lt rfl) rfl ent_41 (rfl) (by decide) rfl dX8_now_41 ?_
      refine hret _ _ _ _ dX8_now_42 rfl ?_
      exact pu_M0 (if_pos c1_0)
    by_cases c1_1 : w = 1
    · skip
      refine x_tableIn (tgt := 43) (off := 42) C dX8_now_1 c1.1 c1.2 (by rw [c1_1]; decide) (by decide) ?_
      refine x_aload_n C dX8_now_43 rfl ?_
      refine x_cvE C (k := 40) (c_X8_eggs l g _ ) o_X8_eggs mw_X8_95 rfl (C.lt rfl) rcv_40 rfl rfl rfl hcs dX8_now_44 ?_
      refine hret _ _ _ _ dX8_now_47 rfl ?_
      exact pu_M0 ((if_neg c1_0).trans (if_pos c1_1))
    by_cases c1_2 : w = 2
    · skip
      refine x_tableIn (tgt := 48) (off := 47) C dX8_now_1 c1.1 c1.2 (by rw [c1_2]; decide) (by decide) ?_
      refine x_aload_n C dX8_now_48 rfl ?_
      refine x_cvE C (k := 40) (c_X8_allMinutes l g _ ) o_X8_allMinutes mw_X8_146 rfl (C.lt rfl) rcv_40 rfl rfl rfl hcs dX8_now_49 ?_
      refine hret _ _ _ _ dX8_now_52 rfl ?_
      exact pu_M0 ((if_neg c1_0).trans ((if_neg c1_1).trans (if_pos c1_2)))
    by_cases c1_3 : w = 3
    · skip
      refine x_tableIn (tgt := 53) (off := 52) C dX8_now_1 c1.1 c1.2 (by rw [c1_3]; decide) (by decide) ?_
      refine x_aload_n C dX8_now_53 rfl ?_
      refine x_cvE C (k := 40) (c_X8_done l g _ ) o_X8_done mw_X8_149 rfl (C.lt rfl) rcv_40 rfl rfl rfl hcs dX8_now_54 ?_
      refine hret _ _ _ _ dX8_now_57 rfl ?_
      exact pu_M0 ((if_neg c1_0).trans ((if_neg c1_1).trans ((if_neg c1_2).trans (if_pos c1_3))))
    by_cases c1_4 : w = 4
    · skip
      refine x_tableIn (tgt := 58) (off := 57) C dX8_now_1 c1.1 c1.2 (by rw [c1_4]; decide) (by decide) ?_
      refine x_aload_n C dX8_now_58 rfl ?_
      refine x_getf (k := 40) C bk_X8 (C.lt rfl) rfl ent_40 0 fw_X8_9 rfl rfl dX8_now_59 ?_
      refine x_iconst (v := 1) C dX8_now_62 (by decide) ?_
      refine x_iald (j := 1) (k := 41) C (C.lt rfl) rfl ent_41 (rfl) (by decide) rfl dX8_now_63 ?_
      refine hret _ _ _ _ dX8_now_64 rfl ?_
      exact pu_M0 ((if_neg c1_0).trans ((if_neg c1_1).trans ((if_neg c1_2).trans ((if_neg c1_3).trans (if_pos c1_4)))))
    exfalso
    have h1 := c1.1; have h2 := c1.2
    simp only [fa_eq] at c1_0 c1_1 c1_2 c1_3 c1_4
    simp at c1_0 c1_1 c1_2 c1_3 c1_4
    omega

def rm_X8_ahead : Room := { frames := 5, cells := 0, slots := 0, locals := 112 }
set_option maxRecDepth 100000 in
set_option maxHeartbeats 4000000 in
theorem c_X8_ahead (l : Launch) (g : Gp) (M : Mem) (oa : okA (aM M))  (n : Int32) : Ki l g yX8_ahead cX8_ahead 4 .int rm_X8_ahead [.ref (gad g (40)), .int (n)] M (fun r M' => (r, aM M') = F_ahead n (aM M) ∧ sameM M M') := by
  refine Ki.of rfl rfl rfl (fun q C hret hcs => ?_)
  have o : okRow (vm M) := oa.1
  refine x_iload_n C dX8_ahead_0 rfl ?_
  refine x_iconst (v := 0) C dX8_ahead_1 (by decide) ?_
  refine x_bipush (v := 100) C dX8_ahead_2 (by decide) ?_
  refine x_csB C (c_X8_in1 l g _ _ _ _ ) o_X8_in1 mw_X8_59 rfl rfl rfl rfl hcs dX8_ahead_4 (fun c4 => ?_) (fun c4 => ?_)
  · skip
    have qn := inB_tn (n := 100) (by decide) c4
    refine x_if_neT (tgt := 16) C dX8_ahead_7 (by decide) (by decide) ?_
    refine x_aload_n C dX8_ahead_16 rfl ?_
    refine x_cvv C (k := 40) (c_X8_setsAside l g _ ) o_X8_setsAside mw_X8_152 rfl (C.lt rfl) rcv_40 rfl rfl rfl hcs dX8_ahead_17 (fun Ma ha => ?_)
    have hva : vm Ma = vm M := vm_same (ha.2 41 (by decide))
    refine x_iconst (v := 0) C dX8_ahead_20 (by decide) ?_
    refine x_istore_n C dX8_ahead_21 rfl ?_
    refine x_iconst (v := 0) C dX8_ahead_22 (by decide) ?_
    refine x_istore_n C dX8_ahead_23 rfl ?_
    refine up_to (tn n) (P := fun i => ∀ M1 : Mem, vm M1 = dayN (vm M) i → same [41] Ma M1 → X (kmk l rm_X8_ahead g 4 q) M1 24 [some (.ref (gad g (40))), some (.int (n)), some (.int (nI (dayC (vm M) i))), some (.int (nI i))] []) (fun i hi ih M1 hv hs => ?_) 0 (Nat.zero_le _) Ma hva same.rf
    refine x_iload_n C dX8_ahead_24 rfl ?_
    refine x_iload_n C dX8_ahead_25 rfl ?_
    refine x_icmp_ge (tgt := 42) C dX8_ahead_26 (by decide) (fun c26 => ?_) (fun c26 => ?_)
    · skip
      have hlt := lp_ge (N := tn n) (by omega) hi (by rw [← qn.2]; exact c26)
      refine x_aload_n C dX8_ahead_42 rfl ?_
      refine x_cvE C (k := 40) (c_X8_allMinutes l g _ ) o_X8_allMinutes mw_X8_146 rfl (C.lt rfl) rcv_40 rfl rfl rfl hcs dX8_ahead_43 ?_
      refine x_topE (y := allM (dayN (vm M) i) 8) (by rw [hv]) ?_
      refine x_istore_n C dX8_ahead_46 rfl ?_
      refine x_aload_n C dX8_ahead_47 rfl ?_
      refine x_cvv C (k := 40) (c_X8_laysBack l g _ ) o_X8_laysBack mw_X8_155 rfl (C.lt rfl) rcv_40 rfl rfl rfl hcs dX8_ahead_48 (fun Mb hb => ?_)
      refine x_iload_n C dX8_ahead_51 rfl ?_
      refine hret _ _ _ _ dX8_ahead_52 rfl ?_
      subst hlt
      exact pu_M (ifp_t c4) (back_vm ha.1 hs hb.1) ((ha.2.mono (by simp [SC1])).tr ((hs.mono (by simp [SC1])).tr (hb.2.mono (by simp [SC1]))))
    · skip
      have hlt := lp_lt (N := tn n) (by omega) hi (by rw [← qn.2]; exact c26)
      refine x_iload_n C dX8_ahead_29 rfl ?_
      refine x_aload_n C dX8_ahead_30 rfl ?_
      refine x_cvi C (k := 40) (c_X8_day l g _ ) o_X8_day mw_X8_140 rfl (C.lt rfl) rcv_40 rfl rfl rfl hcs dX8_ahead_31 (fun r3 M3 h3 => ?_)
      refine x_iadd C dX8_ahead_34 ?_
      refine x_topE (y := nI (dayC (vm M) (i + 1))) (by rw [h3.1, nI_add, hv]; rfl) ?_
      refine x_istore_n C dX8_ahead_35 rfl ?_
      refine x_iinc (v := nI (i + 1)) C dX8_ahead_36 rfl (nI_1 i) rfl ?_
      refine x_goto (tgt := 24) C dX8_ahead_39 (by decide) ?_
      refine ih hlt M3 ?_ (hs.tr h3.2.2)
      rw [h3.2.1, hv]; rfl
  · skip
    refine x_if_neF (tgt := 16) C dX8_ahead_7 (by decide) (by decide) ?_
    refine x_aload_n C dX8_ahead_10 rfl ?_
    refine x_iconst (v := 0) C dX8_ahead_11 (by decide) ?_
    refine x_cvi C (k := 40) (c_X8_no l g _ (k := 0) rfl (by decide) ) o_X8_no mw_X8_119 rfl (C.lt rfl) rcv_40 rfl rfl rfl hcs dX8_ahead_12 (fun rf M1 hf => ?_)
    refine hret _ _ _ _ dX8_ahead_15 rfl ?_
    exact fi_M (k := 0) (ifp_f c4) hf rfl (by decide) rfl (same.rf)

def rm_X8_spoils : Room := { frames := 5, cells := 0, slots := 0, locals := 112 }
set_option maxRecDepth 100000 in
set_option maxHeartbeats 4000000 in
theorem c_X8_spoils (l : Launch) (g : Gp) (M : Mem) (oa : okA (aM M))  (n : Int32) : Ki l g yX8_spoils cX8_spoils 4 .int rm_X8_spoils [.ref (gad g (40)), .int (n)] M (fun r M' => (r, aM M') = F_spoils n (aM M) ∧ sameM M M') := by
  refine Ki.of rfl rfl rfl (fun q C hret hcs => ?_)
  have o : okRow (vm M) := oa.1
  refine x_iload_n C dX8_spoils_0 rfl ?_
  refine x_iconst (v := 0) C dX8_spoils_1 (by decide) ?_
  refine x_bipush (v := 100) C dX8_spoils_2 (by decide) ?_
  refine x_csB C (c_X8_in1 l g _ _ _ _ ) o_X8_in1 mw_X8_59 rfl rfl rfl rfl hcs dX8_spoils_4 (fun c4 => ?_) (fun c4 => ?_)
  · skip
    have qn := inB_tn (n := 100) (by decide) c4
    refine x_if_neT (tgt := 16) C dX8_spoils_7 (by decide) (by decide) ?_
    refine x_aload_n C dX8_spoils_16 rfl ?_
    refine x_cvv C (k := 40) (c_X8_setsAside l g _ ) o_X8_setsAside mw_X8_152 rfl (C.lt rfl) rcv_40 rfl rfl rfl hcs dX8_spoils_17 (fun Ma ha => ?_)
    have hva : vm Ma = vm M := vm_same (ha.2 41 (by decide))
    refine x_iconst (v := 0) C dX8_spoils_20 (by decide) ?_
    refine x_istore_n C dX8_spoils_21 rfl ?_
    refine x_iconst (v := 0) C dX8_spoils_22 (by decide) ?_
    refine x_istore_n C dX8_spoils_23 rfl ?_
    refine up_to (tn n) (P := fun i => ∀ M1 : Mem, vm M1 = dayN (vm M) i → same [41] Ma M1 → X (kmk l rm_X8_spoils g 4 q) M1 24 [some (.ref (gad g (40))), some (.int (n)), some (.int (nI (dayC (vm M) i))), some (.int (nI i))] []) (fun i hi ih M1 hv hs => ?_) 0 (Nat.zero_le _) Ma hva same.rf
    refine x_iload_n C dX8_spoils_24 rfl ?_
    refine x_iload_n C dX8_spoils_25 rfl ?_
    refine x_icmp_ge (tgt := 42) C dX8_spoils_26 (by decide) (fun c26 => ?_) (fun c26 => ?_)
    · skip
      have hlt := lp_ge (N := tn n) (by omega) hi (by rw [← qn.2]; exact c26)
      refine x_aload_n C dX8_spoils_42 rfl ?_
      refine x_cvv C (k := 40) (c_X8_laysBack l g _ ) o_X8_laysBack mw_X8_155 rfl (C.lt rfl) rcv_40 rfl rfl rfl hcs dX8_spoils_43 (fun Mb hb => ?_)
      refine x_iload_n C dX8_spoils_46 rfl ?_
      refine hret _ _ _ _ dX8_spoils_47 rfl ?_
      subst hlt
      exact pu_M (ifp_t c4) (back_vm ha.1 hs hb.1) ((ha.2.mono (by simp [SC1])).tr ((hs.mono (by simp [SC1])).tr (hb.2.mono (by simp [SC1]))))
    · skip
      have hlt := lp_lt (N := tn n) (by omega) hi (by rw [← qn.2]; exact c26)
      refine x_iload_n C dX8_spoils_29 rfl ?_
      refine x_aload_n C dX8_spoils_30 rfl ?_
      refine x_cvi C (k := 40) (c_X8_day l g _ ) o_X8_day mw_X8_140 rfl (C.lt rfl) rcv_40 rfl rfl rfl hcs dX8_spoils_31 (fun r3 M3 h3 => ?_)
      refine x_iadd C dX8_spoils_34 ?_
      refine x_topE (y := nI (dayC (vm M) (i + 1))) (by rw [h3.1, nI_add, hv]; rfl) ?_
      refine x_istore_n C dX8_spoils_35 rfl ?_
      refine x_iinc (v := nI (i + 1)) C dX8_spoils_36 rfl (nI_1 i) rfl ?_
      refine x_goto (tgt := 24) C dX8_spoils_39 (by decide) ?_
      refine ih hlt M3 ?_ (hs.tr h3.2.2)
      rw [h3.2.1, hv]; rfl
  · skip
    refine x_if_neF (tgt := 16) C dX8_spoils_7 (by decide) (by decide) ?_
    refine x_aload_n C dX8_spoils_10 rfl ?_
    refine x_iconst (v := 0) C dX8_spoils_11 (by decide) ?_
    refine x_cvi C (k := 40) (c_X8_no l g _ (k := 0) rfl (by decide) ) o_X8_no mw_X8_119 rfl (C.lt rfl) rcv_40 rfl rfl rfl hcs dX8_spoils_12 (fun rf M1 hf => ?_)
    refine hret _ _ _ _ dX8_spoils_15 rfl ?_
    exact fi_M (k := 0) (ifp_f c4) hf rfl (by decide) rfl (same.rf)

def rm_X8_ripe : Room := { frames := 3, cells := 0, slots := 0, locals := 72 }
set_option maxRecDepth 100000 in
set_option maxHeartbeats 4000000 in
theorem c_X8_ripe (l : Launch) (g : Gp) (M : Mem) (oa : okA (aM M))  (x : Int32) : Ki l g yX8_ripe cX8_ripe 6 .int rm_X8_ripe [.ref (gad g (40)), .int (x)] M (fun r M' => (r, aM M') = F_ripe x (aM M) ∧ sameM M M') := by
  refine Ki.of rfl rfl rfl (fun q C hret hcs => ?_)
  have o : okRow (vm M) := oa.1
  refine x_aload_n C dX8_ripe_0 rfl ?_
  refine x_iload_n C dX8_ripe_1 rfl ?_
  refine x_cvB C (k := 40) (c_X8_isEgg l g _ _ ) o_X8_isEgg mw_X8_122 rfl (C.lt rfl) rcv_40 rfl rfl rfl hcs dX8_ripe_2 (fun c2 => ?_) (fun c2 => ?_)
  · skip
    obtain ⟨he, ex, ht⟩ := eggP_tn c2
    refine x_if_neT (tgt := 14) C dX8_ripe_5 (by decide) (by decide) ?_
    refine x_aload_n C dX8_ripe_14 rfl ?_
    refine x_iload_n C dX8_ripe_15 rfl ?_
    refine x_iconst (v := 0) C dX8_ripe_16 (by decide) ?_
    refine x_cvE C (k := 40) (c_X8_get l g _ (e := (tn x)) (f := 0) ex he rfl (by decide) ) o_X8_get mw_X8_63 rfl (C.lt rfl) rcv_40 rfl rfl rfl hcs dX8_ripe_17 ?_
    refine x_topE (y := (eg (vm M) (tn x) 0)) (rfl) ?_
    refine x_istore_n C dX8_ripe_20 rfl ?_
    refine x_aload_n C dX8_ripe_21 rfl ?_
    refine x_iload_n C dX8_ripe_22 rfl ?_
    refine x_iconst (v := 2) C dX8_ripe_23 (by decide) ?_
    refine x_cvE C (k := 40) (c_X8_get l g _ (e := (tn x)) (f := 2) ex he rfl (by decide) ) o_X8_get mw_X8_63 rfl (C.lt rfl) rcv_40 rfl rfl rfl hcs dX8_ripe_24 ?_
    refine x_topE (y := (eg (vm M) (tn x) 2)) (rfl) ?_
    refine x_istore_n C dX8_ripe_27 rfl ?_
    refine x_iconst (v := 0) C dX8_ripe_28 (by decide) ?_
    refine x_istore C dX8_ripe_29 rfl ?_
    refine x_iconst (v := 1) C dX8_ripe_31 (by decide) ?_
    refine x_istore C dX8_ripe_32 rfl ?_
    refine X.le (ls' := [some (.ref (gad g (40))), some (.int (x)), some (.int ((eg (vm M) (tn x) 0))), some (.int ((eg (vm M) (tn x) 2))), some (.int (nI (ripN (vm M) (tn x) 0))), some (.int (nI (0 + 1)))]) (lle_s rfl (lle_s rfl (lle_s rfl (lle_s rfl (lle_s rfl (lle_s rfl lle_e)))))) ?_
    refine up_to 100 (P := fun i => (∀ j, j < i → staysP (eg (vm M) (tn x) 0) (eg (vm M) (tn x) 2) (nI (j + 1))) → X (kmk l rm_X8_ripe g 6 q) M 34 [some (.ref (gad g (40))), some (.int (x)), some (.int ((eg (vm M) (tn x) 0))), some (.int ((eg (vm M) (tn x) 2))), some (.int (nI (ripN (vm M) (tn x) i))), some (.int (nI (i + 1)))] []) (fun i hi ih hst => ?_) 0 (by omega) (fun j hj => absurd hj (by omega))
    refine x_iload C dX8_ripe_34 rfl ?_
    refine x_bipush (v := 100) C dX8_ripe_36 (by decide) ?_
    refine x_icmp_gt (tgt := 88) C dX8_ripe_38 (by decide) (fun c38 => ?_) (fun c38 => ?_)
    · skip
      have hlt := lp_gt (N := 100) (by decide) hi c38
      refine x_iload C dX8_ripe_88 rfl ?_
      refine hret _ _ _ _ dX8_ripe_90 rfl ?_
      first | exact pu_M0 ((ifp_t c2).trans (congrArg (fun z => (nI (ripN (vm M) (tn x) z), aM M)) (fstN_hit hst ns hlt))) | (subst hlt; exact pu_M0 ((ifp_t c2).trans (congrArg (fun z => (nI (ripN (vm M) (tn x) z), aM M)) (fstN_all hst))))
    · skip
      have hlt := lp_ng (N := 100) (by decide) hi c38
      refine x_iload_n C dX8_ripe_41 rfl ?_
      refine x_iload C dX8_ripe_42 rfl ?_
      refine x_iadd C dX8_ripe_44 ?_
      refine x_iload_n C dX8_ripe_45 rfl ?_
      refine x_csE C (c_X8_keepsBy l g _ _ ) o_X8_keepsBy mw_X8_84 rfl rfl rfl rfl hcs dX8_ripe_46 ?_
      refine x_icmp_gt (tgt := 88) C dX8_ripe_49 (by decide) (fun c49 => ?_) (fun c49 => ?_)
      · skip
        have ns : ¬ staysP (eg (vm M) (tn x) 0) (eg (vm M) (tn x) 2) (nI (i + 1)) := fun z => z ⟨(nI_ltI (a := 0) (by decide) (by omega)).mpr (by omega), c49⟩
        refine x_iload C dX8_ripe_88 rfl ?_
        refine hret _ _ _ _ dX8_ripe_90 rfl ?_
        first | exact pu_M0 ((ifp_t c2).trans (congrArg (fun z => (nI (ripN (vm M) (tn x) z), aM M)) (fstN_hit hst ns hlt))) | (subst hlt; exact pu_M0 ((ifp_t c2).trans (congrArg (fun z => (nI (ripN (vm M) (tn x) z), aM M)) (fstN_all hst))))
      · skip
        have sy : staysP (eg (vm M) (tn x) 0) (eg (vm M) (tn x) 2) (nI (i + 1)) := fun z => c49 z.2
        refine x_aload_n C dX8_ripe_52 rfl ?_
        refine x_iload_n C dX8_ripe_53 rfl ?_
        refine x_iload_n C dX8_ripe_54 rfl ?_
        refine x_iload_n C dX8_ripe_55 rfl ?_
        refine x_iload C dX8_ripe_56 rfl ?_
        refine x_cvE C (k := 40) (c_X8_then l g _ (e := (tn x)) ex he _ _ _ ) o_X8_then mw_X8_158 rfl (C.lt rfl) rcv_40 rfl rfl rfl hcs dX8_ripe_58 ?_
        refine x_aload_n C dX8_ripe_61 rfl ?_
        refine x_iload_n C dX8_ripe_62 rfl ?_
        refine x_iload_n C dX8_ripe_63 rfl ?_
        refine x_iload_n C dX8_ripe_64 rfl ?_
        refine x_iload C dX8_ripe_65 rfl ?_
        refine x_cvE C (k := 40) (c_X8_then l g _ (e := (tn x)) ex he _ _ _ ) o_X8_then mw_X8_158 rfl (C.lt rfl) rcv_40 rfl rfl rfl hcs dX8_ripe_67 ?_
        refine x_icmp_le (tgt := 78) C dX8_ripe_70 (by decide) (fun c70 => ?_) (fun c70 => ?_)
        · skip
          refine x_iload C dX8_ripe_78 rfl ?_
          refine x_istore C dX8_ripe_80 rfl ?_
          refine x_iinc (v := nI (i + 1 + 1)) C dX8_ripe_82 rfl (nI_1 _) rfl ?_
          refine x_goto (tgt := 34) C dX8_ripe_85 (by decide) ?_
          have e : ripN (vm M) (tn x) (i + 1) = ripN (vm M) (tn x) i := if_neg (Int32.not_lt.mpr c70)
          rw [e] at ih
          exact ih hlt (fun j hj => by rcases Nat.lt_or_ge j i with z | z; exact hst j z; rw [show j = i by omega]; exact sy)
        · skip
          refine x_iload C dX8_ripe_73 rfl ?_
          refine x_goto (tgt := 80) C dX8_ripe_75 (by decide) ?_
          refine x_istore C dX8_ripe_80 rfl ?_
          refine x_iinc (v := nI (i + 1 + 1)) C dX8_ripe_82 rfl (nI_1 _) rfl ?_
          refine x_goto (tgt := 34) C dX8_ripe_85 (by decide) ?_
          have e : ripN (vm M) (tn x) (i + 1) = i + 1 := if_pos (Int32.not_le.mp c70)
          rw [e] at ih
          exact ih hlt (fun j hj => by rcases Nat.lt_or_ge j i with z | z; exact hst j z; rw [show j = i by omega]; exact sy)
  · skip
    refine x_if_neF (tgt := 14) C dX8_ripe_5 (by decide) (by decide) ?_
    refine x_aload_n C dX8_ripe_8 rfl ?_
    refine x_iconst (v := 0) C dX8_ripe_9 (by decide) ?_
    refine x_cvi C (k := 40) (c_X8_no l g _ (k := 0) rfl (by decide) ) o_X8_no mw_X8_119 rfl (C.lt rfl) rcv_40 rfl rfl rfl hcs dX8_ripe_10 (fun rf M1 hf => ?_)
    refine hret _ _ _ _ dX8_ripe_13 rfl ?_
    exact fi_M (k := 0) (ifp_f c2) hf rfl (by decide) rfl (same.rf)

def rm_X8_lasts : Room := { frames := 3, cells := 0, slots := 0, locals := 64 }
set_option maxRecDepth 100000 in
set_option maxHeartbeats 4000000 in
theorem c_X8_lasts (l : Launch) (g : Gp) (M : Mem) (oa : okA (aM M))  (x : Int32) : Ki l g yX8_lasts cX8_lasts 2 .int rm_X8_lasts [.ref (gad g (40)), .int (x)] M (fun r M' => (r, aM M') = F_lasts x (aM M) ∧ sameM M M') := by
  refine Ki.of rfl rfl rfl (fun q C hret hcs => ?_)
  have o : okRow (vm M) := oa.1
  refine x_aload_n C dX8_lasts_0 rfl ?_
  refine x_iload_n C dX8_lasts_1 rfl ?_
  refine x_cvB C (k := 40) (c_X8_isEgg l g _ _ ) o_X8_isEgg mw_X8_122 rfl (C.lt rfl) rcv_40 rfl rfl rfl hcs dX8_lasts_2 (fun c2 => ?_) (fun c2 => ?_)
  · skip
    obtain ⟨he, ex, ht⟩ := eggP_tn c2
    have hag : inB (eg (vm M) (tn x) 2) 0 99 := by rcases o.2.2.1 _ he with z | z; exact z.2.2.2.1; exact absurd ht (by unfold thr; rw [z.1]; decide)
    refine x_if_eqF (tgt := 33) C dX8_lasts_5 (by decide) (by decide) ?_
    refine x_iconst (v := 1) C dX8_lasts_8 (by decide) ?_
    refine x_aload_n C dX8_lasts_9 rfl ?_
    refine x_iload_n C dX8_lasts_10 rfl ?_
    refine x_iconst (v := 0) C dX8_lasts_11 (by decide) ?_
    refine x_cvE C (k := 40) (c_X8_get l g _ (e := (tn x)) (f := 0) ex he rfl (by decide) ) o_X8_get mw_X8_63 rfl (C.lt rfl) rcv_40 rfl rfl rfl hcs dX8_lasts_12 ?_
    refine x_csE C (c_X8_keepsBy l g _ _ ) o_X8_keepsBy mw_X8_84 rfl rfl rfl rfl hcs dX8_lasts_15 ?_
    refine x_aload_n C dX8_lasts_18 rfl ?_
    refine x_iload_n C dX8_lasts_19 rfl ?_
    refine x_iconst (v := 2) C dX8_lasts_20 (by decide) ?_
    refine x_cvE C (k := 40) (c_X8_get l g _ (e := (tn x)) (f := 2) ex he rfl (by decide) ) o_X8_get mw_X8_63 rfl (C.lt rfl) rcv_40 rfl rfl rfl hcs dX8_lasts_21 ?_
    refine x_isub C dX8_lasts_24 ?_
    refine x_iconst (v := 1) C dX8_lasts_25 (by decide) ?_
    refine x_iadd C dX8_lasts_26 ?_
    refine x_csE C (c_X8_greater l g _ _ _ ) o_X8_greater mw_X8_74 rfl rfl rfl rfl hcs dX8_lasts_27 ?_
    refine x_goto (tgt := 38) C dX8_lasts_30 (by decide) ?_
    refine hret _ _ _ _ dX8_lasts_38 rfl ?_
    exact pu_M0 ((ifp_t c2).trans (congrArg (fun z => (z, aM M)) (lasts_eq hag)))
  · skip
    refine x_if_eqT (tgt := 33) C dX8_lasts_5 (by decide) (by decide) ?_
    refine x_aload_n C dX8_lasts_33 rfl ?_
    refine x_iconst (v := 0) C dX8_lasts_34 (by decide) ?_
    refine x_cvi C (k := 40) (c_X8_no l g _ (k := 0) rfl (by decide) ) o_X8_no mw_X8_119 rfl (C.lt rfl) rcv_40 rfl rfl rfl hcs dX8_lasts_35 (fun rf M1 hf => ?_)
    refine hret _ _ _ _ dX8_lasts_38 rfl ?_
    exact fi_M (k := 0) (ifp_f c2) hf rfl (by decide) rfl (same.rf)

