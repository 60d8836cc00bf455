/-! ===== contracts: the model's calls, feed ===== -/
def rm_X8_feed : Room := { frames := 1, cells := 0, slots := 0, locals := 22 }
set_option maxRecDepth 100000 in
set_option maxHeartbeats 4000000 in
theorem c_X8_feed (l : Launch) (g : Gp) (M : Mem) (oa : okA (aM M))  (b n : Int32) : Ki l g yX8_feed cX8_feed 4 .int rm_X8_feed [.ref (gad g (40)), .int (b), .int (n)] M (fun r M' => (r, aM M') = F_feed b n (aM M) ∧ sameM M M') := by
  refine Ki.of rfl rfl rfl (fun q C hret hcs => ?_)
  have o : okRow (vm M) := oa.1
  refine x_iload_n C dX8_feed_0 rfl ?_
  refine x_iconst (v := 1) C dX8_feed_1 (by decide) ?_
  refine x_iconst (v := 4) C dX8_feed_2 (by decide) ?_
  refine x_csB C (c_X8_in1 l g _ _ _ _ ) o_X8_in1 mw_X8_59 rfl rfl rfl rfl hcs dX8_feed_3 (fun c3 => ?_) (fun c3 => ?_)
  · skip
    have qn := inB_tn (n := 4) (by decide) (show inB n 0 4 from ⟨by have := c3.1; clear hret hcs C; grind, c3.2⟩)
    have hn1 : 1 ≤ tn n := by have := c3.1; rw [qn.2] at this; rcases Nat.eq_zero_or_pos (tn n) with z | z; rw [z] at this; exact absurd this (by decide); exact z
    have qL := inB_tn (n := 120) (by decide) (okL_M oa)
    refine x_if_neT (tgt := 15) C dX8_feed_6 (by decide) (by decide) ?_
    refine x_aload_n C dX8_feed_15 rfl ?_
    refine x_getf (k := 40) C bk_X8 (C.lt rfl) rfl ent_40 8 fw_X8_205 rfl rfl dX8_feed_16 ?_
    refine x_iload_n C dX8_feed_19 rfl ?_
    refine x_iadd C dX8_feed_20 ?_
    refine x_bipush (v := 120) C dX8_feed_21 (by decide) ?_
    refine x_icmp_le (tgt := 32) C dX8_feed_23 (by decide) (fun c23 => ?_) (fun c23 => ?_)
    · skip
      have hLn : tn (M 40 8) + tn n ≤ 120 := by have := c23; rw [qL.2, qn.2, nI_add] at this; rcases Nat.lt_or_ge 120 (tn (M 40 8) + tn n) with z | z; exact absurd this (nI_ge z (by omega)); exact z
      generalize eT : (cut 120 (M 47), M 40 8) = T at *
      refine x_iload_n C dX8_feed_32 rfl ?_
      refine x_iconst (v := 1) C dX8_feed_33 (by decide) ?_
      refine x_isub C dX8_feed_34 ?_
      refine x_topE (y := nI (tn n) - 1 - nI 0) (by rw [← qn.2]; exact (Int32.sub_zero _).symm) ?_
      refine x_istore_n C dX8_feed_35 rfl ?_
      refine up_to (tn n) (P := fun i => ∀ M1 : Mem, cut 120 (M1 47) = (tapS T b (tn n) i).1 → M1 40 8 = nI (tn (M 40 8) + i) → M1 40 3 = M 40 3 → same [40, 47] M M1 → X (kmk l rm_X8_feed g 4 q) M1 36 [some (.ref (gad g (40))), some (.int (b)), some (.int (n)), some (.int (nI (tn n) - 1 - nI i))] []) (fun i hi ih M1 hb1 hl1 h3 hs => ?_) 0 (Nat.zero_le _) M (by rw [← eT]; rfl) qL.2 rfl same.rf
      refine x_iload_n C dX8_feed_36 rfl ?_
      refine x_if_lt (tgt := 75) C dX8_feed_37 (by decide) (fun c37 => ?_) (fun c37 => ?_)
      · skip
        have hlt : i = tn n := by rw [i_down hi (by omega)] at c37; rcases Nat.lt_or_ge i (tn n) with z | z; rw [if_pos z] at c37; exact absurd c37 (nI_pos (by omega)); omega
        refine x_aload_n C dX8_feed_75 rfl ?_
        refine x_getf (k := 40) C bk_X8 (C.lt rfl) rfl ent_40 8 fw_X8_205 rfl rfl dX8_feed_76 ?_
        refine hret _ _ _ _ dX8_feed_79 rfl ?_
        subst hlt
        refine ta_M (T := tapS T b (tn n) (tn n)) ?_ hb1 (hl1.trans (tapS_n (by rw [← eT]; exact qL.2) _).symm) h3 hs
        rw [show F_feed b n (aM M) = _ from (ifp_t c3).trans (ifp_f (Int32.not_lt.mpr c23)), show (aT (aM M), aL (aM M)) = T from eT, hl1, tapS_n (by rw [← eT]; exact qL.2)]
      · skip
        have hlt : i < tn n := by rw [i_down hi (by omega)] at c37; rcases Nat.lt_or_ge i (tn n) with z | z; exact z; rw [if_neg (by omega)] at c37; exact absurd (by decide) c37
        refine x_aload_n C dX8_feed_40 rfl ?_
        refine x_getf (k := 40) C bk_X8 (C.lt rfl) rfl ent_40 7 fw_X8_29 rfl rfl dX8_feed_41 ?_
        refine x_aload_n C dX8_feed_44 rfl ?_
        refine x_getf (k := 40) C bk_X8 (C.lt rfl) rfl ent_40 8 fw_X8_205 rfl rfl dX8_feed_45 ?_
        refine x_iload_n C dX8_feed_48 rfl ?_
        refine x_bipush (v := 8) C dX8_feed_49 (by decide) ?_
        refine x_iload_n C dX8_feed_51 rfl ?_
        refine x_imul C dX8_feed_52 ?_
        refine x_ishr C dX8_feed_53 ?_
        refine x_sipush (v := 255) C dX8_feed_54 (by decide) ?_
        refine x_iand C dX8_feed_57 ?_
        refine x_topE (y := tapB b (tn n - 1 - i)) (by rw [i_down hi (by omega), if_pos hlt, show (8 : Int32) = nI 8 from rfl, pk_mul]; rfl) ?_
        refine x_iast (j := (tn (M 40 8) + i)) (k := 47) C (C.lt rfl) rfl ent_47 (hl1) (by omega) rfl dX8_feed_58 ?_
        refine x_memI (fun M2 eM2 => ?_)
        refine x_aload_n C dX8_feed_59 rfl ?_
        refine x_dup C dX8_feed_60 rfl ?_
        refine x_getf (k := 40) C bk_X8 (C.lt rfl) rfl ent_40 8 fw_X8_205 rfl rfl dX8_feed_61 ?_
        refine x_iconst (v := 1) C dX8_feed_64 (by decide) ?_
        refine x_iadd C dX8_feed_65 ?_
        refine x_topE (y := nI (tn (M 40 8) + i + 1)) (by rw [eM2, up_n (by decide), hl1]; exact nI_add _ 1) ?_
        refine x_putf (k := 40) C bk_X8 (C.lt rfl) rfl ent_40 8 fw_X8_205 rfl (fun _ => rfl) rfl rfl rfl rfl dX8_feed_66 ?_
        refine x_memI (fun M3 eM3 => ?_)
        refine x_iinc (v := nI (tn n) - 1 - nI (i + 1)) C dX8_feed_69 rfl (by rw [← nI_1 i]; generalize nI (tn n) = p; generalize nI i = q; clear hret hcs C ih; grind) rfl ?_
        refine x_goto (tgt := 36) C dX8_feed_72 (by decide) ?_
        refine ih hlt M3 ?_ (by rw [eM3]; exact up_ss) (by rw [eM3, up_sn (by decide), eM2, up_n (by decide)]; exact h3) (hs.tr (by rw [eM3, eM2]; exact (same.up (by simp)).tr (same.up (by simp))))
        rw [eM3, up_n (by decide), eM2, up_s, cut_upd (by omega), hb1]
        show _ = upd (tapS T b (tn n) i).1 (tn (tapS T b (tn n) i).2) _
        rw [tapS_n (by rw [← eT]; exact qL.2) i, tn_nI (by omega)]
    · skip
      refine x_aload_n C dX8_feed_26 rfl ?_
      refine x_iconst (v := 1) C dX8_feed_27 (by decide) ?_
      refine x_cvi C (k := 40) (c_X8_no l g _ (k := 1) rfl (by decide) ) o_X8_no mw_X8_119 rfl (C.lt rfl) rcv_40 rfl rfl rfl hcs dX8_feed_28 (fun rg M1 hg => ?_)
      refine hret _ _ _ _ dX8_feed_31 rfl ?_
      exact fi_M (k := 1) ((ifp_t c3).trans (ifp_t (Int32.not_le.mp c23))) hg rfl (by decide) rfl (same.rf)
  · skip
    refine x_if_neF (tgt := 15) C dX8_feed_6 (by decide) (by decide) ?_
    refine x_aload_n C dX8_feed_9 rfl ?_
    refine x_iconst (v := 0) C dX8_feed_10 (by decide) ?_
    refine x_cvi C (k := 40) (c_X8_no l g _ (k := 0) rfl (by decide) ) o_X8_no mw_X8_119 rfl (C.lt rfl) rcv_40 rfl rfl rfl hcs dX8_feed_11 (fun rf M2 hf => ?_)
    refine hret _ _ _ _ dX8_feed_14 rfl ?_
    exact fi_M (k := 0) (ifp_f c3) hf rfl (by decide) rfl (same.rf)

