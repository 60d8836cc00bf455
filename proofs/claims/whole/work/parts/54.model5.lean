/-! ===== contracts: the model's calls, fourth part ===== -/
def rm_X8_write : Room := { frames := 3, cells := 0, slots := 0, locals := 63 }
set_option maxRecDepth 100000 in
set_option maxHeartbeats 4000000 in
theorem c_X8_write (l : Launch) (g : Gp) (M : Mem) (oa : okA (aM M))  (x i v : Int32) : Ki l g yX8_write cX8_write 5 .int rm_X8_write [.ref (gad g (40)), .int (x), .int (i), .int (v)] M (fun r M' => (r, aM M') = F_write x i v (aM M) ∧ sameM M M') := by
  refine Ki.of rfl rfl rfl (fun q C hret hcs => ?_)
  have o : okRow (vm M) := oa.1
  refine x_aload_n C dX8_write_0 rfl ?_
  refine x_iload_n C dX8_write_1 rfl ?_
  refine x_cvE C (k := 40) (c_X8_wrongSheet l g _ _ ) o_X8_wrongSheet mw_X8_188 rfl (C.lt rfl) rcv_40 rfl rfl rfl hcs dX8_write_2 ?_
  refine x_topi (fun x4 ex4 => ?_)
  refine x_istore C dX8_write_5 rfl ?_
  refine x_iload C dX8_write_7 rfl ?_
  refine x_if_ge (tgt := 31) C dX8_write_9 (by decide) (fun c9 => ?_) (fun c9 => ?_)
  · skip
    have c9x : ¬ x4 < 0 := Int32.not_lt.mpr c9
    have qq := wrgS_ge (by rw [← ex4]; exact c9x)
    refine x_iload C dX8_write_31 rfl ?_
    refine x_if_lt (tgt := 43) C dX8_write_33 (by decide) (fun c33 => ?_) (fun c33 => ?_)
    · skip
      exact absurd c33 c9x
    · skip
      refine x_aload_n C dX8_write_36 rfl ?_
      refine x_iload C dX8_write_37 rfl ?_
      refine x_cvi C (k := 40) (c_X8_no l g _ (k := (tn (wrgS (aM M) x))) (ex4.trans qq.1) qq.2 ) o_X8_no mw_X8_119 rfl (C.lt rfl) rcv_40 rfl rfl rfl hcs dX8_write_39 (fun rf M1 hf => ?_)
      refine hret _ _ _ _ dX8_write_42 rfl ?_
      exact fi_M (k := tn (wrgS (aM M) x)) (ifp_f (by rw [← ex4]; exact c9x)) hf (ex4.trans qq.1) qq.2 rfl same.rf
  · skip
    have c9x : x4 < 0 := Int32.not_le.mp c9
    have qq := wrgS_lt (by rw [← ex4]; exact c9x)
    have qs := inB_tn (n := 3) (by decide) qq.1
    have hl := okSh_M oa qs.1
    refine x_iload_n C dX8_write_12 rfl ?_
    refine x_iconst (v := 0) C dX8_write_13 (by decide) ?_
    refine x_aload_n C dX8_write_14 rfl ?_
    refine x_getf (k := 40) C bk_X8 (C.lt rfl) rfl ent_40 18 fw_X8_48 rfl rfl dX8_write_15 ?_
    refine x_iload_n C dX8_write_18 rfl ?_
    refine x_iald (j := (tn x)) (k := 53) C (C.lt rfl) rfl ent_53 (qs.2) (qs.1) rfl dX8_write_19 ?_
    refine x_iconst (v := 1) C dX8_write_20 (by decide) ?_
    refine x_isub C dX8_write_21 ?_
    refine x_csB C (c_X8_in1 l g _ _ _ _ ) o_X8_in1 mw_X8_59 rfl rfl rfl rfl hcs dX8_write_22 (fun c22 => ?_) (fun c22 => ?_)
    · skip
      have qi := inB_tn (n := 39) (by decide) (show inB i 0 39 from ⟨c22.1, by have := c22.2; unfold inB at hl; clear hret hcs C; grind⟩)
      refine x_if_neT (tgt := 31) C dX8_write_25 (by decide) (by decide) ?_
      refine x_iload C dX8_write_31 rfl ?_
      refine x_if_lt (tgt := 43) C dX8_write_33 (by decide) (fun c33 => ?_) (fun c33 => ?_)
      · skip
        refine x_aload_n C dX8_write_43 rfl ?_
        refine x_getf (k := 40) C bk_X8 (C.lt rfl) rfl ent_40 19 fw_X8_51 rfl rfl dX8_write_44 ?_
        refine x_bipush (v := 40) C dX8_write_47 (by decide) ?_
        refine x_iload_n C dX8_write_49 rfl ?_
        refine x_imul C dX8_write_50 ?_
        refine x_iload_n C dX8_write_51 rfl ?_
        refine x_iadd C dX8_write_52 ?_
        refine x_aload_n C dX8_write_53 rfl ?_
        refine x_getf (k := 40) C bk_X8 (C.lt rfl) rfl ent_40 17 fw_X8_45 rfl rfl dX8_write_54 ?_
        refine x_iload_n C dX8_write_57 rfl ?_
        refine x_iald (j := (tn x)) (k := 52) C (C.lt rfl) rfl ent_52 (qs.2) (qs.1) rfl dX8_write_58 ?_
        refine x_bipush (v := 8) C dX8_write_59 (by decide) ?_
        refine x_icmp_ne (tgt := 69) C dX8_write_61 (by decide) (fun c61 => ?_) (fun c61 => ?_)
        · skip
          refine x_aload_n C dX8_write_69 rfl ?_
          refine x_getf (k := 40) C bk_X8 (C.lt rfl) rfl ent_40 17 fw_X8_45 rfl rfl dX8_write_70 ?_
          refine x_iload_n C dX8_write_73 rfl ?_
          refine x_iald (j := (tn x)) (k := 52) C (C.lt rfl) rfl ent_52 (qs.2) (qs.1) rfl dX8_write_74 ?_
          refine x_bipush (v := 16) C dX8_write_75 (by decide) ?_
          refine x_icmp_ne (tgt := 85) C dX8_write_77 (by decide) (fun c77 => ?_) (fun c77 => ?_)
          · skip
            refine x_iload_n C dX8_write_85 rfl ?_
            refine x_topE (y := bitsV (aW (aM M) (tn x)) v) (by unfold bitsV; rw [aW_M qs.1]; first | (rw [if_pos c61]; done) | (rw [if_neg c61, if_pos c77]; done) | (rw [if_neg c61, if_neg c77]; done)) ?_
            refine x_iast (j := 40 * tn x + tn i) (k := 54) C (C.lt rfl) rfl ent_54 (ix_c qs.2 qi.2) (by have := qs.1; have := qi.1; omega) rfl dX8_write_86 ?_
            refine x_memI (fun M1 eM1 => ?_)
            refine x_iconst (v := 1) C dX8_write_87 (by decide) ?_
            refine hret _ _ _ _ dX8_write_88 rfl ?_
            have hw := shm_num (M := M) (M1 := M1) (X := updX (aX (aM M)) (tn x) (tn i) (bitsV (aW (aM M) (tn x)) v)) qs.1 (fun u hu => if_neg hu) (fun k hk => ?_) (fun j hj => by rw [eM1, up_sn (by have := qi.1; omega)]) (fun k hk => ?_) (by rw [eM1]; exact same.up (by simp))
            · refine sh_M ?_ hw (by rw [eM1]; exact same.up (by simp))
              exact (ifp_t (by rw [← ex4]; exact c9x)).trans (ifp_t (by rw [aN_M qs.1]; unfold inB at hl; clear hret hcs C hw; grind))
            · rw [eM1, up_s]; show _ = (if tn x = tn x then upd (aX (aM M) (tn x)) _ _ else _) k; rw [if_pos rfl]
              by_cases q1 : k = tn i
              · rw [q1, pk_us, pk_us]
              · rw [pk_un q1, pk_un (by omega)]; exact (aX_M qs.1 hk).symm
            · show (if tn x = tn x then upd (aX (aM M) (tn x)) _ _ else _) k = 0; rw [if_pos rfl, pk_un (by have := qi.1; omega)]; exact aX_zM (Or.inr hk)
          · skip
            refine x_iload_n C dX8_write_80 rfl ?_
            refine x_i2s C dX8_write_81 rfl ?_
            refine x_goto (tgt := 86) C dX8_write_82 (by decide) ?_
            refine x_topE (y := bitsV (aW (aM M) (tn x)) v) (by unfold bitsV; rw [aW_M qs.1]; first | (rw [if_pos c61]; done) | (rw [if_neg c61, if_pos c77]; done) | (rw [if_neg c61, if_neg c77]; done)) ?_
            refine x_iast (j := 40 * tn x + tn i) (k := 54) C (C.lt rfl) rfl ent_54 (ix_c qs.2 qi.2) (by have := qs.1; have := qi.1; omega) rfl dX8_write_86 ?_
            refine x_memI (fun M1 eM1 => ?_)
            refine x_iconst (v := 1) C dX8_write_87 (by decide) ?_
            refine hret _ _ _ _ dX8_write_88 rfl ?_
            have hw := shm_num (M := M) (M1 := M1) (X := updX (aX (aM M)) (tn x) (tn i) (bitsV (aW (aM M) (tn x)) v)) qs.1 (fun u hu => if_neg hu) (fun k hk => ?_) (fun j hj => by rw [eM1, up_sn (by have := qi.1; omega)]) (fun k hk => ?_) (by rw [eM1]; exact same.up (by simp))
            · refine sh_M ?_ hw (by rw [eM1]; exact same.up (by simp))
              exact (ifp_t (by rw [← ex4]; exact c9x)).trans (ifp_t (by rw [aN_M qs.1]; unfold inB at hl; clear hret hcs C hw; grind))
            · rw [eM1, up_s]; show _ = (if tn x = tn x then upd (aX (aM M) (tn x)) _ _ else _) k; rw [if_pos rfl]
              by_cases q1 : k = tn i
              · rw [q1, pk_us, pk_us]
              · rw [pk_un q1, pk_un (by omega)]; exact (aX_M qs.1 hk).symm
            · show (if tn x = tn x then upd (aX (aM M) (tn x)) _ _ else _) k = 0; rw [if_pos rfl, pk_un (by have := qi.1; omega)]; exact aX_zM (Or.inr hk)
        · skip
          refine x_iload_n C dX8_write_64 rfl ?_
          refine x_i2b C dX8_write_65 rfl ?_
          refine x_goto (tgt := 86) C dX8_write_66 (by decide) ?_
          refine x_topE (y := bitsV (aW (aM M) (tn x)) v) (by unfold bitsV; rw [aW_M qs.1]; first | (rw [if_pos c61]; done) | (rw [if_neg c61, if_pos c77]; done) | (rw [if_neg c61, if_neg c77]; done)) ?_
          refine x_iast (j := 40 * tn x + tn i) (k := 54) C (C.lt rfl) rfl ent_54 (ix_c qs.2 qi.2) (by have := qs.1; have := qi.1; omega) rfl dX8_write_86 ?_
          refine x_memI (fun M1 eM1 => ?_)
          refine x_iconst (v := 1) C dX8_write_87 (by decide) ?_
          refine hret _ _ _ _ dX8_write_88 rfl ?_
          have hw := shm_num (M := M) (M1 := M1) (X := updX (aX (aM M)) (tn x) (tn i) (bitsV (aW (aM M) (tn x)) v)) qs.1 (fun u hu => if_neg hu) (fun k hk => ?_) (fun j hj => by rw [eM1, up_sn (by have := qi.1; omega)]) (fun k hk => ?_) (by rw [eM1]; exact same.up (by simp))
          · refine sh_M ?_ hw (by rw [eM1]; exact same.up (by simp))
            exact (ifp_t (by rw [← ex4]; exact c9x)).trans (ifp_t (by rw [aN_M qs.1]; unfold inB at hl; clear hret hcs C hw; grind))
          · rw [eM1, up_s]; show _ = (if tn x = tn x then upd (aX (aM M) (tn x)) _ _ else _) k; rw [if_pos rfl]
            by_cases q1 : k = tn i
            · rw [q1, pk_us, pk_us]
            · rw [pk_un q1, pk_un (by omega)]; exact (aX_M qs.1 hk).symm
          · show (if tn x = tn x then upd (aX (aM M) (tn x)) _ _ else _) k = 0; rw [if_pos rfl, pk_un (by have := qi.1; omega)]; exact aX_zM (Or.inr hk)
      · skip
        exact absurd c9x c33
    · skip
      refine x_if_neF (tgt := 31) C dX8_write_25 (by decide) (by decide) ?_
      refine x_iconst (v := 0) C dX8_write_28 (by decide) ?_
      refine x_istore C dX8_write_29 rfl ?_
      refine x_iload C dX8_write_31 rfl ?_
      refine x_if_ltF (tgt := 43) C dX8_write_33 (by decide) (by decide) ?_
      refine x_aload_n C dX8_write_36 rfl ?_
      refine x_iload C dX8_write_37 rfl ?_
      refine x_cvi C (k := 40) (c_X8_no l g _ (k := 0) rfl (by decide) ) o_X8_no mw_X8_119 rfl (C.lt rfl) rcv_40 rfl rfl rfl hcs dX8_write_39 (fun rf M2 hf => ?_)
      refine hret _ _ _ _ dX8_write_42 rfl ?_
      exact fi_M (k := 0) ((ifp_t (by rw [← ex4]; exact c9x)).trans (ifp_f (by rw [aN_M qs.1]; unfold inB at hl; clear hret hcs C hf; grind))) hf rfl (by decide) rfl (same.rf)

def rm_X8_copy : Room := { frames := 2, cells := 0, slots := 0, locals := 42 }
set_option maxRecDepth 100000 in
set_option maxHeartbeats 4000000 in
theorem c_X8_copy (l : Launch) (g : Gp) (M : Mem) (oa : okA (aM M))  (x f y p n : Int32) : Ki l g yX8_copy cX8_copy 7 .int rm_X8_copy [.ref (gad g (40)), .int (x), .int (f), .int (y), .int (p), .int (n)] M (fun r M' => (r, aM M') = F_copy x f y p n (aM M) ∧ sameM M M') := by
  refine Ki.of rfl rfl rfl (fun q C hret hcs => ?_)
  have o : okRow (vm M) := oa.1
  refine x_iload_n C dX8_copy_0 rfl ?_
  refine x_csB C (c_X8_isSheet l g _ _ ) o_X8_isSheet mw_X8_185 rfl rfl rfl rfl hcs dX8_copy_1 (fun c1 => ?_) (fun c1 => ?_)
  · skip
    have qx := inB_tn (n := 3) (by decide) c1
    have hl := okSh_M oa qx.1
    refine x_if_eqF (tgt := 14) C dX8_copy_4 (by decide) (by decide) ?_
    refine x_iload_n C dX8_copy_7 rfl ?_
    refine x_csB C (c_X8_isSheet l g _ _ ) o_X8_isSheet mw_X8_185 rfl rfl rfl rfl hcs dX8_copy_8 (fun c8 => ?_) (fun c8 => ?_)
    · skip
      have qy := inB_tn (n := 3) (by decide) c8
      have hm := okSh_M oa qy.1
      have b1 := hl; have b2 := hm; unfold inB at b1 b2
      refine x_if_neT (tgt := 20) C dX8_copy_11 (by decide) (by decide) ?_
      refine x_aload_n C dX8_copy_20 rfl ?_
      refine x_getf (k := 40) C bk_X8 (C.lt rfl) rfl ent_40 17 fw_X8_45 rfl rfl dX8_copy_21 ?_
      refine x_iload_n C dX8_copy_24 rfl ?_
      refine x_iald (j := (tn x)) (k := 52) C (C.lt rfl) rfl ent_52 (qx.2) (qx.1) rfl dX8_copy_25 ?_
      refine x_if_eq (tgt := 38) C dX8_copy_26 (by decide) (fun c26 => ?_) (fun c26 => ?_)
      · skip
        refine x_aload_n C dX8_copy_38 rfl ?_
        refine x_iconst (v := 5) C dX8_copy_39 (by decide) ?_
        refine x_cvi C (k := 40) (c_X8_no l g _ (k := 5) rfl (by decide) ) o_X8_no mw_X8_119 rfl (C.lt rfl) rcv_40 rfl rfl rfl hcs dX8_copy_40 (fun rg M1 hg => ?_)
        refine hret _ _ _ _ dX8_copy_43 rfl ?_
        exact fi_M (k := 5) ((ifp_t ⟨c1, c8⟩).trans (ifp_t (by rw [aW_M qx.1, aW_M qy.1]; first | exact Or.inl c26 | exact Or.inr c35 | exact Or.inr (Classical.not_not.mp c35)))) hg rfl (by decide) rfl (same.rf)
      · skip
        refine x_aload_n C dX8_copy_29 rfl ?_
        refine x_getf (k := 40) C bk_X8 (C.lt rfl) rfl ent_40 17 fw_X8_45 rfl rfl dX8_copy_30 ?_
        refine x_iload_n C dX8_copy_33 rfl ?_
        refine x_iald (j := (tn y)) (k := 52) C (C.lt rfl) rfl ent_52 (qy.2) (qy.1) rfl dX8_copy_34 ?_
        refine x_if_ne (tgt := 44) C dX8_copy_35 (by decide) (fun c35 => ?_) (fun c35 => ?_)
        · skip
          refine x_aload_n C dX8_copy_44 rfl ?_
          refine x_getf (k := 40) C bk_X8 (C.lt rfl) rfl ent_40 17 fw_X8_45 rfl rfl dX8_copy_45 ?_
          refine x_iload_n C dX8_copy_48 rfl ?_
          refine x_iald (j := (tn x)) (k := 52) C (C.lt rfl) rfl ent_52 (qx.2) (qx.1) rfl dX8_copy_49 ?_
          refine x_aload_n C dX8_copy_50 rfl ?_
          refine x_getf (k := 40) C bk_X8 (C.lt rfl) rfl ent_40 17 fw_X8_45 rfl rfl dX8_copy_51 ?_
          refine x_iload_n C dX8_copy_54 rfl ?_
          refine x_iald (j := (tn y)) (k := 52) C (C.lt rfl) rfl ent_52 (qy.2) (qy.1) rfl dX8_copy_55 ?_
          refine x_icmp_eq (tgt := 65) C dX8_copy_56 (by decide) (fun c56 => ?_) (fun c56 => ?_)
          · skip
            refine x_iload C dX8_copy_65 rfl ?_
            refine x_if_lt (tgt := 106) C dX8_copy_67 (by decide) (fun c67 => ?_) (fun c67 => ?_)
            · skip
              refine x_aload_n C dX8_copy_106 rfl ?_
              refine x_iconst (v := 0) C dX8_copy_107 (by decide) ?_
              refine x_cvi C (k := 40) (c_X8_no l g _ (k := 0) rfl (by decide) ) o_X8_no mw_X8_119 rfl (C.lt rfl) rcv_40 rfl rfl rfl hcs dX8_copy_108 (fun rb M2 hb => ?_)
              refine hret _ _ _ _ dX8_copy_111 rfl ?_
              exact fi_M (k := 0) ((ifp_t ⟨c1, c8⟩).trans ((ifp_f (by rw [aW_M qx.1, aW_M qy.1]; exact fun z => z.elim c26 c35)).trans ((ifp_t (by rw [aW_M qx.1, aW_M qy.1]; exact c56)).trans (ifp_f (by rw [aN_M qx.1, aN_M qy.1]; clear hret hcs C hl hm hb; grind))))) hb rfl (by decide) rfl (same.rf)
            · skip
              refine x_iload_n C dX8_copy_70 rfl ?_
              refine x_if_lt (tgt := 106) C dX8_copy_71 (by decide) (fun c71 => ?_) (fun c71 => ?_)
              · skip
                refine x_aload_n C dX8_copy_106 rfl ?_
                refine x_iconst (v := 0) C dX8_copy_107 (by decide) ?_
                refine x_cvi C (k := 40) (c_X8_no l g _ (k := 0) rfl (by decide) ) o_X8_no mw_X8_119 rfl (C.lt rfl) rcv_40 rfl rfl rfl hcs dX8_copy_108 (fun rb M3 hb => ?_)
                refine hret _ _ _ _ dX8_copy_111 rfl ?_
                exact fi_M (k := 0) ((ifp_t ⟨c1, c8⟩).trans ((ifp_f (by rw [aW_M qx.1, aW_M qy.1]; exact fun z => z.elim c26 c35)).trans ((ifp_t (by rw [aW_M qx.1, aW_M qy.1]; exact c56)).trans (ifp_f (by rw [aN_M qx.1, aN_M qy.1]; clear hret hcs C hl hm hb; grind))))) hb rfl (by decide) rfl (same.rf)
              · skip
                refine x_iload C dX8_copy_74 rfl ?_
                refine x_if_lt (tgt := 106) C dX8_copy_76 (by decide) (fun c76 => ?_) (fun c76 => ?_)
                · skip
                  refine x_aload_n C dX8_copy_106 rfl ?_
                  refine x_iconst (v := 0) C dX8_copy_107 (by decide) ?_
                  refine x_cvi C (k := 40) (c_X8_no l g _ (k := 0) rfl (by decide) ) o_X8_no mw_X8_119 rfl (C.lt rfl) rcv_40 rfl rfl rfl hcs dX8_copy_108 (fun rb M4 hb => ?_)
                  refine hret _ _ _ _ dX8_copy_111 rfl ?_
                  exact fi_M (k := 0) ((ifp_t ⟨c1, c8⟩).trans ((ifp_f (by rw [aW_M qx.1, aW_M qy.1]; exact fun z => z.elim c26 c35)).trans ((ifp_t (by rw [aW_M qx.1, aW_M qy.1]; exact c56)).trans (ifp_f (by rw [aN_M qx.1, aN_M qy.1]; clear hret hcs C hl hm hb; grind))))) hb rfl (by decide) rfl (same.rf)
                · skip
                  refine x_iload_n C dX8_copy_79 rfl ?_
                  refine x_aload_n C dX8_copy_80 rfl ?_
                  refine x_getf (k := 40) C bk_X8 (C.lt rfl) rfl ent_40 18 fw_X8_48 rfl rfl dX8_copy_81 ?_
                  refine x_iload_n C dX8_copy_84 rfl ?_
                  refine x_iald (j := (tn x)) (k := 53) C (C.lt rfl) rfl ent_53 (qx.2) (qx.1) rfl dX8_copy_85 ?_
                  refine x_iload C dX8_copy_86 rfl ?_
                  refine x_isub C dX8_copy_88 ?_
                  refine x_icmp_gt (tgt := 106) C dX8_copy_89 (by decide) (fun c89 => ?_) (fun c89 => ?_)
                  · skip
                    refine x_aload_n C dX8_copy_106 rfl ?_
                    refine x_iconst (v := 0) C dX8_copy_107 (by decide) ?_
                    refine x_cvi C (k := 40) (c_X8_no l g _ (k := 0) rfl (by decide) ) o_X8_no mw_X8_119 rfl (C.lt rfl) rcv_40 rfl rfl rfl hcs dX8_copy_108 (fun rb M5 hb => ?_)
                    refine hret _ _ _ _ dX8_copy_111 rfl ?_
                    exact fi_M (k := 0) ((ifp_t ⟨c1, c8⟩).trans ((ifp_f (by rw [aW_M qx.1, aW_M qy.1]; exact fun z => z.elim c26 c35)).trans ((ifp_t (by rw [aW_M qx.1, aW_M qy.1]; exact c56)).trans (ifp_f (by rw [aN_M qx.1, aN_M qy.1]; clear hret hcs C hl hm hb; grind))))) hb rfl (by decide) rfl (same.rf)
                  · skip
                    refine x_iload C dX8_copy_92 rfl ?_
                    refine x_aload_n C dX8_copy_94 rfl ?_
                    refine x_getf (k := 40) C bk_X8 (C.lt rfl) rfl ent_40 18 fw_X8_48 rfl rfl dX8_copy_95 ?_
                    refine x_iload_n C dX8_copy_98 rfl ?_
                    refine x_iald (j := (tn y)) (k := 53) C (C.lt rfl) rfl ent_53 (qy.2) (qy.1) rfl dX8_copy_99 ?_
                    refine x_iload C dX8_copy_100 rfl ?_
                    refine x_isub C dX8_copy_102 ?_
                    refine x_icmp_le (tgt := 112) C dX8_copy_103 (by decide) (fun c103 => ?_) (fun c103 => ?_)
                    · skip
                      have qn := inB_tn (n := 40) (by decide) (show inB n 0 40 by unfold inB; clear hret hcs C hl hm; grind)
                      have qf := inB_tn (n := 40) (by decide) (show inB f 0 40 by unfold inB; clear hret hcs C hl hm; grind)
                      have qp := inB_tn (n := 40) (by decide) (show inB p 0 40 by unfold inB; clear hret hcs C hl hm; grind)
                      have hF : tn n + tn f ≤ 40 := sub_fit (x := n) (l := M 53 (tn x)) (by omega) (by omega) hl (by clear hret hcs C hl hm; grind) qn.2 (by rw [← qn.2, ← qf.2]; clear hret hcs C hl hm; grind)
                      have hO : tn n + tn p ≤ 40 := sub_fit (x := n) (l := M 53 (tn y)) (by omega) (by omega) hm (by clear hret hcs C hl hm; grind) qn.2 (by rw [← qn.2, ← qp.2]; clear hret hcs C hl hm; grind)
                      refine x_iconst (v := 0) C dX8_copy_112 (by decide) ?_
                      refine x_istore C dX8_copy_113 rfl ?_
                      refine up_to (tn n) (P := fun k => ∀ M1 : Mem, (∀ j, j < k → M1 55 j = M 54 (40 * tn x + (tn f + j))) → same [55] M M1 → X (kmk l rm_X8_copy g 7 q) M1 115 [some (.ref (gad g (40))), some (.int (x)), some (.int (f)), some (.int (y)), some (.int (p)), some (.int (n)), some (.int (nI k))] []) (fun k hi ih M1 hv hs1 => ?_) 0 (Nat.zero_le _) M (fun j hj => absurd hj (by omega)) same.rf
                      refine x_iload C dX8_copy_115 rfl ?_
                      refine x_iload C dX8_copy_117 rfl ?_
                      refine x_icmp_ge (tgt := 149) C dX8_copy_119 (by decide) (fun c119 => ?_) (fun c119 => ?_)
                      · skip
                        have hlt := lp_ge (N := tn n) (by omega) hi (by rw [← qn.2]; exact c119)
                        subst hlt
                        refine x_iconst (v := 0) C dX8_copy_149 (by decide) ?_
                        refine x_istore C dX8_copy_150 rfl ?_
                        refine up_to (tn n) (P := fun k => ∀ M3 : Mem, (∀ j, M3 54 j = if 40 * tn y + tn p ≤ j ∧ j < 40 * tn y + tn p + k then M 54 (40 * tn x + (tn f + (j - (40 * tn y + tn p)))) else M 54 j) → M3 55 = M1 55 → same [54, 55] M M3 → X (kmk l rm_X8_copy g 7 q) M3 152 [some (.ref (gad g (40))), some (.int (x)), some (.int (f)), some (.int (y)), some (.int (p)), some (.int (n)), some (.int (nI k))] []) (fun k hj ij M3 h54 h55 hs3 => ?_) 0 (Nat.zero_le _) M1 (fun j => by rw [if_neg (by omega), hs1 54 (by decide)]) rfl (hs1.mono (by simp))
                        refine x_iload C dX8_copy_152 rfl ?_
                        refine x_iload C dX8_copy_154 rfl ?_
                        refine x_icmp_ge (tgt := 187) C dX8_copy_156 (by decide) (fun c156 => ?_) (fun c156 => ?_)
                        · skip
                          have hl2 := lp_ge (N := tn n) (by omega) hj (by rw [← qn.2]; exact c156)
                          refine x_iload C dX8_copy_187 rfl ?_
                          refine hret _ _ _ _ dX8_copy_189 rfl ?_
                          subst hl2
                          have hw := shm_num (M := M) (M1 := M3) (X := copX (aX (aM M)) (tn x) (tn f) (tn y) (tn p) (tn n)) qy.1 (fun u hu => if_neg hu) (fun i hi => ?_) (fun j hj => by rw [h54 j, if_neg (by omega)]) (fun i hi => ?_) hs3
                          · refine sh_M ?_ hw (hs3.mono (by simp))
                            exact (ifp_t ⟨c1, c8⟩).trans ((ifp_f (by rw [aW_M qx.1, aW_M qy.1]; exact fun z => z.elim c26 c35)).trans ((ifp_t (by rw [aW_M qx.1, aW_M qy.1]; exact c56)).trans (ifp_t (by rw [aN_M qx.1, aN_M qy.1]; clear hret hcs C hl hm hw; grind))))
                          · rw [h54]; show _ = (if tn y = tn y then _ else _ : Row) i; rw [if_pos rfl]
                            by_cases q1 : tn p ≤ i ∧ i < tn p + tn n
                            · rw [if_pos q1, if_pos (by omega), aX_M qx.1 (by omega)]; congr 1; omega
                            · rw [if_neg q1, if_neg (by omega)]; exact (aX_M qy.1 hi).symm
                          · show (if tn y = tn y then _ else _ : Row) i = 0; rw [if_pos rfl, if_neg (by omega)]; exact aX_zM (Or.inr hi)
                        · skip
                          have hl2 := lp_lt (N := tn n) (by omega) hj (by rw [← qn.2]; exact c156)
                          refine x_aload_n C dX8_copy_159 rfl ?_
                          refine x_getf (k := 40) C bk_X8 (C.lt rfl) rfl ent_40 19 fw_X8_51 rfl rfl dX8_copy_160 ?_
                          refine x_bipush (v := 40) C dX8_copy_163 (by decide) ?_
                          refine x_iload_n C dX8_copy_165 rfl ?_
                          refine x_imul C dX8_copy_166 ?_
                          refine x_iload C dX8_copy_167 rfl ?_
                          refine x_iadd C dX8_copy_169 ?_
                          refine x_iload C dX8_copy_170 rfl ?_
                          refine x_iadd C dX8_copy_172 ?_
                          refine x_aload_n C dX8_copy_173 rfl ?_
                          refine x_getf (k := 40) C bk_X8 (C.lt rfl) rfl ent_40 20 fw_X8_54 rfl rfl dX8_copy_174 ?_
                          refine x_iload C dX8_copy_177 rfl ?_
                          refine x_iald (j := k) (k := 55) C (C.lt rfl) rfl ent_55 (rfl) (by omega) rfl dX8_copy_179 ?_
                          refine x_topE (y := M 54 (40 * tn x + (tn f + k))) (by rw [h55]; exact hv k hl2) ?_
                          refine x_iast (j := 40 * tn y + (tn p + k)) (k := 54) C (C.lt rfl) rfl ent_54 (ix_c3 qy.2 qp.2 rfl) (by have := qy.1; omega) rfl dX8_copy_180 ?_
                          refine x_memI (fun M4 eM4 => ?_)
                          refine x_iinc (v := nI (k + 1)) C dX8_copy_181 rfl (nI_1 k) rfl ?_
                          refine x_goto (tgt := 152) C dX8_copy_184 (by decide) ?_
                          refine ij hl2 M4 (fun j => ?_) (by rw [eM4, up_n (by decide)]; exact h55) (hs3.tr (by rw [eM4]; exact same.up (by simp)))
                          rw [eM4]
                          by_cases q : j = 40 * tn y + (tn p + k)
                          · rw [q, up_ss, if_pos (by omega)]; congr 1; omega
                          · rw [up_sn q, h54 j]
                            by_cases r : 40 * tn y + tn p ≤ j ∧ j < 40 * tn y + tn p + k
                            · rw [if_pos r, if_pos (by omega)]
                            · rw [if_neg r, if_neg (by omega)]
                      · skip
                        have hlt := lp_lt (N := tn n) (by omega) hi (by rw [← qn.2]; exact c119)
                        refine x_aload_n C dX8_copy_122 rfl ?_
                        refine x_getf (k := 40) C bk_X8 (C.lt rfl) rfl ent_40 20 fw_X8_54 rfl rfl dX8_copy_123 ?_
                        refine x_iload C dX8_copy_126 rfl ?_
                        refine x_aload_n C dX8_copy_128 rfl ?_
                        refine x_getf (k := 40) C bk_X8 (C.lt rfl) rfl ent_40 19 fw_X8_51 rfl rfl dX8_copy_129 ?_
                        refine x_bipush (v := 40) C dX8_copy_132 (by decide) ?_
                        refine x_iload_n C dX8_copy_134 rfl ?_
                        refine x_imul C dX8_copy_135 ?_
                        refine x_iload_n C dX8_copy_136 rfl ?_
                        refine x_iadd C dX8_copy_137 ?_
                        refine x_iload C dX8_copy_138 rfl ?_
                        refine x_iadd C dX8_copy_140 ?_
                        refine x_iald (j := 40 * tn x + (tn f + k)) (k := 54) C (C.lt rfl) rfl ent_54 (ix_c3 qx.2 qf.2 rfl) (by have := qx.1; omega) rfl dX8_copy_141 ?_
                        refine x_topE (y := M 54 (40 * tn x + (tn f + k))) (by rw [hs1 54 (by decide)]) ?_
                        refine x_iast (j := k) (k := 55) C (C.lt rfl) rfl ent_55 (rfl) (by omega) rfl dX8_copy_142 ?_
                        refine x_memI (fun M2 eM2 => ?_)
                        refine x_iinc (v := nI (k + 1)) C dX8_copy_143 rfl (nI_1 k) rfl ?_
                        refine x_goto (tgt := 115) C dX8_copy_146 (by decide) ?_
                        refine ih hlt M2 (fun j hj => ?_) (hs1.tr (by rw [eM2]; exact same.up (by simp)))
                        rw [eM2]
                        by_cases q : j = k
                        · subst q; exact up_ss
                        · rw [up_sn q]; exact hv j (by omega)
                    · skip
                      refine x_aload_n C dX8_copy_106 rfl ?_
                      refine x_iconst (v := 0) C dX8_copy_107 (by decide) ?_
                      refine x_cvi C (k := 40) (c_X8_no l g _ (k := 0) rfl (by decide) ) o_X8_no mw_X8_119 rfl (C.lt rfl) rcv_40 rfl rfl rfl hcs dX8_copy_108 (fun rb M6 hb => ?_)
                      refine hret _ _ _ _ dX8_copy_111 rfl ?_
                      exact fi_M (k := 0) ((ifp_t ⟨c1, c8⟩).trans ((ifp_f (by rw [aW_M qx.1, aW_M qy.1]; exact fun z => z.elim c26 c35)).trans ((ifp_t (by rw [aW_M qx.1, aW_M qy.1]; exact c56)).trans (ifp_f (by rw [aN_M qx.1, aN_M qy.1]; clear hret hcs C hl hm hb; grind))))) hb rfl (by decide) rfl (same.rf)
          · skip
            refine x_aload_n C dX8_copy_59 rfl ?_
            refine x_iconst (v := 2) C dX8_copy_60 (by decide) ?_
            refine x_cvi C (k := 40) (c_X8_no l g _ (k := 2) rfl (by decide) ) o_X8_no mw_X8_119 rfl (C.lt rfl) rcv_40 rfl rfl rfl hcs dX8_copy_61 (fun rk M7 hk => ?_)
            refine hret _ _ _ _ dX8_copy_64 rfl ?_
            exact fi_M (k := 2) ((ifp_t ⟨c1, c8⟩).trans ((ifp_f (by rw [aW_M qx.1, aW_M qy.1]; exact fun z => z.elim c26 c35)).trans (ifp_f (by rw [aW_M qx.1, aW_M qy.1]; exact c56)))) hk rfl (by decide) rfl (same.rf)
        · skip
          refine x_aload_n C dX8_copy_38 rfl ?_
          refine x_iconst (v := 5) C dX8_copy_39 (by decide) ?_
          refine x_cvi C (k := 40) (c_X8_no l g _ (k := 5) rfl (by decide) ) o_X8_no mw_X8_119 rfl (C.lt rfl) rcv_40 rfl rfl rfl hcs dX8_copy_40 (fun rg M8 hg => ?_)
          refine hret _ _ _ _ dX8_copy_43 rfl ?_
          exact fi_M (k := 5) ((ifp_t ⟨c1, c8⟩).trans (ifp_t (by rw [aW_M qx.1, aW_M qy.1]; first | exact Or.inl c26 | exact Or.inr c35 | exact Or.inr (Classical.not_not.mp c35)))) hg rfl (by decide) rfl (same.rf)
    · skip
      refine x_if_neF (tgt := 20) C dX8_copy_11 (by decide) (by decide) ?_
      refine x_aload_n C dX8_copy_14 rfl ?_
      refine x_iconst (v := 0) C dX8_copy_15 (by decide) ?_
      refine x_cvi C (k := 40) (c_X8_no l g _ (k := 0) rfl (by decide) ) o_X8_no mw_X8_119 rfl (C.lt rfl) rcv_40 rfl rfl rfl hcs dX8_copy_16 (fun rf M9 hf => ?_)
      refine hret _ _ _ _ dX8_copy_19 rfl ?_
      exact fi_M (k := 0) (ifp_f (fun z => by first | exact c8 z.2 | exact c1 z.1)) hf rfl (by decide) rfl (same.rf)
  · skip
    refine x_if_eqT (tgt := 14) C dX8_copy_4 (by decide) (by decide) ?_
    refine x_aload_n C dX8_copy_14 rfl ?_
    refine x_iconst (v := 0) C dX8_copy_15 (by decide) ?_
    refine x_cvi C (k := 40) (c_X8_no l g _ (k := 0) rfl (by decide) ) o_X8_no mw_X8_119 rfl (C.lt rfl) rcv_40 rfl rfl rfl hcs dX8_copy_16 (fun rf M10 hf => ?_)
    refine hret _ _ _ _ dX8_copy_19 rfl ?_
    exact fi_M (k := 0) (ifp_f (fun z => by first | exact c8 z.2 | exact c1 z.1)) hf rfl (by decide) rfl (same.rf)

