/-! ===== contracts: the model's words and numbers ===== -/
theorem ix_8 (i k : Nat) : 8 * nI i + nI k = nI (8 * i + k) := by rw [show (8 : Int32) = nI 8 from rfl, pk_mul, nI_add]
theorem l2i_n {v : Int64} {a : Nat} (hv : v.toInt = (a : Int)) (ha : a < 2 ^ 31) : v.toInt32 = nI a := by
  apply Int32.toInt_inj.mp
  rw [Int64.toInt_toInt32, hv, nI_toInt ha]
  exact Int.bmod_eq_of_le (by omega) (by omega)
theorem wrd_iff {T : Row} {L p w : Nat} {M : Mem} {v : Int64} (hr : rdM T L M p) (hw : w < 13) (h1 : sor T L p = 1) (hv : v.toInt = ((pdg w 8 : Nat) : Int)) : lg_cmp v (lvM M) = 0 ↔ isW T L p w := by
  have hd := dig_w hr.1 hw h1
  rw [eq_i64 hv hr.2.2.2.2, pdg_8 w hw, val_1 h1]
  exact ⟨fun z => hd.mp z.symm, fun z => (hd.mpr z).symm⟩
def rm_X8_wordOf : Room := { frames := 0, cells := 0, slots := 0, locals := 0 }
set_option maxRecDepth 100000 in
set_option maxHeartbeats 4000000 in
theorem c_X8_wordOf48 (l : Launch) (g : Gp) (M : Mem) {T : Row} {L p : Nat} (hr : rdM T L M p) (hc : ∀ w, w < 7 → ∀ k, k < 8 → M 48 (8 * w + k) = padW (0 + w) k) : Kp l g yX8_wordOf cX8_wordOf 7 .int rm_X8_wordOf [.ref (gad g (40)), .ref (gad g (48))] M (fun r => r = whI T L p 0 7) := by
  unfold Kp
  refine Ki.of rfl rfl rfl (fun q C hret hcs => ?_)
  refine x_iconst (v := -1) C dX8_wordOf_0 (by decide) ?_
  refine x_istore_n C dX8_wordOf_1 rfl ?_
  refine x_iconst (v := 0) C dX8_wordOf_2 (by decide) ?_
  refine x_istore_n C dX8_wordOf_3 rfl ?_
  refine up_to 7 (P := fun i => X (kmk l rm_X8_wordOf g 7 q) M 4 [some (.ref (gad g (40))), some (.ref (gad g (48))), some (.int (whI T L p 0 i)), some (.int (nI i)), none, none, none] []) (fun i hi ih => ?_) 0 (by omega)
  refine x_iload_n C dX8_wordOf_4 rfl ?_
  refine x_aload_n C dX8_wordOf_5 rfl ?_
  refine x_alenC (k := 48) (v := 56) C (C.lt rfl) rfl ent_48 rfl dX8_wordOf_6 ?_
  refine x_bipush (v := 8) C dX8_wordOf_7 (by decide) ?_
  refine x_idiv C dX8_wordOf_9 (by decide) ?_
  refine x_topE (y := nI 7) (by decide) ?_
  refine x_icmp_ge (tgt := 104) C dX8_wordOf_10 (by decide) (fun c10 => ?_) (fun c10 => ?_)
  · skip
    have hlt := lp_ge (N := 7) (by decide) hi c10
    have hz : whI T L p 0 i = whI T L p 0 7 := by rw [hlt]
    refine x_iload_n C dX8_wordOf_104 rfl ?_
    refine hret _ _ _ _ dX8_wordOf_105 rfl ⟨?_, rfl⟩
    exact hz
  · skip
    have hlt := lp_lt (N := 7) (by decide) hi c10
    refine x_aload_n C dX8_wordOf_13 rfl ?_
    refine x_getf (k := 40) C bk_X8 (C.lt rfl) rfl ent_40 9 fw_X8_219 rfl rfl dX8_wordOf_14 ?_
    refine x_iconst (v := 1) C dX8_wordOf_17 (by decide) ?_
    refine x_icmp_ne (tgt := 104) C dX8_wordOf_18 (by decide) (fun c18 => ?_) (fun c18 => ?_)
    · skip
      have hno : ∀ w, ¬ isW T L p w := fun w z => c18 ((sorM_is (k := 1) (by decide) hr.2.1).mpr (sorM_1.mpr z.1))
      have hz : whI T L p 0 i = whI T L p 0 7 := (whI_no i (fun w _ => hno _)).trans (whI_no 7 (fun w _ => hno _)).symm
      refine x_iload_n C dX8_wordOf_104 rfl ?_
      refine hret _ _ _ _ dX8_wordOf_105 rfl ⟨?_, rfl⟩
      exact hz
    · skip
      have h1 : sor T L p = 1 := sorM_1.mp ((sorM_is (k := 1) (by decide) hr.2.1).mp c18)
      refine x_lconst (v := 0) C dX8_wordOf_21 rfl ?_
      refine x_lstore C dX8_wordOf_22 rfl ?_
      refine x_iconst (v := 0) C dX8_wordOf_24 (by decide) ?_
      refine x_istore C dX8_wordOf_25 rfl ?_
      refine up_to 8 (P := fun k => ∀ v : Int64, v.toInt = ((pdg (0 + i) k : Nat) : Int) → X (kmk l rm_X8_wordOf g 7 q) M 27 [some (.ref (gad g (40))), some (.ref (gad g (48))), some (.int (whI T L p 0 i)), some (.int (nI i)), some (.long (v)), none, some (.int (nI k))] []) (fun k hk jh v hv => ?_) 0 (by omega) 0 rfl
      refine x_iload C dX8_wordOf_27 rfl ?_
      refine x_bipush (v := 8) C dX8_wordOf_29 (by decide) ?_
      refine x_icmp_ge (tgt := 82) C dX8_wordOf_31 (by decide) (fun c31 => ?_) (fun c31 => ?_)
      · skip
        have hkt := lp_ge (N := 8) (by decide) hk c31
        subst hkt
        have hW := wrd_iff (w := 0 + i) hr (by omega) h1 hv
        refine x_lload C dX8_wordOf_82 rfl ?_
        refine x_aload_n C dX8_wordOf_84 rfl ?_
        refine x_getf (k := 40) C bk_X8 (C.lt rfl) rfl ent_40 12 fw_X8_215 rfl rfl dX8_wordOf_85 ?_
        refine x_lcmp C dX8_wordOf_88 ?_
        refine x_if_ne (tgt := 96) C dX8_wordOf_89 (by decide) (fun c89 => ?_) (fun c89 => ?_)
        · skip
          refine x_iload_n C dX8_wordOf_96 rfl ?_
          refine x_istore_n C dX8_wordOf_97 rfl ?_
          refine x_iinc (v := nI (i + 1)) C dX8_wordOf_98 rfl (nI_1 i) rfl ?_
          refine x_goto (tgt := 4) C dX8_wordOf_101 (by decide) ?_
          refine X.le (ls' := [some (.ref (gad g (40))), some (.ref (gad g (48))), some (.int (whI T L p 0 i)), some (.int (nI (i + 1))), none, none, none]) (lle_s rfl (lle_s rfl (lle_s rfl (lle_s rfl (lle_n (lle_n (lle_n lle_e))))))) ?_
          have e : whI T L p 0 (i + 1) = whI T L p 0 i := ifp_f (fun z => c89 (hW.mpr z))
          rw [e] at ih
          exact ih hlt
        · skip
          refine x_iload_n C dX8_wordOf_92 rfl ?_
          refine x_goto (tgt := 97) C dX8_wordOf_93 (by decide) ?_
          refine x_istore_n C dX8_wordOf_97 rfl ?_
          refine x_iinc (v := nI (i + 1)) C dX8_wordOf_98 rfl (nI_1 i) rfl ?_
          refine x_goto (tgt := 4) C dX8_wordOf_101 (by decide) ?_
          refine X.le (ls' := [some (.ref (gad g (40))), some (.ref (gad g (48))), some (.int (nI i)), some (.int (nI (i + 1))), none, none, none]) (lle_s rfl (lle_s rfl (lle_s rfl (lle_s rfl (lle_n (lle_n (lle_n lle_e))))))) ?_
          have e : whI T L p 0 (i + 1) = nI i := ifp_t (hW.mp c89)
          rw [e] at ih
          exact ih hlt
      · skip
        have hkt := lp_lt (N := 8) (by decide) hk c31
        refine x_aload_n C dX8_wordOf_34 rfl ?_
        refine x_bipush (v := 8) C dX8_wordOf_35 (by decide) ?_
        refine x_iload_n C dX8_wordOf_37 rfl ?_
        refine x_imul C dX8_wordOf_38 ?_
        refine x_iload C dX8_wordOf_39 rfl ?_
        refine x_iadd C dX8_wordOf_41 ?_
        refine x_cald (j := 8 * i + k) (k := 48) C (C.lt rfl) rfl ent_48 (ix_8 i k) (by omega) rfl dX8_wordOf_42 ?_
        refine x_topE (y := padW (0 + i) k) (hc i hlt k hkt) ?_
        refine x_bipush (v := 32) C dX8_wordOf_43 (by decide) ?_
        refine x_icmp_ne (tgt := 53) C dX8_wordOf_45 (by decide) (fun c45 => ?_) (fun c45 => ?_)
        · skip
          refine x_lload C dX8_wordOf_53 rfl ?_
          refine x_ldc2 C kw_X8_227 dX8_wordOf_55 ?_
          refine x_lmul C dX8_wordOf_58 ?_
          refine x_aload_n C dX8_wordOf_59 rfl ?_
          refine x_bipush (v := 8) C dX8_wordOf_60 (by decide) ?_
          refine x_iload_n C dX8_wordOf_62 rfl ?_
          refine x_imul C dX8_wordOf_63 ?_
          refine x_iload C dX8_wordOf_64 rfl ?_
          refine x_iadd C dX8_wordOf_66 ?_
          refine x_cald (j := 8 * i + k) (k := 48) C (C.lt rfl) rfl ent_48 (ix_8 i k) (by omega) rfl dX8_wordOf_67 ?_
          refine x_topE (y := padW (0 + i) k) (hc i hlt k hkt) ?_
          refine x_i2l C dX8_wordOf_68 rfl ?_
          refine x_ladd C dX8_wordOf_69 ?_
          refine x_ldc2 C kw_X8_229 dX8_wordOf_70 ?_
          refine x_lsub C dX8_wordOf_73 ?_
          refine x_topl (fun v2 ev2 => ?_)
          refine x_lstore C dX8_wordOf_74 rfl ?_
          refine x_iinc (v := nI (k + 1)) C dX8_wordOf_76 rfl (nI_1 k) rfl ?_
          refine x_goto (tgt := 27) C dX8_wordOf_79 (by decide) ?_
          have e : pdg (0 + i) (k + 1) = pdg (0 + i) k * 27 + lrN (padW (0 + i) k) := if_neg c45
          refine jh hkt v2 ?_
          rw [e, ev2]
          exact lt_step hv (pdg_le _ (by omega) k (by omega)) ((pad_l _ (by omega) k hkt).resolve_left c45)
        · skip
          refine x_lload C dX8_wordOf_48 rfl ?_
          refine x_goto (tgt := 74) C dX8_wordOf_50 (by decide) ?_
          refine x_lstore C dX8_wordOf_74 rfl ?_
          refine x_iinc (v := nI (k + 1)) C dX8_wordOf_76 rfl (nI_1 k) rfl ?_
          refine x_goto (tgt := 27) C dX8_wordOf_79 (by decide) ?_
          have e : pdg (0 + i) (k + 1) = pdg (0 + i) k := if_pos c45
          exact jh hkt v (by rw [e]; exact hv)

set_option maxRecDepth 100000 in
set_option maxHeartbeats 4000000 in
theorem c_X8_wordOf49 (l : Launch) (g : Gp) (M : Mem) {T : Row} {L p : Nat} (hr : rdM T L M p) (hc : ∀ w, w < 2 → ∀ k, k < 8 → M 49 (8 * w + k) = padW (9 + w) k) : Kp l g yX8_wordOf cX8_wordOf 7 .int rm_X8_wordOf [.ref (gad g (40)), .ref (gad g (49))] M (fun r => r = whI T L p 9 2) := by
  unfold Kp
  refine Ki.of rfl rfl rfl (fun q C hret hcs => ?_)
  refine x_iconst (v := -1) C dX8_wordOf_0 (by decide) ?_
  refine x_istore_n C dX8_wordOf_1 rfl ?_
  refine x_iconst (v := 0) C dX8_wordOf_2 (by decide) ?_
  refine x_istore_n C dX8_wordOf_3 rfl ?_
  refine up_to 2 (P := fun i => X (kmk l rm_X8_wordOf g 7 q) M 4 [some (.ref (gad g (40))), some (.ref (gad g (49))), some (.int (whI T L p 9 i)), some (.int (nI i)), none, none, none] []) (fun i hi ih => ?_) 0 (by omega)
  refine x_iload_n C dX8_wordOf_4 rfl ?_
  refine x_aload_n C dX8_wordOf_5 rfl ?_
  refine x_alenC (k := 49) (v := 16) C (C.lt rfl) rfl ent_49 rfl dX8_wordOf_6 ?_
  refine x_bipush (v := 8) C dX8_wordOf_7 (by decide) ?_
  refine x_idiv C dX8_wordOf_9 (by decide) ?_
  refine x_topE (y := nI 2) (by decide) ?_
  refine x_icmp_ge (tgt := 104) C dX8_wordOf_10 (by decide) (fun c10 => ?_) (fun c10 => ?_)
  · skip
    have hlt := lp_ge (N := 2) (by decide) hi c10
    have hz : whI T L p 9 i = whI T L p 9 2 := by rw [hlt]
    refine x_iload_n C dX8_wordOf_104 rfl ?_
    refine hret _ _ _ _ dX8_wordOf_105 rfl ⟨?_, rfl⟩
    exact hz
  · skip
    have hlt := lp_lt (N := 2) (by decide) hi c10
    refine x_aload_n C dX8_wordOf_13 rfl ?_
    refine x_getf (k := 40) C bk_X8 (C.lt rfl) rfl ent_40 9 fw_X8_219 rfl rfl dX8_wordOf_14 ?_
    refine x_iconst (v := 1) C dX8_wordOf_17 (by decide) ?_
    refine x_icmp_ne (tgt := 104) C dX8_wordOf_18 (by decide) (fun c18 => ?_) (fun c18 => ?_)
    · skip
      have hno : ∀ w, ¬ isW T L p w := fun w z => c18 ((sorM_is (k := 1) (by decide) hr.2.1).mpr (sorM_1.mpr z.1))
      have hz : whI T L p 9 i = whI T L p 9 2 := (whI_no i (fun w _ => hno _)).trans (whI_no 2 (fun w _ => hno _)).symm
      refine x_iload_n C dX8_wordOf_104 rfl ?_
      refine hret _ _ _ _ dX8_wordOf_105 rfl ⟨?_, rfl⟩
      exact hz
    · skip
      have h1 : sor T L p = 1 := sorM_1.mp ((sorM_is (k := 1) (by decide) hr.2.1).mp c18)
      refine x_lconst (v := 0) C dX8_wordOf_21 rfl ?_
      refine x_lstore C dX8_wordOf_22 rfl ?_
      refine x_iconst (v := 0) C dX8_wordOf_24 (by decide) ?_
      refine x_istore C dX8_wordOf_25 rfl ?_
      refine up_to 8 (P := fun k => ∀ v : Int64, v.toInt = ((pdg (9 + i) k : Nat) : Int) → X (kmk l rm_X8_wordOf g 7 q) M 27 [some (.ref (gad g (40))), some (.ref (gad g (49))), some (.int (whI T L p 9 i)), some (.int (nI i)), some (.long (v)), none, some (.int (nI k))] []) (fun k hk jh v hv => ?_) 0 (by omega) 0 rfl
      refine x_iload C dX8_wordOf_27 rfl ?_
      refine x_bipush (v := 8) C dX8_wordOf_29 (by decide) ?_
      refine x_icmp_ge (tgt := 82) C dX8_wordOf_31 (by decide) (fun c31 => ?_) (fun c31 => ?_)
      · skip
        have hkt := lp_ge (N := 8) (by decide) hk c31
        subst hkt
        have hW := wrd_iff (w := 9 + i) hr (by omega) h1 hv
        refine x_lload C dX8_wordOf_82 rfl ?_
        refine x_aload_n C dX8_wordOf_84 rfl ?_
        refine x_getf (k := 40) C bk_X8 (C.lt rfl) rfl ent_40 12 fw_X8_215 rfl rfl dX8_wordOf_85 ?_
        refine x_lcmp C dX8_wordOf_88 ?_
        refine x_if_ne (tgt := 96) C dX8_wordOf_89 (by decide) (fun c89 => ?_) (fun c89 => ?_)
        · skip
          refine x_iload_n C dX8_wordOf_96 rfl ?_
          refine x_istore_n C dX8_wordOf_97 rfl ?_
          refine x_iinc (v := nI (i + 1)) C dX8_wordOf_98 rfl (nI_1 i) rfl ?_
          refine x_goto (tgt := 4) C dX8_wordOf_101 (by decide) ?_
          refine X.le (ls' := [some (.ref (gad g (40))), some (.ref (gad g (49))), some (.int (whI T L p 9 i)), some (.int (nI (i + 1))), none, none, none]) (lle_s rfl (lle_s rfl (lle_s rfl (lle_s rfl (lle_n (lle_n (lle_n lle_e))))))) ?_
          have e : whI T L p 9 (i + 1) = whI T L p 9 i := ifp_f (fun z => c89 (hW.mpr z))
          rw [e] at ih
          exact ih hlt
        · skip
          refine x_iload_n C dX8_wordOf_92 rfl ?_
          refine x_goto (tgt := 97) C dX8_wordOf_93 (by decide) ?_
          refine x_istore_n C dX8_wordOf_97 rfl ?_
          refine x_iinc (v := nI (i + 1)) C dX8_wordOf_98 rfl (nI_1 i) rfl ?_
          refine x_goto (tgt := 4) C dX8_wordOf_101 (by decide) ?_
          refine X.le (ls' := [some (.ref (gad g (40))), some (.ref (gad g (49))), some (.int (nI i)), some (.int (nI (i + 1))), none, none, none]) (lle_s rfl (lle_s rfl (lle_s rfl (lle_s rfl (lle_n (lle_n (lle_n lle_e))))))) ?_
          have e : whI T L p 9 (i + 1) = nI i := ifp_t (hW.mp c89)
          rw [e] at ih
          exact ih hlt
      · skip
        have hkt := lp_lt (N := 8) (by decide) hk c31
        refine x_aload_n C dX8_wordOf_34 rfl ?_
        refine x_bipush (v := 8) C dX8_wordOf_35 (by decide) ?_
        refine x_iload_n C dX8_wordOf_37 rfl ?_
        refine x_imul C dX8_wordOf_38 ?_
        refine x_iload C dX8_wordOf_39 rfl ?_
        refine x_iadd C dX8_wordOf_41 ?_
        refine x_cald (j := 8 * i + k) (k := 49) C (C.lt rfl) rfl ent_49 (ix_8 i k) (by omega) rfl dX8_wordOf_42 ?_
        refine x_topE (y := padW (9 + i) k) (hc i hlt k hkt) ?_
        refine x_bipush (v := 32) C dX8_wordOf_43 (by decide) ?_
        refine x_icmp_ne (tgt := 53) C dX8_wordOf_45 (by decide) (fun c45 => ?_) (fun c45 => ?_)
        · skip
          refine x_lload C dX8_wordOf_53 rfl ?_
          refine x_ldc2 C kw_X8_227 dX8_wordOf_55 ?_
          refine x_lmul C dX8_wordOf_58 ?_
          refine x_aload_n C dX8_wordOf_59 rfl ?_
          refine x_bipush (v := 8) C dX8_wordOf_60 (by decide) ?_
          refine x_iload_n C dX8_wordOf_62 rfl ?_
          refine x_imul C dX8_wordOf_63 ?_
          refine x_iload C dX8_wordOf_64 rfl ?_
          refine x_iadd C dX8_wordOf_66 ?_
          refine x_cald (j := 8 * i + k) (k := 49) C (C.lt rfl) rfl ent_49 (ix_8 i k) (by omega) rfl dX8_wordOf_67 ?_
          refine x_topE (y := padW (9 + i) k) (hc i hlt k hkt) ?_
          refine x_i2l C dX8_wordOf_68 rfl ?_
          refine x_ladd C dX8_wordOf_69 ?_
          refine x_ldc2 C kw_X8_229 dX8_wordOf_70 ?_
          refine x_lsub C dX8_wordOf_73 ?_
          refine x_topl (fun v2 ev2 => ?_)
          refine x_lstore C dX8_wordOf_74 rfl ?_
          refine x_iinc (v := nI (k + 1)) C dX8_wordOf_76 rfl (nI_1 k) rfl ?_
          refine x_goto (tgt := 27) C dX8_wordOf_79 (by decide) ?_
          have e : pdg (9 + i) (k + 1) = pdg (9 + i) k * 27 + lrN (padW (9 + i) k) := if_neg c45
          refine jh hkt v2 ?_
          rw [e, ev2]
          exact lt_step hv (pdg_le _ (by omega) k (by omega)) ((pad_l _ (by omega) k hkt).resolve_left c45)
        · skip
          refine x_lload C dX8_wordOf_48 rfl ?_
          refine x_goto (tgt := 74) C dX8_wordOf_50 (by decide) ?_
          refine x_lstore C dX8_wordOf_74 rfl ?_
          refine x_iinc (v := nI (k + 1)) C dX8_wordOf_76 rfl (nI_1 k) rfl ?_
          refine x_goto (tgt := 27) C dX8_wordOf_79 (by decide) ?_
          have e : pdg (9 + i) (k + 1) = pdg (9 + i) k := if_pos c45
          exact jh hkt v (by rw [e]; exact hv)

set_option maxRecDepth 100000 in
set_option maxHeartbeats 4000000 in
theorem c_X8_wordOf50 (l : Launch) (g : Gp) (M : Mem) {T : Row} {L p : Nat} (hr : rdM T L M p) (hc : ∀ w, w < 2 → ∀ k, k < 8 → M 50 (8 * w + k) = padW (11 + w) k) : Kp l g yX8_wordOf cX8_wordOf 7 .int rm_X8_wordOf [.ref (gad g (40)), .ref (gad g (50))] M (fun r => r = whI T L p 11 2) := by
  unfold Kp
  refine Ki.of rfl rfl rfl (fun q C hret hcs => ?_)
  refine x_iconst (v := -1) C dX8_wordOf_0 (by decide) ?_
  refine x_istore_n C dX8_wordOf_1 rfl ?_
  refine x_iconst (v := 0) C dX8_wordOf_2 (by decide) ?_
  refine x_istore_n C dX8_wordOf_3 rfl ?_
  refine up_to 2 (P := fun i => X (kmk l rm_X8_wordOf g 7 q) M 4 [some (.ref (gad g (40))), some (.ref (gad g (50))), some (.int (whI T L p 11 i)), some (.int (nI i)), none, none, none] []) (fun i hi ih => ?_) 0 (by omega)
  refine x_iload_n C dX8_wordOf_4 rfl ?_
  refine x_aload_n C dX8_wordOf_5 rfl ?_
  refine x_alenC (k := 50) (v := 16) C (C.lt rfl) rfl ent_50 rfl dX8_wordOf_6 ?_
  refine x_bipush (v := 8) C dX8_wordOf_7 (by decide) ?_
  refine x_idiv C dX8_wordOf_9 (by decide) ?_
  refine x_topE (y := nI 2) (by decide) ?_
  refine x_icmp_ge (tgt := 104) C dX8_wordOf_10 (by decide) (fun c10 => ?_) (fun c10 => ?_)
  · skip
    have hlt := lp_ge (N := 2) (by decide) hi c10
    have hz : whI T L p 11 i = whI T L p 11 2 := by rw [hlt]
    refine x_iload_n C dX8_wordOf_104 rfl ?_
    refine hret _ _ _ _ dX8_wordOf_105 rfl ⟨?_, rfl⟩
    exact hz
  · skip
    have hlt := lp_lt (N := 2) (by decide) hi c10
    refine x_aload_n C dX8_wordOf_13 rfl ?_
    refine x_getf (k := 40) C bk_X8 (C.lt rfl) rfl ent_40 9 fw_X8_219 rfl rfl dX8_wordOf_14 ?_
    refine x_iconst (v := 1) C dX8_wordOf_17 (by decide) ?_
    refine x_icmp_ne (tgt := 104) C dX8_wordOf_18 (by decide) (fun c18 => ?_) (fun c18 => ?_)
    · skip
      have hno : ∀ w, ¬ isW T L p w := fun w z => c18 ((sorM_is (k := 1) (by decide) hr.2.1).mpr (sorM_1.mpr z.1))
      have hz : whI T L p 11 i = whI T L p 11 2 := (whI_no i (fun w _ => hno _)).trans (whI_no 2 (fun w _ => hno _)).symm
      refine x_iload_n C dX8_wordOf_104 rfl ?_
      refine hret _ _ _ _ dX8_wordOf_105 rfl ⟨?_, rfl⟩
      exact hz
    · skip
      have h1 : sor T L p = 1 := sorM_1.mp ((sorM_is (k := 1) (by decide) hr.2.1).mp c18)
      refine x_lconst (v := 0) C dX8_wordOf_21 rfl ?_
      refine x_lstore C dX8_wordOf_22 rfl ?_
      refine x_iconst (v := 0) C dX8_wordOf_24 (by decide) ?_
      refine x_istore C dX8_wordOf_25 rfl ?_
      refine up_to 8 (P := fun k => ∀ v : Int64, v.toInt = ((pdg (11 + i) k : Nat) : Int) → X (kmk l rm_X8_wordOf g 7 q) M 27 [some (.ref (gad g (40))), some (.ref (gad g (50))), some (.int (whI T L p 11 i)), some (.int (nI i)), some (.long (v)), none, some (.int (nI k))] []) (fun k hk jh v hv => ?_) 0 (by omega) 0 rfl
      refine x_iload C dX8_wordOf_27 rfl ?_
      refine x_bipush (v := 8) C dX8_wordOf_29 (by decide) ?_
      refine x_icmp_ge (tgt := 82) C dX8_wordOf_31 (by decide) (fun c31 => ?_) (fun c31 => ?_)
      · skip
        have hkt := lp_ge (N := 8) (by decide) hk c31
        subst hkt
        have hW := wrd_iff (w := 11 + i) hr (by omega) h1 hv
        refine x_lload C dX8_wordOf_82 rfl ?_
        refine x_aload_n C dX8_wordOf_84 rfl ?_
        refine x_getf (k := 40) C bk_X8 (C.lt rfl) rfl ent_40 12 fw_X8_215 rfl rfl dX8_wordOf_85 ?_
        refine x_lcmp C dX8_wordOf_88 ?_
        refine x_if_ne (tgt := 96) C dX8_wordOf_89 (by decide) (fun c89 => ?_) (fun c89 => ?_)
        · skip
          refine x_iload_n C dX8_wordOf_96 rfl ?_
          refine x_istore_n C dX8_wordOf_97 rfl ?_
          refine x_iinc (v := nI (i + 1)) C dX8_wordOf_98 rfl (nI_1 i) rfl ?_
          refine x_goto (tgt := 4) C dX8_wordOf_101 (by decide) ?_
          refine X.le (ls' := [some (.ref (gad g (40))), some (.ref (gad g (50))), some (.int (whI T L p 11 i)), some (.int (nI (i + 1))), none, none, none]) (lle_s rfl (lle_s rfl (lle_s rfl (lle_s rfl (lle_n (lle_n (lle_n lle_e))))))) ?_
          have e : whI T L p 11 (i + 1) = whI T L p 11 i := ifp_f (fun z => c89 (hW.mpr z))
          rw [e] at ih
          exact ih hlt
        · skip
          refine x_iload_n C dX8_wordOf_92 rfl ?_
          refine x_goto (tgt := 97) C dX8_wordOf_93 (by decide) ?_
          refine x_istore_n C dX8_wordOf_97 rfl ?_
          refine x_iinc (v := nI (i + 1)) C dX8_wordOf_98 rfl (nI_1 i) rfl ?_
          refine x_goto (tgt := 4) C dX8_wordOf_101 (by decide) ?_
          refine X.le (ls' := [some (.ref (gad g (40))), some (.ref (gad g (50))), some (.int (nI i)), some (.int (nI (i + 1))), none, none, none]) (lle_s rfl (lle_s rfl (lle_s rfl (lle_s rfl (lle_n (lle_n (lle_n lle_e))))))) ?_
          have e : whI T L p 11 (i + 1) = nI i := ifp_t (hW.mp c89)
          rw [e] at ih
          exact ih hlt
      · skip
        have hkt := lp_lt (N := 8) (by decide) hk c31
        refine x_aload_n C dX8_wordOf_34 rfl ?_
        refine x_bipush (v := 8) C dX8_wordOf_35 (by decide) ?_
        refine x_iload_n C dX8_wordOf_37 rfl ?_
        refine x_imul C dX8_wordOf_38 ?_
        refine x_iload C dX8_wordOf_39 rfl ?_
        refine x_iadd C dX8_wordOf_41 ?_
        refine x_cald (j := 8 * i + k) (k := 50) C (C.lt rfl) rfl ent_50 (ix_8 i k) (by omega) rfl dX8_wordOf_42 ?_
        refine x_topE (y := padW (11 + i) k) (hc i hlt k hkt) ?_
        refine x_bipush (v := 32) C dX8_wordOf_43 (by decide) ?_
        refine x_icmp_ne (tgt := 53) C dX8_wordOf_45 (by decide) (fun c45 => ?_) (fun c45 => ?_)
        · skip
          refine x_lload C dX8_wordOf_53 rfl ?_
          refine x_ldc2 C kw_X8_227 dX8_wordOf_55 ?_
          refine x_lmul C dX8_wordOf_58 ?_
          refine x_aload_n C dX8_wordOf_59 rfl ?_
          refine x_bipush (v := 8) C dX8_wordOf_60 (by decide) ?_
          refine x_iload_n C dX8_wordOf_62 rfl ?_
          refine x_imul C dX8_wordOf_63 ?_
          refine x_iload C dX8_wordOf_64 rfl ?_
          refine x_iadd C dX8_wordOf_66 ?_
          refine x_cald (j := 8 * i + k) (k := 50) C (C.lt rfl) rfl ent_50 (ix_8 i k) (by omega) rfl dX8_wordOf_67 ?_
          refine x_topE (y := padW (11 + i) k) (hc i hlt k hkt) ?_
          refine x_i2l C dX8_wordOf_68 rfl ?_
          refine x_ladd C dX8_wordOf_69 ?_
          refine x_ldc2 C kw_X8_229 dX8_wordOf_70 ?_
          refine x_lsub C dX8_wordOf_73 ?_
          refine x_topl (fun v2 ev2 => ?_)
          refine x_lstore C dX8_wordOf_74 rfl ?_
          refine x_iinc (v := nI (k + 1)) C dX8_wordOf_76 rfl (nI_1 k) rfl ?_
          refine x_goto (tgt := 27) C dX8_wordOf_79 (by decide) ?_
          have e : pdg (11 + i) (k + 1) = pdg (11 + i) k * 27 + lrN (padW (11 + i) k) := if_neg c45
          refine jh hkt v2 ?_
          rw [e, ev2]
          exact lt_step hv (pdg_le _ (by omega) k (by omega)) ((pad_l _ (by omega) k hkt).resolve_left c45)
        · skip
          refine x_lload C dX8_wordOf_48 rfl ?_
          refine x_goto (tgt := 74) C dX8_wordOf_50 (by decide) ?_
          refine x_lstore C dX8_wordOf_74 rfl ?_
          refine x_iinc (v := nI (k + 1)) C dX8_wordOf_76 rfl (nI_1 k) rfl ?_
          refine x_goto (tgt := 27) C dX8_wordOf_79 (by decide) ?_
          have e : pdg (11 + i) (k + 1) = pdg (11 + i) k := if_pos c45
          exact jh hkt v (by rw [e]; exact hv)

set_option maxRecDepth 100000 in
set_option maxHeartbeats 4000000 in
theorem c_X8_wordOf51 (l : Launch) (g : Gp) (M : Mem) {T : Row} {L p : Nat} (hr : rdM T L M p) (hc : ∀ w, w < 2 → ∀ k, k < 8 → M 51 (8 * w + k) = padW (7 + w) k) : Kp l g yX8_wordOf cX8_wordOf 7 .int rm_X8_wordOf [.ref (gad g (40)), .ref (gad g (51))] M (fun r => r = whI T L p 7 2) := by
  unfold Kp
  refine Ki.of rfl rfl rfl (fun q C hret hcs => ?_)
  refine x_iconst (v := -1) C dX8_wordOf_0 (by decide) ?_
  refine x_istore_n C dX8_wordOf_1 rfl ?_
  refine x_iconst (v := 0) C dX8_wordOf_2 (by decide) ?_
  refine x_istore_n C dX8_wordOf_3 rfl ?_
  refine up_to 2 (P := fun i => X (kmk l rm_X8_wordOf g 7 q) M 4 [some (.ref (gad g (40))), some (.ref (gad g (51))), some (.int (whI T L p 7 i)), some (.int (nI i)), none, none, none] []) (fun i hi ih => ?_) 0 (by omega)
  refine x_iload_n C dX8_wordOf_4 rfl ?_
  refine x_aload_n C dX8_wordOf_5 rfl ?_
  refine x_alenC (k := 51) (v := 16) C (C.lt rfl) rfl ent_51 rfl dX8_wordOf_6 ?_
  refine x_bipush (v := 8) C dX8_wordOf_7 (by decide) ?_
  refine x_idiv C dX8_wordOf_9 (by decide) ?_
  refine x_topE (y := nI 2) (by decide) ?_
  refine x_icmp_ge (tgt := 104) C dX8_wordOf_10 (by decide) (fun c10 => ?_) (fun c10 => ?_)
  · skip
    have hlt := lp_ge (N := 2) (by decide) hi c10
    have hz : whI T L p 7 i = whI T L p 7 2 := by rw [hlt]
    refine x_iload_n C dX8_wordOf_104 rfl ?_
    refine hret _ _ _ _ dX8_wordOf_105 rfl ⟨?_, rfl⟩
    exact hz
  · skip
    have hlt := lp_lt (N := 2) (by decide) hi c10
    refine x_aload_n C dX8_wordOf_13 rfl ?_
    refine x_getf (k := 40) C bk_X8 (C.lt rfl) rfl ent_40 9 fw_X8_219 rfl rfl dX8_wordOf_14 ?_
    refine x_iconst (v := 1) C dX8_wordOf_17 (by decide) ?_
    refine x_icmp_ne (tgt := 104) C dX8_wordOf_18 (by decide) (fun c18 => ?_) (fun c18 => ?_)
    · skip
      have hno : ∀ w, ¬ isW T L p w := fun w z => c18 ((sorM_is (k := 1) (by decide) hr.2.1).mpr (sorM_1.mpr z.1))
      have hz : whI T L p 7 i = whI T L p 7 2 := (whI_no i (fun w _ => hno _)).trans (whI_no 2 (fun w _ => hno _)).symm
      refine x_iload_n C dX8_wordOf_104 rfl ?_
      refine hret _ _ _ _ dX8_wordOf_105 rfl ⟨?_, rfl⟩
      exact hz
    · skip
      have h1 : sor T L p = 1 := sorM_1.mp ((sorM_is (k := 1) (by decide) hr.2.1).mp c18)
      refine x_lconst (v := 0) C dX8_wordOf_21 rfl ?_
      refine x_lstore C dX8_wordOf_22 rfl ?_
      refine x_iconst (v := 0) C dX8_wordOf_24 (by decide) ?_
      refine x_istore C dX8_wordOf_25 rfl ?_
      refine up_to 8 (P := fun k => ∀ v : Int64, v.toInt = ((pdg (7 + i) k : Nat) : Int) → X (kmk l rm_X8_wordOf g 7 q) M 27 [some (.ref (gad g (40))), some (.ref (gad g (51))), some (.int (whI T L p 7 i)), some (.int (nI i)), some (.long (v)), none, some (.int (nI k))] []) (fun k hk jh v hv => ?_) 0 (by omega) 0 rfl
      refine x_iload C dX8_wordOf_27 rfl ?_
      refine x_bipush (v := 8) C dX8_wordOf_29 (by decide) ?_
      refine x_icmp_ge (tgt := 82) C dX8_wordOf_31 (by decide) (fun c31 => ?_) (fun c31 => ?_)
      · skip
        have hkt := lp_ge (N := 8) (by decide) hk c31
        subst hkt
        have hW := wrd_iff (w := 7 + i) hr (by omega) h1 hv
        refine x_lload C dX8_wordOf_82 rfl ?_
        refine x_aload_n C dX8_wordOf_84 rfl ?_
        refine x_getf (k := 40) C bk_X8 (C.lt rfl) rfl ent_40 12 fw_X8_215 rfl rfl dX8_wordOf_85 ?_
        refine x_lcmp C dX8_wordOf_88 ?_
        refine x_if_ne (tgt := 96) C dX8_wordOf_89 (by decide) (fun c89 => ?_) (fun c89 => ?_)
        · skip
          refine x_iload_n C dX8_wordOf_96 rfl ?_
          refine x_istore_n C dX8_wordOf_97 rfl ?_
          refine x_iinc (v := nI (i + 1)) C dX8_wordOf_98 rfl (nI_1 i) rfl ?_
          refine x_goto (tgt := 4) C dX8_wordOf_101 (by decide) ?_
          refine X.le (ls' := [some (.ref (gad g (40))), some (.ref (gad g (51))), some (.int (whI T L p 7 i)), some (.int (nI (i + 1))), none, none, none]) (lle_s rfl (lle_s rfl (lle_s rfl (lle_s rfl (lle_n (lle_n (lle_n lle_e))))))) ?_
          have e : whI T L p 7 (i + 1) = whI T L p 7 i := ifp_f (fun z => c89 (hW.mpr z))
          rw [e] at ih
          exact ih hlt
        · skip
          refine x_iload_n C dX8_wordOf_92 rfl ?_
          refine x_goto (tgt := 97) C dX8_wordOf_93 (by decide) ?_
          refine x_istore_n C dX8_wordOf_97 rfl ?_
          refine x_iinc (v := nI (i + 1)) C dX8_wordOf_98 rfl (nI_1 i) rfl ?_
          refine x_goto (tgt := 4) C dX8_wordOf_101 (by decide) ?_
          refine X.le (ls' := [some (.ref (gad g (40))), some (.ref (gad g (51))), some (.int (nI i)), some (.int (nI (i + 1))), none, none, none]) (lle_s rfl (lle_s rfl (lle_s rfl (lle_s rfl (lle_n (lle_n (lle_n lle_e))))))) ?_
          have e : whI T L p 7 (i + 1) = nI i := ifp_t (hW.mp c89)
          rw [e] at ih
          exact ih hlt
      · skip
        have hkt := lp_lt (N := 8) (by decide) hk c31
        refine x_aload_n C dX8_wordOf_34 rfl ?_
        refine x_bipush (v := 8) C dX8_wordOf_35 (by decide) ?_
        refine x_iload_n C dX8_wordOf_37 rfl ?_
        refine x_imul C dX8_wordOf_38 ?_
        refine x_iload C dX8_wordOf_39 rfl ?_
        refine x_iadd C dX8_wordOf_41 ?_
        refine x_cald (j := 8 * i + k) (k := 51) C (C.lt rfl) rfl ent_51 (ix_8 i k) (by omega) rfl dX8_wordOf_42 ?_
        refine x_topE (y := padW (7 + i) k) (hc i hlt k hkt) ?_
        refine x_bipush (v := 32) C dX8_wordOf_43 (by decide) ?_
        refine x_icmp_ne (tgt := 53) C dX8_wordOf_45 (by decide) (fun c45 => ?_) (fun c45 => ?_)
        · skip
          refine x_lload C dX8_wordOf_53 rfl ?_
          refine x_ldc2 C kw_X8_227 dX8_wordOf_55 ?_
          refine x_lmul C dX8_wordOf_58 ?_
          refine x_aload_n C dX8_wordOf_59 rfl ?_
          refine x_bipush (v := 8) C dX8_wordOf_60 (by decide) ?_
          refine x_iload_n C dX8_wordOf_62 rfl ?_
          refine x_imul C dX8_wordOf_63 ?_
          refine x_iload C dX8_wordOf_64 rfl ?_
          refine x_iadd C dX8_wordOf_66 ?_
          refine x_cald (j := 8 * i + k) (k := 51) C (C.lt rfl) rfl ent_51 (ix_8 i k) (by omega) rfl dX8_wordOf_67 ?_
          refine x_topE (y := padW (7 + i) k) (hc i hlt k hkt) ?_
          refine x_i2l C dX8_wordOf_68 rfl ?_
          refine x_ladd C dX8_wordOf_69 ?_
          refine x_ldc2 C kw_X8_229 dX8_wordOf_70 ?_
          refine x_lsub C dX8_wordOf_73 ?_
          refine x_topl (fun v2 ev2 => ?_)
          refine x_lstore C dX8_wordOf_74 rfl ?_
          refine x_iinc (v := nI (k + 1)) C dX8_wordOf_76 rfl (nI_1 k) rfl ?_
          refine x_goto (tgt := 27) C dX8_wordOf_79 (by decide) ?_
          have e : pdg (7 + i) (k + 1) = pdg (7 + i) k * 27 + lrN (padW (7 + i) k) := if_neg c45
          refine jh hkt v2 ?_
          rw [e, ev2]
          exact lt_step hv (pdg_le _ (by omega) k (by omega)) ((pad_l _ (by omega) k hkt).resolve_left c45)
        · skip
          refine x_lload C dX8_wordOf_48 rfl ?_
          refine x_goto (tgt := 74) C dX8_wordOf_50 (by decide) ?_
          refine x_lstore C dX8_wordOf_74 rfl ?_
          refine x_iinc (v := nI (k + 1)) C dX8_wordOf_76 rfl (nI_1 k) rfl ?_
          refine x_goto (tgt := 27) C dX8_wordOf_79 (by decide) ?_
          have e : pdg (7 + i) (k + 1) = pdg (7 + i) k := if_pos c45
          exact jh hkt v (by rw [e]; exact hv)

def rm_X8_takesNumber : Room := { frames := 3, cells := 0, slots := 0, locals := 62 }
set_option maxRecDepth 100000 in
set_option maxHeartbeats 4000000 in
theorem c_X8_takesNumber (l : Launch) (g : Gp) (M : Mem) {T : Row} {L p lo hi : Nat} (ht : tpM M T L) (hr : rdM T L M p) (hlo : lo ≤ 99999) (hhi : hi ≤ 99999) {a b : Int32} (ha : a = nI lo) (hb : b = nI hi) : Ki l g yX8_takesNumber cX8_takesNumber 4 .int rm_X8_takesNumber [.ref (gad g (40)), .int (a), .int (b)] M (fun r M' => r = opI (tkN T L p lo hi).2 ∧ rdM T L M' (tkN T L p lo hi).1 ∧ same [40] M M' ∧ kp40 M M') := by
  refine Ki.of rfl rfl rfl (fun q C hret hcs => ?_)
  refine x_aload_n C dX8_takesNumber_0 rfl ?_
  refine x_getf (k := 40) C bk_X8 (C.lt rfl) rfl ent_40 9 fw_X8_219 rfl rfl dX8_takesNumber_1 ?_
  refine x_iconst (v := 2) C dX8_takesNumber_4 (by decide) ?_
  refine x_icmp_ne (tgt := 29) C dX8_takesNumber_5 (by decide) (fun c5 => ?_) (fun c5 => ?_)
  · skip
    have hz : ¬ (sor T L p = 2 ∧ lo ≤ numP T L p ∧ numP T L p ≤ hi) := fun z => c5 ((sorM_is (k := 2) (by decide) hr.2.1).mpr (sorM_2.mpr ⟨z.1, by have := z.2.2; omega⟩))
    refine x_iconst (v := -1) C dX8_takesNumber_29 (by decide) ?_
    refine x_istore_n C dX8_takesNumber_30 rfl ?_
    refine x_iload_n C dX8_takesNumber_31 rfl ?_
    refine x_if_ltT (tgt := 39) C dX8_takesNumber_32 (by decide) (by decide) ?_
    refine x_iload_n C dX8_takesNumber_39 rfl ?_
    refine hret _ _ _ _ dX8_takesNumber_40 rfl ?_
    rw [show tkN T L p lo hi = (p, none) from ifp_f hz]
    exact ⟨rfl, hr, same.rf, kp40.rf⟩
  · skip
    have h2 := sorM_2.mp ((sorM_is (k := 2) (by decide) hr.2.1).mp c5)
    have hv : (lvM M).toInt = ((numP T L p : Nat) : Int) := by rw [hr.2.2.2.2, val_2 h2.1, numS_P h2.2]
    have hv2 : (lvM M).toInt32 = nI (numP T L p) := l2i_n hv (by have := h2.2; omega)
    refine x_aload_n C dX8_takesNumber_8 rfl ?_
    refine x_getf (k := 40) C bk_X8 (C.lt rfl) rfl ent_40 12 fw_X8_215 rfl rfl dX8_takesNumber_9 ?_
    refine x_l2i C dX8_takesNumber_12 rfl ?_
    refine x_topE (y := nI (numP T L p)) (hv2) ?_
    refine x_iload_n C dX8_takesNumber_13 rfl ?_
    refine x_iload_n C dX8_takesNumber_14 rfl ?_
    refine x_csB C (c_X8_in1 l g _ _ _ _ ) o_X8_in1 mw_X8_59 rfl rfl rfl rfl hcs dX8_takesNumber_15 (fun c15 => ?_) (fun c15 => ?_)
    · skip
      refine x_if_eqF (tgt := 29) C dX8_takesNumber_18 (by decide) (by decide) ?_
      refine x_aload_n C dX8_takesNumber_21 rfl ?_
      refine x_getf (k := 40) C bk_X8 (C.lt rfl) rfl ent_40 12 fw_X8_215 rfl rfl dX8_takesNumber_22 ?_
      refine x_l2i C dX8_takesNumber_25 rfl ?_
      refine x_topE (y := nI (numP T L p)) (hv2) ?_
      refine x_goto (tgt := 30) C dX8_takesNumber_26 (by decide) ?_
      refine x_istore_n C dX8_takesNumber_30 rfl ?_
      refine x_iload_n C dX8_takesNumber_31 rfl ?_
      refine x_if_lt (tgt := 39) C dX8_takesNumber_32 (by decide) (fun c32 => ?_) (fun c32 => ?_)
      · skip
        exact absurd c32 (nI_pos (by have := h2.2; omega))
      · skip
        refine x_aload_n C dX8_takesNumber_35 rfl ?_
        refine x_cvv C (k := 40) (c_X8_nextToken l g _ (T := T) (L := L) (p := (enn T L p)) ht (enn_le hr.1) hr.2.2.2.1 ) o_X8_nextToken mw_X8_240 rfl (C.lt rfl) rcv_40 rfl rfl rfl hcs dX8_takesNumber_36 (fun M1 h1 => ?_)
        refine x_iload_n C dX8_takesNumber_39 rfl ?_
        refine hret _ _ _ _ dX8_takesNumber_40 rfl ?_
        have hq : (sor T L p = 2 ∧ lo ≤ numP T L p ∧ numP T L p ≤ hi) := ⟨h2.1, (nI_leI (by omega) (by have := h2.2; omega)).mp (by rw [← ha]; exact c15.1), (nI_leI (by have := h2.2; omega) (by omega)).mp (by rw [← hb]; exact c15.2)⟩
        rw [show tkN T L p lo hi = (enn T L p, some (numP T L p)) from ifp_t hq]
        exact ⟨rfl, h1⟩
    · skip
      have hz : ¬ (sor T L p = 2 ∧ lo ≤ numP T L p ∧ numP T L p ≤ hi) := fun z => c15 ⟨by rw [ha]; exact (nI_leI (by omega) (by have := z.2.2; omega)).mpr z.2.1, by rw [hb]; exact (nI_leI (by have := z.2.2; omega) (by omega)).mpr z.2.2⟩
      refine x_if_eqT (tgt := 29) C dX8_takesNumber_18 (by decide) (by decide) ?_
      refine x_iconst (v := -1) C dX8_takesNumber_29 (by decide) ?_
      refine x_istore_n C dX8_takesNumber_30 rfl ?_
      refine x_iload_n C dX8_takesNumber_31 rfl ?_
      refine x_if_ltT (tgt := 39) C dX8_takesNumber_32 (by decide) (by decide) ?_
      refine x_iload_n C dX8_takesNumber_39 rfl ?_
      refine hret _ _ _ _ dX8_takesNumber_40 rfl ?_
      rw [show tkN T L p lo hi = (p, none) from ifp_f hz]
      exact ⟨rfl, hr, same.rf, kp40.rf⟩

