/-! ===== contracts: the class's best works, whole ===== -/
theorem mark_k : ∀ a, a < 100 → ∀ i, i < 6 → (nI a * 64 - ((1 : Int32) <<< (nI i &&& 31))).toInt = 64 * (a : Int) - 2 ^ i := by decide +kernel
theorem mark_i {S : Row} {i : Nat} (hi : i < 6) (o : okRow S) : (wk S i 2 * 64 - ((1 : Int32) <<< (nI i &&& 31))).toInt = 64 * (wk S i 2).toInt - 2 ^ i := by
  have q := inB_tn (n := 99) (by decide) (o.2.2.2.2.1 i hi).2.2.1
  have h := mark_k _ q.1 i hi
  rw [← q.2] at h
  rw [h]
  have : (wk S i 2).toInt = (tn (wk S i 2) : Int) := by
    have := nI_toInt (n := tn (wk S i 2)) (by omega)
    rw [← q.2] at this; exact this
  rw [this]
theorem freI_b {S : Row} (o : okRow S) : ∀ k, k ≤ 6 → 0 ≤ freI S k ∧ freI S k ≤ 6400 * k
  | 0, _ => ⟨Int.le_refl 0, Int.le_refl 0⟩
  | k + 1, h => by
    have h1 := freI_b o k (by omega)
    have h2 := wk2_b (show k < 6 by omega) o
    have hp : (0 : Int) < 2 ^ k := Int.pow_pos (by decide)
    have hp2 : (2 : Int) ^ k ≤ 32 := by
      rcases (show k = 0 ∨ k = 1 ∨ k = 2 ∨ k = 3 ∨ k = 4 ∨ k = 5 by omega) with rfl | rfl | rfl | rfl | rfl | rfl <;> decide
    unfold freI
    by_cases q : dneP S k ∧ 0 < (wk S k 2).toInt
    · rw [ifp_t q]; omega
    · rw [ifp_f q]; omega
theorem mark_b {S : Row} {i : Nat} (hi : i < 6) (o : okRow S) (h : 0 < (wk S i 2).toInt) : 0 ≤ 64 * (wk S i 2).toInt - 2 ^ i ∧ 64 * (wk S i 2).toInt - 2 ^ i ≤ 6400 := by
  have h2 := wk2_b hi o
  have hp : (0 : Int) < 2 ^ i := Int.pow_pos (by decide)
  have hp2 : (2 : Int) ^ i ≤ 32 := by
    rcases (show i = 0 ∨ i = 1 ∨ i = 2 ∨ i = 3 ∨ i = 4 ∨ i = 5 by omega) with rfl | rfl | rfl | rfl | rfl | rfl <;> decide
  omega
def rm_X0_bestMark : Room := { frames := 3, cells := 0, slots := 0, locals := 69 }
set_option maxRecDepth 100000 in
set_option maxHeartbeats 4000000 in
theorem c_X0_bestMark (l : Launch) (g : Gp) (M : Mem) (o : okRow (vw M 1)) (hc : chO M (vw M 1)) : Ki l g yX0_bestMark cX0_bestMark 6 .int rm_X0_bestMark [.ref (gad g (25)), .ref (gad g (1))] M (fun r M' => r.toInt = 64 * worI (vw M 1) (bsN (vw M 1) 63) 6 - (bsN (vw M 1) 63 : Int) ∧ same [27] M M') := by
  refine Ki.of rfl rfl rfl (fun q C hret hcs => ?_)
  refine x_iconst (v := 0) C dX0_bestMark_0 (by decide) ?_
  refine x_istore_n C dX0_bestMark_1 rfl ?_
  refine up_to 256 (P := fun i => ∀ M1 : Mem, (∀ U, U < i → M1 27 U = 0) → same [27] M M1 → X (kmk l rm_X0_bestMark g 6 q) M1 2 [some (.ref (gad g (25))), some (.ref (gad g (1))), some (.int (nI i)), none, none, none] []) (fun i hi ih M1 h0 hs => ?_) 0 (by omega) M (fun U hU => absurd hU (by omega)) same.rf
  refine x_iload_n C dX0_bestMark_2 rfl ?_
  refine x_sipush (v := 256) C dX0_bestMark_3 (by decide) ?_
  refine x_icmp_ge (tgt := 22) C dX0_bestMark_6 (by decide) (fun c6 => ?_) (fun c6 => ?_)
  · skip
    have hlt := lp_ge (N := 256) (by decide) hi c6
    refine x_iconst (v := 0) C dX0_bestMark_22 (by decide) ?_
    refine x_istore_n C dX0_bestMark_23 rfl ?_
    refine x_iconst (v := 0) C dX0_bestMark_24 (by decide) ?_
    refine x_istore_n C dX0_bestMark_25 rfl ?_
    subst hlt
    refine up_to 6 (P := fun i => ∀ (M3 : Mem) (f : Int32), f.toInt = freI (vw M 1) i → (∀ U, U < 256 → ofEg (vw M 1) U → isMk (vw M 1) i U (M3 27 U).toInt) → same [27] M M3 → X (kmk l rm_X0_bestMark g 6 q) M3 26 [some (.ref (gad g (25))), some (.ref (gad g (1))), some (.int (f)), some (.int (nI i)), none, none] []) (fun i hi ih M3 f hf hmk hs3 => ?_) 0 (by omega) M1 0 rfl (fun U hU _ => by rw [h0 U hU]; exact isMk_0 _ U) hs
    have hv : vw M3 1 = vw M 1 := vw_same hs3 (by decide) (by decide) (by decide) (by decide) (by decide)
    have hc1 : chO M3 (vw M 1) := ⟨by rw [hs3 25 (by decide)]; exact hc.1, fun s h => by rw [hs3 26 (by decide)]; exact hc.2 s h⟩
    refine x_aload_n C dX0_bestMark_26 rfl ?_
    refine x_ifnull C dX0_bestMark_27 ?_
    refine x_iload_n C dX0_bestMark_30 rfl ?_
    refine x_bipush (v := 6) C dX0_bestMark_31 (by decide) ?_
    refine x_icmp_ge (tgt := 107) C dX0_bestMark_33 (by decide) (fun c33 => ?_) (fun c33 => ?_)
    · skip
      have hlt := lp_ge (N := 6) (by decide) hi c33
      refine x_iload_n C dX0_bestMark_107 rfl ?_
      refine x_aload_n C dX0_bestMark_108 rfl ?_
      refine x_aload_n C dX0_bestMark_109 rfl ?_
      refine x_getf (k := 25) C bk_X0 (C.lt rfl) rfl ent_25 2 fw_X0_22 rfl rfl dX0_bestMark_110 ?_
      refine x_cvE C (k := 25) (c_X0_markOf l g _ (s := (eggN (vw M 1) 8)) hc1.1 (eggN_lt _ 8) ) o_X0_markOf mw_X0_68 rfl (C.lt rfl) rcv_25 rfl rfl rfl hcs dX0_bestMark_113 ?_
      refine x_iadd C dX0_bestMark_116 ?_
      refine hret _ _ _ _ dX0_bestMark_117 rfl ?_
      subst hlt
      have heg := eggN_lt (vw M 1) 8
      have hmf := hmk _ heg ((ofEg_s heg).mpr (fun i h => h))
      have hfb := freI_b o 6 (Nat.le_refl 6)
      have hmb := isMk_b o hmf
      refine ⟨?_, hs3⟩
      rw [add_toInt (m := 40000) (n := 40000) ⟨by omega, by omega⟩ ⟨by omega, by omega⟩ (by omega), hf]
      exact best_mark o hmf
    · skip
      have hlt := lp_lt (N := 6) (by decide) hi c33
      refine x_aload_n C dX0_bestMark_36 rfl ?_
      refine x_getf (k := 1) C bk_X1 (C.lt' (isH_lt (Or.inl rfl) 0 (by decide))) rfl (ent_H0 (Or.inl rfl)) 2 fw_X0_51 rfl rfl dX0_bestMark_37 ?_
      refine x_iload_n C dX0_bestMark_40 rfl ?_
      refine x_iconst (v := 2) C dX0_bestMark_41 (by decide) ?_
      refine x_cvE C (k := 1 + (2 + 1)) (c_X5_at l g (h := 1) (j := 2) (Or.inl rfl) (by decide) _ _ _ ) o_X5_at mw_X0_55 rfl (C.lt' (isH_lt (Or.inl rfl) (2 + 1) (by omega))) (rcv_HT (Or.inl rfl) 2 (by decide)) rfl rfl rfl hcs dX0_bestMark_42 ?_
      refine x_topE (y := wk (vw M 1) i 2) ((tab_wk rfl (c := 2) rfl hlt (by decide)).trans (by rw [hv])) ?_
      refine x_istore C dX0_bestMark_45 rfl ?_
      refine x_iload C dX0_bestMark_47 rfl ?_
      refine x_if_gt (tgt := 55) C dX0_bestMark_49 (by decide) (fun c49 => ?_) (fun c49 => ?_)
      · skip
        have hw : 0 < (wk (vw M 1) i 2).toInt := Int32.lt_iff_toInt_lt.mp c49
        refine x_iload C dX0_bestMark_55 rfl ?_
        refine x_bipush (v := 64) C dX0_bestMark_57 (by decide) ?_
        refine x_imul C dX0_bestMark_59 ?_
        refine x_iconst (v := 1) C dX0_bestMark_60 (by decide) ?_
        refine x_iload_n C dX0_bestMark_61 rfl ?_
        refine x_ishl C dX0_bestMark_62 ?_
        refine x_isub C dX0_bestMark_63 ?_
        have hmi := mark_i hlt o
        refine x_topi (fun z ez => ?_)
        refine x_istore C dX0_bestMark_64 rfl ?_
        refine x_aload_n C dX0_bestMark_66 rfl ?_
        refine x_iload_n C dX0_bestMark_67 rfl ?_
        refine x_cvB C (k := 1) (c_X1_isDone l g (h := 1) (Or.inl rfl) _ (w := i) rfl hlt (by rw [hv]; exact o) ) o_X1_isDone mw_X0_61 rfl (C.lt' (isH_lt (Or.inl rfl) 0 (by decide))) (rcv_H (Or.inl rfl)) rfl rfl rfl hcs dX0_bestMark_68 (fun c68 => ?_) (fun c68 => ?_)
        · skip
          refine x_if_eqF (tgt := 82) C dX0_bestMark_71 (by decide) (by decide) ?_
          refine x_iload_n C dX0_bestMark_74 rfl ?_
          refine x_iload C dX0_bestMark_75 rfl ?_
          refine x_iadd C dX0_bestMark_77 ?_
          refine x_istore_n C dX0_bestMark_78 rfl ?_
          refine x_goto (tgt := 101) C dX0_bestMark_79 (by decide) ?_
          refine x_iinc (v := nI (i + 1)) C dX0_bestMark_101 rfl (nI_1 i) rfl ?_
          refine x_goto (tgt := 26) C dX0_bestMark_104 (by decide) ?_
          refine X.le (ls' := [some (.ref (gad g (25))), some (.ref (gad g (1))), some (.int ((f + z))), some (.int (nI (i + 1))), none, none]) (lle_s rfl (lle_s rfl (lle_s rfl (lle_s rfl (lle_n (lle_n lle_e)))))) ?_
          have hfb := freI_b o i hi
          have hmb := mark_b hlt o hw
          have e2 : (f + z).toInt = freI (vw M 1) (i + 1) := by
            rw [add_toInt (m := 40000) (n := 6400) ⟨by omega, by omega⟩ (by rw [ez]; exact ⟨by rw [hmi]; omega, by rw [hmi]; omega⟩) (by omega), hf, ez, hmi]
            show _ = freI _ i + ifp _ _ _
            rw [ifp_t ⟨by rw [← hv]; exact c68, hw⟩]
          exact ih hlt M3 (f + z) e2 (fun U h1 h2 => isMk_skip (Or.inl (by rw [← hv]; exact c68)) (hmk U h1 h2)) hs3
        · skip
          refine x_if_eqT (tgt := 82) C dX0_bestMark_71 (by decide) (by decide) ?_
          refine x_aload_n C dX0_bestMark_82 rfl ?_
          refine x_iload_n C dX0_bestMark_83 rfl ?_
          refine x_cvB C (k := 1) (c_X1_isInTime l g (h := 1) (Or.inl rfl) _ (w := i) rfl hlt ) o_X1_isInTime mw_X0_33 rfl (C.lt' (isH_lt (Or.inl rfl) 0 (by decide))) (rcv_H (Or.inl rfl)) rfl rfl rfl hcs dX0_bestMark_84 (fun c84 => ?_) (fun c84 => ?_)
          · skip
            refine x_if_eqF (tgt := 101) C dX0_bestMark_87 (by decide) (by decide) ?_
            refine x_aload_n C dX0_bestMark_90 rfl ?_
            refine x_aload_n C dX0_bestMark_91 rfl ?_
            refine x_iload_n C dX0_bestMark_92 rfl ?_
            refine x_cvE C (k := 1) (c_X1_lacks l g (h := 1) (Or.inl rfl) _ (w := i) rfl hlt ) o_X1_lacks mw_X0_39 rfl (C.lt' (isH_lt (Or.inl rfl) 0 (by decide))) (rcv_H (Or.inl rfl)) rfl rfl rfl hcs dX0_bestMark_93 ?_
            refine x_iload C dX0_bestMark_96 rfl ?_
            refine x_cvv C (k := 25) (c_X0_offer l g _ o hc1 (k := i) hlt _ _ hmk (by rw [← hv]; exact c68) hw (by rw [← hv]; exact c84) (by rw [hv]) (by rw [ez]; exact hmi) (by rw [ez, hmi]; exact mark_b hlt o hw) ) o_X0_offer mw_X0_64 rfl (C.lt rfl) rcv_25 rfl rfl rfl hcs dX0_bestMark_98 (fun M4 h4 => ?_)
            refine x_iinc (v := nI (i + 1)) C dX0_bestMark_101 rfl (nI_1 i) rfl ?_
            refine x_goto (tgt := 26) C dX0_bestMark_104 (by decide) ?_
            refine X.le (ls' := [some (.ref (gad g (25))), some (.ref (gad g (1))), some (.int (f)), some (.int (nI (i + 1))), none, none]) (lle_s rfl (lle_s rfl (lle_s rfl (lle_s rfl (lle_n (lle_n lle_e)))))) ?_
            refine ih hlt M4 f ?_ h4.1 (hs3.tr h4.2)
            · rw [hf]; show _ = freI _ i + ifp _ _ _; rw [ifp_f (fun q => c68 (by rw [hv]; exact q.1))]; omega
          · skip
            refine x_if_eqT (tgt := 101) C dX0_bestMark_87 (by decide) (by decide) ?_
            refine x_iinc (v := nI (i + 1)) C dX0_bestMark_101 rfl (nI_1 i) rfl ?_
            refine x_goto (tgt := 26) C dX0_bestMark_104 (by decide) ?_
            refine X.le (ls' := [some (.ref (gad g (25))), some (.ref (gad g (1))), some (.int (f)), some (.int (nI (i + 1))), none, none]) (lle_s rfl (lle_s rfl (lle_s rfl (lle_s rfl (lle_n (lle_n lle_e)))))) ?_
            refine ih hlt M3 f ?_ (fun U h1 h2 => isMk_skip ?_ (hmk U h1 h2)) hs3
            · rw [hf]; show _ = freI _ i + ifp _ _ _; first | (rw [ifp_f (fun q => hw q.2)]; omega) | (rw [ifp_f (fun q => c68 (by rw [hv]; exact q.1))]; omega)
            · first | exact Or.inr (Or.inl (Int.not_lt.mp hw)) | exact Or.inr (Or.inr (by rw [← hv]; exact Classical.not_not.mp c84))
      · skip
        have hw : ¬ 0 < (wk (vw M 1) i 2).toInt := fun z => c49 (Int32.lt_iff_toInt_lt.mpr z)
        refine x_goto (tgt := 101) C dX0_bestMark_52 (by decide) ?_
        refine x_iinc (v := nI (i + 1)) C dX0_bestMark_101 rfl (nI_1 i) rfl ?_
        refine x_goto (tgt := 26) C dX0_bestMark_104 (by decide) ?_
        refine X.le (ls' := [some (.ref (gad g (25))), some (.ref (gad g (1))), some (.int (f)), some (.int (nI (i + 1))), none, none]) (lle_s rfl (lle_s rfl (lle_s rfl (lle_s rfl (lle_n (lle_n lle_e)))))) ?_
        refine ih hlt M3 f ?_ (fun U h1 h2 => isMk_skip ?_ (hmk U h1 h2)) hs3
        · rw [hf]; show _ = freI _ i + ifp _ _ _; first | (rw [ifp_f (fun q => hw q.2)]; omega) | (rw [ifp_f (fun q => c68 (by rw [hv]; exact q.1))]; omega)
        · first | exact Or.inr (Or.inl (Int.not_lt.mp hw)) | exact Or.inr (Or.inr (by rw [← hv]; exact Classical.not_not.mp c84))
  · skip
    have hlt := lp_lt (N := 256) (by decide) hi c6
    refine x_aload_n C dX0_bestMark_9 rfl ?_
    refine x_getf (k := 25) C bk_X0 (C.lt rfl) rfl ent_25 1 fw_X0_15 rfl rfl dX0_bestMark_10 ?_
    refine x_iload_n C dX0_bestMark_13 rfl ?_
    refine x_iconst (v := 0) C dX0_bestMark_14 (by decide) ?_
    refine x_iast (j := i) (k := 27) C (C.lt rfl) rfl ent_27 (rfl) (by omega) rfl dX0_bestMark_15 ?_
    refine x_memI (fun M2 eM2 => ?_)
    refine x_iinc (v := nI (i + 1)) C dX0_bestMark_16 rfl (nI_1 i) rfl ?_
    refine x_goto (tgt := 2) C dX0_bestMark_19 (by decide) ?_
    refine ih hlt M2 (fun U hU => ?_) (hs.tr (by rw [eM2]; exact same.up (by simp)))
    rw [eM2]
    by_cases q : U = i
    · subst q; exact up_ss
    · rw [up_sn q]; exact h0 U (by omega)

theorem div_k : ∀ v, v < 600 → ∀ b, b < 64 → b ≤ 64 * v → (nI (64 * v - b) + 64 - 1) / 64 = nI v := by decide +kernel
theorem best_ans {S : Row} {r : Int32} (o : okRow S) (h : r.toInt = 64 * worI S (bsN S 63) 6 - (bsN S 63 : Int)) : (r + 64 - 1) / 64 = worN S (bsN S 63) 6 ∧ (r + 64 - 1) / 64 * 64 - r = nI (bsN S 63) := by
  have hb := bsN_le S 63
  have hw := worI_b (V := bsN S 63) o 6 (Nat.le_refl 6)
  have hw2 := worN_I (V := bsN S 63) o 6 (Nat.le_refl 6)
  have hbs := (bs_best o 63 (by decide)).2 0 (by omega) (fea_0 S _)
  have hr0 : 0 ≤ r.toInt := by
    have h0 : worI S 0 6 = 0 := by unfold worI worI worI worI worI worI worI; simp
    rw [h0] at hbs
    rcases hbs with z | z <;> omega
  obtain ⟨v, hv⟩ : ∃ v : Nat, worI S (bsN S 63) 6 = v := ⟨(worI S (bsN S 63) 6).toNat, by omega⟩
  have ev : worN S (bsN S 63) 6 = nI v := Int32.toInt_inj.mp (by rw [hw2, hv, nI_toInt (by omega)])
  have er : r = nI (64 * v - bsN S 63) := Int32.toInt_inj.mp (by rw [h, hv, nI_toInt (by omega)]; omega)
  have e1 := div_k v (by omega) (bsN S 63) (by omega) (by omega)
  rw [er, e1]
  refine ⟨ev.symm, ?_⟩
  have e3 : nI v * 64 = nI (64 * v - bsN S 63) + nI (bsN S 63) := by rw [show (64 : Int32) = nI 64 from rfl, pk_mul, nI_add]; congr 1; omega
  rw [e3, Int32.add_comm, Int32.add_sub_cancel]
def rm_X7_best : Room := { frames := 5, cells := 0, slots := 0, locals := 117 }
set_option maxRecDepth 100000 in
set_option maxHeartbeats 4000000 in
theorem c_X7_best (l : Launch) (g : Gp) (M : Mem) (oa : okA (aC M))  : Ki l g yX7_best cX7_best 1 .int rm_X7_best [.ref (gad g (0))] M (fun r M' => (r, aC M') = F_best (aC M) ∧ sameC M M') := by
  refine Ki.of rfl rfl rfl (fun q C hret hcs => ?_)
  have o : okRow (vw M 1) := oa.1
  refine x_aload_n C dX7_best_0 rfl ?_
  refine x_getf (k := 0) C bk_X7 (C.lt rfl) rfl ent_0 3 fw_X7_25 rfl rfl dX7_best_1 ?_
  refine x_aload_n C dX7_best_4 rfl ?_
  refine x_getf (k := 0) C bk_X7 (C.lt rfl) rfl ent_0 0 fw_X7_10 rfl rfl dX7_best_5 ?_
  refine x_cvv C (k := 25) (c_X0_lookAt l g _ o ) o_X0_lookAt mw_X7_166 rfl (C.lt rfl) rcv_25 rfl rfl rfl hcs dX7_best_8 (fun M1 h1 => ?_)
  have hv : vw M1 1 = vw M 1 := vw_same h1.2 (by decide) (by decide) (by decide) (by decide) (by decide)
  have o1 : okRow (vw M1 1) := by rw [hv]; exact o
  have hs : same SCR M M1 := h1.2.mono (by simp [SCR])
  have hc : chO M1 (vw M1 1) := by rw [hv]; exact h1.1
  refine x_aload_n C dX7_best_11 rfl ?_
  refine x_getf (k := 0) C bk_X7 (C.lt rfl) rfl ent_0 3 fw_X7_25 rfl rfl dX7_best_12 ?_
  refine x_aload_n C dX7_best_15 rfl ?_
  refine x_getf (k := 0) C bk_X7 (C.lt rfl) rfl ent_0 0 fw_X7_10 rfl rfl dX7_best_16 ?_
  refine x_cvi C (k := 25) (c_X0_bestMark l g _ o1 hc ) o_X0_bestMark mw_X7_176 rfl (C.lt rfl) rcv_25 rfl rfl rfl hcs dX7_best_19 (fun r2 M2 h2 => ?_)
  refine x_csE C (c_X0_worthOf l g _ _ ) o_X0_worthOf mw_X7_180 rfl rfl rfl rfl hcs dX7_best_22 ?_
  refine hret _ _ _ _ dX7_best_25 rfl ?_
  have hq := best_ans o (by rw [← hv]; exact h2.1)
  rw [hq.1]
  exact pu_C rfl (hs.tr (h2.2.mono (by simp [SCR])))

def rm_X7_bestWorks : Room := { frames := 5, cells := 0, slots := 0, locals := 117 }
set_option maxRecDepth 100000 in
set_option maxHeartbeats 4000000 in
theorem c_X7_bestWorks (l : Launch) (g : Gp) (M : Mem) (oa : okA (aC M))  : Ki l g yX7_bestWorks cX7_bestWorks 1 .int rm_X7_bestWorks [.ref (gad g (0))] M (fun r M' => (r, aC M') = F_bestWorks (aC M) ∧ sameC M M') := by
  refine Ki.of rfl rfl rfl (fun q C hret hcs => ?_)
  have o : okRow (vw M 1) := oa.1
  refine x_aload_n C dX7_bestWorks_0 rfl ?_
  refine x_getf (k := 0) C bk_X7 (C.lt rfl) rfl ent_0 3 fw_X7_25 rfl rfl dX7_bestWorks_1 ?_
  refine x_aload_n C dX7_bestWorks_4 rfl ?_
  refine x_getf (k := 0) C bk_X7 (C.lt rfl) rfl ent_0 0 fw_X7_10 rfl rfl dX7_bestWorks_5 ?_
  refine x_cvv C (k := 25) (c_X0_lookAt l g _ o ) o_X0_lookAt mw_X7_166 rfl (C.lt rfl) rcv_25 rfl rfl rfl hcs dX7_bestWorks_8 (fun M1 h1 => ?_)
  have hv : vw M1 1 = vw M 1 := vw_same h1.2 (by decide) (by decide) (by decide) (by decide) (by decide)
  have o1 : okRow (vw M1 1) := by rw [hv]; exact o
  have hs : same SCR M M1 := h1.2.mono (by simp [SCR])
  have hc : chO M1 (vw M1 1) := by rw [hv]; exact h1.1
  refine x_aload_n C dX7_bestWorks_11 rfl ?_
  refine x_getf (k := 0) C bk_X7 (C.lt rfl) rfl ent_0 3 fw_X7_25 rfl rfl dX7_bestWorks_12 ?_
  refine x_aload_n C dX7_bestWorks_15 rfl ?_
  refine x_getf (k := 0) C bk_X7 (C.lt rfl) rfl ent_0 0 fw_X7_10 rfl rfl dX7_bestWorks_16 ?_
  refine x_cvi C (k := 25) (c_X0_bestMark l g _ o1 hc ) o_X0_bestMark mw_X7_176 rfl (C.lt rfl) rcv_25 rfl rfl rfl hcs dX7_bestWorks_19 (fun r2 M2 h2 => ?_)
  refine x_csE C (c_X0_worksOf l g _ _ ) o_X0_worksOf mw_X7_183 rfl rfl rfl rfl hcs dX7_bestWorks_22 ?_
  refine hret _ _ _ _ dX7_bestWorks_25 rfl ?_
  have hq := best_ans o (by rw [← hv]; exact h2.1)
  rw [hq.2]
  exact pu_C rfl (hs.tr (h2.2.mono (by simp [SCR])))

