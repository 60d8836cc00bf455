/-! ===== contracts: the choices, the calls over them ===== -/
/-- the choices, looked at -/
def chO (M : Mem) (S : Row) : Prop := M 25 2 = nI (eggN S 8) ∧ ∀ s, s < 256 → M 26 s = sumN S s 8
theorem popT_le (s : Nat) : popT s ≤ 8 := by unfold popT; omega
theorem pop_lt {a b : Nat} : nI (popT a) < nI (popT b) ↔ popT a < popT b := nI_ltI (by have := popT_le a; omega) (by have := popT_le b; omega)
theorem pop_le {a b : Nat} : nI (popT a) ≤ nI (popT b) ↔ ¬ popT b < popT a := by
  rw [← pop_lt]; exact ⟨fun h => Int32.not_lt.mpr h, fun h => Int32.not_lt.mp h⟩
theorem fewN_i (S : Row) (w : Nat) : ∀ i, i ≤ 256 → fewN S w i < 0 ∨ (tn (fewN S w i) < 256 ∧ fewN S w i = nI (tn (fewN S w i)))
  | 0, _ => Or.inl (show (-1 : Int32) < 0 by decide)
  | i + 1, h => by
    show ifp _ _ _ < 0 ∨ (tn (ifp _ _ _) < 256 ∧ ifp _ _ _ = nI (tn (ifp _ _ _)))
    by_cases q : doesP S w i ∧ (fewN S w i < 0 ∨ popT i < popT (tn (fewN S w i)))
    · rw [ifp_t q, tn_nI (by omega)]; exact Or.inr ⟨by omega, rfl⟩
    · rw [ifp_f q]; exact fewN_i S w i (by omega)
theorem thrN_i (S : Row) (w : Nat) : ∀ i, i ≤ 256 → thrN S w i < 0 ∨ (tn (thrN S w i) < 256 ∧ thrN S w i = nI (tn (thrN S w i)))
  | 0, _ => Or.inl (show (-1 : Int32) < 0 by decide)
  | i + 1, h => by
    show ifp _ _ _ < 0 ∨ (tn (ifp _ _ _) < 256 ∧ ifp _ _ _ = nI (tn (ifp _ _ _)))
    by_cases q : doesP S w i ∧ (thrN S w i < 0 ∨ sumN S i 8 < sumN S (tn (thrN S w i)) 8)
    · rw [ifp_t q, tn_nI (by omega)]; exact Or.inr ⟨by omega, rfl⟩
    · rw [ifp_f q]; exact thrN_i S w i (by omega)
theorem halN_lt (S : Row) : ∀ i, halN S i ≤ i
  | 0 => Nat.le_refl 0
  | i + 1 => by
    have h := halN_lt S i
    show ifp _ _ _ ≤ _
    by_cases q : ofEg S (i + 1) ∧ aparN S (i + 1) < aparN S (halN S i)
    · rw [ifp_t q]; exact Nat.le_refl _
    · rw [ifp_f q]; omega
def rm_X0_lookAt : Room := { frames := 4, cells := 0, slots := 0, locals := 92 }
set_option maxRecDepth 100000 in
set_option maxHeartbeats 4000000 in
theorem c_X0_lookAt (l : Launch) (g : Gp) (M : Mem) (o : okRow (vw M 1)) : Kv l g yX0_lookAt cX0_lookAt 6 rm_X0_lookAt [.ref (gad g (25)), .ref (gad g (1))] M (fun M' => chO M' (vw M 1) ∧ same [25, 26] M M') := by
  refine Kv.of rfl rfl rfl (fun q C hret hcs => ?_)
  refine x_aload_n C dX0_lookAt_0 rfl ?_
  refine x_aload_n C dX0_lookAt_1 rfl ?_
  refine x_ifnonnull (tgt := 9) C dX0_lookAt_2 (by decide) ?_
  refine x_aload_n C dX0_lookAt_9 rfl ?_
  refine x_cvE C (k := 1) (c_X1_places l g (h := 1) (Or.inl rfl) _ ) o_X1_places mw_X0_18 rfl (C.lt' (isH_lt (Or.inl rfl) 0 (by decide))) (rcv_H (Or.inl rfl)) rfl rfl rfl hcs dX0_lookAt_10 ?_
  refine x_putf (k := 25) C bk_X0 (C.lt rfl) rfl ent_25 2 fw_X0_22 rfl (fun _ => rfl) rfl rfl rfl rfl dX0_lookAt_13 ?_
  refine x_memI (fun Ma eMa => ?_)
  refine x_aload_n C dX0_lookAt_16 rfl ?_
  refine x_getf (k := 25) C bk_X0 (C.lt rfl) rfl ent_25 0 fw_X0_11 rfl rfl dX0_lookAt_17 ?_
  refine x_iconst (v := 0) C dX0_lookAt_20 (by decide) ?_
  refine x_iconst (v := 0) C dX0_lookAt_21 (by decide) ?_
  refine x_iast (j := 0) (k := 26) C (C.lt rfl) rfl ent_26 (rfl) (by decide) rfl dX0_lookAt_22 ?_
  refine x_memI (fun Mb eMb => ?_)
  refine x_iconst (v := 0) C dX0_lookAt_23 (by decide) ?_
  refine x_istore_n C dX0_lookAt_24 rfl ?_
  refine up_to 8 (P := fun i => ∀ M1 : Mem, M1 25 2 = nI (eggN (vw M 1) 8) ∧ (∀ s, s < 2 ^ i → M1 26 s = sumN (vw M 1) s 8) ∧ same [25, 26] M M1 → X (kmk l rm_X0_lookAt g 6 q) M1 25 [some (.ref (gad g (25))), some (.ref (gad g (1))), some (.int (nI i)), none, none, none] []) (fun i hi ih M1 hc => ?_) 0 (by omega) Mb ⟨by rw [eMb, up_n (by decide), eMa, up_ss], fun s hs => ?_, by rw [eMb, eMa]; exact (same.up (by simp)).tr (same.up (by simp))⟩
  rotate_left
  · have hs0 : s = 0 := by omega
    subst hs0; rw [eMb, up_ss]; exact (sum_0 _ 8).symm
  have hv1 : vw M1 1 = vw M 1 := vw_same hc.2.2 (by decide) (by decide) (by decide) (by decide) (by decide)
  have o1 : okRow (vw M1 1) := by rw [hv1]; exact o
  refine x_iload_n C dX0_lookAt_25 rfl ?_
  refine x_bipush (v := 8) C dX0_lookAt_26 (by decide) ?_
  refine x_icmp_ge (tgt := 102) C dX0_lookAt_28 (by decide) (fun c28 => ?_) (fun c28 => ?_)
  · skip
    have hlt := lp_ge (N := 8) (by decide) hi c28
    refine hret _ _ _ dX0_lookAt_102 ?_
    subst hlt; exact ⟨⟨hc.1, hc.2.1⟩, hc.2.2⟩
  · skip
    have hlt := lp_lt (N := 8) (by decide) hi c28
    refine x_aload_n C dX0_lookAt_31 rfl ?_
    refine x_ifnonnull (tgt := 39) C dX0_lookAt_32 (by decide) ?_
    refine x_aload_n C dX0_lookAt_39 rfl ?_
    refine x_iload_n C dX0_lookAt_40 rfl ?_
    refine x_cvE C (k := 1) (c_X1_minutesOf l g (h := 1) (Or.inl rfl) _ (e := i) rfl hlt o1 ) o_X1_minutesOf mw_X0_25 rfl (C.lt' (isH_lt (Or.inl rfl) 0 (by decide))) (rcv_H (Or.inl rfl)) rfl rfl rfl hcs dX0_lookAt_41 ?_
    refine x_topE (y := minE (vw M 1) i) (by rw [hv1]; exact mE_minE hlt o) ?_
    refine x_istore_n C dX0_lookAt_44 rfl ?_
    refine x_iconst (v := 1) C dX0_lookAt_45 (by decide) ?_
    refine x_iload_n C dX0_lookAt_46 rfl ?_
    refine x_ishl C dX0_lookAt_47 ?_
    refine x_topE (y := nI (2 ^ i)) (shl_1 hlt) ?_
    refine x_istore C dX0_lookAt_48 rfl ?_
    refine x_iconst (v := 0) C dX0_lookAt_50 (by decide) ?_
    refine x_istore C dX0_lookAt_51 rfl ?_
    have hp8 := pow_8 hlt
    refine up_to (2 ^ i) (P := fun t => ∀ M2 : Mem, M2 25 2 = nI (eggN (vw M 1) 8) ∧ (∀ s, s < 2 ^ i + t → M2 26 s = sumN (vw M 1) s 8) ∧ same [25, 26] M M2 → X (kmk l rm_X0_lookAt g 6 q) M2 53 [some (.ref (gad g (25))), some (.ref (gad g (1))), some (.int (nI i)), some (.int (minE (vw M 1) i)), some (.int (nI (2 ^ i))), some (.int (nI t))] []) (fun t ht it M2 hc2 => ?_) 0 (Nat.zero_le _) M1 hc
    refine x_iload C dX0_lookAt_53 rfl ?_
    refine x_iload C dX0_lookAt_55 rfl ?_
    refine x_icmp_ge (tgt := 96) C dX0_lookAt_57 (by decide) (fun c57 => ?_) (fun c57 => ?_)
    · skip
      have htt := lp_ge (N := 2 ^ i) (by omega) ht c57
      refine x_iinc (v := nI (i + 1)) C dX0_lookAt_96 rfl (nI_1 i) rfl ?_
      refine x_goto (tgt := 25) C dX0_lookAt_99 (by decide) ?_
      refine X.le (ls' := [some (.ref (gad g (25))), some (.ref (gad g (1))), some (.int (nI (i + 1))), none, none, none]) (lle_s rfl (lle_s rfl (lle_s rfl (lle_n (lle_n (lle_n lle_e)))))) ?_
      subst htt
      refine ih hlt M2 ⟨hc2.1, fun s hs => hc2.2.1 s (by rw [(pow_8 hlt).1] at hs; exact hs), hc2.2.2⟩
    · skip
      have htt := lp_lt (N := 2 ^ i) (by omega) ht c57
      refine x_iload C dX0_lookAt_60 rfl ?_
      refine x_iload C dX0_lookAt_62 rfl ?_
      refine x_iadd C dX0_lookAt_64 ?_
      refine x_topE (y := nI (2 ^ i + t)) (nI_add _ _) ?_
      refine x_sipush (v := 256) C dX0_lookAt_65 (by decide) ?_
      refine x_icmp_ge (tgt := 96) C dX0_lookAt_68 (by decide) (fun c68 => ?_) (fun c68 => ?_)
      · skip
        exact absurd c68 (nI_ge (a := 2 ^ i + t) (b := 256) (by omega) (by decide))
      · skip
        refine x_aload_n C dX0_lookAt_71 rfl ?_
        refine x_getf (k := 25) C bk_X0 (C.lt rfl) rfl ent_25 0 fw_X0_11 rfl rfl dX0_lookAt_72 ?_
        refine x_iload C dX0_lookAt_75 rfl ?_
        refine x_iload C dX0_lookAt_77 rfl ?_
        refine x_iadd C dX0_lookAt_79 ?_
        refine x_topE (y := nI (2 ^ i + t)) (nI_add _ _) ?_
        refine x_aload_n C dX0_lookAt_80 rfl ?_
        refine x_getf (k := 25) C bk_X0 (C.lt rfl) rfl ent_25 0 fw_X0_11 rfl rfl dX0_lookAt_81 ?_
        refine x_iload C dX0_lookAt_84 rfl ?_
        refine x_iald (j := t) (k := 26) C (C.lt rfl) rfl ent_26 (rfl) (by omega) rfl dX0_lookAt_86 ?_
        refine x_iload_n C dX0_lookAt_87 rfl ?_
        refine x_iadd C dX0_lookAt_88 ?_
        refine x_topE (y := sumN (vw M 1) (2 ^ i + t) 8) (by rw [hc2.2.1 t (by omega)]; exact (sum_bit8 htt hlt).symm) ?_
        refine x_iast (j := 2 ^ i + t) (k := 26) C (C.lt rfl) rfl ent_26 (rfl) (by omega) rfl dX0_lookAt_89 ?_
        refine x_memI (fun M3 eM3 => ?_)
        refine x_iinc (v := nI (t + 1)) C dX0_lookAt_90 rfl (nI_1 t) rfl ?_
        refine x_goto (tgt := 53) C dX0_lookAt_93 (by decide) ?_
        refine it htt M3 ⟨by rw [eM3, up_n (by decide)]; exact hc2.1, fun s hs => ?_, hc2.2.2.tr (by rw [eM3]; exact same.up (by simp))⟩
        rw [eM3]
        by_cases q : s = 2 ^ i + t
        · subst q; exact up_ss
        · rw [up_sn q]; exact hc2.2.1 s (by omega)

def rm_X0_isOfEggs : Room := { frames := 0, cells := 0, slots := 0, locals := 0 }
set_option maxRecDepth 100000 in
set_option maxHeartbeats 4000000 in
theorem c_X0_isOfEggs (l : Launch) (g : Gp) (M : Mem) {S : Row} (hc : chO M S) {x : Int32} {s : Nat} (hx : x = nI s) (hs : s < 256) : Kp l g yX0_isOfEggs cX0_isOfEggs 2 .boolean rm_X0_isOfEggs [.ref (gad g (25)), .int (x)] M (bv (ofEg S s)) := by
  unfold Kp
  refine Ki.of rfl rfl rfl (fun q C hret hcs => ?_)
  refine x_iload_n C dX0_isOfEggs_0 rfl ?_
  refine x_aload_n C dX0_isOfEggs_1 rfl ?_
  refine x_getf (k := 25) C bk_X0 (C.lt rfl) rfl ent_25 2 fw_X0_22 rfl rfl dX0_isOfEggs_2 ?_
  refine x_iconst (v := -1) C dX0_isOfEggs_5 (by decide) ?_
  refine x_ixor C dX0_isOfEggs_6 ?_
  refine x_iand C dX0_isOfEggs_7 ?_
  refine x_if_ne (tgt := 15) C dX0_isOfEggs_8 (by decide) (fun c8 => ?_) (fun c8 => ?_)
  · skip
    refine x_iconst (v := 0) C dX0_isOfEggs_15 (by decide) ?_
    refine hret _ _ _ _ dX0_isOfEggs_16 rfl ⟨Or.inr ⟨rfl, ?_⟩, rfl⟩
    rw [hx, hc.1] at c8; exact fun z => c8 ((ofEg_i hs).mpr z)
  · skip
    refine x_iconst (v := 1) C dX0_isOfEggs_11 (by decide) ?_
    refine x_goto (tgt := 16) C dX0_isOfEggs_12 (by decide) ?_
    refine hret _ _ _ _ dX0_isOfEggs_16 rfl ⟨Or.inl ⟨rfl, ?_⟩, rfl⟩
    rw [hx, hc.1] at c8; exact (ofEg_i hs).mp c8

def rm_X0_sumOf : Room := { frames := 0, cells := 0, slots := 0, locals := 0 }
set_option maxRecDepth 100000 in
set_option maxHeartbeats 4000000 in
theorem c_X0_sumOf (l : Launch) (g : Gp) (M : Mem) {S : Row} (hc : chO M S) {x : Int32} {s : Nat} (hx : x = nI s) (hs : s < 256) : Kp l g yX0_sumOf cX0_sumOf 2 .int rm_X0_sumOf [.ref (gad g (25)), .int (x)] M (fun r => r = sumN S s 8) := by
  unfold Kp
  refine Ki.of rfl rfl rfl (fun q C hret hcs => ?_)
  refine x_iload_n C dX0_sumOf_0 rfl ?_
  refine x_if_lt (tgt := 20) C dX0_sumOf_1 (by decide) (fun c1 => ?_) (fun c1 => ?_)
  · skip
    exact absurd c1 (by rw [hx]; exact nI_pos (by omega))
  · skip
    refine x_iload_n C dX0_sumOf_4 rfl ?_
    refine x_sipush (v := 256) C dX0_sumOf_5 (by decide) ?_
    refine x_icmp_ge (tgt := 20) C dX0_sumOf_8 (by decide) (fun c8 => ?_) (fun c8 => ?_)
    · skip
      exact absurd c8 (by rw [hx]; exact nI_ge hs (by decide))
    · skip
      refine x_aload_n C dX0_sumOf_11 rfl ?_
      refine x_getf (k := 25) C bk_X0 (C.lt rfl) rfl ent_25 0 fw_X0_11 rfl rfl dX0_sumOf_12 ?_
      refine x_iload_n C dX0_sumOf_15 rfl ?_
      refine x_iald (j := s) (k := 26) C (C.lt rfl) rfl ent_26 (hx) (hs) rfl dX0_sumOf_16 ?_
      refine x_goto (tgt := 21) C dX0_sumOf_17 (by decide) ?_
      refine hret _ _ _ _ dX0_sumOf_21 rfl ⟨?_, rfl⟩
      exact hc.2 s hs

def rm_X0_does : Room := { frames := 2, cells := 0, slots := 0, locals := 43 }
set_option maxRecDepth 100000 in
set_option maxHeartbeats 4000000 in
theorem c_X0_does (l : Launch) (g : Gp) (M : Mem) (o : okRow (vw M 1)) (hc : chO M (vw M 1)) {x y : Int32} {w s : Nat} (hx : x = nI w) (hw : w < 6) (hy : y = nI s) (hs : s < 256) : Kp l g yX0_does cX0_does 4 .boolean rm_X0_does [.ref (gad g (25)), .ref (gad g (1)), .int (x), .int (y)] M (bv (doesP (vw M 1) w s)) := by
  unfold Kp
  refine Ki.of rfl rfl rfl (fun q C hret hcs => ?_)
  refine x_aload_n C dX0_does_0 rfl ?_
  refine x_ifnull C dX0_does_1 ?_
  refine x_aload_n C dX0_does_4 rfl ?_
  refine x_iload_n C dX0_does_5 rfl ?_
  refine x_cvB C (k := 25) (c_X0_isOfEggs l g _ hc (s := s) hy hs ) o_X0_isOfEggs mw_X0_29 rfl (C.lt rfl) rcv_25 rfl rfl rfl hcs dX0_does_6 (fun c6 => ?_) (fun c6 => ?_)
  · skip
    refine x_if_eqF (tgt := 41) C dX0_does_9 (by decide) (by decide) ?_
    refine x_iload_n C dX0_does_12 rfl ?_
    refine x_if_eq (tgt := 24) C dX0_does_13 (by decide) (fun c13 => ?_) (fun c13 => ?_)
    · skip
      have hs0 : s = 0 := (nI_eq (a := s) (b := 0) (by omega) (by decide)).mp (hy ▸ c13)
      refine x_aload_n C dX0_does_24 rfl ?_
      refine x_iload_n C dX0_does_25 rfl ?_
      refine x_cvE C (k := 25) (c_X0_sumOf l g _ hc (s := s) hy hs ) o_X0_sumOf mw_X0_36 rfl (C.lt rfl) rcv_25 rfl rfl rfl hcs dX0_does_26 ?_
      refine x_aload_n C dX0_does_29 rfl ?_
      refine x_iload_n C dX0_does_30 rfl ?_
      refine x_cvE C (k := 1) (c_X1_lacks l g (h := 1) (Or.inl rfl) _ (w := w) hx hw ) o_X1_lacks mw_X0_39 rfl (C.lt' (isH_lt (Or.inl rfl) 0 (by decide))) (rcv_H (Or.inl rfl)) rfl rfl rfl hcs dX0_does_31 ?_
      refine x_icmp_lt (tgt := 41) C dX0_does_34 (by decide) (fun c34 => ?_) (fun c34 => ?_)
      · skip
        have c34 := fun z => (absurd : _ → _ → False) ((lack_i (wk_need hw o).1 (wk_need hw o).2 (sumN_b (s := s) o)).mpr z) (Int32.not_le.mpr c34)
        refine x_iconst (v := 0) C dX0_does_41 (by decide) ?_
        refine hret _ _ _ _ dX0_does_42 rfl ⟨Or.inr ⟨rfl, ?_⟩, rfl⟩
        first | exact fun z => c34 z.2.2 | exact fun z => (z.2.1.elim hs0 c18) | exact fun z => c6 z.1
      · skip
        have c34 := (lack_i (wk_need hw o).1 (wk_need hw o).2 (sumN_b (s := s) o)).mp (Int32.not_lt.mp c34)
        refine x_iconst (v := 1) C dX0_does_37 (by decide) ?_
        refine x_goto (tgt := 42) C dX0_does_38 (by decide) ?_
        refine hret _ _ _ _ dX0_does_42 rfl ⟨Or.inl ⟨rfl, ?_⟩, rfl⟩
        first | exact ⟨c6, Or.inl hs0, c34⟩ | exact ⟨c6, Or.inr c18, c34⟩
    · skip
      have hs0 : ¬ s = 0 := fun z => c13 (by rw [hy, z]; rfl)
      refine x_aload_n C dX0_does_16 rfl ?_
      refine x_iload_n C dX0_does_17 rfl ?_
      refine x_cvB C (k := 1) (c_X1_isInTime l g (h := 1) (Or.inl rfl) _ (w := w) hx hw ) o_X1_isInTime mw_X0_33 rfl (C.lt' (isH_lt (Or.inl rfl) 0 (by decide))) (rcv_H (Or.inl rfl)) rfl rfl rfl hcs dX0_does_18 (fun c18 => ?_) (fun c18 => ?_)
      · skip
        refine x_if_eqF (tgt := 41) C dX0_does_21 (by decide) (by decide) ?_
        refine x_aload_n C dX0_does_24 rfl ?_
        refine x_iload_n C dX0_does_25 rfl ?_
        refine x_cvE C (k := 25) (c_X0_sumOf l g _ hc (s := s) hy hs ) o_X0_sumOf mw_X0_36 rfl (C.lt rfl) rcv_25 rfl rfl rfl hcs dX0_does_26 ?_
        refine x_aload_n C dX0_does_29 rfl ?_
        refine x_iload_n C dX0_does_30 rfl ?_
        refine x_cvE C (k := 1) (c_X1_lacks l g (h := 1) (Or.inl rfl) _ (w := w) hx hw ) o_X1_lacks mw_X0_39 rfl (C.lt' (isH_lt (Or.inl rfl) 0 (by decide))) (rcv_H (Or.inl rfl)) rfl rfl rfl hcs dX0_does_31 ?_
        refine x_icmp_lt (tgt := 41) C dX0_does_34 (by decide) (fun c34 => ?_) (fun c34 => ?_)
        · skip
          have c34 := fun z => (absurd : _ → _ → False) ((lack_i (wk_need hw o).1 (wk_need hw o).2 (sumN_b (s := s) o)).mpr z) (Int32.not_le.mpr c34)
          refine x_iconst (v := 0) C dX0_does_41 (by decide) ?_
          refine hret _ _ _ _ dX0_does_42 rfl ⟨Or.inr ⟨rfl, ?_⟩, rfl⟩
          first | exact fun z => c34 z.2.2 | exact fun z => (z.2.1.elim hs0 c18) | exact fun z => c6 z.1
        · skip
          have c34 := (lack_i (wk_need hw o).1 (wk_need hw o).2 (sumN_b (s := s) o)).mp (Int32.not_lt.mp c34)
          refine x_iconst (v := 1) C dX0_does_37 (by decide) ?_
          refine x_goto (tgt := 42) C dX0_does_38 (by decide) ?_
          refine hret _ _ _ _ dX0_does_42 rfl ⟨Or.inl ⟨rfl, ?_⟩, rfl⟩
          first | exact ⟨c6, Or.inl hs0, c34⟩ | exact ⟨c6, Or.inr c18, c34⟩
      · skip
        refine x_if_eqT (tgt := 41) C dX0_does_21 (by decide) (by decide) ?_
        refine x_iconst (v := 0) C dX0_does_41 (by decide) ?_
        refine hret _ _ _ _ dX0_does_42 rfl ⟨Or.inr ⟨rfl, ?_⟩, rfl⟩
        first | exact fun z => c34 z.2.2 | exact fun z => (z.2.1.elim hs0 c18) | exact fun z => c6 z.1
  · skip
    refine x_if_eqT (tgt := 41) C dX0_does_9 (by decide) (by decide) ?_
    refine x_iconst (v := 0) C dX0_does_41 (by decide) ?_
    refine hret _ _ _ _ dX0_does_42 rfl ⟨Or.inr ⟨rfl, ?_⟩, rfl⟩
    first | exact fun z => c34 z.2.2 | exact fun z => (z.2.1.elim hs0 c18) | exact fun z => c6 z.1

def rm_X0_fewestFor : Room := { frames := 3, cells := 0, slots := 0, locals := 66 }
set_option maxRecDepth 100000 in
set_option maxHeartbeats 4000000 in
theorem c_X0_fewestFor (l : Launch) (g : Gp) (M : Mem) (o : okRow (vw M 1)) (hc : chO M (vw M 1)) {x : Int32} {w : Nat} (hx : x = nI w) (hw : w < 6) : Kp l g yX0_fewestFor cX0_fewestFor 5 .int rm_X0_fewestFor [.ref (gad g (25)), .ref (gad g (1)), .int (x)] M (fun r => r = fewN (vw M 1) w 256) := by
  unfold Kp
  refine Ki.of rfl rfl rfl (fun q C hret hcs => ?_)
  refine x_iconst (v := -1) C dX0_fewestFor_0 (by decide) ?_
  refine x_istore_n C dX0_fewestFor_1 rfl ?_
  refine x_iconst (v := 0) C dX0_fewestFor_2 (by decide) ?_
  refine x_istore C dX0_fewestFor_3 rfl ?_
  refine up_to 256 (P := fun i => X (kmk l rm_X0_fewestFor g 5 q) M 5 [some (.ref (gad g (25))), some (.ref (gad g (1))), some (.int (x)), some (.int (fewN (vw M 1) w i)), some (.int (nI i))] []) (fun i hi ih => ?_) 0 (by omega)
  refine x_iload C dX0_fewestFor_5 rfl ?_
  refine x_sipush (v := 256) C dX0_fewestFor_7 (by decide) ?_
  refine x_icmp_ge (tgt := 49) C dX0_fewestFor_10 (by decide) (fun c10 => ?_) (fun c10 => ?_)
  · skip
    have hlt := lp_ge (N := 256) (by decide) hi c10
    refine x_iload_n C dX0_fewestFor_49 rfl ?_
    refine hret _ _ _ _ dX0_fewestFor_50 rfl ⟨?_, rfl⟩
    subst hlt; rfl
  · skip
    have hlt := lp_lt (N := 256) (by decide) hi c10
    refine x_aload_n C dX0_fewestFor_13 rfl ?_
    refine x_aload_n C dX0_fewestFor_14 rfl ?_
    refine x_iload_n C dX0_fewestFor_15 rfl ?_
    refine x_iload C dX0_fewestFor_16 rfl ?_
    refine x_cvB C (k := 25) (c_X0_does l g _ o hc (w := w) (s := i) hx hw rfl hlt ) o_X0_does mw_X0_42 rfl (C.lt rfl) rcv_25 rfl rfl rfl hcs dX0_fewestFor_18 (fun c18 => ?_) (fun c18 => ?_)
    · skip
      refine x_if_eqF (tgt := 43) C dX0_fewestFor_21 (by decide) (by decide) ?_
      refine x_iload_n C dX0_fewestFor_24 rfl ?_
      refine x_if_lt (tgt := 40) C dX0_fewestFor_25 (by decide) (fun c25 => ?_) (fun c25 => ?_)
      · skip
        have qn : fewN (vw M 1) w i < 0 := by clear hret hcs C ih; grind
        refine x_iload C dX0_fewestFor_40 rfl ?_
        refine x_istore_n C dX0_fewestFor_42 rfl ?_
        refine x_iinc (v := nI (i + 1)) C dX0_fewestFor_43 rfl (nI_1 i) rfl ?_
        refine x_goto (tgt := 5) C dX0_fewestFor_46 (by decide) ?_
        have e : fewN (vw M 1) w (i + 1) = nI i := by
          first
            | exact ifp_t ⟨c18, Or.inl qn⟩
            | exact ifp_t ⟨c18, Or.inr (pop_lt.mp (Int32.not_le.mp c37))⟩
        rw [e] at ih
        exact ih hlt
      · skip
        have qf := (fewN_i (vw M 1) w i hi).resolve_left (by clear hret hcs C ih; grind)
        refine x_iload C dX0_fewestFor_28 rfl ?_
        refine x_csE C (c_J6_bitCount_0f7a4 l g _ (s := i) rfl hlt ) o_J6_bitCount_0f7a4 mw_X0_46 rfl rfl rfl rfl hcs dX0_fewestFor_30 ?_
        refine x_iload_n C dX0_fewestFor_33 rfl ?_
        refine x_csE C (c_J6_bitCount_0f7a4 l g _ (s := (tn (fewN (vw M 1) w i))) qf.2 qf.1 ) o_J6_bitCount_0f7a4 mw_X0_46 rfl rfl rfl rfl hcs dX0_fewestFor_34 ?_
        refine x_icmp_ge (tgt := 43) C dX0_fewestFor_37 (by decide) (fun c37 => ?_) (fun c37 => ?_)
        · skip
          refine x_iinc (v := nI (i + 1)) C dX0_fewestFor_43 rfl (nI_1 i) rfl ?_
          refine x_goto (tgt := 5) C dX0_fewestFor_46 (by decide) ?_
          have e : fewN (vw M 1) w (i + 1) = fewN (vw M 1) w i := by
            first
              | exact ifp_f (fun z => c18 z.1)
              | exact ifp_f (fun z => z.2.elim (Int32.not_lt.mpr (by have := qf.2; rw [this]; exact nI_pos' (by have := qf.1; omega))) (pop_le.mp c37))
          rw [e] at ih
          exact ih hlt
        · skip
          refine x_iload C dX0_fewestFor_40 rfl ?_
          refine x_istore_n C dX0_fewestFor_42 rfl ?_
          refine x_iinc (v := nI (i + 1)) C dX0_fewestFor_43 rfl (nI_1 i) rfl ?_
          refine x_goto (tgt := 5) C dX0_fewestFor_46 (by decide) ?_
          have e : fewN (vw M 1) w (i + 1) = nI i := by
            first
              | exact ifp_t ⟨c18, Or.inl qn⟩
              | exact ifp_t ⟨c18, Or.inr (pop_lt.mp (Int32.not_le.mp c37))⟩
          rw [e] at ih
          exact ih hlt
    · skip
      refine x_if_eqT (tgt := 43) C dX0_fewestFor_21 (by decide) (by decide) ?_
      refine x_iinc (v := nI (i + 1)) C dX0_fewestFor_43 rfl (nI_1 i) rfl ?_
      refine x_goto (tgt := 5) C dX0_fewestFor_46 (by decide) ?_
      have e : fewN (vw M 1) w (i + 1) = fewN (vw M 1) w i := by
        first
          | exact ifp_f (fun z => c18 z.1)
          | exact ifp_f (fun z => z.2.elim (Int32.not_lt.mpr (by have := qf.2; rw [this]; exact nI_pos' (by have := qf.1; omega))) (pop_le.mp c37))
      rw [e] at ih
      exact ih hlt

def rm_X0_leastFor : Room := { frames := 3, cells := 0, slots := 0, locals := 66 }
set_option maxRecDepth 100000 in
set_option maxHeartbeats 4000000 in
theorem c_X0_leastFor (l : Launch) (g : Gp) (M : Mem) (o : okRow (vw M 1)) (hc : chO M (vw M 1)) {x : Int32} {w : Nat} (hx : x = nI w) (hw : w < 6) : Kp l g yX0_leastFor cX0_leastFor 5 .int rm_X0_leastFor [.ref (gad g (25)), .ref (gad g (1)), .int (x)] M (fun r => r = thrN (vw M 1) w 256) := by
  unfold Kp
  refine Ki.of rfl rfl rfl (fun q C hret hcs => ?_)
  refine x_iconst (v := -1) C dX0_leastFor_0 (by decide) ?_
  refine x_istore_n C dX0_leastFor_1 rfl ?_
  refine x_iconst (v := 0) C dX0_leastFor_2 (by decide) ?_
  refine x_istore C dX0_leastFor_3 rfl ?_
  refine up_to 256 (P := fun i => X (kmk l rm_X0_leastFor g 5 q) M 5 [some (.ref (gad g (25))), some (.ref (gad g (1))), some (.int (x)), some (.int (thrN (vw M 1) w i)), some (.int (nI i))] []) (fun i hi ih => ?_) 0 (by omega)
  refine x_iload C dX0_leastFor_5 rfl ?_
  refine x_sipush (v := 256) C dX0_leastFor_7 (by decide) ?_
  refine x_icmp_ge (tgt := 51) C dX0_leastFor_10 (by decide) (fun c10 => ?_) (fun c10 => ?_)
  · skip
    have hlt := lp_ge (N := 256) (by decide) hi c10
    refine x_iload_n C dX0_leastFor_51 rfl ?_
    refine hret _ _ _ _ dX0_leastFor_52 rfl ⟨?_, rfl⟩
    subst hlt; rfl
  · skip
    have hlt := lp_lt (N := 256) (by decide) hi c10
    refine x_aload_n C dX0_leastFor_13 rfl ?_
    refine x_aload_n C dX0_leastFor_14 rfl ?_
    refine x_iload_n C dX0_leastFor_15 rfl ?_
    refine x_iload C dX0_leastFor_16 rfl ?_
    refine x_cvB C (k := 25) (c_X0_does l g _ o hc (w := w) (s := i) hx hw rfl hlt ) o_X0_does mw_X0_42 rfl (C.lt rfl) rcv_25 rfl rfl rfl hcs dX0_leastFor_18 (fun c18 => ?_) (fun c18 => ?_)
    · skip
      refine x_if_eqF (tgt := 45) C dX0_leastFor_21 (by decide) (by decide) ?_
      refine x_iload_n C dX0_leastFor_24 rfl ?_
      refine x_if_lt (tgt := 42) C dX0_leastFor_25 (by decide) (fun c25 => ?_) (fun c25 => ?_)
      · skip
        have qn : thrN (vw M 1) w i < 0 := by clear hret hcs C ih; grind
        refine x_iload C dX0_leastFor_42 rfl ?_
        refine x_istore_n C dX0_leastFor_44 rfl ?_
        refine x_iinc (v := nI (i + 1)) C dX0_leastFor_45 rfl (nI_1 i) rfl ?_
        refine x_goto (tgt := 5) C dX0_leastFor_48 (by decide) ?_
        have e : thrN (vw M 1) w (i + 1) = nI i := by
          first
            | exact ifp_t ⟨c18, Or.inl qn⟩
            | exact ifp_t ⟨c18, Or.inr (Int32.not_le.mp c39)⟩
        rw [e] at ih
        exact ih hlt
      · skip
        have qf := (thrN_i (vw M 1) w i hi).resolve_left (by clear hret hcs C ih; grind)
        refine x_aload_n C dX0_leastFor_28 rfl ?_
        refine x_iload C dX0_leastFor_29 rfl ?_
        refine x_cvE C (k := 25) (c_X0_sumOf l g _ hc (s := i) rfl hlt ) o_X0_sumOf mw_X0_36 rfl (C.lt rfl) rcv_25 rfl rfl rfl hcs dX0_leastFor_31 ?_
        refine x_aload_n C dX0_leastFor_34 rfl ?_
        refine x_iload_n C dX0_leastFor_35 rfl ?_
        refine x_cvE C (k := 25) (c_X0_sumOf l g _ hc (s := (tn (thrN (vw M 1) w i))) qf.2 qf.1 ) o_X0_sumOf mw_X0_36 rfl (C.lt rfl) rcv_25 rfl rfl rfl hcs dX0_leastFor_36 ?_
        refine x_icmp_ge (tgt := 45) C dX0_leastFor_39 (by decide) (fun c39 => ?_) (fun c39 => ?_)
        · skip
          refine x_iinc (v := nI (i + 1)) C dX0_leastFor_45 rfl (nI_1 i) rfl ?_
          refine x_goto (tgt := 5) C dX0_leastFor_48 (by decide) ?_
          have e : thrN (vw M 1) w (i + 1) = thrN (vw M 1) w i := by
            first
              | exact ifp_f (fun z => c18 z.1)
              | exact ifp_f (fun z => z.2.elim (Int32.not_lt.mpr (by have := qf.2; rw [this]; exact nI_pos' (by have := qf.1; omega))) (Int32.not_lt.mpr c39))
          rw [e] at ih
          exact ih hlt
        · skip
          refine x_iload C dX0_leastFor_42 rfl ?_
          refine x_istore_n C dX0_leastFor_44 rfl ?_
          refine x_iinc (v := nI (i + 1)) C dX0_leastFor_45 rfl (nI_1 i) rfl ?_
          refine x_goto (tgt := 5) C dX0_leastFor_48 (by decide) ?_
          have e : thrN (vw M 1) w (i + 1) = nI i := by
            first
              | exact ifp_t ⟨c18, Or.inl qn⟩
              | exact ifp_t ⟨c18, Or.inr (Int32.not_le.mp c39)⟩
          rw [e] at ih
          exact ih hlt
    · skip
      refine x_if_eqT (tgt := 45) C dX0_leastFor_21 (by decide) (by decide) ?_
      refine x_iinc (v := nI (i + 1)) C dX0_leastFor_45 rfl (nI_1 i) rfl ?_
      refine x_goto (tgt := 5) C dX0_leastFor_48 (by decide) ?_
      have e : thrN (vw M 1) w (i + 1) = thrN (vw M 1) w i := by
        first
          | exact ifp_f (fun z => c18 z.1)
          | exact ifp_f (fun z => z.2.elim (Int32.not_lt.mpr (by have := qf.2; rw [this]; exact nI_pos' (by have := qf.1; omega))) (Int32.not_lt.mpr c39))
      rw [e] at ih
      exact ih hlt

def rm_X0_apartWith : Room := { frames := 1, cells := 0, slots := 0, locals := 21 }
set_option maxRecDepth 100000 in
set_option maxHeartbeats 4000000 in
theorem c_X0_apartWith (l : Launch) (g : Gp) (M : Mem) {S : Row} (hc : chO M S) {x : Int32} {s : Nat} (hx : x = nI s) (hs : s < 256) : Kp l g yX0_apartWith cX0_apartWith 2 .int rm_X0_apartWith [.ref (gad g (25)), .int (x)] M (fun r => r = aparN S s) := by
  unfold Kp
  refine Ki.of rfl rfl rfl (fun q C hret hcs => ?_)
  refine x_iconst (v := 2) C dX0_apartWith_0 (by decide) ?_
  refine x_aload_n C dX0_apartWith_1 rfl ?_
  refine x_iload_n C dX0_apartWith_2 rfl ?_
  refine x_cvE C (k := 25) (c_X0_sumOf l g _ hc (s := s) hx hs ) o_X0_sumOf mw_X0_36 rfl (C.lt rfl) rcv_25 rfl rfl rfl hcs dX0_apartWith_3 ?_
  refine x_imul C dX0_apartWith_6 ?_
  refine x_aload_n C dX0_apartWith_7 rfl ?_
  refine x_aload_n C dX0_apartWith_8 rfl ?_
  refine x_getf (k := 25) C bk_X0 (C.lt rfl) rfl ent_25 2 fw_X0_22 rfl rfl dX0_apartWith_9 ?_
  refine x_cvE C (k := 25) (c_X0_sumOf l g _ hc (s := (eggN S 8)) hc.1 (eggN_lt _ 8) ) o_X0_sumOf mw_X0_36 rfl (C.lt rfl) rcv_25 rfl rfl rfl hcs dX0_apartWith_12 ?_
  refine x_isub C dX0_apartWith_15 ?_
  refine x_abs C mw_X0_86 sw_Math_abs iw_J9 ow_Math_abs rfl rfl hcs.1 hcs.2 dX0_apartWith_16 ?_
  refine hret _ _ _ _ dX0_apartWith_19 rfl ⟨?_, rfl⟩
  rw [sum_all S 8 (Nat.le_refl 8)]; unfold aparN; clear hret hcs C; grind

def rm_X0_nearestHalf : Room := { frames := 2, cells := 0, slots := 0, locals := 42 }
set_option maxRecDepth 100000 in
set_option maxHeartbeats 4000000 in
theorem c_X0_nearestHalf (l : Launch) (g : Gp) (M : Mem) {S : Row} (hc : chO M S)  : Kp l g yX0_nearestHalf cX0_nearestHalf 3 .int rm_X0_nearestHalf [.ref (gad g (25))] M (fun r => r = nI (halN S 255)) := by
  unfold Kp
  refine Ki.of rfl rfl rfl (fun q C hret hcs => ?_)
  refine x_iconst (v := 0) C dX0_nearestHalf_0 (by decide) ?_
  refine x_istore_n C dX0_nearestHalf_1 rfl ?_
  refine x_iconst (v := 1) C dX0_nearestHalf_2 (by decide) ?_
  refine x_istore_n C dX0_nearestHalf_3 rfl ?_
  refine up_to 255 (P := fun i => X (kmk l rm_X0_nearestHalf g 3 q) M 4 [some (.ref (gad g (25))), some (.int (nI (halN S i))), some (.int (nI (i + 1)))] []) (fun i hi ih => ?_) 0 (by omega)
  refine x_iload_n C dX0_nearestHalf_4 rfl ?_
  refine x_sipush (v := 256) C dX0_nearestHalf_5 (by decide) ?_
  refine x_icmp_ge (tgt := 40) C dX0_nearestHalf_8 (by decide) (fun c8 => ?_) (fun c8 => ?_)
  · skip
    have hlt := lp_ge (N := 256) (by decide) (show i + 1 ≤ 256 by omega) c8
    refine x_iload_n C dX0_nearestHalf_40 rfl ?_
    refine hret _ _ _ _ dX0_nearestHalf_41 rfl ⟨?_, rfl⟩
    have hlt : i = 255 := by omega
    subst hlt; rfl
  · skip
    have hlt := lp_lt (N := 256) (by decide) (show i + 1 ≤ 256 by omega) c8
    have hb := halN_lt S i
    refine x_aload_n C dX0_nearestHalf_11 rfl ?_
    refine x_iload_n C dX0_nearestHalf_12 rfl ?_
    refine x_cvB C (k := 25) (c_X0_isOfEggs l g _ hc (s := (i + 1)) rfl hlt ) o_X0_isOfEggs mw_X0_29 rfl (C.lt rfl) rcv_25 rfl rfl rfl hcs dX0_nearestHalf_13 (fun c13 => ?_) (fun c13 => ?_)
    · skip
      refine x_if_eqF (tgt := 34) C dX0_nearestHalf_16 (by decide) (by decide) ?_
      refine x_aload_n C dX0_nearestHalf_19 rfl ?_
      refine x_iload_n C dX0_nearestHalf_20 rfl ?_
      refine x_cvE C (k := 25) (c_X0_apartWith l g _ hc (s := (i + 1)) rfl hlt ) o_X0_apartWith mw_X0_83 rfl (C.lt rfl) rcv_25 rfl rfl rfl hcs dX0_nearestHalf_21 ?_
      refine x_aload_n C dX0_nearestHalf_24 rfl ?_
      refine x_iload_n C dX0_nearestHalf_25 rfl ?_
      refine x_cvE C (k := 25) (c_X0_apartWith l g _ hc (s := (halN S i)) rfl (by omega) ) o_X0_apartWith mw_X0_83 rfl (C.lt rfl) rcv_25 rfl rfl rfl hcs dX0_nearestHalf_26 ?_
      refine x_icmp_ge (tgt := 34) C dX0_nearestHalf_29 (by decide) (fun c29 => ?_) (fun c29 => ?_)
      · skip
        refine x_iinc (v := nI (i + 1 + 1)) C dX0_nearestHalf_34 rfl (nI_1 _) rfl ?_
        refine x_goto (tgt := 4) C dX0_nearestHalf_37 (by decide) ?_
        have e : halN S (i + 1) = halN S i := by first | exact ifp_f (fun z => c13 z.1) | exact ifp_f (fun z => Int32.not_lt.mpr c29 z.2)
        rw [e] at ih
        exact ih (by omega)
      · skip
        refine x_iload_n C dX0_nearestHalf_32 rfl ?_
        refine x_istore_n C dX0_nearestHalf_33 rfl ?_
        refine x_iinc (v := nI (i + 1 + 1)) C dX0_nearestHalf_34 rfl (nI_1 _) rfl ?_
        refine x_goto (tgt := 4) C dX0_nearestHalf_37 (by decide) ?_
        have e : halN S (i + 1) = i + 1 := ifp_t ⟨c13, Int32.not_le.mp c29⟩
        rw [e] at ih
        exact ih (by omega)
    · skip
      refine x_if_eqT (tgt := 34) C dX0_nearestHalf_16 (by decide) (by decide) ?_
      refine x_iinc (v := nI (i + 1 + 1)) C dX0_nearestHalf_34 rfl (nI_1 _) rfl ?_
      refine x_goto (tgt := 4) C dX0_nearestHalf_37 (by decide) ?_
      have e : halN S (i + 1) = halN S i := by first | exact ifp_f (fun z => c13 z.1) | exact ifp_f (fun z => Int32.not_lt.mpr c29 z.2)
      rw [e] at ih
      exact ih (by omega)

def rm_X0_setsOf : Room := { frames := 1, cells := 0, slots := 0, locals := 21 }
set_option maxRecDepth 100000 in
set_option maxHeartbeats 4000000 in
theorem c_X0_setsOf (l : Launch) (g : Gp) (M : Mem) {S : Row} (hc : chO M S) (v : Int32) : Kp l g yX0_setsOf cX0_setsOf 4 .int rm_X0_setsOf [.ref (gad g (25)), .int (v)] M (fun r => r = nI (setN S v 256)) := by
  unfold Kp
  refine Ki.of rfl rfl rfl (fun q C hret hcs => ?_)
  refine x_iconst (v := 0) C dX0_setsOf_0 (by decide) ?_
  refine x_istore_n C dX0_setsOf_1 rfl ?_
  refine x_iconst (v := 0) C dX0_setsOf_2 (by decide) ?_
  refine x_istore_n C dX0_setsOf_3 rfl ?_
  refine up_to 256 (P := fun i => X (kmk l rm_X0_setsOf g 4 q) M 4 [some (.ref (gad g (25))), some (.int (v)), some (.int (nI (setN S v i))), some (.int (nI i))] []) (fun i hi ih => ?_) 0 (by omega)
  refine x_iload_n C dX0_setsOf_4 rfl ?_
  refine x_sipush (v := 256) C dX0_setsOf_5 (by decide) ?_
  refine x_icmp_ge (tgt := 37) C dX0_setsOf_8 (by decide) (fun c8 => ?_) (fun c8 => ?_)
  · skip
    have hlt := lp_ge (N := 256) (by decide) hi c8
    refine x_iload_n C dX0_setsOf_37 rfl ?_
    refine hret _ _ _ _ dX0_setsOf_38 rfl ⟨?_, rfl⟩
    subst hlt; rfl
  · skip
    have hlt := lp_lt (N := 256) (by decide) hi c8
    refine x_aload_n C dX0_setsOf_11 rfl ?_
    refine x_iload_n C dX0_setsOf_12 rfl ?_
    refine x_cvB C (k := 25) (c_X0_isOfEggs l g _ hc (s := i) rfl hlt ) o_X0_isOfEggs mw_X0_29 rfl (C.lt rfl) rcv_25 rfl rfl rfl hcs dX0_setsOf_13 (fun c13 => ?_) (fun c13 => ?_)
    · skip
      refine x_if_eqF (tgt := 31) C dX0_setsOf_16 (by decide) (by decide) ?_
      refine x_aload_n C dX0_setsOf_19 rfl ?_
      refine x_iload_n C dX0_setsOf_20 rfl ?_
      refine x_cvE C (k := 25) (c_X0_sumOf l g _ hc (s := i) rfl hlt ) o_X0_sumOf mw_X0_36 rfl (C.lt rfl) rcv_25 rfl rfl rfl hcs dX0_setsOf_21 ?_
      refine x_iload_n C dX0_setsOf_24 rfl ?_
      refine x_icmp_ne (tgt := 31) C dX0_setsOf_25 (by decide) (fun c25 => ?_) (fun c25 => ?_)
      · skip
        refine x_iinc (v := nI (i + 1)) C dX0_setsOf_31 rfl (nI_1 i) rfl ?_
        refine x_goto (tgt := 4) C dX0_setsOf_34 (by decide) ?_
        have e : setN S v (i + 1) = setN S v i := by first | (show _ + ifp _ _ _ = _; rw [ifp_f (fun z => c13 z.1)]; rfl) | (show _ + ifp _ _ _ = _; rw [ifp_f (fun z => c25 z.2)]; rfl)
        rw [e] at ih
        exact ih hlt
      · skip
        refine x_iinc (v := nI (setN S v i + 1)) C dX0_setsOf_28 rfl (nI_1 _) rfl ?_
        refine x_iinc (v := nI (i + 1)) C dX0_setsOf_31 rfl (nI_1 i) rfl ?_
        refine x_goto (tgt := 4) C dX0_setsOf_34 (by decide) ?_
        have e : setN S v (i + 1) = setN S v i + 1 := by show _ + ifp _ _ _ = _; rw [ifp_t ⟨c13, by clear hret hcs C ih; grind⟩]
        rw [e] at ih
        exact ih hlt
    · skip
      refine x_if_eqT (tgt := 31) C dX0_setsOf_16 (by decide) (by decide) ?_
      refine x_iinc (v := nI (i + 1)) C dX0_setsOf_31 rfl (nI_1 i) rfl ?_
      refine x_goto (tgt := 4) C dX0_setsOf_34 (by decide) ?_
      have e : setN S v (i + 1) = setN S v i := by first | (show _ + ifp _ _ _ = _; rw [ifp_f (fun z => c13 z.1)]; rfl) | (show _ + ifp _ _ _ = _; rw [ifp_f (fun z => c25 z.2)]; rfl)
      rw [e] at ih
      exact ih hlt

def rm_X7_fewest : Room := { frames := 5, cells := 0, slots := 0, locals := 117 }
set_option maxRecDepth 100000 in
set_option maxHeartbeats 4000000 in
theorem c_X7_fewest (l : Launch) (g : Gp) (M : Mem) (oa : okA (aC M))  (x : Int32) : Ki l g yX7_fewest cX7_fewest 3 .int rm_X7_fewest [.ref (gad g (0)), .int (x)] M (fun r M' => (r, aC M') = F_fewest x (aC M) ∧ sameC M M') := by
  refine Ki.of rfl rfl rfl (fun q C hret hcs => ?_)
  have o : okRow (vw M 1) := oa.1
  refine x_aload_n C dX7_fewest_0 rfl ?_
  refine x_getf (k := 0) C bk_X7 (C.lt rfl) rfl ent_0 0 fw_X7_10 rfl rfl dX7_fewest_1 ?_
  refine x_getf (k := 1) C bk_X1 (C.lt' (isH_lt (Or.inl rfl) 0 (by decide))) rfl (ent_H0 (Or.inl rfl)) 2 fw_X7_100 rfl rfl dX7_fewest_4 ?_
  refine x_iload_n C dX7_fewest_7 rfl ?_
  refine x_cvB C (k := 1 + (2 + 1)) (c_X5_hasRow l g (h := 1) (j := 2) (Or.inl rfl) (by decide) _ _ ) o_X5_hasRow mw_X7_103 rfl (C.lt' (isH_lt (Or.inl rfl) (2 + 1) (by omega))) (rcv_HT (Or.inl rfl) 2 (by decide)) rfl rfl rfl hcs dX7_fewest_8 (fun c8 => ?_) (fun c8 => ?_)
  · skip
    have qx := ix_tn (n := 6) (by decide) c8
    refine x_if_neT (tgt := 20) C dX7_fewest_11 (by decide) (by decide) ?_
    refine x_aload_n C dX7_fewest_20 rfl ?_
    refine x_getf (k := 0) C bk_X7 (C.lt rfl) rfl ent_0 3 fw_X7_25 rfl rfl dX7_fewest_21 ?_
    refine x_aload_n C dX7_fewest_24 rfl ?_
    refine x_getf (k := 0) C bk_X7 (C.lt rfl) rfl ent_0 0 fw_X7_10 rfl rfl dX7_fewest_25 ?_
    refine x_cvv C (k := 25) (c_X0_lookAt l g _ o ) o_X0_lookAt mw_X7_166 rfl (C.lt rfl) rcv_25 rfl rfl rfl hcs dX7_fewest_28 (fun M1 h1 => ?_)
    have hv : vw M1 1 = vw M 1 := vw_same h1.2 (by decide) (by decide) (by decide) (by decide) (by decide)
    have o1 : okRow (vw M1 1) := by rw [hv]; exact o
    have hs : same SCR M M1 := h1.2.mono (by simp [SCR])
    have hc : chO M1 (vw M1 1) := by rw [hv]; exact h1.1
    refine x_aload_n C dX7_fewest_31 rfl ?_
    refine x_getf (k := 0) C bk_X7 (C.lt rfl) rfl ent_0 3 fw_X7_25 rfl rfl dX7_fewest_32 ?_
    refine x_aload_n C dX7_fewest_35 rfl ?_
    refine x_getf (k := 0) C bk_X7 (C.lt rfl) rfl ent_0 0 fw_X7_10 rfl rfl dX7_fewest_36 ?_
    refine x_iload_n C dX7_fewest_39 rfl ?_
    refine x_cvE C (k := 25) (c_X0_fewestFor l g _ o1 hc (w := (tn x)) qx.2 qx.1 ) o_X0_fewestFor mw_X7_169 rfl (C.lt rfl) rcv_25 rfl rfl rfl hcs dX7_fewest_40 ?_
    refine x_topE (y := fewN (vw M 1) (tn x) 256) (by rw [hv]) ?_
    refine x_istore_n C dX7_fewest_43 rfl ?_
    refine x_iload_n C dX7_fewest_44 rfl ?_
    refine x_if_ge (tgt := 56) C dX7_fewest_45 (by decide) (fun c45 => ?_) (fun c45 => ?_)
    · skip
      refine x_iload_n C dX7_fewest_56 rfl ?_
      refine hret _ _ _ _ dX7_fewest_57 rfl ?_
      first
        | exact pu_C ((ifp_t c8).trans (ifp_f (show ¬ fewN (vw M 1) (tn x) 256 < 0 from by clear hret hcs C; grind))) hs
        | exact fi_C (k := 3) ((ifp_t c8).trans (ifp_t (show fewN (vw M 1) (tn x) 256 < 0 from by clear hret hcs C; grind))) hg rfl (by decide) hs
    · skip
      refine x_aload_n C dX7_fewest_48 rfl ?_
      refine x_iconst (v := 3) C dX7_fewest_49 (by decide) ?_
      refine x_cvi C (k := 0) (c_X7_finding l g _ (k := 3) rfl (by decide) ) o_X7_finding mw_X7_61 rfl (C.lt rfl) rcv_0 rfl rfl rfl hcs dX7_fewest_50 (fun rg M1 hg => ?_)
      refine x_goto (tgt := 57) C dX7_fewest_53 (by decide) ?_
      refine hret _ _ _ _ dX7_fewest_57 rfl ?_
      first
        | exact pu_C ((ifp_t c8).trans (ifp_f (show ¬ fewN (vw M 1) (tn x) 256 < 0 from by clear hret hcs C; grind))) hs
        | exact fi_C (k := 3) ((ifp_t c8).trans (ifp_t (show fewN (vw M 1) (tn x) 256 < 0 from by clear hret hcs C; grind))) hg rfl (by decide) hs
  · skip
    refine x_if_neF (tgt := 20) C dX7_fewest_11 (by decide) (by decide) ?_
    refine x_aload_n C dX7_fewest_14 rfl ?_
    refine x_iconst (v := 0) C dX7_fewest_15 (by decide) ?_
    refine x_cvi C (k := 0) (c_X7_finding l g _ (k := 0) rfl (by decide) ) o_X7_finding mw_X7_61 rfl (C.lt rfl) rcv_0 rfl rfl rfl hcs dX7_fewest_16 (fun rf M2 hf => ?_)
    refine hret _ _ _ _ dX7_fewest_19 rfl ?_
    exact fi_C (k := 0) (ifp_f c8) hf rfl (by decide) same.rf

def rm_X7_thrifty : Room := { frames := 5, cells := 0, slots := 0, locals := 117 }
set_option maxRecDepth 100000 in
set_option maxHeartbeats 4000000 in
theorem c_X7_thrifty (l : Launch) (g : Gp) (M : Mem) (oa : okA (aC M))  (x : Int32) : Ki l g yX7_thrifty cX7_thrifty 3 .int rm_X7_thrifty [.ref (gad g (0)), .int (x)] M (fun r M' => (r, aC M') = F_thrifty x (aC M) ∧ sameC M M') := by
  refine Ki.of rfl rfl rfl (fun q C hret hcs => ?_)
  have o : okRow (vw M 1) := oa.1
  refine x_aload_n C dX7_thrifty_0 rfl ?_
  refine x_getf (k := 0) C bk_X7 (C.lt rfl) rfl ent_0 0 fw_X7_10 rfl rfl dX7_thrifty_1 ?_
  refine x_getf (k := 1) C bk_X1 (C.lt' (isH_lt (Or.inl rfl) 0 (by decide))) rfl (ent_H0 (Or.inl rfl)) 2 fw_X7_100 rfl rfl dX7_thrifty_4 ?_
  refine x_iload_n C dX7_thrifty_7 rfl ?_
  refine x_cvB C (k := 1 + (2 + 1)) (c_X5_hasRow l g (h := 1) (j := 2) (Or.inl rfl) (by decide) _ _ ) o_X5_hasRow mw_X7_103 rfl (C.lt' (isH_lt (Or.inl rfl) (2 + 1) (by omega))) (rcv_HT (Or.inl rfl) 2 (by decide)) rfl rfl rfl hcs dX7_thrifty_8 (fun c8 => ?_) (fun c8 => ?_)
  · skip
    have qx := ix_tn (n := 6) (by decide) c8
    refine x_if_neT (tgt := 20) C dX7_thrifty_11 (by decide) (by decide) ?_
    refine x_aload_n C dX7_thrifty_20 rfl ?_
    refine x_getf (k := 0) C bk_X7 (C.lt rfl) rfl ent_0 3 fw_X7_25 rfl rfl dX7_thrifty_21 ?_
    refine x_aload_n C dX7_thrifty_24 rfl ?_
    refine x_getf (k := 0) C bk_X7 (C.lt rfl) rfl ent_0 0 fw_X7_10 rfl rfl dX7_thrifty_25 ?_
    refine x_cvv C (k := 25) (c_X0_lookAt l g _ o ) o_X0_lookAt mw_X7_166 rfl (C.lt rfl) rcv_25 rfl rfl rfl hcs dX7_thrifty_28 (fun M1 h1 => ?_)
    have hv : vw M1 1 = vw M 1 := vw_same h1.2 (by decide) (by decide) (by decide) (by decide) (by decide)
    have o1 : okRow (vw M1 1) := by rw [hv]; exact o
    have hs : same SCR M M1 := h1.2.mono (by simp [SCR])
    have hc : chO M1 (vw M1 1) := by rw [hv]; exact h1.1
    refine x_aload_n C dX7_thrifty_31 rfl ?_
    refine x_getf (k := 0) C bk_X7 (C.lt rfl) rfl ent_0 3 fw_X7_25 rfl rfl dX7_thrifty_32 ?_
    refine x_aload_n C dX7_thrifty_35 rfl ?_
    refine x_getf (k := 0) C bk_X7 (C.lt rfl) rfl ent_0 0 fw_X7_10 rfl rfl dX7_thrifty_36 ?_
    refine x_iload_n C dX7_thrifty_39 rfl ?_
    refine x_cvE C (k := 25) (c_X0_leastFor l g _ o1 hc (w := (tn x)) qx.2 qx.1 ) o_X0_leastFor mw_X7_173 rfl (C.lt rfl) rcv_25 rfl rfl rfl hcs dX7_thrifty_40 ?_
    refine x_topE (y := thrN (vw M 1) (tn x) 256) (by rw [hv]) ?_
    refine x_istore_n C dX7_thrifty_43 rfl ?_
    refine x_iload_n C dX7_thrifty_44 rfl ?_
    refine x_if_ge (tgt := 56) C dX7_thrifty_45 (by decide) (fun c45 => ?_) (fun c45 => ?_)
    · skip
      refine x_iload_n C dX7_thrifty_56 rfl ?_
      refine hret _ _ _ _ dX7_thrifty_57 rfl ?_
      first
        | exact pu_C ((ifp_t c8).trans (ifp_f (show ¬ thrN (vw M 1) (tn x) 256 < 0 from by clear hret hcs C; grind))) hs
        | exact fi_C (k := 3) ((ifp_t c8).trans (ifp_t (show thrN (vw M 1) (tn x) 256 < 0 from by clear hret hcs C; grind))) hg rfl (by decide) hs
    · skip
      refine x_aload_n C dX7_thrifty_48 rfl ?_
      refine x_iconst (v := 3) C dX7_thrifty_49 (by decide) ?_
      refine x_cvi C (k := 0) (c_X7_finding l g _ (k := 3) rfl (by decide) ) o_X7_finding mw_X7_61 rfl (C.lt rfl) rcv_0 rfl rfl rfl hcs dX7_thrifty_50 (fun rg M1 hg => ?_)
      refine x_goto (tgt := 57) C dX7_thrifty_53 (by decide) ?_
      refine hret _ _ _ _ dX7_thrifty_57 rfl ?_
      first
        | exact pu_C ((ifp_t c8).trans (ifp_f (show ¬ thrN (vw M 1) (tn x) 256 < 0 from by clear hret hcs C; grind))) hs
        | exact fi_C (k := 3) ((ifp_t c8).trans (ifp_t (show thrN (vw M 1) (tn x) 256 < 0 from by clear hret hcs C; grind))) hg rfl (by decide) hs
  · skip
    refine x_if_neF (tgt := 20) C dX7_thrifty_11 (by decide) (by decide) ?_
    refine x_aload_n C dX7_thrifty_14 rfl ?_
    refine x_iconst (v := 0) C dX7_thrifty_15 (by decide) ?_
    refine x_cvi C (k := 0) (c_X7_finding l g _ (k := 0) rfl (by decide) ) o_X7_finding mw_X7_61 rfl (C.lt rfl) rcv_0 rfl rfl rfl hcs dX7_thrifty_16 (fun rf M2 hf => ?_)
    refine hret _ _ _ _ dX7_thrifty_19 rfl ?_
    exact fi_C (k := 0) (ifp_f c8) hf rfl (by decide) same.rf

def rm_X7_halves : Room := { frames := 5, cells := 0, slots := 0, locals := 117 }
set_option maxRecDepth 100000 in
set_option maxHeartbeats 4000000 in
theorem c_X7_halves (l : Launch) (g : Gp) (M : Mem) (oa : okA (aC M))  : Ki l g yX7_halves cX7_halves 1 .int rm_X7_halves [.ref (gad g (0))] M (fun r M' => (r, aC M') = F_halves (aC M) ∧ sameC M M') := by
  refine Ki.of rfl rfl rfl (fun q C hret hcs => ?_)
  have o : okRow (vw M 1) := oa.1
  refine x_aload_n C dX7_halves_0 rfl ?_
  refine x_getf (k := 0) C bk_X7 (C.lt rfl) rfl ent_0 3 fw_X7_25 rfl rfl dX7_halves_1 ?_
  refine x_aload_n C dX7_halves_4 rfl ?_
  refine x_getf (k := 0) C bk_X7 (C.lt rfl) rfl ent_0 0 fw_X7_10 rfl rfl dX7_halves_5 ?_
  refine x_cvv C (k := 25) (c_X0_lookAt l g _ o ) o_X0_lookAt mw_X7_166 rfl (C.lt rfl) rcv_25 rfl rfl rfl hcs dX7_halves_8 (fun M1 h1 => ?_)
  have hv : vw M1 1 = vw M 1 := vw_same h1.2 (by decide) (by decide) (by decide) (by decide) (by decide)
  have o1 : okRow (vw M1 1) := by rw [hv]; exact o
  have hs : same SCR M M1 := h1.2.mono (by simp [SCR])
  have hc : chO M1 (vw M1 1) := by rw [hv]; exact h1.1
  refine x_aload_n C dX7_halves_11 rfl ?_
  refine x_getf (k := 0) C bk_X7 (C.lt rfl) rfl ent_0 3 fw_X7_25 rfl rfl dX7_halves_12 ?_
  refine x_cvE C (k := 25) (c_X0_nearestHalf l g _ hc ) o_X0_nearestHalf mw_X7_192 rfl (C.lt rfl) rcv_25 rfl rfl rfl hcs dX7_halves_15 ?_
  refine hret _ _ _ _ dX7_halves_18 rfl ?_
  rw [hv]; exact pu_C rfl hs

def rm_X7_apart : Room := { frames := 5, cells := 0, slots := 0, locals := 117 }
set_option maxRecDepth 100000 in
set_option maxHeartbeats 4000000 in
theorem c_X7_apart (l : Launch) (g : Gp) (M : Mem) (oa : okA (aC M))  : Ki l g yX7_apart cX7_apart 1 .int rm_X7_apart [.ref (gad g (0))] M (fun r M' => (r, aC M') = F_apart (aC M) ∧ sameC M M') := by
  refine Ki.of rfl rfl rfl (fun q C hret hcs => ?_)
  have o : okRow (vw M 1) := oa.1
  refine x_aload_n C dX7_apart_0 rfl ?_
  refine x_getf (k := 0) C bk_X7 (C.lt rfl) rfl ent_0 3 fw_X7_25 rfl rfl dX7_apart_1 ?_
  refine x_aload_n C dX7_apart_4 rfl ?_
  refine x_getf (k := 0) C bk_X7 (C.lt rfl) rfl ent_0 0 fw_X7_10 rfl rfl dX7_apart_5 ?_
  refine x_cvv C (k := 25) (c_X0_lookAt l g _ o ) o_X0_lookAt mw_X7_166 rfl (C.lt rfl) rcv_25 rfl rfl rfl hcs dX7_apart_8 (fun M1 h1 => ?_)
  have hv : vw M1 1 = vw M 1 := vw_same h1.2 (by decide) (by decide) (by decide) (by decide) (by decide)
  have o1 : okRow (vw M1 1) := by rw [hv]; exact o
  have hs : same SCR M M1 := h1.2.mono (by simp [SCR])
  have hc : chO M1 (vw M1 1) := by rw [hv]; exact h1.1
  refine x_aload_n C dX7_apart_11 rfl ?_
  refine x_getf (k := 0) C bk_X7 (C.lt rfl) rfl ent_0 3 fw_X7_25 rfl rfl dX7_apart_12 ?_
  refine x_aload_n C dX7_apart_15 rfl ?_
  refine x_getf (k := 0) C bk_X7 (C.lt rfl) rfl ent_0 3 fw_X7_25 rfl rfl dX7_apart_16 ?_
  refine x_cvE C (k := 25) (c_X0_nearestHalf l g _ hc ) o_X0_nearestHalf mw_X7_192 rfl (C.lt rfl) rcv_25 rfl rfl rfl hcs dX7_apart_19 ?_
  refine x_cvE C (k := 25) (c_X0_apartWith l g _ hc (s := (halN (vw M1 1) 255)) rfl (by have := halN_lt (vw M1 1) 255; omega) ) o_X0_apartWith mw_X7_195 rfl (C.lt rfl) rcv_25 rfl rfl rfl hcs dX7_apart_22 ?_
  refine hret _ _ _ _ dX7_apart_25 rfl ?_
  rw [hv]; exact pu_C rfl hs

def rm_X7_sets : Room := { frames := 5, cells := 0, slots := 0, locals := 117 }
set_option maxRecDepth 100000 in
set_option maxHeartbeats 4000000 in
theorem c_X7_sets (l : Launch) (g : Gp) (M : Mem) (oa : okA (aC M))  (v : Int32) : Ki l g yX7_sets cX7_sets 2 .int rm_X7_sets [.ref (gad g (0)), .int (v)] M (fun r M' => (r, aC M') = F_sets v (aC M) ∧ sameC M M') := by
  refine Ki.of rfl rfl rfl (fun q C hret hcs => ?_)
  have o : okRow (vw M 1) := oa.1
  refine x_iload_n C dX7_sets_0 rfl ?_
  refine x_sipush (v := -9999) C dX7_sets_1 (by decide) ?_
  refine x_sipush (v := 9999) C dX7_sets_4 (by decide) ?_
  refine x_csB C (c_X7_within l g _ _ _ _ ) o_X7_within mw_X7_77 rfl rfl rfl rfl hcs dX7_sets_7 (fun c7 => ?_) (fun c7 => ?_)
  · skip
    refine x_if_neT (tgt := 19) C dX7_sets_10 (by decide) (by decide) ?_
    refine x_aload_n C dX7_sets_19 rfl ?_
    refine x_getf (k := 0) C bk_X7 (C.lt rfl) rfl ent_0 3 fw_X7_25 rfl rfl dX7_sets_20 ?_
    refine x_aload_n C dX7_sets_23 rfl ?_
    refine x_getf (k := 0) C bk_X7 (C.lt rfl) rfl ent_0 0 fw_X7_10 rfl rfl dX7_sets_24 ?_
    refine x_cvv C (k := 25) (c_X0_lookAt l g _ o ) o_X0_lookAt mw_X7_166 rfl (C.lt rfl) rcv_25 rfl rfl rfl hcs dX7_sets_27 (fun M1 h1 => ?_)
    have hv : vw M1 1 = vw M 1 := vw_same h1.2 (by decide) (by decide) (by decide) (by decide) (by decide)
    have o1 : okRow (vw M1 1) := by rw [hv]; exact o
    have hs : same SCR M M1 := h1.2.mono (by simp [SCR])
    have hc : chO M1 (vw M1 1) := by rw [hv]; exact h1.1
    refine x_aload_n C dX7_sets_30 rfl ?_
    refine x_getf (k := 0) C bk_X7 (C.lt rfl) rfl ent_0 3 fw_X7_25 rfl rfl dX7_sets_31 ?_
    refine x_iload_n C dX7_sets_34 rfl ?_
    refine x_cvE C (k := 25) (c_X0_setsOf l g _ hc _ ) o_X0_setsOf mw_X7_198 rfl (C.lt rfl) rcv_25 rfl rfl rfl hcs dX7_sets_35 ?_
    refine hret _ _ _ _ dX7_sets_38 rfl ?_
    rw [hv]; exact pu_C (ifp_t c7) hs
  · skip
    refine x_if_neF (tgt := 19) C dX7_sets_10 (by decide) (by decide) ?_
    refine x_aload_n C dX7_sets_13 rfl ?_
    refine x_iconst (v := 0) C dX7_sets_14 (by decide) ?_
    refine x_cvi C (k := 0) (c_X7_finding l g _ (k := 0) rfl (by decide) ) o_X7_finding mw_X7_61 rfl (C.lt rfl) rcv_0 rfl rfl rfl hcs dX7_sets_15 (fun rf M1 hf => ?_)
    refine hret _ _ _ _ dX7_sets_18 rfl ?_
    exact fi_C (k := 0) (ifp_f c7) hf rfl (by decide) same.rf

