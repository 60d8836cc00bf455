/-! ===== contracts: the model's best set ===== -/
def rm_X8_bestSet : Room := { frames := 4, cells := 0, slots := 0, locals := 91 }
set_option maxRecDepth 100000 in
set_option maxHeartbeats 4000000 in
theorem c_X8_bestSet (l : Launch) (g : Gp) (M : Mem) (o : okRow (vm M)) : Ki l g yX8_bestSet cX8_bestSet 5 .int rm_X8_bestSet [.ref (gad g (40))] M (fun r M' => r = nI (bsN (vm M) 63) ∧ vm M' = vm M ∧ same [45, 46] M M') := by
  refine Ki.of rfl rfl rfl (fun q C hret hcs => ?_)
  have heg := eggN_lt (vm M) 8
  have hegE : ofEg (vm M) (eggN (vm M) 8) := (ofEg_s heg).mpr (fun i h => h)
  refine x_aload_n C dX8_bestSet_0 rfl ?_
  refine x_cvE C (k := 40) (c_X8_eggs l g _ ) o_X8_eggs mw_X8_95 rfl (C.lt rfl) rcv_40 rfl rfl rfl hcs dX8_bestSet_1 ?_
  refine x_topE (y := nI (eggN (vm M) 8)) (rfl) ?_
  refine x_istore_n C dX8_bestSet_4 rfl ?_
  refine x_iconst (v := 0) C dX8_bestSet_5 (by decide) ?_
  refine x_istore_n C dX8_bestSet_6 rfl ?_
  refine up_to 256 (P := fun i => ∀ M1 : Mem, (∀ p, p < i → M1 46 p = sumN (vm M) (p &&& (eggN (vm M) 8)) 8) → (∀ p, p < i → M1 45 p = 1) → same [45, 46] M M1 → X (kmk l rm_X8_bestSet g 5 q) M1 7 [some (.ref (gad g (40))), some (.int (nI (eggN (vm M) 8))), some (.int (nI i)), none, none] []) (fun i hi ih M1 h46 h45 hs => ?_) 0 (by omega) M (fun p hp => absurd hp (by omega)) (fun p hp => absurd hp (by omega)) same.rf
  have hv1 : vm M1 = vm M := vm_same (hs 41 (by decide))
  refine x_iload_n C dX8_bestSet_7 rfl ?_
  refine x_sipush (v := 256) C dX8_bestSet_8 (by decide) ?_
  refine x_icmp_ge (tgt := 40) C dX8_bestSet_11 (by decide) (fun c11 => ?_) (fun c11 => ?_)
  · skip
    have hlt := lp_ge (N := 256) (by decide) hi c11
    subst hlt
    refine x_iconst (v := 0) C dX8_bestSet_40 (by decide) ?_
    refine x_istore_n C dX8_bestSet_41 rfl ?_
    refine x_iconst (v := 1) C dX8_bestSet_42 (by decide) ?_
    refine x_istore_n C dX8_bestSet_43 rfl ?_
    refine up_to 63 (P := fun i => ∀ M4 : Mem, (∀ p, p < 256 → M4 46 p = sumN (vm M) (p &&& (eggN (vm M) 8)) 8) → (∀ V' E', V' < i + 1 → E' < 256 → ofEg (vm M) E' → (M4 45 (256 * V' + E') = 1 ∧ feaP (vm M) V' E') ∨ (M4 45 (256 * V' + E') = 0 ∧ ¬ feaP (vm M) V' E')) → same [45, 46] M M4 → X (kmk l rm_X8_bestSet g 5 q) M4 44 [some (.ref (gad g (40))), some (.int (nI (eggN (vm M) 8))), some (.int (nI (bsN (vm M) i))), some (.int (nI (i + 1))), none] []) (fun i hi ih M4 hsum4 hcan4 hs4 => ?_) 0 (by omega) M1 h46 (fun V' E' hV hE _ => Or.inl ⟨by rw [show V' = 0 by omega, Nat.mul_zero, Nat.zero_add]; exact h45 E' hE, by rw [show V' = 0 by omega]; exact fea_0 _ _⟩) hs
    refine x_iload_n C dX8_bestSet_44 rfl ?_
    refine x_bipush (v := 64) C dX8_bestSet_45 (by decide) ?_
    refine x_icmp_ge (tgt := 144) C dX8_bestSet_47 (by decide) (fun c47 => ?_) (fun c47 => ?_)
    · skip
      have hl2 := lp_ge (N := 64) (by decide) (show i + 1 ≤ 64 by omega) c47
      refine x_iload_n C dX8_bestSet_144 rfl ?_
      refine hret _ _ _ _ dX8_bestSet_145 rfl ?_
      have hl63 : i = 63 := by omega
      subst hl63
      exact ⟨rfl, vm_same (hs4 41 (by decide)), hs4⟩
    · skip
      have hl2 := lp_lt (N := 64) (by decide) (show i + 1 ≤ 64 by omega) c47
      refine x_iconst (v := 0) C dX8_bestSet_50 (by decide) ?_
      refine x_istore C dX8_bestSet_51 rfl ?_
      refine up_to 256 (P := fun t => ∀ M5 : Mem, (∀ p, p < 256 → M5 46 p = sumN (vm M) (p &&& (eggN (vm M) 8)) 8) → (∀ V' E', V' < i + 1 → E' < 256 → ofEg (vm M) E' → (M5 45 (256 * V' + E') = 1 ∧ feaP (vm M) V' E') ∨ (M5 45 (256 * V' + E') = 0 ∧ ¬ feaP (vm M) V' E')) → (∀ E', E' < t → ofEg (vm M) E' → (M5 45 (256 * (i + 1) + E') = 1 ∧ feaP (vm M) (i + 1) E') ∨ (M5 45 (256 * (i + 1) + E') = 0 ∧ ¬ feaP (vm M) (i + 1) E')) → same [45, 46] M M5 → X (kmk l rm_X8_bestSet g 5 q) M5 53 [some (.ref (gad g (40))), some (.int (nI (eggN (vm M) 8))), some (.int (nI (bsN (vm M) i))), some (.int (nI (i + 1))), some (.int (nI t))] []) (fun t ht it M5 hsum5 hcan5 hnew5 hs5 => ?_) 0 (by omega) M4 hsum4 hcan4 (fun E' hE => absurd hE (by omega)) hs4
      have hv5 : vm M5 = vm M := vm_same (hs5 41 (by decide))
      refine x_iload C dX8_bestSet_53 rfl ?_
      refine x_sipush (v := 256) C dX8_bestSet_55 (by decide) ?_
      refine x_icmp_ge (tgt := 104) C dX8_bestSet_58 (by decide) (fun c58 => ?_) (fun c58 => ?_)
      · skip
        have hl3 := lp_ge (N := 256) (by decide) ht c58
        refine x_aload_n C dX8_bestSet_104 rfl ?_
        refine x_getf (k := 40) C bk_X8 (C.lt rfl) rfl ent_40 5 fw_X8_22 rfl rfl dX8_bestSet_105 ?_
        refine x_sipush (v := 256) C dX8_bestSet_108 (by decide) ?_
        refine x_iload_n C dX8_bestSet_111 rfl ?_
        refine x_imul C dX8_bestSet_112 ?_
        refine x_iload_n C dX8_bestSet_113 rfl ?_
        refine x_iadd C dX8_bestSet_114 ?_
        refine x_zald (j := 256 * (i + 1) + (eggN (vm M) 8)) (k := 45) C (C.lt rfl) rfl ent_45 (by rw [show (256 : Int32) = nI 256 from rfl, pk_mul, nI_add]) (by omega) rfl dX8_bestSet_115 ?_
        refine x_if_eq (tgt := 136) C dX8_bestSet_116 (by decide) (fun c116 => ?_) (fun c116 => ?_)
        · skip
          have hcx := hnew5 (eggN (vm M) 8) (by omega) hegE
          have nf : ¬ feaP (vm M) (i + 1) (eggN (vm M) 8) := by rcases hcx with z | z; exact absurd (z.1.symm.trans c116) (by decide); exact z.2
          refine x_iload_n C dX8_bestSet_136 rfl ?_
          refine x_istore_n C dX8_bestSet_137 rfl ?_
          refine x_iinc (v := nI (i + 1 + 1)) C dX8_bestSet_138 rfl (nI_1 _) rfl ?_
          refine x_goto (tgt := 44) C dX8_bestSet_141 (by decide) ?_
          refine X.le (ls' := [some (.ref (gad g (40))), some (.int (nI (eggN (vm M) 8))), some (.int (nI (bsN (vm M) i))), some (.int (nI (i + 1 + 1))), none]) (lle_s rfl (lle_s rfl (lle_s rfl (lle_s rfl (lle_n lle_e))))) ?_
          have hcanN : (∀ V' E', V' < i + 1 + 1 → E' < 256 → ofEg (vm M) E' → (M5 45 (256 * V' + E') = 1 ∧ feaP (vm M) V' E') ∨ (M5 45 (256 * V' + E') = 0 ∧ ¬ feaP (vm M) V' E')) := fun V' E' hV hE h => by
            rcases Nat.lt_or_ge V' (i + 1) with z | z
            · exact hcan5 V' E' z hE h
            · rw [show V' = i + 1 by omega]; exact hnew5 E' (by omega) h
          have e : bsN (vm M) (i + 1) = bsN (vm M) i := by first | exact ifp_f (fun z => nf z.1) | exact ifp_f (fun z => Int32.not_lt.mpr c129 z.2)
          rw [e] at ih
          exact ih (by omega) M5 hsum5 hcanN hs5
        · skip
          have hcx := hnew5 (eggN (vm M) 8) (by omega) hegE
          have yf : feaP (vm M) (i + 1) (eggN (vm M) 8) := by rcases hcx with z | z; exact z.2; exact absurd z.1 c116
          have hbl := bsN_le (vm M) i
          refine x_aload_n C dX8_bestSet_119 rfl ?_
          refine x_iload_n C dX8_bestSet_120 rfl ?_
          refine x_cvE C (k := 40) (c_X8_worthOf l g _ (V := (i + 1)) rfl hl2 ) o_X8_worthOf mw_X8_170 rfl (C.lt rfl) rcv_40 rfl rfl rfl hcs dX8_bestSet_121 ?_
          refine x_aload_n C dX8_bestSet_124 rfl ?_
          refine x_iload_n C dX8_bestSet_125 rfl ?_
          refine x_cvE C (k := 40) (c_X8_worthOf l g _ (V := (bsN (vm M) i)) rfl (by omega) ) o_X8_worthOf mw_X8_170 rfl (C.lt rfl) rcv_40 rfl rfl rfl hcs dX8_bestSet_126 ?_
          refine x_icmp_le (tgt := 136) C dX8_bestSet_129 (by decide) (fun c129 => ?_) (fun c129 => ?_)
          · skip
            rw [hv5] at c129
            refine x_iload_n C dX8_bestSet_136 rfl ?_
            refine x_istore_n C dX8_bestSet_137 rfl ?_
            refine x_iinc (v := nI (i + 1 + 1)) C dX8_bestSet_138 rfl (nI_1 _) rfl ?_
            refine x_goto (tgt := 44) C dX8_bestSet_141 (by decide) ?_
            refine X.le (ls' := [some (.ref (gad g (40))), some (.int (nI (eggN (vm M) 8))), some (.int (nI (bsN (vm M) i))), some (.int (nI (i + 1 + 1))), none]) (lle_s rfl (lle_s rfl (lle_s rfl (lle_s rfl (lle_n lle_e))))) ?_
            have hcanN : (∀ V' E', V' < i + 1 + 1 → E' < 256 → ofEg (vm M) E' → (M5 45 (256 * V' + E') = 1 ∧ feaP (vm M) V' E') ∨ (M5 45 (256 * V' + E') = 0 ∧ ¬ feaP (vm M) V' E')) := fun V' E' hV hE h => by
              rcases Nat.lt_or_ge V' (i + 1) with z | z
              · exact hcan5 V' E' z hE h
              · rw [show V' = i + 1 by omega]; exact hnew5 E' (by omega) h
            have e : bsN (vm M) (i + 1) = bsN (vm M) i := by first | exact ifp_f (fun z => nf z.1) | exact ifp_f (fun z => Int32.not_lt.mpr c129 z.2)
            rw [e] at ih
            exact ih (by omega) M5 hsum5 hcanN hs5
          · skip
            rw [hv5] at c129
            refine x_iload_n C dX8_bestSet_132 rfl ?_
            refine x_goto (tgt := 137) C dX8_bestSet_133 (by decide) ?_
            refine x_istore_n C dX8_bestSet_137 rfl ?_
            refine x_iinc (v := nI (i + 1 + 1)) C dX8_bestSet_138 rfl (nI_1 _) rfl ?_
            refine x_goto (tgt := 44) C dX8_bestSet_141 (by decide) ?_
            refine X.le (ls' := [some (.ref (gad g (40))), some (.int (nI (eggN (vm M) 8))), some (.int (nI (i + 1))), some (.int (nI (i + 1 + 1))), none]) (lle_s rfl (lle_s rfl (lle_s rfl (lle_s rfl (lle_n lle_e))))) ?_
            have hcanN : (∀ V' E', V' < i + 1 + 1 → E' < 256 → ofEg (vm M) E' → (M5 45 (256 * V' + E') = 1 ∧ feaP (vm M) V' E') ∨ (M5 45 (256 * V' + E') = 0 ∧ ¬ feaP (vm M) V' E')) := fun V' E' hV hE h => by
              rcases Nat.lt_or_ge V' (i + 1) with z | z
              · exact hcan5 V' E' z hE h
              · rw [show V' = i + 1 by omega]; exact hnew5 E' (by omega) h
            have e : bsN (vm M) (i + 1) = i + 1 := ifp_t ⟨yf, Int32.not_le.mp c129⟩
            rw [e] at ih
            exact ih (by omega) M5 hsum5 hcanN hs5
      · skip
        have hl3 := lp_lt (N := 256) (by decide) ht c58
        refine x_aload_n C dX8_bestSet_61 rfl ?_
        refine x_getf (k := 40) C bk_X8 (C.lt rfl) rfl ent_40 5 fw_X8_22 rfl rfl dX8_bestSet_62 ?_
        refine x_sipush (v := 256) C dX8_bestSet_65 (by decide) ?_
        refine x_iload_n C dX8_bestSet_68 rfl ?_
        refine x_imul C dX8_bestSet_69 ?_
        refine x_iload C dX8_bestSet_70 rfl ?_
        refine x_iadd C dX8_bestSet_72 ?_
        refine x_iload C dX8_bestSet_73 rfl ?_
        refine x_iload_n C dX8_bestSet_75 rfl ?_
        refine x_iconst (v := -1) C dX8_bestSet_76 (by decide) ?_
        refine x_ixor C dX8_bestSet_77 ?_
        refine x_iand C dX8_bestSet_78 ?_
        refine x_if_ne (tgt := 96) C dX8_bestSet_79 (by decide) (fun c79 => ?_) (fun c79 => ?_)
        · skip
          have ce : ¬ ofEg (vm M) t := fun z => c79 ((ofEg_i hl3).mpr z)
          refine x_iconst (v := 0) C dX8_bestSet_96 (by decide) ?_
          refine x_zast (j := 256 * (i + 1) + t) (k := 45) C (C.lt rfl) rfl ent_45 (by rw [show (256 : Int32) = nI 256 from rfl, pk_mul, nI_add]) (by omega) rfl (by decide) dX8_bestSet_97 ?_
          refine x_memI (fun M6 eM6 => ?_)
          refine x_iinc (v := nI (t + 1)) C dX8_bestSet_98 rfl (nI_1 t) rfl ?_
          refine x_goto (tgt := 53) C dX8_bestSet_101 (by decide) ?_
          refine it hl3 M6 (fun p hp => by rw [eM6, up_n (by decide)]; exact hsum5 p hp) (fun V' E' hV hE h => ?_) (fun E' hE h => ?_) (hs5.tr (by rw [eM6]; exact same.up (by simp)))
          · rw [eM6, up_sn (by omega)]; exact hcan5 V' E' hV hE h
          · rw [eM6]
            by_cases q : E' = t
            · subst q; rw [up_ss]; first | exact Or.inl ⟨rfl, by rw [← hv5]; exact c86⟩ | exact Or.inr ⟨rfl, by rw [← hv5]; exact c86⟩ | exact absurd h ce
            · rw [up_sn (by omega)]; exact hnew5 E' (by omega) h
        · skip
          have ce : ofEg (vm M) t := (ofEg_i hl3).mp (by first | exact c79 | exact Classical.not_not.mp c79)
          refine x_aload_n C dX8_bestSet_82 rfl ?_
          refine x_iload_n C dX8_bestSet_83 rfl ?_
          refine x_iload C dX8_bestSet_84 rfl ?_
          refine x_cvB C (k := 40) (c_X8_dealt l g _ (by rw [hv5]; exact o) (V := (i + 1)) (E := t) rfl (Nat.succ_pos i) hl2 rfl hl3 (by rw [hv5]; exact ce) (by rw [hv5]; exact fun p hp hpe => by rw [hsum5 p hp, sbt_and.mp ((ofEg_s hp).mp hpe)]) (by rw [hv5]; exact hcan5) ) o_X8_dealt mw_X8_167 rfl (C.lt rfl) rcv_40 rfl rfl rfl hcs dX8_bestSet_86 (fun c86 => ?_) (fun c86 => ?_)
          · skip
            refine x_if_eqF (tgt := 96) C dX8_bestSet_89 (by decide) (by decide) ?_
            refine x_iconst (v := 1) C dX8_bestSet_92 (by decide) ?_
            refine x_goto (tgt := 97) C dX8_bestSet_93 (by decide) ?_
            refine x_zast (j := 256 * (i + 1) + t) (k := 45) C (C.lt rfl) rfl ent_45 (by rw [show (256 : Int32) = nI 256 from rfl, pk_mul, nI_add]) (by omega) rfl (by decide) dX8_bestSet_97 ?_
            refine x_memI (fun M6 eM6 => ?_)
            refine x_iinc (v := nI (t + 1)) C dX8_bestSet_98 rfl (nI_1 t) rfl ?_
            refine x_goto (tgt := 53) C dX8_bestSet_101 (by decide) ?_
            refine it hl3 M6 (fun p hp => by rw [eM6, up_n (by decide)]; exact hsum5 p hp) (fun V' E' hV hE h => ?_) (fun E' hE h => ?_) (hs5.tr (by rw [eM6]; exact same.up (by simp)))
            · rw [eM6, up_sn (by omega)]; exact hcan5 V' E' hV hE h
            · rw [eM6]
              by_cases q : E' = t
              · subst q; rw [up_ss]; first | exact Or.inl ⟨rfl, by rw [← hv5]; exact c86⟩ | exact Or.inr ⟨rfl, by rw [← hv5]; exact c86⟩ | exact absurd h ce
              · rw [up_sn (by omega)]; exact hnew5 E' (by omega) h
          · skip
            refine x_if_eqT (tgt := 96) C dX8_bestSet_89 (by decide) (by decide) ?_
            refine x_iconst (v := 0) C dX8_bestSet_96 (by decide) ?_
            refine x_zast (j := 256 * (i + 1) + t) (k := 45) C (C.lt rfl) rfl ent_45 (by rw [show (256 : Int32) = nI 256 from rfl, pk_mul, nI_add]) (by omega) rfl (by decide) dX8_bestSet_97 ?_
            refine x_memI (fun M6 eM6 => ?_)
            refine x_iinc (v := nI (t + 1)) C dX8_bestSet_98 rfl (nI_1 t) rfl ?_
            refine x_goto (tgt := 53) C dX8_bestSet_101 (by decide) ?_
            refine it hl3 M6 (fun p hp => by rw [eM6, up_n (by decide)]; exact hsum5 p hp) (fun V' E' hV hE h => ?_) (fun E' hE h => ?_) (hs5.tr (by rw [eM6]; exact same.up (by simp)))
            · rw [eM6, up_sn (by omega)]; exact hcan5 V' E' hV hE h
            · rw [eM6]
              by_cases q : E' = t
              · subst q; rw [up_ss]; first | exact Or.inl ⟨rfl, by rw [← hv5]; exact c86⟩ | exact Or.inr ⟨rfl, by rw [← hv5]; exact c86⟩ | exact absurd h ce
              · rw [up_sn (by omega)]; exact hnew5 E' (by omega) h
  · skip
    have hlt := lp_lt (N := 256) (by decide) hi c11
    refine x_aload_n C dX8_bestSet_14 rfl ?_
    refine x_getf (k := 40) C bk_X8 (C.lt rfl) rfl ent_40 6 fw_X8_26 rfl rfl dX8_bestSet_15 ?_
    refine x_iload_n C dX8_bestSet_18 rfl ?_
    refine x_aload_n C dX8_bestSet_19 rfl ?_
    refine x_iload_n C dX8_bestSet_20 rfl ?_
    refine x_iload_n C dX8_bestSet_21 rfl ?_
    refine x_iand C dX8_bestSet_22 ?_
    refine x_topE (y := nI (i &&& (eggN (vm M) 8))) (fa_and _ _) ?_
    refine x_cvE C (k := 40) (c_X8_sumOf l g _ (s := (i &&& (eggN (vm M) 8))) rfl (Nat.lt_of_le_of_lt Nat.and_le_right heg) ) o_X8_sumOf mw_X8_99 rfl (C.lt rfl) rcv_40 rfl rfl rfl hcs dX8_bestSet_23 ?_
    refine x_topE (y := sumN (vm M) (i &&& (eggN (vm M) 8)) 8) (by rw [hv1]) ?_
    refine x_iast (j := i) (k := 46) C (C.lt rfl) rfl ent_46 (rfl) (by omega) rfl dX8_bestSet_26 ?_
    refine x_memI (fun M2 eM2 => ?_)
    refine x_aload_n C dX8_bestSet_27 rfl ?_
    refine x_getf (k := 40) C bk_X8 (C.lt rfl) rfl ent_40 5 fw_X8_22 rfl rfl dX8_bestSet_28 ?_
    refine x_iload_n C dX8_bestSet_31 rfl ?_
    refine x_iconst (v := 1) C dX8_bestSet_32 (by decide) ?_
    refine x_zast (j := i) (k := 45) C (C.lt rfl) rfl ent_45 (rfl) (by omega) rfl (by decide) dX8_bestSet_33 ?_
    refine x_memI (fun M3 eM3 => ?_)
    refine x_iinc (v := nI (i + 1)) C dX8_bestSet_34 rfl (nI_1 i) rfl ?_
    refine x_goto (tgt := 7) C dX8_bestSet_37 (by decide) ?_
    refine ih hlt M3 (fun p hp => ?_) (fun p hp => ?_) (hs.tr (by rw [eM3, eM2]; exact (same.up (by simp)).tr (same.up (by simp))))
    · rw [eM3, up_n (by decide), eM2]
      by_cases q : p = i
      · subst q; exact up_ss
      · rw [up_sn q]; exact h46 p (by omega)
    · rw [eM3]
      by_cases q : p = i
      · subst q; exact up_ss
      · rw [up_sn q, eM2, up_n (by decide)]; exact h45 p (by omega)

def rm_X8_best : Room := { frames := 5, cells := 0, slots := 0, locals := 115 }
set_option maxRecDepth 100000 in
set_option maxHeartbeats 4000000 in
theorem c_X8_best (l : Launch) (g : Gp) (M : Mem) (oa : okA (aM M))  : Ki l g yX8_best cX8_best 1 .int rm_X8_best [.ref (gad g (40))] M (fun r M' => (r, aM M') = F_best (aM M) ∧ sameM M M') := by
  refine Ki.of rfl rfl rfl (fun q C hret hcs => ?_)
  have o : okRow (vm M) := oa.1
  refine x_aload_n C dX8_best_0 rfl ?_
  refine x_aload_n C dX8_best_1 rfl ?_
  refine x_cvi C (k := 40) (c_X8_bestSet l g _ o ) o_X8_bestSet mw_X8_173 rfl (C.lt rfl) rcv_40 rfl rfl rfl hcs dX8_best_2 (fun r2 M2 h2 => ?_)
  refine x_cvE C (k := 40) (c_X8_worthOf l g _ (V := (bsN (vm M) 63)) h2.1 (by have := bsN_le (vm M) 63; omega) ) o_X8_worthOf mw_X8_170 rfl (C.lt rfl) rcv_40 rfl rfl rfl hcs dX8_best_5 ?_
  refine hret _ _ _ _ dX8_best_8 rfl ?_
  rw [h2.2.1]; exact pu_M rfl h2.2.1 (h2.2.2.mono (by simp [SC1]))

def rm_X8_bestWorks : Room := { frames := 5, cells := 0, slots := 0, locals := 115 }
set_option maxRecDepth 100000 in
set_option maxHeartbeats 4000000 in
theorem c_X8_bestWorks (l : Launch) (g : Gp) (M : Mem) (oa : okA (aM M))  : Ki l g yX8_bestWorks cX8_bestWorks 1 .int rm_X8_bestWorks [.ref (gad g (40))] M (fun r M' => (r, aM M') = F_bestWorks (aM M) ∧ sameM M M') := by
  refine Ki.of rfl rfl rfl (fun q C hret hcs => ?_)
  have o : okRow (vm M) := oa.1
  refine x_aload_n C dX8_bestWorks_0 rfl ?_
  refine x_cvi C (k := 40) (c_X8_bestSet l g _ o ) o_X8_bestSet mw_X8_173 rfl (C.lt rfl) rcv_40 rfl rfl rfl hcs dX8_bestWorks_1 (fun r2 M2 h2 => ?_)
  refine hret _ _ _ _ dX8_bestWorks_4 rfl ?_
  rw [h2.1]; exact pu_M rfl h2.2.1 (h2.2.2.mono (by simp [SC1]))

