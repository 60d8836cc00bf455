/-! ===== contracts: the class's tokens and numbers ===== -/
theorem mk_rc {T : Row} {L p u e s : Nat} {M : Mem} (hp : p ≤ L) (hqe : stt T L p = u) (hs : srtN T L u = s) (he : enn T L p = e) (h2 : M 56 2 = nI s) (h3 : M 56 3 = nI u) (h4 : M 56 4 = nI e) (h5 : M 56 5 = vlC T L u (e - u)) : rdC T L M p := ⟨hp, by unfold sor; rw [hqe, hs]; exact h2, by rw [hqe]; exact h3, by rw [he]; exact h4, by rw [hqe, he]; exact h5⟩
theorem vlC_z {T : Row} {L u : Nat} : vlC T L u 0 = 0 := by unfold vlC; split <;> rfl
theorem vlC_0 {T : Row} {L u n s : Nat} (hs : srtN T L u = s) (h : ¬ s = 2) : vlC T L u n = 0 := if_neg (fun z => h (hs.symm.trans z))
theorem srt_lt0 {T : Row} {L u : Nat} (h : u < L) : ¬ srtN T L u = 0 := fun z => by
  rcases srt_cases T L u with y | y | y | y | y
  · omega
  · exact absurd (z.symm.trans y.2.2) (by decide)
  · exact absurd (z.symm.trans y.2.2) (by decide)
  · exact absurd (z.symm.trans y.2.2) (by decide)
  · exact absurd (z.symm.trans y.2.2.2.2) (by decide)
def rm_X3_advance : Room := { frames := 1, cells := 0, slots := 0, locals := 21 }
set_option maxRecDepth 100000 in
set_option maxHeartbeats 4000000 in
theorem c_X3_advance (l : Launch) (g : Gp) (hrd : 56 < gn g) (M : Mem) {T : Row} {L p : Nat} (ht : tpC M T L) (hp : p ≤ L) (he : M 56 4 = nI p) : Kv l g yX3_advance cX3_advance 1 rm_X3_advance [.ref (gad g (56))] M (fun M' => rdC T L M' p ∧ same [56] M M') := by
  refine Kv.of rfl rfl rfl (fun q C hret hcs => ?_)
  refine up_to L (P := fun i => ∀ M1 : Mem, p ≤ i → (∀ k, p ≤ k → k < i → blP (T k)) → M1 56 4 = nI i → same [56] M M1 → X (kmk l rm_X3_advance g 1 q) M1 0 [some (.ref (gad g (56)))] []) (fun i hi ih M1 hpi hbl h1b h1s => ?_) p hp M (Nat.le_refl p) (fun k h1 h2 => absurd h1 (by omega)) he same.rf
  have h1t : tpC M1 T L := ht.sm h1s (by simp) (by simp)
  have key : ∀ M2 : Mem, M2 56 4 = nI (stt T L p) → same [56] M M2 → X (kmk l rm_X3_advance g 1 q) M2 38 [some (.ref (gad g (56)))] [] := by
    intro M2 hb hs
    have ht2 : tpC M2 T L := ht.sm hs (by simp) (by simp)
    have hq := stt_b (T := T) hp
    generalize hqe : stt T L p = u0 at hb hq
    obtain ⟨s0, hs0⟩ : ∃ s0, s0 = srtN T L u0 := ⟨_, rfl⟩
    have hs4 : s0 ≤ 4 := by rw [hs0]; exact srt_le T L u0
    refine x_aload_n C dX3_advance_38 rfl ?_
    refine x_aload_n C dX3_advance_39 rfl ?_
    refine x_getf (k := 56) C bk_X3 hrd rfl ent_56 4 fw_X3_124 rfl rfl dX3_advance_40 ?_
    refine x_putf (k := 56) C bk_X3 hrd rfl ent_56 3 fw_X3_49 rfl (fun _ => rfl) rfl rfl rfl rfl dX3_advance_43 ?_
    refine x_memI (fun M3 eM3 => ?_)
    refine x_aload_n C dX3_advance_46 rfl ?_
    refine x_aload_n C dX3_advance_47 rfl ?_
    refine x_getf (k := 56) C bk_X3 hrd rfl ent_56 0 fw_X3_9 rfl rfl dX3_advance_48 ?_
    refine x_aload_n C dX3_advance_51 rfl ?_
    refine x_getf (k := 56) C bk_X3 hrd rfl ent_56 4 fw_X3_124 rfl rfl dX3_advance_52 ?_
    refine x_topE (y := nI u0) (by rw [eM3, up_sn (by decide)]; exact hb) ?_
    refine x_cvE C (k := 37) (c_X6_at l g _ (T := T) (L := L) (ht2.of (by rw [eM3]; exact up_n (by decide)) (by rw [eM3]; exact up_n (by decide))) (k := u0) rfl (by have := ht.2.1; omega) ) o_X6_at mw_X3_131 rfl (C.lt rfl) rcv_37 rfl rfl rfl hcs dX3_advance_55 ?_
    refine x_csE C (c_X3_sortOf l g _ _ ) o_X3_sortOf mw_X3_134 rfl rfl rfl rfl hcs dX3_advance_58 ?_
    refine x_topE (y := nI s0) (by rw [hs0]; exact sIf_at ht.2.1 ht.2.2.2) ?_
    refine x_putf (k := 56) C bk_X3 hrd rfl ent_56 2 fw_X3_45 rfl (fun _ => rfl) rfl rfl rfl rfl dX3_advance_61 ?_
    refine x_memI (fun M4 eM4 => ?_)
    refine x_aload_n C dX3_advance_64 rfl ?_
    refine x_iconst (v := 0) C dX3_advance_65 (by decide) ?_
    refine x_putf (k := 56) C bk_X3 hrd rfl ent_56 5 fw_X3_96 rfl (fun _ => rfl) rfl rfl rfl rfl dX3_advance_66 ?_
    refine x_memI (fun M5 eM5 => ?_)
    have h52 : M5 56 2 = nI s0 := by rw [eM5, up_sn (by decide), eM4, up_ss]
    have h53 : M5 56 3 = nI u0 := by rw [eM5, up_sn (by decide), eM4, up_sn (by decide), eM3, up_ss]; exact hb
    have h54 : M5 56 4 = nI u0 := by rw [eM5, up_sn (by decide), eM4, up_sn (by decide), eM3, up_sn (by decide)]; exact hb
    have h55 : M5 56 5 = 0 := by rw [eM5, up_ss]
    have h5s : same [56] M M5 := hs.tr (by rw [eM5, eM4, eM3]; exact (same.up (by simp)).tr ((same.up (by simp)).tr (same.up (by simp))))
    refine x_aload_n C dX3_advance_69 rfl ?_
    refine x_getf (k := 56) C bk_X3 hrd rfl ent_56 2 fw_X3_45 rfl rfl dX3_advance_70 ?_
    refine x_topE (y := nI s0) (h52) ?_
    refine x_iconst (v := 3) C dX3_advance_73 (by decide) ?_
    refine x_icmp_eq (tgt := 85) C dX3_advance_74 (by decide) (fun c74 => ?_) (fun c74 => ?_)
    · skip
      have h3 : s0 = 3 := (nI_eq (by omega) (by decide)).mp c74
      refine x_aload_n C dX3_advance_85 rfl ?_
      refine x_dup C dX3_advance_86 rfl ?_
      refine x_getf (k := 56) C bk_X3 hrd rfl ent_56 4 fw_X3_124 rfl rfl dX3_advance_87 ?_
      refine x_iconst (v := 1) C dX3_advance_90 (by decide) ?_
      refine x_iadd C dX3_advance_91 ?_
      refine x_topE (y := nI (u0 + 1)) (by rw [h54]; exact nI_1 u0) ?_
      refine x_putf (k := 56) C bk_X3 hrd rfl ent_56 4 fw_X3_124 rfl (fun _ => rfl) rfl rfl rfl rfl dX3_advance_92 ?_
      refine x_memI (fun Ma eMa => ?_)
      refine hret _ _ _ dX3_advance_95 ?_
      have hs34 : s0 = 3 ∨ s0 = 4 := by first | exact Or.inl h3 | exact Or.inr h4
      refine ⟨mk_rc hp hqe hs0.symm (fin_c3 hqe hs0.symm hs34) (by rw [eMa, up_sn (by decide)]; exact h52) (by rw [eMa, up_sn (by decide)]; exact h53) (by rw [eMa, up_ss]) (by rw [eMa, up_sn (by decide), h55]; exact (vlC_0 hs0.symm (by omega)).symm), h5s.tr (by rw [eMa]; exact same.up (by simp))⟩
    · skip
      have hn3 : ¬ s0 = 3 := fun z => c74 (by rw [z]; rfl)
      refine x_aload_n C dX3_advance_77 rfl ?_
      refine x_getf (k := 56) C bk_X3 hrd rfl ent_56 2 fw_X3_45 rfl rfl dX3_advance_78 ?_
      refine x_topE (y := nI s0) (h52) ?_
      refine x_iconst (v := 4) C dX3_advance_81 (by decide) ?_
      refine x_icmp_ne (tgt := 96) C dX3_advance_82 (by decide) (fun c82 => ?_) (fun c82 => ?_)
      · skip
        have hn4 : ¬ s0 = 4 := fun z => c82 (by rw [z]; rfl)
        refine up_to L (P := fun i => ∀ M6 : Mem, u0 ≤ i → (∀ k, u0 ≤ k → k < i → srtN T L k = s0) → (s0 = 0 → i = u0) → M6 56 2 = nI s0 → M6 56 3 = nI u0 → M6 56 4 = nI i → M6 56 5 = vlC T L u0 (i - u0) → same [56] M M6 → X (kmk l rm_X3_advance g 1 q) M6 96 [some (.ref (gad g (56)))] []) (fun i hi ih M6 hui hall h00 h62 h63 h64 h65 h6s => ?_) u0 hq.2 M5 (Nat.le_refl u0) (fun k h1 h2 => absurd h1 (by omega)) (fun _ => rfl) h52 h53 h54 (by rw [h55, Nat.sub_self]; exact vlC_z.symm) h5s
        have h6t : tpC M6 T L := ht.sm h6s (by simp) (by simp)
        refine x_aload_n C dX3_advance_96 rfl ?_
        refine x_getf (k := 56) C bk_X3 hrd rfl ent_56 2 fw_X3_45 rfl rfl dX3_advance_97 ?_
        refine x_topE (y := nI s0) (h62) ?_
        refine x_if_eq (tgt := 189) C dX3_advance_100 (by decide) (fun c100 => ?_) (fun c100 => ?_)
        · skip
          have z0 : s0 = 0 := (nI_eq (by omega) (by decide)).mp c100
          have hxx : i < L → ¬ srtN T L i = s0 := fun z y => srt_lt0 z (y.trans z0)
          refine hret _ _ _ dX3_advance_189 ?_
          exact ⟨mk_rc hp hqe hs0.symm (fin_c hqe hs0.symm hn3 hn4 hui hi hall hxx h00) h62 h63 h64 h65, h6s⟩
        · skip
          have n0 : ¬ s0 = 0 := fun z => c100 (by rw [z]; rfl)
          refine x_aload_n C dX3_advance_103 rfl ?_
          refine x_getf (k := 56) C bk_X3 hrd rfl ent_56 4 fw_X3_124 rfl rfl dX3_advance_104 ?_
          refine x_topE (y := nI i) (h64) ?_
          refine x_bipush (v := 120) C dX3_advance_107 (by decide) ?_
          refine x_icmp_ge (tgt := 189) C dX3_advance_109 (by decide) (fun c109 => ?_) (fun c109 => ?_)
          · skip
            have h120 := (nI_leI (a := 120) (b := i) (by decide) (by have := ht.2.1; omega)).mp c109
            have hxx : i < L → ¬ srtN T L i = s0 := fun z => absurd z (by have := ht.2.1; omega)
            refine hret _ _ _ dX3_advance_189 ?_
            exact ⟨mk_rc hp hqe hs0.symm (fin_c hqe hs0.symm hn3 hn4 hui hi hall hxx h00) h62 h63 h64 h65, h6s⟩
          · skip
            refine x_aload_n C dX3_advance_112 rfl ?_
            refine x_getf (k := 56) C bk_X3 hrd rfl ent_56 0 fw_X3_9 rfl rfl dX3_advance_113 ?_
            refine x_aload_n C dX3_advance_116 rfl ?_
            refine x_getf (k := 56) C bk_X3 hrd rfl ent_56 4 fw_X3_124 rfl rfl dX3_advance_117 ?_
            refine x_topE (y := nI i) (h64) ?_
            refine x_cvE C (k := 37) (c_X6_at l g _ (T := T) (L := L) h6t (k := i) rfl (by have := ht.2.1; omega) ) o_X6_at mw_X3_131 rfl (C.lt rfl) rcv_37 rfl rfl rfl hcs dX3_advance_120 ?_
            refine x_csE C (c_X3_sortOf l g _ _ ) o_X3_sortOf mw_X3_134 rfl rfl rfl rfl hcs dX3_advance_123 ?_
            refine x_topE (y := nI (srtN T L i)) (sIf_at ht.2.1 ht.2.2.2) ?_
            refine x_aload_n C dX3_advance_126 rfl ?_
            refine x_getf (k := 56) C bk_X3 hrd rfl ent_56 2 fw_X3_45 rfl rfl dX3_advance_127 ?_
            refine x_topE (y := nI s0) (h62) ?_
            refine x_icmp_ne (tgt := 189) C dX3_advance_130 (by decide) (fun c130 => ?_) (fun c130 => ?_)
            · skip
              have hxx : i < L → ¬ srtN T L i = s0 := fun _ y => c130 (by rw [y])
              refine hret _ _ _ dX3_advance_189 ?_
              exact ⟨mk_rc hp hqe hs0.symm (fin_c hqe hs0.symm hn3 hn4 hui hi hall hxx h00) h62 h63 h64 h65, h6s⟩
            · skip
              have hsi : srtN T L i = s0 := (nI_eq (by have := srt_le T L i; omega) (by omega)).mp c130
              have hlt : i < L := srt_not0 (by rw [hsi]; exact n0)
              refine x_aload_n C dX3_advance_133 rfl ?_
              refine x_aload_n C dX3_advance_134 rfl ?_
              refine x_getf (k := 56) C bk_X3 hrd rfl ent_56 2 fw_X3_45 rfl rfl dX3_advance_135 ?_
              refine x_topE (y := nI s0) (h62) ?_
              refine x_iconst (v := 2) C dX3_advance_138 (by decide) ?_
              refine x_icmp_ne (tgt := 172) C dX3_advance_139 (by decide) (fun c139 => ?_) (fun c139 => ?_)
              · skip
                have n2 : ¬ s0 = 2 := fun z => c139 (by rw [z]; rfl)
                refine x_iconst (v := 0) C dX3_advance_172 (by decide) ?_
                refine x_putf (k := 56) C bk_X3 hrd rfl ent_56 5 fw_X3_96 rfl (fun _ => rfl) rfl rfl rfl rfl dX3_advance_173 ?_
                refine x_memI (fun M7 eM7 => ?_)
                refine x_aload_n C dX3_advance_176 rfl ?_
                refine x_dup C dX3_advance_177 rfl ?_
                refine x_getf (k := 56) C bk_X3 hrd rfl ent_56 4 fw_X3_124 rfl rfl dX3_advance_178 ?_
                refine x_iconst (v := 1) C dX3_advance_181 (by decide) ?_
                refine x_iadd C dX3_advance_182 ?_
                refine x_topE (y := nI (i + 1)) (by rw [eM7, up_sn (by decide), h64]; exact nI_1 i) ?_
                refine x_putf (k := 56) C bk_X3 hrd rfl ent_56 4 fw_X3_124 rfl (fun _ => rfl) rfl rfl rfl rfl dX3_advance_183 ?_
                refine x_memI (fun M8 eM8 => ?_)
                refine x_goto (tgt := 96) C dX3_advance_186 (by decide) ?_
                refine ih hlt M8 (by omega) (fun k h1 h2 => ?_) (fun z => absurd z n0) ?_ ?_ ?_ ?_ ?_
                · rcases Nat.lt_or_ge k i with z | z
                  · exact hall k h1 z
                  · rw [show k = i by omega]; exact hsi
                · rw [eM8, up_sn (by decide), eM7, up_sn (by decide)]; exact h62
                · rw [eM8, up_sn (by decide), eM7, up_sn (by decide)]; exact h63
                · rw [eM8, up_ss]
                · rw [eM8, up_sn (by decide), eM7, up_ss]
                  first | exact (if_pos (hs0.symm.trans s2)).symm | exact (vlC_0 hs0.symm n2).symm
                · exact h6s.tr (by rw [eM8, eM7]; exact (same.up (by simp)).tr (same.up (by simp)))
              · skip
                have s2 : s0 = 2 := (nI_eq (by omega) (by decide)).mp c139
                refine x_aload_n C dX3_advance_142 rfl ?_
                refine x_getf (k := 56) C bk_X3 hrd rfl ent_56 5 fw_X3_96 rfl rfl dX3_advance_143 ?_
                refine x_topE (y := nI (numC T u0 (i - u0))) (by rw [h65]; exact if_pos (hs0.symm.trans s2)) ?_
                refine x_bipush (v := 10) C dX3_advance_146 (by decide) ?_
                refine x_imul C dX3_advance_148 ?_
                refine x_aload_n C dX3_advance_149 rfl ?_
                refine x_getf (k := 56) C bk_X3 hrd rfl ent_56 0 fw_X3_9 rfl rfl dX3_advance_150 ?_
                refine x_aload_n C dX3_advance_153 rfl ?_
                refine x_getf (k := 56) C bk_X3 hrd rfl ent_56 4 fw_X3_124 rfl rfl dX3_advance_154 ?_
                refine x_topE (y := nI i) (h64) ?_
                refine x_cvE C (k := 37) (c_X6_at l g _ (T := T) (L := L) h6t (k := i) rfl (by have := ht.2.1; omega) ) o_X6_at mw_X3_131 rfl (C.lt rfl) rcv_37 rfl rfl rfl hcs dX3_advance_157 ?_
                refine x_topE (y := T i) (if_pos hlt) ?_
                refine x_iadd C dX3_advance_160 ?_
                refine x_bipush (v := 48) C dX3_advance_161 (by decide) ?_
                refine x_isub C dX3_advance_163 ?_
                refine x_ldc C kw_X3_137 dX3_advance_164 ?_
                refine x_min C mw_X3_138 sw_Math_min iw_J9 ow_Math_min rfl rfl hcs.1 hcs.2 dX3_advance_166 ?_
                refine x_goto (tgt := 173) C dX3_advance_169 (by decide) ?_
                refine x_topE (y := nI (numC T u0 (i + 1 - u0))) (by have z9 := numC_I (T := T) (u := u0) (n := i - u0) (by rw [show u0 + (i - u0) = i by omega]; exact (srt_is2 (hsi.trans s2)).2); rw [show u0 + (i - u0) = i by omega] at z9; rw [show i + 1 - u0 = i - u0 + 1 by omega]; exact z9) ?_
                refine x_putf (k := 56) C bk_X3 hrd rfl ent_56 5 fw_X3_96 rfl (fun _ => rfl) rfl rfl rfl rfl dX3_advance_173 ?_
                refine x_memI (fun M7 eM7 => ?_)
                refine x_aload_n C dX3_advance_176 rfl ?_
                refine x_dup C dX3_advance_177 rfl ?_
                refine x_getf (k := 56) C bk_X3 hrd rfl ent_56 4 fw_X3_124 rfl rfl dX3_advance_178 ?_
                refine x_iconst (v := 1) C dX3_advance_181 (by decide) ?_
                refine x_iadd C dX3_advance_182 ?_
                refine x_topE (y := nI (i + 1)) (by rw [eM7, up_sn (by decide), h64]; exact nI_1 i) ?_
                refine x_putf (k := 56) C bk_X3 hrd rfl ent_56 4 fw_X3_124 rfl (fun _ => rfl) rfl rfl rfl rfl dX3_advance_183 ?_
                refine x_memI (fun M8 eM8 => ?_)
                refine x_goto (tgt := 96) C dX3_advance_186 (by decide) ?_
                refine ih hlt M8 (by omega) (fun k h1 h2 => ?_) (fun z => absurd z n0) ?_ ?_ ?_ ?_ ?_
                · rcases Nat.lt_or_ge k i with z | z
                  · exact hall k h1 z
                  · rw [show k = i by omega]; exact hsi
                · rw [eM8, up_sn (by decide), eM7, up_sn (by decide)]; exact h62
                · rw [eM8, up_sn (by decide), eM7, up_sn (by decide)]; exact h63
                · rw [eM8, up_ss]
                · rw [eM8, up_sn (by decide), eM7, up_ss]
                  first | exact (if_pos (hs0.symm.trans s2)).symm | exact (vlC_0 hs0.symm n2).symm
                · exact h6s.tr (by rw [eM8, eM7]; exact (same.up (by simp)).tr (same.up (by simp)))
      · skip
        have h4 : s0 = 4 := (nI_eq (by omega) (by decide)).mp c82
        refine x_aload_n C dX3_advance_85 rfl ?_
        refine x_dup C dX3_advance_86 rfl ?_
        refine x_getf (k := 56) C bk_X3 hrd rfl ent_56 4 fw_X3_124 rfl rfl dX3_advance_87 ?_
        refine x_iconst (v := 1) C dX3_advance_90 (by decide) ?_
        refine x_iadd C dX3_advance_91 ?_
        refine x_topE (y := nI (u0 + 1)) (by rw [h54]; exact nI_1 u0) ?_
        refine x_putf (k := 56) C bk_X3 hrd rfl ent_56 4 fw_X3_124 rfl (fun _ => rfl) rfl rfl rfl rfl dX3_advance_92 ?_
        refine x_memI (fun Ma eMa => ?_)
        refine hret _ _ _ dX3_advance_95 ?_
        have hs34 : s0 = 3 ∨ s0 = 4 := by first | exact Or.inl h3 | exact Or.inr h4
        refine ⟨mk_rc hp hqe hs0.symm (fin_c3 hqe hs0.symm hs34) (by rw [eMa, up_sn (by decide)]; exact h52) (by rw [eMa, up_sn (by decide)]; exact h53) (by rw [eMa, up_ss]) (by rw [eMa, up_sn (by decide), h55]; exact (vlC_0 hs0.symm (by omega)).symm), h5s.tr (by rw [eMa]; exact same.up (by simp))⟩
  refine x_aload_n C dX3_advance_0 rfl ?_
  refine x_getf (k := 56) C bk_X3 hrd rfl ent_56 4 fw_X3_124 rfl rfl dX3_advance_1 ?_
  refine x_topE (y := nI i) (h1b) ?_
  refine x_bipush (v := 120) C dX3_advance_4 (by decide) ?_
  refine x_icmp_ge (tgt := 38) C dX3_advance_6 (by decide) (fun c6 => ?_) (fun c6 => ?_)
  · skip
    have h120 := (nI_leI (a := 120) (b := i) (by decide) (by have := ht.2.1; omega)).mp c6
    have hnb : i < L → ¬ blP (T i) := fun z => absurd z (by have := ht.2.1; omega)
    exact key M1 (by rw [h1b]; exact congrArg nI (spn_hit hpi hi hbl hnb).symm) h1s
  · skip
    refine x_aload_n C dX3_advance_9 rfl ?_
    refine x_getf (k := 56) C bk_X3 hrd rfl ent_56 0 fw_X3_9 rfl rfl dX3_advance_10 ?_
    refine x_aload_n C dX3_advance_13 rfl ?_
    refine x_getf (k := 56) C bk_X3 hrd rfl ent_56 4 fw_X3_124 rfl rfl dX3_advance_14 ?_
    refine x_topE (y := nI i) (h1b) ?_
    refine x_cvE C (k := 37) (c_X6_at l g _ (T := T) (L := L) h1t (k := i) rfl (by have := ht.2.1; omega) ) o_X6_at mw_X3_131 rfl (C.lt rfl) rcv_37 rfl rfl rfl hcs dX3_advance_17 ?_
    refine x_bipush (v := 32) C dX3_advance_20 (by decide) ?_
    refine x_icmp_ne (tgt := 38) C dX3_advance_22 (by decide) (fun c22 => ?_) (fun c22 => ?_)
    · skip
      have hnb : i < L → ¬ blP (T i) := fun z y => c22 (at_bl.mpr ⟨z, y⟩)
      exact key M1 (by rw [h1b]; exact congrArg nI (spn_hit hpi hi hbl hnb).symm) h1s
    · skip
      obtain ⟨hlt, hbi⟩ := at_bl.mp c22
      refine x_aload_n C dX3_advance_25 rfl ?_
      refine x_dup C dX3_advance_26 rfl ?_
      refine x_getf (k := 56) C bk_X3 hrd rfl ent_56 4 fw_X3_124 rfl rfl dX3_advance_27 ?_
      refine x_iconst (v := 1) C dX3_advance_30 (by decide) ?_
      refine x_iadd C dX3_advance_31 ?_
      refine x_topE (y := nI (i + 1)) (by rw [h1b]; exact nI_1 i) ?_
      refine x_putf (k := 56) C bk_X3 hrd rfl ent_56 4 fw_X3_124 rfl (fun _ => rfl) rfl rfl rfl rfl dX3_advance_32 ?_
      refine x_memI (fun Mc eMc => ?_)
      refine x_goto (tgt := 0) C dX3_advance_35 (by decide) ?_
      refine ih hlt Mc (by omega) (fun k h1 h2 => ?_) (by rw [eMc]; exact up_ss) (h1s.tr (by rw [eMc]; exact same.up (by simp)))
      rcases Nat.lt_or_ge k i with z | z
      · exact hbl k h1 z
      · rw [show k = i by omega]; exact hbi

def rm_X3_readNumber : Room := { frames := 2, cells := 0, slots := 0, locals := 41 }
set_option maxRecDepth 100000 in
set_option maxHeartbeats 4000000 in
theorem c_X3_readNumber (l : Launch) (g : Gp) (hrd : 56 < gn g) (M : Mem) {T : Row} {L p : Nat} (ht : tpC M T L) (hr : rdC T L M p) {lo hi : Nat} (hlo : lo ≤ 99999) (hhi : hi ≤ 99999) {a b : Int32} (ha : a = nI lo) (hb : b = nI hi) : Ki l g yX3_readNumber cX3_readNumber 4 .int rm_X3_readNumber [.ref (gad g (56)), .int (a), .int (b)] M (fun r M' => r = opI (tkN T L p lo hi).2 ∧ rdC T L M' (tkN T L p lo hi).1 ∧ same [56] M M') := by
  refine Ki.of rfl rfl rfl (fun q C hret hcs => ?_)
  refine x_aload_n C dX3_readNumber_0 rfl ?_
  refine x_getf (k := 56) C bk_X3 hrd rfl ent_56 2 fw_X3_45 rfl rfl dX3_readNumber_1 ?_
  refine x_iconst (v := 2) C dX3_readNumber_4 (by decide) ?_
  refine x_icmp_ne (tgt := 24) C dX3_readNumber_5 (by decide) (fun c5 => ?_) (fun c5 => ?_)
  · skip
    have hz : ¬ (sor T L p = 2 ∧ lo ≤ numP T L p ∧ numP T L p ≤ hi) := fun z => c5 (by rw [hr.2.1, z.1]; rfl)
    refine x_iconst (v := -1) C dX3_readNumber_24 (by decide) ?_
    refine hret _ _ _ _ dX3_readNumber_25 rfl ?_
    rw [show tkN T L p lo hi = (p, none) from ifp_f hz]
    exact ⟨rfl, hr, same.rf⟩
  · skip
    have h2 := sor_is (k := 2) (by decide) hr.2.1 c5
    have hv : M 56 5 = nI (numC T (stt T L p) (enn T L p - stt T L p)) := hr.2.2.2.2.trans (if_pos h2)
    have hC := numC_le T (stt T L p) (enn T L p - stt T L p)
    have hN : numC T (stt T L p) (enn T L p - stt T L p) = if numP T L p < 100000 then numP T L p else 100000 := rfl
    generalize eC : numC T (stt T L p) (enn T L p - stt T L p) = cN at hv hC hN
    refine x_aload_n C dX3_readNumber_8 rfl ?_
    refine x_getf (k := 56) C bk_X3 hrd rfl ent_56 5 fw_X3_96 rfl rfl dX3_readNumber_9 ?_
    refine x_topE (y := nI cN) (hv) ?_
    refine x_iload_n C dX3_readNumber_12 rfl ?_
    refine x_icmp_lt (tgt := 24) C dX3_readNumber_13 (by decide) (fun c13 => ?_) (fun c13 => ?_)
    · skip
      have hz : ¬ (sor T L p = 2 ∧ lo ≤ numP T L p ∧ numP T L p ≤ hi) := fun z => by
        have z1 := (nI_ltI (by omega) (by omega)).mp (show nI cN < nI lo by rw [← ha]; exact c13)
        have z2 := z.2
        rw [if_pos (by omega)] at hN
        omega
      refine x_iconst (v := -1) C dX3_readNumber_24 (by decide) ?_
      refine hret _ _ _ _ dX3_readNumber_25 rfl ?_
      rw [show tkN T L p lo hi = (p, none) from ifp_f hz]
      exact ⟨rfl, hr, same.rf⟩
    · skip
      have hlo2 : lo ≤ cN := by rcases Nat.lt_or_ge cN lo with z | z; exact absurd (by rw [ha]; exact nI_lt z (by omega)) c13; exact z
      refine x_aload_n C dX3_readNumber_16 rfl ?_
      refine x_getf (k := 56) C bk_X3 hrd rfl ent_56 5 fw_X3_96 rfl rfl dX3_readNumber_17 ?_
      refine x_topE (y := nI cN) (hv) ?_
      refine x_iload_n C dX3_readNumber_20 rfl ?_
      refine x_icmp_le (tgt := 26) C dX3_readNumber_21 (by decide) (fun c21 => ?_) (fun c21 => ?_)
      · skip
        have hhi2 : cN ≤ hi := (nI_leI (by omega) (by omega)).mp (by rw [← hb]; exact c21)
        refine x_aload_n C dX3_readNumber_26 rfl ?_
        refine x_getf (k := 56) C bk_X3 hrd rfl ent_56 5 fw_X3_96 rfl rfl dX3_readNumber_27 ?_
        refine x_topE (y := nI cN) (hv) ?_
        refine x_istore_n C dX3_readNumber_30 rfl ?_
        refine x_aload_n C dX3_readNumber_31 rfl ?_
        refine x_cvv C (k := 56) (c_X3_advance l g hrd _ (T := T) (L := L) (p := (enn T L p)) ht (enn_le hr.1) hr.2.2.2.1 ) o_X3_advance mw_X3_19 rfl hrd rcv_56 rfl rfl rfl hcs dX3_readNumber_32 (fun M1 h1 => ?_)
        refine x_iload_n C dX3_readNumber_35 rfl ?_
        refine hret _ _ _ _ dX3_readNumber_36 rfl ?_
        have eN : numP T L p = cN := by
          by_cases z : numP T L p < 100000
          · rw [if_pos z] at hN; exact hN.symm
          · rw [if_neg z] at hN; omega
        rw [show tkN T L p lo hi = (enn T L p, some (numP T L p)) from ifp_t ⟨h2, by omega, by omega⟩, eN]
        exact ⟨rfl, h1⟩
      · skip
        have hz : ¬ (sor T L p = 2 ∧ lo ≤ numP T L p ∧ numP T L p ≤ hi) := fun z => c21 (by
          have z2 := z.2
          rw [if_pos (by omega)] at hN
          rw [hb]; exact (nI_leI (by omega) (by omega)).mpr (by omega))
        refine x_iconst (v := -1) C dX3_readNumber_24 (by decide) ?_
        refine hret _ _ _ _ dX3_readNumber_25 rfl ?_
        rw [show tkN T L p lo hi = (p, none) from ifp_f hz]
        exact ⟨rfl, hr, same.rf⟩

def rm_X3_readPerhaps : Room := { frames := 6, cells := 0, slots := 0, locals := 128 }
set_option maxRecDepth 100000 in
set_option maxHeartbeats 4000000 in
theorem c_X3_readPerhaps (l : Launch) (g : Gp) (hrd : 56 < gn g) (M : Mem) {T : Row} {L p : Nat} (ht : tpC M T L) (hr : rdC T L M p) {i hi d : Nat} (h13 : i < 13) (hh : hi ≤ 99999) {a b : Int32} (ha : a = nI hi) (hb : b = nI d) : Ki l g yX3_readPerhaps cX3_readPerhaps 4 .int rm_X3_readPerhaps [.ref (gad g (56)), .ref (gsa g (8 + i)), .int (a), .int (b)] M (fun r M' => r = opI (perN T L p i hi d).2 ∧ rdC T L M' (perN T L p i hi d).1 ∧ same [56] M M') := by
  refine Ki.of rfl rfl rfl (fun q C hret hcs => ?_)
  refine x_aload_n C dX3_readPerhaps_0 rfl ?_
  refine x_aload_n C dX3_readPerhaps_1 rfl ?_
  refine x_cvB C (k := 56) (c_X3_isAhead l g hrd _ (T := T) (L := L) (p := p) ht hr (i := i) (h13) ) o_X3_isAhead mw_X3_34 rfl hrd rcv_56 rfl rfl rfl hcs dX3_readPerhaps_2 (fun c2 => ?_) (fun c2 => ?_)
  · skip
    refine x_if_neT (tgt := 10) C dX3_readPerhaps_5 (by decide) (by decide) ?_
    refine x_aload_n C dX3_readPerhaps_10 rfl ?_
    refine x_cvv C (k := 56) (c_X3_advance l g hrd _ (T := T) (L := L) (p := (enn T L p)) ht (enn_le hr.1) hr.2.2.2.1 ) o_X3_advance mw_X3_19 rfl hrd rcv_56 rfl rfl rfl hcs dX3_readPerhaps_11 (fun M1 h1 => ?_)
    refine x_aload_n C dX3_readPerhaps_14 rfl ?_
    refine x_iconst (v := 0) C dX3_readPerhaps_15 (by decide) ?_
    refine x_iload_n C dX3_readPerhaps_16 rfl ?_
    refine x_cvi C (k := 56) (c_X3_readNumber l g hrd _ (T := T) (L := L) (p := (enn T L p)) (ht.sm h1.2 (by simp) (by simp)) h1.1 (lo := 0) (hi := hi) (by decide) hh rfl ha ) o_X3_readNumber mw_X3_57 rfl hrd rcv_56 rfl rfl rfl hcs dX3_readPerhaps_17 (fun r2 M2 h2 => ?_)
    refine hret _ _ _ _ dX3_readPerhaps_20 rfl ?_
    rw [show perN T L p i hi d = tkN T L (enn T L p) 0 hi from ifp_t c2]
    exact ⟨h2.1, h2.2.1, h1.2.tr h2.2.2⟩
  · skip
    refine x_if_neF (tgt := 10) C dX3_readPerhaps_5 (by decide) (by decide) ?_
    refine x_iload_n C dX3_readPerhaps_8 rfl ?_
    refine hret _ _ _ _ dX3_readPerhaps_9 rfl ?_
    rw [show perN T L p i hi d = (p, some d) from ifp_f c2]
    exact ⟨hb, hr, same.rf⟩

