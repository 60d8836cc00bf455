/-! ===== contracts: the model's tokens ===== -/
theorem mk_rd {T : Row} {L p q e s v : Nat} {M : Mem} (hp : p ≤ L) (hqe : stt T L p = q) (h1 : sorM T L p = s) (h2 : enn T L p = e) (h3 : valM T L p = v) (h9 : M 40 9 = nI s) (h10 : M 40 10 = nI q) (h11 : M 40 11 = nI e) (hv : (lvM M).toInt = (v : Int)) : rdM T L M p := ⟨hp, by rw [h1]; exact h9, by rw [hqe]; exact h10, by rw [h2]; exact h11, by rw [h3]; exact hv⟩
theorem fin_0 {T : Row} {L p q : Nat} {M : Mem} (hp : p ≤ L) (hqe : stt T L p = q) (hq : q = L) (h9 : M 40 9 = 0) (h10 : M 40 10 = nI q) (h11 : M 40 11 = nI q) (hv : (lvM M).toInt = ((0 : Nat) : Int)) : rdM T L M p := by
  have h0 : sor T L p = 0 := by unfold sor; rw [hqe]; exact srt_0 (by omega)
  exact mk_rd hp hqe (sorM_0.mpr h0) ((enn_0 h0).trans hqe) (val_0 (by rw [h0]; decide) (by rw [h0]; decide)) h9 h10 h11 hv
theorem fin_1 {T : Row} {L p q i : Nat} {M : Mem} (hp : p ≤ L) (hqe : stt T L p = q) (hqL : q < L) (hc : ltP (T q)) (hen : spn ltP T L q = i) (h9 : M 40 9 = 1) (h10 : M 40 10 = nI q) (h11 : M 40 11 = nI i) (hv : (lvM M).toInt = ((dgS T q (i - q) : Nat) : Int)) : rdM T L M p := by
  have h1 : sor T L p = 1 := by unfold sor; rw [hqe]; exact srt_1 hqL hc
  have e : enn T L p = i := by rw [enn_1 h1, hqe]; exact hen
  exact mk_rd hp hqe (sorM_1.mpr h1) e (by rw [val_1 h1, hqe, e]) h9 h10 h11 hv
theorem fin_2 {T : Row} {L p q i : Nat} {M : Mem} (hp : p ≤ L) (hqe : stt T L p = q) (hqL : q < L) (hd : ¬ ltP (T q)) (hc : dgP (T q)) (hen : spn dgP T L q = i) (h9 : M 40 9 = if numS T q (i - q) ≤ 99999 then 2 else 4) (h10 : M 40 10 = nI q) (h11 : M 40 11 = nI i) (hv : (lvM M).toInt = ((numS T q (i - q) : Nat) : Int)) : rdM T L M p := by
  have h2 : sor T L p = 2 := by unfold sor; rw [hqe]; exact srt_2 hqL hd hc
  have e : enn T L p = i := by rw [enn_2 h2, hqe]; exact hen
  have hn2 : numP T L p = numN T q (i - q) := by unfold numP; rw [hqe, e]
  have hs := numS_N T q (i - q)
  have h3 : sorM T L p = if numS T q (i - q) ≤ 99999 then 2 else 4 := by
    unfold sorM
    rw [if_pos h2, hn2]
    by_cases z : 99999 < numN T q (i - q)
    · rw [if_pos z, if_neg (by have := hs.2 z; omega)]
    · rw [if_neg z, if_pos (by have := hs.1 (by omega); omega)]
  refine mk_rd hp hqe h3 e (by rw [val_2 h2, hqe, e]) ?_ h10 h11 hv
  rw [h9]
  split <;> rfl
theorem fin_3 {T : Row} {L p q : Nat} {M : Mem} (hp : p ≤ L) (hqe : stt T L p = q) (hqL : q < L) (hd : ¬ ltP (T q)) (hc : ¬ dgP (T q)) (h9 : M 40 9 = if T q = 59 then 3 else 4) (h10 : M 40 10 = nI q) (h11 : M 40 11 = nI (q + 1)) (hv : (lvM M).toInt = ((0 : Nat) : Int)) : rdM T L M p := by
  by_cases z : T q = 59
  · have h3 : sor T L p = 3 := by unfold sor; rw [hqe]; exact srt_3 hqL hd hc z
    rw [if_pos z] at h9
    exact mk_rd hp hqe (sorM_3.mpr h3) (by rw [enn_3 (Or.inl h3), hqe]) (val_0 (by rw [h3]; decide) (by rw [h3]; decide)) h9 h10 h11 hv
  · have h3 : sor T L p = 4 := by unfold sor; rw [hqe]; exact srt_4 hqL hd hc z
    rw [if_neg z] at h9
    exact mk_rd hp hqe (by rw [sorM_n (by rw [h3]; decide)]; exact h3) (by rw [enn_3 (Or.inr h3), hqe]) (val_0 (by rw [h3]; decide) (by rw [h3]; decide)) h9 h10 h11 hv
def rm_X8_isLetter : Room := { frames := 1, cells := 0, slots := 0, locals := 22 }
set_option maxRecDepth 100000 in
set_option maxHeartbeats 4000000 in
theorem c_X8_isLetter (l : Launch) (g : Gp) (M : Mem) (v : Int32) : Kp l g yX8_isLetter cX8_isLetter 1 .boolean rm_X8_isLetter [.int (v)] M (bv (ltP v)) := by
  unfold Kp
  refine Ki.of rfl rfl rfl (fun q C hret hcs => ?_)
  refine x_iload_n C dX8_isLetter_0 rfl ?_
  refine x_bipush (v := 97) C dX8_isLetter_1 (by decide) ?_
  refine x_bipush (v := 122) C dX8_isLetter_3 (by decide) ?_
  refine x_csB C (c_X8_in1 l g _ _ _ _ ) o_X8_in1 mw_X8_59 rfl rfl rfl rfl hcs dX8_isLetter_5 (fun c5 => ?_) (fun c5 => ?_)
  · skip
    refine hret _ _ _ _ dX8_isLetter_8 rfl ⟨Or.inl ⟨rfl, ?_⟩, rfl⟩
    exact c5
  · skip
    refine hret _ _ _ _ dX8_isLetter_8 rfl ⟨Or.inr ⟨rfl, ?_⟩, rfl⟩
    exact c5

def rm_X8_isDigit : Room := { frames := 1, cells := 0, slots := 0, locals := 22 }
set_option maxRecDepth 100000 in
set_option maxHeartbeats 4000000 in
theorem c_X8_isDigit (l : Launch) (g : Gp) (M : Mem) (v : Int32) : Kp l g yX8_isDigit cX8_isDigit 1 .boolean rm_X8_isDigit [.int (v)] M (bv (dgP v)) := by
  unfold Kp
  refine Ki.of rfl rfl rfl (fun q C hret hcs => ?_)
  refine x_iload_n C dX8_isDigit_0 rfl ?_
  refine x_bipush (v := 48) C dX8_isDigit_1 (by decide) ?_
  refine x_bipush (v := 57) C dX8_isDigit_3 (by decide) ?_
  refine x_csB C (c_X8_in1 l g _ _ _ _ ) o_X8_in1 mw_X8_59 rfl rfl rfl rfl hcs dX8_isDigit_5 (fun c5 => ?_) (fun c5 => ?_)
  · skip
    refine hret _ _ _ _ dX8_isDigit_8 rfl ⟨Or.inl ⟨rfl, ?_⟩, rfl⟩
    exact c5
  · skip
    refine hret _ _ _ _ dX8_isDigit_8 rfl ⟨Or.inr ⟨rfl, ?_⟩, rfl⟩
    exact c5

def rm_X8_nextToken : Room := { frames := 2, cells := 0, slots := 0, locals := 42 }
set_option maxRecDepth 100000 in
set_option maxHeartbeats 4000000 in
theorem c_X8_nextToken (l : Launch) (g : Gp) (M : Mem) {T : Row} {L p : Nat} (ht : tpM M T L) (hp : p ≤ L) (he : M 40 11 = nI p) : Kv l g yX8_nextToken cX8_nextToken 1 rm_X8_nextToken [.ref (gad g (40))] M (fun M' => rdM T L M' p ∧ same [40] M M' ∧ kp40 M M') := by
  refine Kv.of rfl rfl rfl (fun q C hret hcs => ?_)
  have key : ∀ M2 : Mem, M2 40 10 = nI (stt T L p) → same [40] M M2 → kp40 M M2 → X (kmk l rm_X8_nextToken g 1 q) M2 46 [some (.ref (gad g (40)))] [] := by
    intro M2 hb hs hk
    have ht2 : tpM M2 T L := ht.of (hs 47 (by simp)) hk
    have hq := stt_b (T := T) hp
    generalize hqe : stt T L p = u0 at hb hq
    refine x_aload_n C dX8_nextToken_46 rfl ?_
    refine x_aload_n C dX8_nextToken_47 rfl ?_
    refine x_getf (k := 40) C bk_X8 (C.lt rfl) rfl ent_40 10 fw_X8_212 rfl rfl dX8_nextToken_48 ?_
    refine x_putf (k := 40) C bk_X8 (C.lt rfl) rfl ent_40 11 fw_X8_209 rfl (fun _ => rfl) rfl rfl rfl rfl dX8_nextToken_51 ?_
    refine x_memI (fun M3 eM3 => ?_)
    refine x_aload_n C dX8_nextToken_54 rfl ?_
    refine x_lconst (v := 0) C dX8_nextToken_55 rfl ?_
    refine x_putL C fw_X8_215 rfl bk_X8 dX8_nextToken_56 ?_
    refine x_memI (fun M4 eM4 => ?_)
    have h4b : M4 40 10 = nI u0 := by rw [eM4, upL_o (by decide) (by decide), eM3, up_sn (by decide)]; exact hb
    have h4e : M4 40 11 = nI u0 := by rw [eM4, upL_o (by decide) (by decide), eM3, up_ss]; exact hb
    have h4v : (lvM M4).toInt = ((0 : Nat) : Int) := by rw [eM4, upL_v]; rfl
    have h4s : same [40] M M4 := hs.tr (by rw [eM4, eM3]; exact (same.up (by simp)).tr upL_same)
    have h4k : kp40 M M4 := hk.tr (by rw [eM4, eM3]; exact (kp40.u40 (by decide)).tr upL_kp)
    have h4t : tpM M4 T L := ht.of (h4s 47 (by simp)) h4k
    refine x_aload_n C dX8_nextToken_59 rfl ?_
    refine x_getf (k := 40) C bk_X8 (C.lt rfl) rfl ent_40 10 fw_X8_212 rfl rfl dX8_nextToken_60 ?_
    refine x_topE (y := nI u0) (h4b) ?_
    refine x_aload_n C dX8_nextToken_63 rfl ?_
    refine x_getf (k := 40) C bk_X8 (C.lt rfl) rfl ent_40 8 fw_X8_205 rfl rfl dX8_nextToken_64 ?_
    refine x_topE (y := nI L) (h4t.1) ?_
    refine x_icmp_ne (tgt := 78) C dX8_nextToken_67 (by decide) (fun c67 => ?_) (fun c67 => ?_)
    · skip
      have hqL : u0 < L := by rcases Nat.lt_or_ge u0 L with z | z; exact z; exact absurd (by rw [show u0 = L by omega]) c67
      refine x_aload_n C dX8_nextToken_78 rfl ?_
      refine x_getf (k := 40) C bk_X8 (C.lt rfl) rfl ent_40 7 fw_X8_29 rfl rfl dX8_nextToken_79 ?_
      refine x_aload_n C dX8_nextToken_82 rfl ?_
      refine x_getf (k := 40) C bk_X8 (C.lt rfl) rfl ent_40 10 fw_X8_212 rfl rfl dX8_nextToken_83 ?_
      refine x_iald (j := u0) (k := 47) C (C.lt rfl) rfl ent_47 (h4b) (by have := ht.2.1; omega) rfl dX8_nextToken_86 ?_
      refine x_topE (y := T u0) (h4t.2.2.1 u0 (by have := ht.2.1; omega)) ?_
      refine x_csB C (c_X8_isLetter l g _ _ ) o_X8_isLetter mw_X8_222 rfl rfl rfl rfl hcs dX8_nextToken_87 (fun c87 => ?_) (fun c87 => ?_)
      · skip
        refine x_if_eqF (tgt := 182) C dX8_nextToken_90 (by decide) (by decide) ?_
        refine x_aload_n C dX8_nextToken_93 rfl ?_
        refine x_iconst (v := 1) C dX8_nextToken_94 (by decide) ?_
        refine x_putf (k := 40) C bk_X8 (C.lt rfl) rfl ent_40 9 fw_X8_219 rfl (fun _ => rfl) rfl rfl rfl rfl dX8_nextToken_95 ?_
        refine x_memI (fun M5 eM5 => ?_)
        have h59 : M5 40 9 = 1 := by rw [eM5]; exact up_ss
        have h5b : M5 40 10 = nI u0 := by rw [eM5, up_sn (by decide)]; exact h4b
        have h5e : M5 40 11 = nI u0 := by rw [eM5, up_sn (by decide)]; exact h4e
        have h5v : (lvM M5).toInt = ((0 : Nat) : Int) := by rw [eM5, lv_up (by decide)]; exact h4v
        have h5s : same [40] M M5 := h4s.tr (by rw [eM5]; exact same.up (by simp))
        have h5k : kp40 M M5 := h4k.tr (by rw [eM5]; exact kp40.u40 (by decide))
        refine up_to L (P := fun i => ∀ M6 : Mem, u0 ≤ i → (∀ k, u0 ≤ k → k < i → ltP (T k)) → M6 40 9 = 1 → M6 40 10 = nI u0 → M6 40 11 = nI i → (lvM M6).toInt = ((dgS T u0 (i - u0) : Nat) : Int) → same [40] M M6 → kp40 M M6 → X (kmk l rm_X8_nextToken g 1 q) M6 98 [some (.ref (gad g (40)))] []) (fun i hi ih M6 hqi hal h9 h10 h11 h6v h6s h6k => ?_) u0 hq.2 M5 (Nat.le_refl u0) (fun k h1 h2 => absurd h1 (by omega)) h59 h5b h5e (by rw [Nat.sub_self]; exact h5v) h5s h5k
        have h6t : tpM M6 T L := ht.of (h6s 47 (by simp)) h6k
        refine x_aload_n C dX8_nextToken_98 rfl ?_
        refine x_getf (k := 40) C bk_X8 (C.lt rfl) rfl ent_40 11 fw_X8_209 rfl rfl dX8_nextToken_99 ?_
        refine x_topE (y := nI i) (h11) ?_
        refine x_aload_n C dX8_nextToken_102 rfl ?_
        refine x_getf (k := 40) C bk_X8 (C.lt rfl) rfl ent_40 8 fw_X8_205 rfl rfl dX8_nextToken_103 ?_
        refine x_topE (y := nI L) (h6t.1) ?_
        refine x_icmp_ge (tgt := 337) C dX8_nextToken_106 (by decide) (fun c106 => ?_) (fun c106 => ?_)
        · skip
          have hlt := lp_ge (N := L) (by have := ht.2.1; omega) hi c106
          refine hret _ _ _ dX8_nextToken_337 ?_
          exact ⟨fin_1 hp hqe hqL c87 (spn_hit hqi hi hal (fun z => by first | exact absurd z (by omega) | exact c118)) h9 h10 h11 h6v, h6s, h6k⟩
        · skip
          have hlt := lp_lt (N := L) (by have := ht.2.1; omega) hi c106
          refine x_aload_n C dX8_nextToken_109 rfl ?_
          refine x_getf (k := 40) C bk_X8 (C.lt rfl) rfl ent_40 7 fw_X8_29 rfl rfl dX8_nextToken_110 ?_
          refine x_aload_n C dX8_nextToken_113 rfl ?_
          refine x_getf (k := 40) C bk_X8 (C.lt rfl) rfl ent_40 11 fw_X8_209 rfl rfl dX8_nextToken_114 ?_
          refine x_iald (j := i) (k := 47) C (C.lt rfl) rfl ent_47 (h11) (by have := ht.2.1; omega) rfl dX8_nextToken_117 ?_
          refine x_topE (y := T i) (h6t.2.2.1 i (by have := ht.2.1; omega)) ?_
          refine x_csB C (c_X8_isLetter l g _ _ ) o_X8_isLetter mw_X8_222 rfl rfl rfl rfl hcs dX8_nextToken_118 (fun c118 => ?_) (fun c118 => ?_)
          · skip
            refine x_if_eqF (tgt := 337) C dX8_nextToken_121 (by decide) (by decide) ?_
            refine x_aload_n C dX8_nextToken_124 rfl ?_
            refine x_aload_n C dX8_nextToken_125 rfl ?_
            refine x_getf (k := 40) C bk_X8 (C.lt rfl) rfl ent_40 12 fw_X8_215 rfl rfl dX8_nextToken_126 ?_
            refine x_ldc2 C kw_X8_225 dX8_nextToken_129 ?_
            refine x_lcmp C dX8_nextToken_132 ?_
            refine x_if_le (tgt := 143) C dX8_nextToken_133 (by decide) (fun c133 => ?_) (fun c133 => ?_)
            · skip
              have hle := (le_i64 h6v (b := 9999999999999) (by decide)).mp c133
              refine x_aload_n C dX8_nextToken_143 rfl ?_
              refine x_getf (k := 40) C bk_X8 (C.lt rfl) rfl ent_40 12 fw_X8_215 rfl rfl dX8_nextToken_144 ?_
              refine x_ldc2 C kw_X8_227 dX8_nextToken_147 ?_
              refine x_lmul C dX8_nextToken_150 ?_
              refine x_aload_n C dX8_nextToken_151 rfl ?_
              refine x_getf (k := 40) C bk_X8 (C.lt rfl) rfl ent_40 7 fw_X8_29 rfl rfl dX8_nextToken_152 ?_
              refine x_aload_n C dX8_nextToken_155 rfl ?_
              refine x_getf (k := 40) C bk_X8 (C.lt rfl) rfl ent_40 11 fw_X8_209 rfl rfl dX8_nextToken_156 ?_
              refine x_iald (j := i) (k := 47) C (C.lt rfl) rfl ent_47 (h11) (by have := ht.2.1; omega) rfl dX8_nextToken_159 ?_
              refine x_topE (y := T i) (h6t.2.2.1 i (by have := ht.2.1; omega)) ?_
              refine x_i2l C dX8_nextToken_160 rfl ?_
              refine x_ladd C dX8_nextToken_161 ?_
              refine x_ldc2 C kw_X8_229 dX8_nextToken_162 ?_
              refine x_lsub C dX8_nextToken_165 ?_
              refine x_putL C fw_X8_215 rfl bk_X8 dX8_nextToken_166 ?_
              refine x_memI (fun M7 eM7 => ?_)
              refine x_aload_n C dX8_nextToken_169 rfl ?_
              refine x_dup C dX8_nextToken_170 rfl ?_
              refine x_getf (k := 40) C bk_X8 (C.lt rfl) rfl ent_40 11 fw_X8_209 rfl rfl dX8_nextToken_171 ?_
              refine x_iconst (v := 1) C dX8_nextToken_174 (by decide) ?_
              refine x_iadd C dX8_nextToken_175 ?_
              refine x_topE (y := nI (i + 1)) (by rw [eM7, upL_o (by decide) (by decide), h11]; exact nI_1 i) ?_
              refine x_putf (k := 40) C bk_X8 (C.lt rfl) rfl ent_40 11 fw_X8_209 rfl (fun _ => rfl) rfl rfl rfl rfl dX8_nextToken_176 ?_
              refine x_memI (fun M8 eM8 => ?_)
              refine x_goto (tgt := 98) C dX8_nextToken_179 (by decide) ?_
              refine ih hlt M8 (by omega) (fun k h1 h2 => ?_) ?_ ?_ ?_ ?_ ?_ ?_
              · rcases Nat.lt_or_ge k i with z | z
                · exact hal k h1 z
                · rw [show k = i by omega]; exact c118
              · rw [eM8, up_sn (by decide), eM7, upL_o (by decide) (by decide)]; exact h9
              · rw [eM8, up_sn (by decide), eM7, upL_o (by decide) (by decide)]; exact h10
              · rw [eM8, up_ss]
              · rw [eM8, lv_up (by decide), eM7, upL_v, show i + 1 - u0 = (i - u0) + 1 by omega]
                first | (rw [dgS_go hle]; exact h6v) | (rw [dgS_ad hle, show u0 + (i - u0) = i by omega]; exact lt_step h6v hle c118)
              · exact h6s.tr (by rw [eM8, eM7]; exact upL_same.tr (same.up (by simp)))
              · exact h6k.tr (by rw [eM8, eM7]; exact upL_kp.tr (kp40.u40 (by decide)))
            · skip
              have hle := fun z => c133 ((le_i64 h6v (b := 9999999999999) (by decide)).mpr z)
              refine x_aload_n C dX8_nextToken_136 rfl ?_
              refine x_getf (k := 40) C bk_X8 (C.lt rfl) rfl ent_40 12 fw_X8_215 rfl rfl dX8_nextToken_137 ?_
              refine x_goto (tgt := 166) C dX8_nextToken_140 (by decide) ?_
              refine x_putL C fw_X8_215 rfl bk_X8 dX8_nextToken_166 ?_
              refine x_memI (fun M7 eM7 => ?_)
              refine x_aload_n C dX8_nextToken_169 rfl ?_
              refine x_dup C dX8_nextToken_170 rfl ?_
              refine x_getf (k := 40) C bk_X8 (C.lt rfl) rfl ent_40 11 fw_X8_209 rfl rfl dX8_nextToken_171 ?_
              refine x_iconst (v := 1) C dX8_nextToken_174 (by decide) ?_
              refine x_iadd C dX8_nextToken_175 ?_
              refine x_topE (y := nI (i + 1)) (by rw [eM7, upL_o (by decide) (by decide), h11]; exact nI_1 i) ?_
              refine x_putf (k := 40) C bk_X8 (C.lt rfl) rfl ent_40 11 fw_X8_209 rfl (fun _ => rfl) rfl rfl rfl rfl dX8_nextToken_176 ?_
              refine x_memI (fun M8 eM8 => ?_)
              refine x_goto (tgt := 98) C dX8_nextToken_179 (by decide) ?_
              refine ih hlt M8 (by omega) (fun k h1 h2 => ?_) ?_ ?_ ?_ ?_ ?_ ?_
              · rcases Nat.lt_or_ge k i with z | z
                · exact hal k h1 z
                · rw [show k = i by omega]; exact c118
              · rw [eM8, up_sn (by decide), eM7, upL_o (by decide) (by decide)]; exact h9
              · rw [eM8, up_sn (by decide), eM7, upL_o (by decide) (by decide)]; exact h10
              · rw [eM8, up_ss]
              · rw [eM8, lv_up (by decide), eM7, upL_v, show i + 1 - u0 = (i - u0) + 1 by omega]
                first | (rw [dgS_go hle]; exact h6v) | (rw [dgS_ad hle, show u0 + (i - u0) = i by omega]; exact lt_step h6v hle c118)
              · exact h6s.tr (by rw [eM8, eM7]; exact upL_same.tr (same.up (by simp)))
              · exact h6k.tr (by rw [eM8, eM7]; exact upL_kp.tr (kp40.u40 (by decide)))
          · skip
            refine x_if_eqT (tgt := 337) C dX8_nextToken_121 (by decide) (by decide) ?_
            refine hret _ _ _ dX8_nextToken_337 ?_
            exact ⟨fin_1 hp hqe hqL c87 (spn_hit hqi hi hal (fun z => by first | exact absurd z (by omega) | exact c118)) h9 h10 h11 h6v, h6s, h6k⟩
      · skip
        refine x_if_eqT (tgt := 182) C dX8_nextToken_90 (by decide) (by decide) ?_
        refine x_aload_n C dX8_nextToken_182 rfl ?_
        refine x_getf (k := 40) C bk_X8 (C.lt rfl) rfl ent_40 7 fw_X8_29 rfl rfl dX8_nextToken_183 ?_
        refine x_aload_n C dX8_nextToken_186 rfl ?_
        refine x_getf (k := 40) C bk_X8 (C.lt rfl) rfl ent_40 10 fw_X8_212 rfl rfl dX8_nextToken_187 ?_
        refine x_iald (j := u0) (k := 47) C (C.lt rfl) rfl ent_47 (h4b) (by have := ht.2.1; omega) rfl dX8_nextToken_190 ?_
        refine x_topE (y := T u0) (h4t.2.2.1 u0 (by have := ht.2.1; omega)) ?_
        refine x_csB C (c_X8_isDigit l g _ _ ) o_X8_isDigit mw_X8_231 rfl rfl rfl rfl hcs dX8_nextToken_191 (fun c191 => ?_) (fun c191 => ?_)
        · skip
          refine x_if_eqF (tgt := 304) C dX8_nextToken_194 (by decide) (by decide) ?_
          refine up_to L (P := fun i => ∀ M6 : Mem, u0 ≤ i → (∀ k, u0 ≤ k → k < i → dgP (T k)) → M6 40 10 = nI u0 → M6 40 11 = nI i → (lvM M6).toInt = ((numS T u0 (i - u0) : Nat) : Int) → same [40] M M6 → kp40 M M6 → X (kmk l rm_X8_nextToken g 1 q) M6 197 [some (.ref (gad g (40)))] []) (fun i hi ih M6 hqi hal h10 h11 h6v h6s h6k => ?_) u0 hq.2 M4 (Nat.le_refl u0) (fun k h1 h2 => absurd h1 (by omega)) h4b h4e (by rw [Nat.sub_self]; exact h4v) h4s h4k
          have h6t : tpM M6 T L := ht.of (h6s 47 (by simp)) h6k
          refine x_aload_n C dX8_nextToken_197 rfl ?_
          refine x_getf (k := 40) C bk_X8 (C.lt rfl) rfl ent_40 11 fw_X8_209 rfl rfl dX8_nextToken_198 ?_
          refine x_topE (y := nI i) (h11) ?_
          refine x_aload_n C dX8_nextToken_201 rfl ?_
          refine x_getf (k := 40) C bk_X8 (C.lt rfl) rfl ent_40 8 fw_X8_205 rfl rfl dX8_nextToken_202 ?_
          refine x_topE (y := nI L) (h6t.1) ?_
          refine x_icmp_ge (tgt := 281) C dX8_nextToken_205 (by decide) (fun c205 => ?_) (fun c205 => ?_)
          · skip
            have hlt := lp_ge (N := L) (by have := ht.2.1; omega) hi c205
            refine x_aload_n C dX8_nextToken_281 rfl ?_
            refine x_aload_n C dX8_nextToken_282 rfl ?_
            refine x_getf (k := 40) C bk_X8 (C.lt rfl) rfl ent_40 12 fw_X8_215 rfl rfl dX8_nextToken_283 ?_
            refine x_ldc2 C kw_X8_234 dX8_nextToken_286 ?_
            refine x_lcmp C dX8_nextToken_289 ?_
            refine x_if_le (tgt := 297) C dX8_nextToken_290 (by decide) (fun c290 => ?_) (fun c290 => ?_)
            · skip
              refine x_iconst (v := 2) C dX8_nextToken_297 (by decide) ?_
              refine x_putf (k := 40) C bk_X8 (C.lt rfl) rfl ent_40 9 fw_X8_219 rfl (fun _ => rfl) rfl rfl rfl rfl dX8_nextToken_298 ?_
              refine x_memI (fun M9 eM9 => ?_)
              refine x_goto (tgt := 337) C dX8_nextToken_301 (by decide) ?_
              refine hret _ _ _ dX8_nextToken_337 ?_
              refine ⟨fin_2 hp hqe hqL c87 c191 (spn_hit hqi hi hal (fun z => by first | exact absurd z (by omega) | exact c217)) ?_ (by rw [eM9, up_sn (by decide)]; exact h10) (by rw [eM9, up_sn (by decide)]; exact h11) (by rw [eM9, lv_up (by decide)]; exact h6v), ?_, ?_⟩
              · rw [eM9, up_ss]
                first | rw [if_pos ((le_i64 h6v (b := 99999) (by decide)).mp c290)] | rw [if_neg (fun z => c290 ((le_i64 h6v (b := 99999) (by decide)).mpr z))]
              · exact h6s.tr (by rw [eM9]; exact same.up (by simp))
              · exact h6k.tr (by rw [eM9]; exact kp40.u40 (by decide))
            · skip
              refine x_iconst (v := 4) C dX8_nextToken_293 (by decide) ?_
              refine x_goto (tgt := 298) C dX8_nextToken_294 (by decide) ?_
              refine x_putf (k := 40) C bk_X8 (C.lt rfl) rfl ent_40 9 fw_X8_219 rfl (fun _ => rfl) rfl rfl rfl rfl dX8_nextToken_298 ?_
              refine x_memI (fun M9 eM9 => ?_)
              refine x_goto (tgt := 337) C dX8_nextToken_301 (by decide) ?_
              refine hret _ _ _ dX8_nextToken_337 ?_
              refine ⟨fin_2 hp hqe hqL c87 c191 (spn_hit hqi hi hal (fun z => by first | exact absurd z (by omega) | exact c217)) ?_ (by rw [eM9, up_sn (by decide)]; exact h10) (by rw [eM9, up_sn (by decide)]; exact h11) (by rw [eM9, lv_up (by decide)]; exact h6v), ?_, ?_⟩
              · rw [eM9, up_ss]
                first | rw [if_pos ((le_i64 h6v (b := 99999) (by decide)).mp c290)] | rw [if_neg (fun z => c290 ((le_i64 h6v (b := 99999) (by decide)).mpr z))]
              · exact h6s.tr (by rw [eM9]; exact same.up (by simp))
              · exact h6k.tr (by rw [eM9]; exact kp40.u40 (by decide))
          · skip
            have hlt := lp_lt (N := L) (by have := ht.2.1; omega) hi c205
            refine x_aload_n C dX8_nextToken_208 rfl ?_
            refine x_getf (k := 40) C bk_X8 (C.lt rfl) rfl ent_40 7 fw_X8_29 rfl rfl dX8_nextToken_209 ?_
            refine x_aload_n C dX8_nextToken_212 rfl ?_
            refine x_getf (k := 40) C bk_X8 (C.lt rfl) rfl ent_40 11 fw_X8_209 rfl rfl dX8_nextToken_213 ?_
            refine x_iald (j := i) (k := 47) C (C.lt rfl) rfl ent_47 (h11) (by have := ht.2.1; omega) rfl dX8_nextToken_216 ?_
            refine x_topE (y := T i) (h6t.2.2.1 i (by have := ht.2.1; omega)) ?_
            refine x_csB C (c_X8_isDigit l g _ _ ) o_X8_isDigit mw_X8_231 rfl rfl rfl rfl hcs dX8_nextToken_217 (fun c217 => ?_) (fun c217 => ?_)
            · skip
              refine x_if_eqF (tgt := 281) C dX8_nextToken_220 (by decide) (by decide) ?_
              refine x_aload_n C dX8_nextToken_223 rfl ?_
              refine x_aload_n C dX8_nextToken_224 rfl ?_
              refine x_getf (k := 40) C bk_X8 (C.lt rfl) rfl ent_40 12 fw_X8_215 rfl rfl dX8_nextToken_225 ?_
              refine x_ldc2 C kw_X8_234 dX8_nextToken_228 ?_
              refine x_lcmp C dX8_nextToken_231 ?_
              refine x_if_le (tgt := 242) C dX8_nextToken_232 (by decide) (fun c232 => ?_) (fun c232 => ?_)
              · skip
                have hle := (le_i64 h6v (b := 99999) (by decide)).mp c232
                refine x_aload_n C dX8_nextToken_242 rfl ?_
                refine x_getf (k := 40) C bk_X8 (C.lt rfl) rfl ent_40 12 fw_X8_215 rfl rfl dX8_nextToken_243 ?_
                refine x_ldc2 C kw_X8_236 dX8_nextToken_246 ?_
                refine x_lmul C dX8_nextToken_249 ?_
                refine x_aload_n C dX8_nextToken_250 rfl ?_
                refine x_getf (k := 40) C bk_X8 (C.lt rfl) rfl ent_40 7 fw_X8_29 rfl rfl dX8_nextToken_251 ?_
                refine x_aload_n C dX8_nextToken_254 rfl ?_
                refine x_getf (k := 40) C bk_X8 (C.lt rfl) rfl ent_40 11 fw_X8_209 rfl rfl dX8_nextToken_255 ?_
                refine x_iald (j := i) (k := 47) C (C.lt rfl) rfl ent_47 (h11) (by have := ht.2.1; omega) rfl dX8_nextToken_258 ?_
                refine x_topE (y := T i) (h6t.2.2.1 i (by have := ht.2.1; omega)) ?_
                refine x_i2l C dX8_nextToken_259 rfl ?_
                refine x_ladd C dX8_nextToken_260 ?_
                refine x_ldc2 C kw_X8_238 dX8_nextToken_261 ?_
                refine x_lsub C dX8_nextToken_264 ?_
                refine x_putL C fw_X8_215 rfl bk_X8 dX8_nextToken_265 ?_
                refine x_memI (fun M7 eM7 => ?_)
                refine x_aload_n C dX8_nextToken_268 rfl ?_
                refine x_dup C dX8_nextToken_269 rfl ?_
                refine x_getf (k := 40) C bk_X8 (C.lt rfl) rfl ent_40 11 fw_X8_209 rfl rfl dX8_nextToken_270 ?_
                refine x_iconst (v := 1) C dX8_nextToken_273 (by decide) ?_
                refine x_iadd C dX8_nextToken_274 ?_
                refine x_topE (y := nI (i + 1)) (by rw [eM7, upL_o (by decide) (by decide), h11]; exact nI_1 i) ?_
                refine x_putf (k := 40) C bk_X8 (C.lt rfl) rfl ent_40 11 fw_X8_209 rfl (fun _ => rfl) rfl rfl rfl rfl dX8_nextToken_275 ?_
                refine x_memI (fun M8 eM8 => ?_)
                refine x_goto (tgt := 197) C dX8_nextToken_278 (by decide) ?_
                refine ih hlt M8 (by omega) (fun k h1 h2 => ?_) ?_ ?_ ?_ ?_ ?_
                · rcases Nat.lt_or_ge k i with z | z
                  · exact hal k h1 z
                  · rw [show k = i by omega]; exact c217
                · rw [eM8, up_sn (by decide), eM7, upL_o (by decide) (by decide)]; exact h10
                · rw [eM8, up_ss]
                · rw [eM8, lv_up (by decide), eM7, upL_v, show i + 1 - u0 = (i - u0) + 1 by omega]
                  first | (rw [numS_go hle]; exact h6v) | (rw [numS_ad hle, show u0 + (i - u0) = i by omega]; exact dg_step h6v hle c217)
                · exact h6s.tr (by rw [eM8, eM7]; exact upL_same.tr (same.up (by simp)))
                · exact h6k.tr (by rw [eM8, eM7]; exact upL_kp.tr (kp40.u40 (by decide)))
              · skip
                have hle := fun z => c232 ((le_i64 h6v (b := 99999) (by decide)).mpr z)
                refine x_aload_n C dX8_nextToken_235 rfl ?_
                refine x_getf (k := 40) C bk_X8 (C.lt rfl) rfl ent_40 12 fw_X8_215 rfl rfl dX8_nextToken_236 ?_
                refine x_goto (tgt := 265) C dX8_nextToken_239 (by decide) ?_
                refine x_putL C fw_X8_215 rfl bk_X8 dX8_nextToken_265 ?_
                refine x_memI (fun M7 eM7 => ?_)
                refine x_aload_n C dX8_nextToken_268 rfl ?_
                refine x_dup C dX8_nextToken_269 rfl ?_
                refine x_getf (k := 40) C bk_X8 (C.lt rfl) rfl ent_40 11 fw_X8_209 rfl rfl dX8_nextToken_270 ?_
                refine x_iconst (v := 1) C dX8_nextToken_273 (by decide) ?_
                refine x_iadd C dX8_nextToken_274 ?_
                refine x_topE (y := nI (i + 1)) (by rw [eM7, upL_o (by decide) (by decide), h11]; exact nI_1 i) ?_
                refine x_putf (k := 40) C bk_X8 (C.lt rfl) rfl ent_40 11 fw_X8_209 rfl (fun _ => rfl) rfl rfl rfl rfl dX8_nextToken_275 ?_
                refine x_memI (fun M8 eM8 => ?_)
                refine x_goto (tgt := 197) C dX8_nextToken_278 (by decide) ?_
                refine ih hlt M8 (by omega) (fun k h1 h2 => ?_) ?_ ?_ ?_ ?_ ?_
                · rcases Nat.lt_or_ge k i with z | z
                  · exact hal k h1 z
                  · rw [show k = i by omega]; exact c217
                · rw [eM8, up_sn (by decide), eM7, upL_o (by decide) (by decide)]; exact h10
                · rw [eM8, up_ss]
                · rw [eM8, lv_up (by decide), eM7, upL_v, show i + 1 - u0 = (i - u0) + 1 by omega]
                  first | (rw [numS_go hle]; exact h6v) | (rw [numS_ad hle, show u0 + (i - u0) = i by omega]; exact dg_step h6v hle c217)
                · exact h6s.tr (by rw [eM8, eM7]; exact upL_same.tr (same.up (by simp)))
                · exact h6k.tr (by rw [eM8, eM7]; exact upL_kp.tr (kp40.u40 (by decide)))
            · skip
              refine x_if_eqT (tgt := 281) C dX8_nextToken_220 (by decide) (by decide) ?_
              refine x_aload_n C dX8_nextToken_281 rfl ?_
              refine x_aload_n C dX8_nextToken_282 rfl ?_
              refine x_getf (k := 40) C bk_X8 (C.lt rfl) rfl ent_40 12 fw_X8_215 rfl rfl dX8_nextToken_283 ?_
              refine x_ldc2 C kw_X8_234 dX8_nextToken_286 ?_
              refine x_lcmp C dX8_nextToken_289 ?_
              refine x_if_le (tgt := 297) C dX8_nextToken_290 (by decide) (fun c290 => ?_) (fun c290 => ?_)
              · skip
                refine x_iconst (v := 2) C dX8_nextToken_297 (by decide) ?_
                refine x_putf (k := 40) C bk_X8 (C.lt rfl) rfl ent_40 9 fw_X8_219 rfl (fun _ => rfl) rfl rfl rfl rfl dX8_nextToken_298 ?_
                refine x_memI (fun M9 eM9 => ?_)
                refine x_goto (tgt := 337) C dX8_nextToken_301 (by decide) ?_
                refine hret _ _ _ dX8_nextToken_337 ?_
                refine ⟨fin_2 hp hqe hqL c87 c191 (spn_hit hqi hi hal (fun z => by first | exact absurd z (by omega) | exact c217)) ?_ (by rw [eM9, up_sn (by decide)]; exact h10) (by rw [eM9, up_sn (by decide)]; exact h11) (by rw [eM9, lv_up (by decide)]; exact h6v), ?_, ?_⟩
                · rw [eM9, up_ss]
                  first | rw [if_pos ((le_i64 h6v (b := 99999) (by decide)).mp c290)] | rw [if_neg (fun z => c290 ((le_i64 h6v (b := 99999) (by decide)).mpr z))]
                · exact h6s.tr (by rw [eM9]; exact same.up (by simp))
                · exact h6k.tr (by rw [eM9]; exact kp40.u40 (by decide))
              · skip
                refine x_iconst (v := 4) C dX8_nextToken_293 (by decide) ?_
                refine x_goto (tgt := 298) C dX8_nextToken_294 (by decide) ?_
                refine x_putf (k := 40) C bk_X8 (C.lt rfl) rfl ent_40 9 fw_X8_219 rfl (fun _ => rfl) rfl rfl rfl rfl dX8_nextToken_298 ?_
                refine x_memI (fun M9 eM9 => ?_)
                refine x_goto (tgt := 337) C dX8_nextToken_301 (by decide) ?_
                refine hret _ _ _ dX8_nextToken_337 ?_
                refine ⟨fin_2 hp hqe hqL c87 c191 (spn_hit hqi hi hal (fun z => by first | exact absurd z (by omega) | exact c217)) ?_ (by rw [eM9, up_sn (by decide)]; exact h10) (by rw [eM9, up_sn (by decide)]; exact h11) (by rw [eM9, lv_up (by decide)]; exact h6v), ?_, ?_⟩
                · rw [eM9, up_ss]
                  first | rw [if_pos ((le_i64 h6v (b := 99999) (by decide)).mp c290)] | rw [if_neg (fun z => c290 ((le_i64 h6v (b := 99999) (by decide)).mpr z))]
                · exact h6s.tr (by rw [eM9]; exact same.up (by simp))
                · exact h6k.tr (by rw [eM9]; exact kp40.u40 (by decide))
        · skip
          refine x_if_eqT (tgt := 304) C dX8_nextToken_194 (by decide) (by decide) ?_
          refine x_aload_n C dX8_nextToken_304 rfl ?_
          refine x_aload_n C dX8_nextToken_305 rfl ?_
          refine x_getf (k := 40) C bk_X8 (C.lt rfl) rfl ent_40 7 fw_X8_29 rfl rfl dX8_nextToken_306 ?_
          refine x_aload_n C dX8_nextToken_309 rfl ?_
          refine x_getf (k := 40) C bk_X8 (C.lt rfl) rfl ent_40 10 fw_X8_212 rfl rfl dX8_nextToken_310 ?_
          refine x_iald (j := u0) (k := 47) C (C.lt rfl) rfl ent_47 (h4b) (by have := ht.2.1; omega) rfl dX8_nextToken_313 ?_
          refine x_topE (y := T u0) (h4t.2.2.1 u0 (by have := ht.2.1; omega)) ?_
          refine x_bipush (v := 59) C dX8_nextToken_314 (by decide) ?_
          refine x_icmp_ne (tgt := 323) C dX8_nextToken_316 (by decide) (fun c316 => ?_) (fun c316 => ?_)
          · skip
            refine x_iconst (v := 4) C dX8_nextToken_323 (by decide) ?_
            refine x_putf (k := 40) C bk_X8 (C.lt rfl) rfl ent_40 9 fw_X8_219 rfl (fun _ => rfl) rfl rfl rfl rfl dX8_nextToken_324 ?_
            refine x_memI (fun Ma eMa => ?_)
            refine x_aload_n C dX8_nextToken_327 rfl ?_
            refine x_dup C dX8_nextToken_328 rfl ?_
            refine x_getf (k := 40) C bk_X8 (C.lt rfl) rfl ent_40 11 fw_X8_209 rfl rfl dX8_nextToken_329 ?_
            refine x_iconst (v := 1) C dX8_nextToken_332 (by decide) ?_
            refine x_iadd C dX8_nextToken_333 ?_
            refine x_topE (y := nI (u0 + 1)) (by rw [eMa, up_sn (by decide), h4e]; exact nI_1 u0) ?_
            refine x_putf (k := 40) C bk_X8 (C.lt rfl) rfl ent_40 11 fw_X8_209 rfl (fun _ => rfl) rfl rfl rfl rfl dX8_nextToken_334 ?_
            refine x_memI (fun Mb eMb => ?_)
            refine hret _ _ _ dX8_nextToken_337 ?_
            refine ⟨fin_3 hp hqe hqL c87 c191 (by rw [eMb, up_sn (by decide), eMa, up_ss]; first | rw [if_pos c316] | rw [if_neg c316]) (by rw [eMb, up_sn (by decide), eMa, up_sn (by decide)]; exact h4b) (by rw [eMb, up_ss]) (by rw [eMb, lv_up (by decide), eMa, lv_up (by decide)]; exact h4v), ?_, ?_⟩
            · exact h4s.tr (by rw [eMb, eMa]; exact (same.up (by simp)).tr (same.up (by simp)))
            · exact h4k.tr (by rw [eMb, eMa]; exact (kp40.u40 (by decide)).tr (kp40.u40 (by decide)))
          · skip
            refine x_iconst (v := 3) C dX8_nextToken_319 (by decide) ?_
            refine x_goto (tgt := 324) C dX8_nextToken_320 (by decide) ?_
            refine x_putf (k := 40) C bk_X8 (C.lt rfl) rfl ent_40 9 fw_X8_219 rfl (fun _ => rfl) rfl rfl rfl rfl dX8_nextToken_324 ?_
            refine x_memI (fun Ma eMa => ?_)
            refine x_aload_n C dX8_nextToken_327 rfl ?_
            refine x_dup C dX8_nextToken_328 rfl ?_
            refine x_getf (k := 40) C bk_X8 (C.lt rfl) rfl ent_40 11 fw_X8_209 rfl rfl dX8_nextToken_329 ?_
            refine x_iconst (v := 1) C dX8_nextToken_332 (by decide) ?_
            refine x_iadd C dX8_nextToken_333 ?_
            refine x_topE (y := nI (u0 + 1)) (by rw [eMa, up_sn (by decide), h4e]; exact nI_1 u0) ?_
            refine x_putf (k := 40) C bk_X8 (C.lt rfl) rfl ent_40 11 fw_X8_209 rfl (fun _ => rfl) rfl rfl rfl rfl dX8_nextToken_334 ?_
            refine x_memI (fun Mb eMb => ?_)
            refine hret _ _ _ dX8_nextToken_337 ?_
            refine ⟨fin_3 hp hqe hqL c87 c191 (by rw [eMb, up_sn (by decide), eMa, up_ss]; first | rw [if_pos c316] | rw [if_neg c316]) (by rw [eMb, up_sn (by decide), eMa, up_sn (by decide)]; exact h4b) (by rw [eMb, up_ss]) (by rw [eMb, lv_up (by decide), eMa, lv_up (by decide)]; exact h4v), ?_, ?_⟩
            · exact h4s.tr (by rw [eMb, eMa]; exact (same.up (by simp)).tr (same.up (by simp)))
            · exact h4k.tr (by rw [eMb, eMa]; exact (kp40.u40 (by decide)).tr (kp40.u40 (by decide)))
    · skip
      have hqL : u0 = L := (nI_eq (by have := ht.2.1; omega) (by have := ht.2.1; omega)).mp c67
      refine x_aload_n C dX8_nextToken_70 rfl ?_
      refine x_iconst (v := 0) C dX8_nextToken_71 (by decide) ?_
      refine x_putf (k := 40) C bk_X8 (C.lt rfl) rfl ent_40 9 fw_X8_219 rfl (fun _ => rfl) rfl rfl rfl rfl dX8_nextToken_72 ?_
      refine x_memI (fun M5 eM5 => ?_)
      refine x_goto (tgt := 337) C dX8_nextToken_75 (by decide) ?_
      refine hret _ _ _ dX8_nextToken_337 ?_
      refine ⟨fin_0 hp hqe hqL (by rw [eM5]; exact up_ss) (by rw [eM5, up_sn (by decide)]; exact h4b) (by rw [eM5, up_sn (by decide)]; exact h4e) (by rw [eM5, lv_up (by decide)]; exact h4v), ?_, ?_⟩
      · exact h4s.tr (by rw [eM5]; exact same.up (by simp))
      · exact h4k.tr (by rw [eM5]; exact kp40.u40 (by decide))
  refine x_aload_n C dX8_nextToken_0 rfl ?_
  refine x_aload_n C dX8_nextToken_1 rfl ?_
  refine x_getf (k := 40) C bk_X8 (C.lt rfl) rfl ent_40 11 fw_X8_209 rfl rfl dX8_nextToken_2 ?_
  refine x_putf (k := 40) C bk_X8 (C.lt rfl) rfl ent_40 10 fw_X8_212 rfl (fun _ => rfl) rfl rfl rfl rfl dX8_nextToken_5 ?_
  refine x_memI (fun M1 eM1 => ?_)
  refine up_to L (P := fun i => ∀ M7 : Mem, p ≤ i → (∀ k, p ≤ k → k < i → blP (T k)) → M7 40 10 = nI i → same [40] M M7 → kp40 M M7 → X (kmk l rm_X8_nextToken g 1 q) M7 8 [some (.ref (gad g (40)))] []) (fun i hi ih M7 hpi hbl h1b h1s h1k => ?_) p hp M1 (Nat.le_refl p) (fun k h1 h2 => absurd h1 (by omega)) (by rw [eM1, up_ss]; exact he) (by rw [eM1]; exact same.up (by simp)) (by rw [eM1]; exact kp40.u40 (by decide))
  have h1t : tpM M7 T L := ht.of (h1s 47 (by simp)) h1k
  refine x_aload_n C dX8_nextToken_8 rfl ?_
  refine x_getf (k := 40) C bk_X8 (C.lt rfl) rfl ent_40 10 fw_X8_212 rfl rfl dX8_nextToken_9 ?_
  refine x_topE (y := nI i) (h1b) ?_
  refine x_aload_n C dX8_nextToken_12 rfl ?_
  refine x_getf (k := 40) C bk_X8 (C.lt rfl) rfl ent_40 8 fw_X8_205 rfl rfl dX8_nextToken_13 ?_
  refine x_topE (y := nI L) (h1t.1) ?_
  refine x_icmp_ge (tgt := 46) C dX8_nextToken_16 (by decide) (fun c16 => ?_) (fun c16 => ?_)
  · skip
    have hlt := lp_ge (N := L) (by have := ht.2.1; omega) hi c16
    exact key M7 (by rw [h1b]; exact congrArg nI (spn_hit hpi hi hbl (fun z => by first | exact absurd z (by omega) | exact c30)).symm) h1s h1k
  · skip
    have hlt := lp_lt (N := L) (by have := ht.2.1; omega) hi c16
    refine x_aload_n C dX8_nextToken_19 rfl ?_
    refine x_getf (k := 40) C bk_X8 (C.lt rfl) rfl ent_40 7 fw_X8_29 rfl rfl dX8_nextToken_20 ?_
    refine x_aload_n C dX8_nextToken_23 rfl ?_
    refine x_getf (k := 40) C bk_X8 (C.lt rfl) rfl ent_40 10 fw_X8_212 rfl rfl dX8_nextToken_24 ?_
    refine x_iald (j := i) (k := 47) C (C.lt rfl) rfl ent_47 (h1b) (by have := ht.2.1; omega) rfl dX8_nextToken_27 ?_
    refine x_topE (y := T i) (h1t.2.2.1 i (by have := ht.2.1; omega)) ?_
    refine x_bipush (v := 32) C dX8_nextToken_28 (by decide) ?_
    refine x_icmp_ne (tgt := 46) C dX8_nextToken_30 (by decide) (fun c30 => ?_) (fun c30 => ?_)
    · skip
      exact key M7 (by rw [h1b]; exact congrArg nI (spn_hit hpi hi hbl (fun z => by first | exact absurd z (by omega) | exact c30)).symm) h1s h1k
    · skip
      refine x_aload_n C dX8_nextToken_33 rfl ?_
      refine x_dup C dX8_nextToken_34 rfl ?_
      refine x_getf (k := 40) C bk_X8 (C.lt rfl) rfl ent_40 10 fw_X8_212 rfl rfl dX8_nextToken_35 ?_
      refine x_iconst (v := 1) C dX8_nextToken_38 (by decide) ?_
      refine x_iadd C dX8_nextToken_39 ?_
      refine x_topE (y := nI (i + 1)) (by rw [h1b]; exact nI_1 i) ?_
      refine x_putf (k := 40) C bk_X8 (C.lt rfl) rfl ent_40 10 fw_X8_212 rfl (fun _ => rfl) rfl rfl rfl rfl dX8_nextToken_40 ?_
      refine x_memI (fun Mc eMc => ?_)
      refine x_goto (tgt := 8) C dX8_nextToken_43 (by decide) ?_
      refine ih hlt Mc (by omega) (fun k h1 h2 => ?_) (by rw [eMc]; exact up_ss) (h1s.tr (by rw [eMc]; exact same.up (by simp))) (h1k.tr (by rw [eMc]; exact kp40.u40 (by decide)))
      rcases Nat.lt_or_ge k i with z | z
      · exact hbl k h1 z
      · rw [show k = i by omega]; exact c30

