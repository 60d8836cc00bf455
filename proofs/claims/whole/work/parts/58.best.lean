/-! ===== contracts: the model's best works ===== -/
def rm_X8_lowest : Room := { frames := 1, cells := 0, slots := 0, locals := 21 }
set_option maxRecDepth 100000 in
set_option maxHeartbeats 4000000 in
theorem c_X8_lowest (l : Launch) (g : Gp) (M : Mem) {x : Int32} {s : Nat} (hx : x = nI s) (h0 : 0 < s) (hs : s < 64) : Kp l g yX8_lowest cX8_lowest 2 .int rm_X8_lowest [.int (x)] M (fun r => ∃ w, w < 6 ∧ r = nI w ∧ s.testBit w = true ∧ ∀ j, j < w → s.testBit j = false) := by
  unfold Kp
  refine Ki.of rfl rfl rfl (fun q C hret hcs => ?_)
  refine x_iconst (v := 0) C dX8_lowest_0 (by decide) ?_
  refine x_istore_n C dX8_lowest_1 rfl ?_
  refine up_to 6 (P := fun i => (∀ j, j < i → s.testBit j = false) → X (kmk l rm_X8_lowest g 2 q) M 2 [some (.int (x)), some (.int (nI i))] []) (fun i hi ih hst => ?_) 0 (by omega) (fun j hj => absurd hj (by omega))
  refine x_iload_n C dX8_lowest_2 rfl ?_
  refine x_iload_n C dX8_lowest_3 rfl ?_
  refine x_csB C (c_X8_isIn l g _ (s := s) (k := i) hx (by omega) rfl (by omega) ) o_X8_isIn mw_X8_88 rfl rfl rfl rfl hcs dX8_lowest_4 (fun c4 => ?_) (fun c4 => ?_)
  · skip
    refine x_if_neT (tgt := 16) C dX8_lowest_7 (by decide) (by decide) ?_
    refine x_iload_n C dX8_lowest_16 rfl ?_
    refine hret _ _ _ _ dX8_lowest_17 rfl ⟨?_, rfl⟩
    exact ⟨i, by rcases Nat.lt_or_ge i 6 with z | z; exact z; exact absurd c4 (by rw [bit_hi hs z]; decide), rfl, c4, hst⟩
  · skip
    have cb : s.testBit i = false := by cases q : s.testBit i; rfl; exact absurd q c4
    have hlt : i < 6 := by rcases Nat.lt_or_ge i 6 with z | z; exact z; exact absurd (bits_0 hs (fun j hj => hst j (by omega))) (by omega)
    refine x_if_neF (tgt := 16) C dX8_lowest_7 (by decide) (by decide) ?_
    refine x_iinc (v := nI (i + 1)) C dX8_lowest_10 rfl (nI_1 i) rfl ?_
    refine x_goto (tgt := 2) C dX8_lowest_13 (by decide) ?_
    exact ih hlt (fun j hj => by rcases Nat.lt_or_ge j i with z | z; exact hst j z; rw [show j = i by omega]; exact cb)

def rm_X8_worthOf : Room := { frames := 1, cells := 0, slots := 0, locals := 22 }
set_option maxRecDepth 100000 in
set_option maxHeartbeats 4000000 in
theorem c_X8_worthOf (l : Launch) (g : Gp) (M : Mem) {x : Int32} {V : Nat} (hx : x = nI V) (hV : V < 64) : Kp l g yX8_worthOf cX8_worthOf 4 .int rm_X8_worthOf [.ref (gad g (40)), .int (x)] M (fun r => r = worN (vm M) V 6) := by
  unfold Kp
  refine Ki.of rfl rfl rfl (fun q C hret hcs => ?_)
  refine x_iconst (v := 0) C dX8_worthOf_0 (by decide) ?_
  refine x_istore_n C dX8_worthOf_1 rfl ?_
  refine x_iconst (v := 0) C dX8_worthOf_2 (by decide) ?_
  refine x_istore_n C dX8_worthOf_3 rfl ?_
  refine up_to 6 (P := fun i => X (kmk l rm_X8_worthOf g 4 q) M 4 [some (.ref (gad g (40))), some (.int (x)), some (.int (worN (vm M) V i)), some (.int (nI i))] []) (fun i hi ih => ?_) 0 (by omega)
  refine x_iload_n C dX8_worthOf_4 rfl ?_
  refine x_bipush (v := 6) C dX8_worthOf_5 (by decide) ?_
  refine x_icmp_ge (tgt := 37) C dX8_worthOf_7 (by decide) (fun c7 => ?_) (fun c7 => ?_)
  · skip
    have hlt := lp_ge (N := 6) (by decide) hi c7
    refine x_iload_n C dX8_worthOf_37 rfl ?_
    refine hret _ _ _ _ dX8_worthOf_38 rfl ⟨?_, rfl⟩
    subst hlt; rfl
  · skip
    have hlt := lp_lt (N := 6) (by decide) hi c7
    refine x_iload_n C dX8_worthOf_10 rfl ?_
    refine x_iload_n C dX8_worthOf_11 rfl ?_
    refine x_iload_n C dX8_worthOf_12 rfl ?_
    refine x_csB C (c_X8_isIn l g _ (s := V) (k := i) hx (by omega) rfl (by omega) ) o_X8_isIn mw_X8_88 rfl rfl rfl rfl hcs dX8_worthOf_13 (fun c13 => ?_) (fun c13 => ?_)
    · skip
      refine x_if_eqF (tgt := 28) C dX8_worthOf_16 (by decide) (by decide) ?_
      refine x_aload_n C dX8_worthOf_19 rfl ?_
      refine x_iload_n C dX8_worthOf_20 rfl ?_
      refine x_iconst (v := 2) C dX8_worthOf_21 (by decide) ?_
      refine x_cvE C (k := 40) (c_X8_works l g _ (e := i) (f := 2) rfl hlt rfl (by decide) ) o_X8_works mw_X8_131 rfl (C.lt rfl) rcv_40 rfl rfl rfl hcs dX8_worthOf_22 ?_
      refine x_goto (tgt := 29) C dX8_worthOf_25 (by decide) ?_
      refine x_iadd C dX8_worthOf_29 ?_
      refine x_topE (y := worN (vm M) V (i + 1)) (by show _ = worN (vm M) V i + _; first | rw [if_pos c13] | rw [if_neg c13]) ?_
      refine x_istore_n C dX8_worthOf_30 rfl ?_
      refine x_iinc (v := nI (i + 1)) C dX8_worthOf_31 rfl (nI_1 i) rfl ?_
      refine x_goto (tgt := 4) C dX8_worthOf_34 (by decide) ?_
      exact ih hlt
    · skip
      refine x_if_eqT (tgt := 28) C dX8_worthOf_16 (by decide) (by decide) ?_
      refine x_iconst (v := 0) C dX8_worthOf_28 (by decide) ?_
      refine x_iadd C dX8_worthOf_29 ?_
      refine x_topE (y := worN (vm M) V (i + 1)) (by show _ = worN (vm M) V i + _; first | rw [if_pos c13] | rw [if_neg c13]) ?_
      refine x_istore_n C dX8_worthOf_30 rfl ?_
      refine x_iinc (v := nI (i + 1)) C dX8_worthOf_31 rfl (nI_1 i) rfl ?_
      refine x_goto (tgt := 4) C dX8_worthOf_34 (by decide) ?_
      exact ih hlt

def rm_X8_dealt : Room := { frames := 2, cells := 0, slots := 0, locals := 43 }
set_option maxRecDepth 100000 in
set_option maxHeartbeats 4000000 in
theorem c_X8_dealt (l : Launch) (g : Gp) (M : Mem) (o : okRow (vm M)) {x y : Int32} {V E : Nat} (hx : x = nI V) (h0 : 0 < V) (hV : V < 64) (hy : y = nI E) (hE : E < 256) (he : ofEg (vm M) E) (hS : ∀ p, p < 256 → ofEg (vm M) p → M 46 p = sumN (vm M) p 8) (hcan : (∀ V' E', V' < V → E' < 256 → ofEg (vm M) E' → (M 45 (256 * V' + E') = 1 ∧ feaP (vm M) V' E') ∨ (M 45 (256 * V' + E') = 0 ∧ ¬ feaP (vm M) V' E'))) : Kp l g yX8_dealt cX8_dealt 7 .boolean rm_X8_dealt [.ref (gad g (40)), .int (x), .int (y)] M (bv (feaP (vm M) V E)) := by
  unfold Kp
  refine Ki.of rfl rfl rfl (fun q C hret hcs => ?_)
  have hR : (V &&& (V - 1)) < V := Nat.lt_of_le_of_lt Nat.and_le_right (by omega)
  refine x_iload_n C dX8_dealt_0 rfl ?_
  refine x_csP C (c_X8_lowest l g _ (s := V) hx h0 hV ) o_X8_lowest mw_X8_164 rfl rfl rfl rfl hcs dX8_dealt_1 (fun rl hrl => ?_)
  obtain ⟨w, hw, ew, hb, hlow⟩ := hrl
  have hless := low_rest hV hw hb hlow
  refine x_topE (y := nI w) (ew) ?_
  refine x_istore_n C dX8_dealt_4 rfl ?_
  refine x_iload_n C dX8_dealt_5 rfl ?_
  refine x_iload_n C dX8_dealt_6 rfl ?_
  refine x_iconst (v := 1) C dX8_dealt_7 (by decide) ?_
  refine x_isub C dX8_dealt_8 ?_
  refine x_iand C dX8_dealt_9 ?_
  refine x_topE (y := nI (V &&& (V - 1))) (by rw [hx, nI_pr h0, fa_and]) ?_
  refine x_istore C dX8_dealt_10 rfl ?_
  refine x_aload_n C dX8_dealt_12 rfl ?_
  refine x_iload_n C dX8_dealt_13 rfl ?_
  refine x_cvB C (k := 40) (c_X8_isDone l g _ (w := w) rfl hw ) o_X8_isDone mw_X8_134 rfl (C.lt rfl) rcv_40 rfl rfl rfl hcs dX8_dealt_14 (fun c14 => ?_) (fun c14 => ?_)
  · skip
    refine x_if_eqF (tgt := 34) C dX8_dealt_17 (by decide) (by decide) ?_
    refine x_aload_n C dX8_dealt_20 rfl ?_
    refine x_getf (k := 40) C bk_X8 (C.lt rfl) rfl ent_40 5 fw_X8_22 rfl rfl dX8_dealt_21 ?_
    refine x_sipush (v := 256) C dX8_dealt_24 (by decide) ?_
    refine x_iload C dX8_dealt_27 rfl ?_
    refine x_imul C dX8_dealt_29 ?_
    refine x_iload_n C dX8_dealt_30 rfl ?_
    refine x_iadd C dX8_dealt_31 ?_
    refine x_zald (j := 256 * (V &&& (V - 1)) + E) (k := 45) C (C.lt rfl) rfl ent_45 (by rw [hy, show (256 : Int32) = nI 256 from rfl, pk_mul, nI_add]) (by omega) rfl dX8_dealt_32 ?_
    refine hret _ _ _ _ dX8_dealt_33 (by rcases hcan (V &&& (V - 1)) E hR hE he with z | z <;> rw [z.1] <;> rfl) ⟨?_, rfl⟩
    rcases hcan (V &&& (V - 1)) E hR hE he with z | z
    · exact Or.inl ⟨z.1, (fea_done hless c14).mpr z.2⟩
    · exact Or.inr ⟨z.1, fun f => z.2 ((fea_done hless c14).mp f)⟩
  · skip
    refine x_if_eqT (tgt := 34) C dX8_dealt_17 (by decide) (by decide) ?_
    refine x_iconst (v := 0) C dX8_dealt_34 (by decide) ?_
    refine x_istore C dX8_dealt_35 rfl ?_
    refine x_iload_n C dX8_dealt_37 rfl ?_
    refine x_istore C dX8_dealt_38 rfl ?_
    refine X.le (ls' := [some (.ref (gad g (40))), some (.int (x)), some (.int (y)), some (.int (nI w)), some (.int (nI (V &&& (V - 1)))), some (.int (0)), some (.int (y))]) (lle_s rfl (lle_s rfl (lle_s rfl (lle_s rfl (lle_s rfl (lle_s rfl (lle_s rfl lle_e))))))) ?_
    have hyE := hy
    have keyL := dn_to (P := fun p => ∀ b : Int32, ((b = 1 ∧ feaP (vm M) V E) ∨ (b = 0 ∧ ∀ q, sbt q E → p < q → ¬ (okpP (vm M) w (q) ∧ feaP (vm M) (V &&& (V - 1)) (lft E (q))))) → sbt p E → X (kmk l rm_X8_dealt g 7 q) M 40 [some (.ref (gad g (40))), some (.int (x)), some (.int (y)), some (.int (nI w)), some (.int (nI (V &&& (V - 1)))), some (.int (b)), some (.int (nI p))] []) (fun p ih b hb2 hp => ?_)
    · have := keyL E 0 (Or.inr ⟨rfl, fun q hq h => absurd (sbt_le hq) (by omega)⟩) (fun i h => h)
      rw [← hy] at this
      exact this
    refine x_iload C dX8_dealt_40 rfl ?_
    refine x_if_eq (tgt := 120) C dX8_dealt_42 (by decide) (fun c42 => ?_) (fun c42 => ?_)
    · skip
      have hp0 : p = 0 := (nI_eq (a := p) (b := 0) (by have := sbt_le hp; omega) (by decide)).mp c42
      refine x_iload C dX8_dealt_120 rfl ?_
      refine hret _ _ _ _ dX8_dealt_122 (by rcases hb2 with hb2 | hb2 <;> rw [hb2.1] <;> rfl) ⟨?_, rfl⟩
      rcases hb2 with hb2 | hb2
      · exact Or.inl hb2
      · refine Or.inr ⟨hb2.1, fun f => ?_⟩
        obtain ⟨q, hq, ho, hf⟩ := (fea_part hless hb c14).mp f
        first
          | exact absurd hb2.1 c47
          | exact absurd c52 ho.1
          | (subst hp0; rcases Nat.eq_zero_or_pos q with z | z; exact okp_0 c14 (z ▸ ho); exact hb2.2 q hq z ⟨ho, hf _ (lft_less E q)⟩)
    · skip
      have hp0 : 0 < p := by rcases Nat.eq_zero_or_pos p with z | z; exact absurd (by rw [z]; rfl) c42; exact z
      have hp256 : p < 256 := by have := sbt_le hp; omega
      have hep : ofEg (vm M) p := fun k hk h => he k hk (hp k h)
      refine x_iload C dX8_dealt_45 rfl ?_
      refine x_if_ne (tgt := 120) C dX8_dealt_47 (by decide) (fun c47 => ?_) (fun c47 => ?_)
      · skip
        refine x_iload C dX8_dealt_120 rfl ?_
        refine hret _ _ _ _ dX8_dealt_122 (by rcases hb2 with hb2 | hb2 <;> rw [hb2.1] <;> rfl) ⟨?_, rfl⟩
        rcases hb2 with hb2 | hb2
        · exact Or.inl hb2
        · refine Or.inr ⟨hb2.1, fun f => ?_⟩
          obtain ⟨q, hq, ho, hf⟩ := (fea_part hless hb c14).mp f
          first
            | exact absurd hb2.1 c47
            | exact absurd c52 ho.1
            | (subst hp0; rcases Nat.eq_zero_or_pos q with z | z; exact okp_0 c14 (z ▸ ho); exact hb2.2 q hq z ⟨ho, hf _ (lft_less E q)⟩)
      · skip
        refine x_aload_n C dX8_dealt_50 rfl ?_
        refine x_iload_n C dX8_dealt_51 rfl ?_
        refine x_cvB C (k := 40) (c_X8_isOver l g _ (w := w) rfl hw ) o_X8_isOver mw_X8_137 rfl (C.lt rfl) rcv_40 rfl rfl rfl hcs dX8_dealt_52 (fun c52 => ?_) (fun c52 => ?_)
        · skip
          refine x_if_neT (tgt := 120) C dX8_dealt_55 (by decide) (by decide) ?_
          refine x_iload C dX8_dealt_120 rfl ?_
          refine hret _ _ _ _ dX8_dealt_122 (by rcases hb2 with hb2 | hb2 <;> rw [hb2.1] <;> rfl) ⟨?_, rfl⟩
          rcases hb2 with hb2 | hb2
          · exact Or.inl hb2
          · refine Or.inr ⟨hb2.1, fun f => ?_⟩
            obtain ⟨q, hq, ho, hf⟩ := (fea_part hless hb c14).mp f
            first
              | exact absurd hb2.1 c47
              | exact absurd c52 ho.1
              | (subst hp0; rcases Nat.eq_zero_or_pos q with z | z; exact okp_0 c14 (z ▸ ho); exact hb2.2 q hq z ⟨ho, hf _ (lft_less E q)⟩)
        · skip
          refine x_if_neF (tgt := 120) C dX8_dealt_55 (by decide) (by decide) ?_
          refine x_aload_n C dX8_dealt_58 rfl ?_
          refine x_iload_n C dX8_dealt_59 rfl ?_
          refine x_iconst (v := 3) C dX8_dealt_60 (by decide) ?_
          refine x_cvE C (k := 40) (c_X8_works l g _ (e := w) (f := 3) rfl hw rfl (by decide) ) o_X8_works mw_X8_131 rfl (C.lt rfl) rcv_40 rfl rfl rfl hcs dX8_dealt_61 ?_
          refine x_aload_n C dX8_dealt_64 rfl ?_
          refine x_getf (k := 40) C bk_X8 (C.lt rfl) rfl ent_40 6 fw_X8_26 rfl rfl dX8_dealt_65 ?_
          refine x_iload C dX8_dealt_68 rfl ?_
          refine x_iald (j := p) (k := 46) C (C.lt rfl) rfl ent_46 (rfl) (hp256) rfl dX8_dealt_70 ?_
          refine x_topE (y := sumN (vm M) p 8) (hS p hp256 hep) ?_
          refine x_iadd C dX8_dealt_71 ?_
          refine x_aload_n C dX8_dealt_72 rfl ?_
          refine x_iload_n C dX8_dealt_73 rfl ?_
          refine x_iconst (v := 0) C dX8_dealt_74 (by decide) ?_
          refine x_cvE C (k := 40) (c_X8_works l g _ (e := w) (f := 0) rfl hw rfl (by decide) ) o_X8_works mw_X8_131 rfl (C.lt rfl) rcv_40 rfl rfl rfl hcs dX8_dealt_75 ?_
          refine x_icmp_lt (tgt := 106) C dX8_dealt_78 (by decide) (fun c78 => ?_) (fun c78 => ?_)
          · skip
            refine x_iconst (v := 0) C dX8_dealt_106 (by decide) ?_
            refine x_istore C dX8_dealt_107 rfl ?_
            refine x_iload C dX8_dealt_109 rfl ?_
            refine x_iconst (v := 1) C dX8_dealt_111 (by decide) ?_
            refine x_isub C dX8_dealt_112 ?_
            refine x_iload_n C dX8_dealt_113 rfl ?_
            refine x_iand C dX8_dealt_114 ?_
            refine x_topE (y := nI ((p - 1) &&& E)) (by rw [hy, nI_pr hp0, fa_and]) ?_
            refine x_istore C dX8_dealt_115 rfl ?_
            refine x_goto (tgt := 40) C dX8_dealt_117 (by decide) ?_
            have e0 : 0 < p := hp0
            refine ih _ (prev_lt hp0) 0 (Or.inr ⟨rfl, fun q hq hlt => ?_⟩) sub_prev
            rcases hb2 with hb2 | hb2
            · exact absurd c47 (by rw [hb2.1]; decide)
            · rcases Nat.lt_trichotomy q p with z | z | z
              · exact absurd (sub_next hE hp hq z) (by omega)
              · subst z; intro g0; first | exact absurd g0.1.2 (Int32.not_le.mpr c78) | (rcases hcp with z | z; exact absurd (z.1 ▸ c99) (by decide); exact z.2 g0.2)
              · exact hb2.2 q hq z
          · skip
            refine x_aload_n C dX8_dealt_81 rfl ?_
            refine x_getf (k := 40) C bk_X8 (C.lt rfl) rfl ent_40 5 fw_X8_22 rfl rfl dX8_dealt_82 ?_
            refine x_sipush (v := 256) C dX8_dealt_85 (by decide) ?_
            refine x_iload C dX8_dealt_88 rfl ?_
            refine x_imul C dX8_dealt_90 ?_
            refine x_iload_n C dX8_dealt_91 rfl ?_
            refine x_iload C dX8_dealt_92 rfl ?_
            refine x_iconst (v := -1) C dX8_dealt_94 (by decide) ?_
            refine x_ixor C dX8_dealt_95 ?_
            refine x_iand C dX8_dealt_96 ?_
            refine x_topE (y := nI (lft E p)) (by rw [hy]; exact and_lft (by omega)) ?_
            refine x_iadd C dX8_dealt_97 ?_
            refine x_zald (j := 256 * (V &&& (V - 1)) + lft E p) (k := 45) C (C.lt rfl) rfl ent_45 (by rw [show (256 : Int32) = nI 256 from rfl, pk_mul, nI_add]) (by have := sbt_le (lft_sub E p); omega) rfl dX8_dealt_98 ?_
            refine x_if_eq (tgt := 106) C dX8_dealt_99 (by decide) (fun c99 => ?_) (fun c99 => ?_)
            · skip
              have hcp := hcan (V &&& (V - 1)) (lft E p) hR (by have := sbt_le (lft_sub E p); omega) (fun k hk h => he k hk (lft_sub E p k h))
              refine x_iconst (v := 0) C dX8_dealt_106 (by decide) ?_
              refine x_istore C dX8_dealt_107 rfl ?_
              refine x_iload C dX8_dealt_109 rfl ?_
              refine x_iconst (v := 1) C dX8_dealt_111 (by decide) ?_
              refine x_isub C dX8_dealt_112 ?_
              refine x_iload_n C dX8_dealt_113 rfl ?_
              refine x_iand C dX8_dealt_114 ?_
              refine x_topE (y := nI ((p - 1) &&& E)) (by rw [hy, nI_pr hp0, fa_and]) ?_
              refine x_istore C dX8_dealt_115 rfl ?_
              refine x_goto (tgt := 40) C dX8_dealt_117 (by decide) ?_
              have e0 : 0 < p := hp0
              refine ih _ (prev_lt hp0) 0 (Or.inr ⟨rfl, fun q hq hlt => ?_⟩) sub_prev
              rcases hb2 with hb2 | hb2
              · exact absurd c47 (by rw [hb2.1]; decide)
              · rcases Nat.lt_trichotomy q p with z | z | z
                · exact absurd (sub_next hE hp hq z) (by omega)
                · subst z; intro g0; first | exact absurd g0.1.2 (Int32.not_le.mpr c78) | (rcases hcp with z | z; exact absurd (z.1 ▸ c99) (by decide); exact z.2 g0.2)
                · exact hb2.2 q hq z
            · skip
              have hcp := hcan (V &&& (V - 1)) (lft E p) hR (by have := sbt_le (lft_sub E p); omega) (fun k hk h => he k hk (lft_sub E p k h))
              refine x_iconst (v := 1) C dX8_dealt_102 (by decide) ?_
              refine x_goto (tgt := 107) C dX8_dealt_103 (by decide) ?_
              refine x_istore C dX8_dealt_107 rfl ?_
              refine x_iload C dX8_dealt_109 rfl ?_
              refine x_iconst (v := 1) C dX8_dealt_111 (by decide) ?_
              refine x_isub C dX8_dealt_112 ?_
              refine x_iload_n C dX8_dealt_113 rfl ?_
              refine x_iand C dX8_dealt_114 ?_
              refine x_topE (y := nI ((p - 1) &&& E)) (by rw [hy, nI_pr hp0, fa_and]) ?_
              refine x_istore C dX8_dealt_115 rfl ?_
              refine x_goto (tgt := 40) C dX8_dealt_117 (by decide) ?_
              have e0 : 0 < p := hp0
              refine ih _ (prev_lt hp0) 1 (Or.inl ⟨rfl, ?_⟩) sub_prev
              refine (fea_part hless hb c14).mpr ⟨p, hp, ⟨c52, by grind⟩, fun E2 hE2 => ?_⟩
              rw [lessE_eq hE2]
              rcases hcp with z | z
              · exact z.2
              · exact absurd z.1 c99

