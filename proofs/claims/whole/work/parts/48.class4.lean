/-! ===== contracts: the class's own calls, fourth part ===== -/
theorem upd_z {f : Row} {k i : Nat} {v : Int32} (h : ¬ i = k) : upd f k v i = f i := pk_un h
theorem sh_new {M M1 : Mem} {s : Nat} {b n : Int32} (hs : s < 4) (h : M1 (29 + 2 * s) 1 = b ∧ M1 (29 + 2 * s) 2 = (if b = 0 then 0 else n) ∧ (∀ i, i < 40 → M1 (29 + 2 * s + 1) i = 0) ∧ same [29 + 2 * s, 29 + 2 * s + 1] M M1) :
    shC M1 = (upd (aW (aC M)) s b, upd (aN (aC M)) s (if b = 0 then 0 else n), fun t => if t = s then fun _ => 0 else aX (aC M) t) ∧ same SHE M M1 := by
  obtain ⟨h1, h2, h3, h4⟩ := h
  have hq : ∀ t, ¬ t = s → M1 (29 + 2 * t) = M (29 + 2 * t) ∧ M1 (29 + 2 * t + 1) = M (29 + 2 * t + 1) := fun t ht => ⟨h4 _ (by simp; omega), h4 _ (by simp; omega)⟩
  refine ⟨shC_of (fun t ht => ?_) (fun t ht => ?_) (fun t i ht hi => ?_) (fun t ht => ⟨?_, ?_⟩) (fun t i ht => ?_), h4.mono (fun k hk => ?_)⟩
  · by_cases q : t = s
    · subst q; rw [h1, pk_us]
    · rw [pk_un q, aW_C ht, (hq t q).1]
  · by_cases q : t = s
    · subst q; rw [h2, pk_us]
    · rw [pk_un q, aN_C ht, (hq t q).1]
  · by_cases q : t = s
    · subst q; rw [h3 i hi, if_pos rfl]
    · rw [if_neg q, aX_C ht hi, (hq t q).2]
  · rw [pk_un (by omega)]; exact aW_z ht
  · rw [pk_un (by omega)]; exact aN_z ht
  · by_cases q : t = s
    · rw [if_pos q]
    · rw [if_neg q]; exact aX_z ht
  · simp at hk
    rcases hk with rfl | rfl
    · exact (she_in hs).1
    · exact (she_in hs).2
theorem sh_num {M M1 : Mem} {t : Nat} {X : Nat → Row} (ht : t < 4) (hX : ∀ u, ¬ u = t → X u = aX (aC M) u) (h1 : ∀ i, i < 40 → M1 (29 + 2 * t + 1) i = X t i) (hz : ∀ i, ¬ i < 40 → X t i = 0) (hs : same [29 + 2 * t + 1] M M1) :
    shC M1 = (aW (aC M), aN (aC M), X) ∧ same SHE M M1 := by
  refine ⟨shC_of (fun u hu => ?_) (fun u hu => ?_) (fun u i hu hi => ?_) (fun u hu => ⟨aW_z hu, aN_z hu⟩) (fun u i hu => ?_), hs.mono (fun k hk => ?_)⟩
  · rw [aW_C hu, hs _ (by simp; omega)]
  · rw [aN_C hu, hs _ (by simp; omega)]
  · by_cases q : u = t
    · subst q; exact h1 i hi
    · rw [hX u q, aX_C hu hi, hs _ (by simp; omega)]
  · by_cases q : u = t
    · subst q; exact hz i (hu.resolve_left (fun z => z ht))
    · rw [hX u q]; exact aX_z hu
  · simp at hk; subst hk; exact (she_in ht).2
def rm_X7_sheet : Room := { frames := 2, cells := 0, slots := 0, locals := 44 }
set_option maxRecDepth 100000 in
set_option maxHeartbeats 4000000 in
theorem c_X7_sheet (l : Launch) (g : Gp) (M : Mem) (oa : okA (aC M))  (x b n : Int32) : Ki l g yX7_sheet cX7_sheet 5 .int rm_X7_sheet [.ref (gad g (0)), .int (x), .int (b), .int (n)] M (fun r M' => (r, aC M') = F_sheet x b n (aC M) ∧ sameC M M') := by
  refine Ki.of rfl rfl rfl (fun q C hret hcs => ?_)
  have o : okRow (vw M 1) := oa.1
  refine x_aload_n C dX7_sheet_0 rfl ?_
  refine x_iload_n C dX7_sheet_1 rfl ?_
  refine x_cvq C (k := 0) (c_X7_sheetAt l g _ _ ) o_X7_sheetAt mw_X7_204 rfl (C.lt rfl) rcv_0 rfl rfl rfl hcs dX7_sheet_2 (fun r2 M1 hr2 => ?_)
  obtain ⟨rfl, hr2⟩ := hr2
  rcases hr2 with ⟨cr2, rfl⟩ | ⟨s, hs, es, cr2, rfl⟩
  · skip
    refine x_astoreN C dX7_sheet_5 rfl ?_
    refine x_aloadN C dX7_sheet_7 rfl ?_
    refine x_ifnullN (tgt := 23) C dX7_sheet_9 (by decide) ?_
    refine x_aload_n C dX7_sheet_23 rfl ?_
    refine x_iconst (v := 0) C dX7_sheet_24 (by decide) ?_
    refine x_cvi C (k := 0) (c_X7_finding l g _ (k := 0) rfl (by decide) ) o_X7_finding mw_X7_61 rfl (C.lt rfl) rcv_0 rfl rfl rfl hcs dX7_sheet_25 (fun rf M2 hf => ?_)
    refine hret _ _ _ _ dX7_sheet_28 rfl ?_
    exact fi_C (k := 0) (ifp_f (fun z => by first | exact cr2 z.1 | (rcases z.2 with z | z; exact c13 z; exact c17 z))) hf rfl (by decide) same.rf
  · skip
    refine x_astore C dX7_sheet_5 rfl ?_
    refine x_aload C dX7_sheet_7 rfl ?_
    refine x_ifnull C dX7_sheet_9 ?_
    refine x_iload_n C dX7_sheet_12 rfl ?_
    refine x_if_eq (tgt := 29) C dX7_sheet_13 (by decide) (fun c13 => ?_) (fun c13 => ?_)
    · skip
      refine x_iload_n C dX7_sheet_29 rfl ?_
      refine x_if_ge (tgt := 40) C dX7_sheet_30 (by decide) (fun c30 => ?_) (fun c30 => ?_)
      · skip
        have c30x : 0 ≤ n := by clear hret hcs C; grind
        refine x_iload_n C dX7_sheet_40 rfl ?_
        refine x_bipush (v := 40) C dX7_sheet_41 (by decide) ?_
        refine x_icmp_le (tgt := 52) C dX7_sheet_43 (by decide) (fun c43 => ?_) (fun c43 => ?_)
        · skip
          have c43x : n ≤ 40 := by clear hret hcs C; grind
          refine x_aload C dX7_sheet_52 rfl ?_
          refine x_iload_n C dX7_sheet_54 rfl ?_
          refine x_iload_n C dX7_sheet_55 rfl ?_
          refine x_cvv C (k := 29 + 2 * s) (c_X4_makeNew l g (s := s) hs _ _ _ ⟨c30x, c43x⟩ ) o_X4_makeNew mw_X7_255 rfl (C.lt' (by omega)) (rcv_S hs) rfl rfl rfl hcs dX7_sheet_56 (fun M1 h1 => ?_)
          refine x_aload C dX7_sheet_59 rfl ?_
          refine x_getf (k := 29 + 2 * s) C bk_X4 (C.lt' (by omega)) rfl (ent_SO hs) 2 fw_X7_215 rfl rfl dX7_sheet_61 ?_
          refine hret _ _ _ _ dX7_sheet_64 rfl ?_
          have ets : tn x = s := by rw [es]; exact tn_nI (by omega)
          have hw := sh_new hs h1
          rw [h1.2.1]
          refine sh_C ?_ hw.1 hw.2
          rw [← ets]
          exact (ifp_t ⟨cr2, by first | exact Or.inl c13 | exact Or.inr c17⟩).trans ((ifp_f (Int32.not_lt.mpr c30x)).trans (ifp_f (Int32.not_lt.mpr c43x)))
        · skip
          have c43 : ¬ n ≤ 40 := by clear hret hcs C; grind
          refine x_aload_n C dX7_sheet_46 rfl ?_
          refine x_iconst (v := 0) C dX7_sheet_47 (by decide) ?_
          refine x_cvi C (k := 0) (c_X7_finding l g _ (k := 0) rfl (by decide) ) o_X7_finding mw_X7_61 rfl (C.lt rfl) rcv_0 rfl rfl rfl hcs dX7_sheet_48 (fun rh M3 hh => ?_)
          refine hret _ _ _ _ dX7_sheet_51 rfl ?_
          exact fi_C (k := 0) ((ifp_t ⟨cr2, by first | exact Or.inl c13 | exact Or.inr c17⟩).trans ((ifp_f (Int32.not_lt.mpr c30x)).trans (ifp_t (Int32.not_le.mp c43)))) hh rfl (by decide) same.rf
      · skip
        have c30 : ¬ 0 ≤ n := by clear hret hcs C; grind
        refine x_aload_n C dX7_sheet_33 rfl ?_
        refine x_bipush (v := 6) C dX7_sheet_34 (by decide) ?_
        refine x_cvi C (k := 0) (c_X7_finding l g _ (k := 6) rfl (by decide) ) o_X7_finding mw_X7_61 rfl (C.lt rfl) rcv_0 rfl rfl rfl hcs dX7_sheet_36 (fun rg M4 hg => ?_)
        refine hret _ _ _ _ dX7_sheet_39 rfl ?_
        exact fi_C (k := 6) ((ifp_t ⟨cr2, by first | exact Or.inl c13 | exact Or.inr c17⟩).trans (ifp_t (Int32.not_le.mp c30))) hg rfl (by decide) same.rf
    · skip
      refine x_iload_n C dX7_sheet_16 rfl ?_
      refine x_csB C (c_X4_hasWidth l g _ _ ) o_X4_hasWidth mw_X7_252 rfl rfl rfl rfl hcs dX7_sheet_17 (fun c17 => ?_) (fun c17 => ?_)
      · skip
        refine x_if_neT (tgt := 29) C dX7_sheet_20 (by decide) (by decide) ?_
        refine x_iload_n C dX7_sheet_29 rfl ?_
        refine x_if_ge (tgt := 40) C dX7_sheet_30 (by decide) (fun c30 => ?_) (fun c30 => ?_)
        · skip
          have c30x : 0 ≤ n := by clear hret hcs C; grind
          refine x_iload_n C dX7_sheet_40 rfl ?_
          refine x_bipush (v := 40) C dX7_sheet_41 (by decide) ?_
          refine x_icmp_le (tgt := 52) C dX7_sheet_43 (by decide) (fun c43 => ?_) (fun c43 => ?_)
          · skip
            have c43x : n ≤ 40 := by clear hret hcs C; grind
            refine x_aload C dX7_sheet_52 rfl ?_
            refine x_iload_n C dX7_sheet_54 rfl ?_
            refine x_iload_n C dX7_sheet_55 rfl ?_
            refine x_cvv C (k := 29 + 2 * s) (c_X4_makeNew l g (s := s) hs _ _ _ ⟨c30x, c43x⟩ ) o_X4_makeNew mw_X7_255 rfl (C.lt' (by omega)) (rcv_S hs) rfl rfl rfl hcs dX7_sheet_56 (fun M1 h1 => ?_)
            refine x_aload C dX7_sheet_59 rfl ?_
            refine x_getf (k := 29 + 2 * s) C bk_X4 (C.lt' (by omega)) rfl (ent_SO hs) 2 fw_X7_215 rfl rfl dX7_sheet_61 ?_
            refine hret _ _ _ _ dX7_sheet_64 rfl ?_
            have ets : tn x = s := by rw [es]; exact tn_nI (by omega)
            have hw := sh_new hs h1
            rw [h1.2.1]
            refine sh_C ?_ hw.1 hw.2
            rw [← ets]
            exact (ifp_t ⟨cr2, by first | exact Or.inl c13 | exact Or.inr c17⟩).trans ((ifp_f (Int32.not_lt.mpr c30x)).trans (ifp_f (Int32.not_lt.mpr c43x)))
          · skip
            have c43 : ¬ n ≤ 40 := by clear hret hcs C; grind
            refine x_aload_n C dX7_sheet_46 rfl ?_
            refine x_iconst (v := 0) C dX7_sheet_47 (by decide) ?_
            refine x_cvi C (k := 0) (c_X7_finding l g _ (k := 0) rfl (by decide) ) o_X7_finding mw_X7_61 rfl (C.lt rfl) rcv_0 rfl rfl rfl hcs dX7_sheet_48 (fun rh M5 hh => ?_)
            refine hret _ _ _ _ dX7_sheet_51 rfl ?_
            exact fi_C (k := 0) ((ifp_t ⟨cr2, by first | exact Or.inl c13 | exact Or.inr c17⟩).trans ((ifp_f (Int32.not_lt.mpr c30x)).trans (ifp_t (Int32.not_le.mp c43)))) hh rfl (by decide) same.rf
        · skip
          have c30 : ¬ 0 ≤ n := by clear hret hcs C; grind
          refine x_aload_n C dX7_sheet_33 rfl ?_
          refine x_bipush (v := 6) C dX7_sheet_34 (by decide) ?_
          refine x_cvi C (k := 0) (c_X7_finding l g _ (k := 6) rfl (by decide) ) o_X7_finding mw_X7_61 rfl (C.lt rfl) rcv_0 rfl rfl rfl hcs dX7_sheet_36 (fun rg M6 hg => ?_)
          refine hret _ _ _ _ dX7_sheet_39 rfl ?_
          exact fi_C (k := 6) ((ifp_t ⟨cr2, by first | exact Or.inl c13 | exact Or.inr c17⟩).trans (ifp_t (Int32.not_le.mp c30))) hg rfl (by decide) same.rf
      · skip
        refine x_if_neF (tgt := 29) C dX7_sheet_20 (by decide) (by decide) ?_
        refine x_aload_n C dX7_sheet_23 rfl ?_
        refine x_iconst (v := 0) C dX7_sheet_24 (by decide) ?_
        refine x_cvi C (k := 0) (c_X7_finding l g _ (k := 0) rfl (by decide) ) o_X7_finding mw_X7_61 rfl (C.lt rfl) rcv_0 rfl rfl rfl hcs dX7_sheet_25 (fun rf M7 hf => ?_)
        refine hret _ _ _ _ dX7_sheet_28 rfl ?_
        exact fi_C (k := 0) (ifp_f (fun z => by first | exact cr2 z.1 | (rcases z.2 with z | z; exact c13 z; exact c17 z))) hf rfl (by decide) same.rf

def rm_X7_write : Room := { frames := 2, cells := 0, slots := 0, locals := 43 }
set_option maxRecDepth 100000 in
set_option maxHeartbeats 4000000 in
theorem c_X7_write (l : Launch) (g : Gp) (M : Mem) (oa : okA (aC M))  (x i v : Int32) : Ki l g yX7_write cX7_write 6 .int rm_X7_write [.ref (gad g (0)), .int (x), .int (i), .int (v)] M (fun r M' => (r, aC M') = F_write x i v (aC M) ∧ sameC M M') := by
  refine Ki.of rfl rfl rfl (fun q C hret hcs => ?_)
  have o : okRow (vw M 1) := oa.1
  refine x_aload_n C dX7_write_0 rfl ?_
  refine x_iload_n C dX7_write_1 rfl ?_
  refine x_cvE C (k := 0) (c_X7_wrongSheet l g _ _ ) o_X7_wrongSheet mw_X7_212 rfl (C.lt rfl) rcv_0 rfl rfl rfl hcs dX7_write_2 ?_
  refine x_topi (fun x4 ex4 => ?_)
  refine x_istore C dX7_write_5 rfl ?_
  refine x_iload C dX7_write_7 rfl ?_
  refine x_if_lt (tgt := 19) C dX7_write_9 (by decide) (fun c9 => ?_) (fun c9 => ?_)
  · skip
    have c9 := c9
    have qq := wrgS_lt (by rw [← ex4]; exact c9)
    refine x_aload_n C dX7_write_19 rfl ?_
    refine x_iload_n C dX7_write_20 rfl ?_
    refine x_cvq C (k := 0) (c_X7_sheetAt l g _ _ ) o_X7_sheetAt mw_X7_204 rfl (C.lt rfl) rcv_0 rfl rfl rfl hcs dX7_write_21 (fun r2 M1 hr2 => ?_)
    obtain ⟨rfl, hr2⟩ := hr2
    rcases hr2 with ⟨cr2, rfl⟩ | ⟨s, hs, es, cr2, rfl⟩
    · skip
      exact absurd qq.1 cr2
    · skip
      have ets : tn x = s := by rw [es]; exact tn_nI (by omega)
      have hl := (okSh_C oa hs).1
      refine x_astore C dX7_write_24 rfl ?_
      refine x_aload C dX7_write_26 rfl ?_
      refine x_ifnull C dX7_write_28 ?_
      refine x_iload_n C dX7_write_31 rfl ?_
      refine x_iconst (v := 0) C dX7_write_32 (by decide) ?_
      refine x_aload C dX7_write_33 rfl ?_
      refine x_getf (k := 29 + 2 * s) C bk_X4 (C.lt' (by omega)) rfl (ent_SO hs) 2 fw_X7_215 rfl rfl dX7_write_35 ?_
      refine x_iconst (v := 1) C dX7_write_38 (by decide) ?_
      refine x_isub C dX7_write_39 ?_
      refine x_csB C (c_X7_within l g _ _ _ _ ) o_X7_within mw_X7_77 rfl rfl rfl rfl hcs dX7_write_40 (fun c40 => ?_) (fun c40 => ?_)
      · skip
        have qi := inB_tn (n := 39) (by decide) (show inB i 0 39 from ⟨c40.1, by have := c40.2; unfold inB at hl; clear hret hcs C; grind⟩)
        refine x_if_neT (tgt := 52) C dX7_write_43 (by decide) (by decide) ?_
        refine x_aload C dX7_write_52 rfl ?_
        refine x_iload_n C dX7_write_54 rfl ?_
        refine x_iload_n C dX7_write_55 rfl ?_
        refine x_cvv C (k := 29 + 2 * s) (c_X4_put l g (s := s) hs _ (i := (tn i)) qi.2 qi.1 _ ) o_X4_put mw_X7_258 rfl (C.lt' (by omega)) (rcv_S hs) rfl rfl rfl hcs dX7_write_56 (fun M1 h1 => ?_)
        refine x_iconst (v := 1) C dX7_write_59 (by decide) ?_
        refine hret _ _ _ _ dX7_write_60 rfl ?_
        have hw := sh_num (M := M) (M1 := M1) (X := updX (aX (aC M)) s (tn i) (bitsV (aW (aC M) s) v)) hs (fun u hu => if_neg hu) (fun k hk => ?_) (fun k hk => ?_) (by rw [h1]; exact same.up (by simp))
        · refine sh_C ?_ hw.1 hw.2
          rw [← ets]
          exact (ifp_t (by rw [← ex4]; exact c9)).trans (ifp_t (by rw [ets, aN_C hs]; unfold inB at c40 hl; clear hret hcs C hw; grind))
        · rw [h1, aW_C hs, up_s]; show _ = (if s = s then upd (aX (aC M) s) _ _ else _) k; rw [if_pos rfl]
          by_cases q1 : k = tn i
          · rw [q1, pk_us, pk_us]
          · rw [pk_un q1, pk_un q1]; exact (aX_C hs hk).symm
        · show (if s = s then upd (aX (aC M) s) _ _ else _) k = 0; rw [if_pos rfl, pk_un (by omega)]; exact aX_z (Or.inr hk)
      · skip
        refine x_if_neF (tgt := 52) C dX7_write_43 (by decide) (by decide) ?_
        refine x_aload_n C dX7_write_46 rfl ?_
        refine x_iconst (v := 0) C dX7_write_47 (by decide) ?_
        refine x_cvi C (k := 0) (c_X7_finding l g _ (k := 0) rfl (by decide) ) o_X7_finding mw_X7_61 rfl (C.lt rfl) rcv_0 rfl rfl rfl hcs dX7_write_48 (fun rg M2 hg => ?_)
        refine hret _ _ _ _ dX7_write_51 rfl ?_
        exact fi_C (k := 0) ((ifp_t (by rw [← ex4]; exact c9)).trans (ifp_f (by rw [ets, aN_C hs]; unfold inB at c40 hl; clear hret hcs C; grind))) hg rfl (by decide) same.rf
  · skip
    have c9 := c9
    have qq := wrgS_ge (by rw [← ex4]; exact c9)
    refine x_aload_n C dX7_write_12 rfl ?_
    refine x_iload C dX7_write_13 rfl ?_
    refine x_cvi C (k := 0) (c_X7_finding l g _ (k := (tn (wrgS (aC M) x))) (ex4.trans qq.1) qq.2 ) o_X7_finding mw_X7_61 rfl (C.lt rfl) rcv_0 rfl rfl rfl hcs dX7_write_15 (fun rf M3 hf => ?_)
    refine hret _ _ _ _ dX7_write_18 rfl ?_
    exact fi_C (k := tn (wrgS (aC M) x)) (ifp_f (by rw [← ex4]; exact c9)) hf (ex4.trans qq.1) qq.2 same.rf

def rm_X7_copyNumbers : Room := { frames := 1, cells := 0, slots := 0, locals := 22 }
set_option maxRecDepth 100000 in
set_option maxHeartbeats 4000000 in
theorem c_X7_copyNumbers (l : Launch) (g : Gp) {s t : Nat} (hs : s < 4) (ht : t < 4) (M : Mem) {f o n : Int32} {F O N : Nat} (hf : f = nI F) (ho : o = nI O) (hn : n = nI N) (hF : F + N ≤ 40) (hO : O + N ≤ 40) (hb : ∀ i, i < 40 → bitsV (M (29 + 2 * t) 1) (M (29 + 2 * s + 1) i) = M (29 + 2 * s + 1) i) : Kv l g yX7_copyNumbers cX7_copyNumbers 8 rm_X7_copyNumbers [.ref (gad g (29 + 2 * s)), .int (f), .ref (gad g (29 + 2 * t)), .int (o), .int (n)] M (fun M' => (∀ j, j < 40 → M' (29 + 2 * t + 1) j = if O ≤ j ∧ j < O + N then M (29 + 2 * s + 1) (F + (j - O)) else M (29 + 2 * t + 1) j) ∧ same [29 + 2 * t + 1] M M') := by
  refine Kv.of rfl rfl rfl (fun q C hret hcs => ?_)
  refine x_aload_n C dX7_copyNumbers_0 rfl ?_
  refine x_ifnull C dX7_copyNumbers_1 ?_
  refine x_aload_n C dX7_copyNumbers_4 rfl ?_
  refine x_ifnonnull (tgt := 9) C dX7_copyNumbers_5 (by decide) ?_
  have key : ∀ d : Int32, (d = 1 ∧ F < O) ∨ (d = 0 ∧ O ≤ F) → X (kmk l rm_X7_copyNumbers g 8 q) M 19 [some (.ref (gad g (29 + 2 * s))), some (.int (f)), some (.ref (gad g (29 + 2 * t))), some (.int (o)), some (.int (n)), none, none, none] [.int (d)] := by
    intro d hd
    refine x_istore C dX7_copyNumbers_19 rfl ?_
    refine x_iconst (v := 0) C dX7_copyNumbers_21 (by decide) ?_
    refine x_istore C dX7_copyNumbers_22 rfl ?_
    refine up_to N (P := fun k => ∀ M1 : Mem, (∀ j, j < 40 → M1 (29 + 2 * t + 1) j = if (O ≤ j ∧ j < O + N ∧ (if d = 0 then j < O + k else O + N ≤ j + k)) then M (29 + 2 * s + 1) (F + (j - O)) else M (29 + 2 * t + 1) j) → same [(29 + 2 * t + 1)] M M1 → X (kmk l rm_X7_copyNumbers g 8 q) M1 24 [some (.ref (gad g (29 + 2 * s))), some (.int (f)), some (.ref (gad g (29 + 2 * t))), some (.int (o)), some (.int (n)), some (.int (d)), some (.int (nI k)), none] []) (fun k hi ih M1 hv hs1 => ?_) 0 (Nat.zero_le _) M (fun j hj => (if_neg (by split <;> omega)).symm) same.rf
    refine x_iload C dX7_copyNumbers_24 rfl ?_
    refine x_iload C dX7_copyNumbers_26 rfl ?_
    refine x_icmp_ge (tgt := 72) C dX7_copyNumbers_28 (by decide) (fun c28 => ?_) (fun c28 => ?_)
    · skip
      have hlt := lp_ge (N := N) (by omega) hi (by rw [← hn]; exact c28)
      refine hret _ _ _ dX7_copyNumbers_72 ?_
      subst hlt
      refine ⟨fun j hj => ?_, hs1⟩
      rw [hv j hj]
      by_cases r : O ≤ j ∧ j < O + k
      · rw [if_pos r, if_pos ⟨r.1, r.2, by split <;> omega⟩]
      · rw [if_neg r, if_neg (fun z => r ⟨z.1, z.2.1⟩)]
    · skip
      have hlt := lp_lt (N := N) (by omega) hi (by rw [← hn]; exact c28)
      refine x_iload C dX7_copyNumbers_31 rfl ?_
      refine x_if_eq (tgt := 46) C dX7_copyNumbers_33 (by decide) (fun c33 => ?_) (fun c33 => ?_)
      · skip
        refine x_iload C dX7_copyNumbers_46 rfl ?_
        refine x_topE (y := nI (if d = 0 then k else N - 1 - k)) (by first | (rw [if_neg c33, hn]; have := i_down (n := N) (i := k) (by omega) (by omega); rw [if_pos hlt] at this; exact this) | rw [if_pos c33]) ?_
        refine x_istore C dX7_copyNumbers_48 rfl ?_
        refine x_aload_n C dX7_copyNumbers_50 rfl ?_
        refine x_iload_n C dX7_copyNumbers_51 rfl ?_
        refine x_iload C dX7_copyNumbers_52 rfl ?_
        refine x_iadd C dX7_copyNumbers_54 ?_
        have hix : (if d = 0 then k else N - 1 - k) < N := by split <;> omega
        refine x_topE (y := nI (O + (if d = 0 then k else N - 1 - k))) (by rw [ho]; exact nI_add _ _) ?_
        refine x_aload_n C dX7_copyNumbers_55 rfl ?_
        refine x_iload_n C dX7_copyNumbers_56 rfl ?_
        refine x_iload C dX7_copyNumbers_57 rfl ?_
        refine x_iadd C dX7_copyNumbers_59 ?_
        refine x_topE (y := nI (F + (if d = 0 then k else N - 1 - k))) (by rw [hf]; exact nI_add _ _) ?_
        refine x_cvE C (k := 29 + 2 * s) (c_X4_at l g (s := s) hs _ (i := (F + (if d = 0 then k else N - 1 - k))) rfl (by omega) ) o_X4_at mw_X7_218 rfl (C.lt' (by omega)) (rcv_S hs) rfl rfl rfl hcs dX7_copyNumbers_60 ?_
        refine x_cvv C (k := 29 + 2 * t) (c_X4_put l g (s := t) ht _ (i := (O + (if d = 0 then k else N - 1 - k))) rfl (by omega) _ ) o_X4_put mw_X7_258 rfl (C.lt' (by omega)) (rcv_S ht) rfl rfl rfl hcs dX7_copyNumbers_63 (fun M2 h2 => ?_)
        refine x_iinc (v := nI (k + 1)) C dX7_copyNumbers_66 rfl (nI_1 k) rfl ?_
        refine x_goto (tgt := 24) C dX7_copyNumbers_69 (by decide) ?_
        refine X.le (ls' := [some (.ref (gad g (29 + 2 * s))), some (.int (f)), some (.ref (gad g (29 + 2 * t))), some (.int (o)), some (.int (n)), some (.int (d)), some (.int (nI (k + 1))), none]) (lle_s rfl (lle_s rfl (lle_s rfl (lle_s rfl (lle_s rfl (lle_s rfl (lle_s rfl (lle_n lle_e)))))))) ?_
        refine ih hlt M2 (fun j hj => ?_) (hs1.tr (by rw [h2]; exact same.up (by simp)))
        have hsrc : M1 (29 + 2 * s + 1) (F + (if d = 0 then k else N - 1 - k)) = M (29 + 2 * s + 1) (F + (if d = 0 then k else N - 1 - k)) := by
          by_cases q : s = t
          · subst q; rw [hv _ (by omega)]; rcases hd with hd | hd
            · have d0 : ¬ d = 0 := by rw [hd.1]; decide
              rw [if_neg (by simp only [if_neg d0]; omega)]
            · simp only [if_pos hd.1]; rw [if_neg (by omega)]
          · rw [hs1 _ (by simp; omega)]
        rw [h2, hsrc, hs1 (29 + 2 * t) (by simp), hb _ (by omega)]
        by_cases q : j = O + (if d = 0 then k else N - 1 - k)
        · rw [q, up_ss]; rcases hd with hd | hd
          · have d0 : ¬ d = 0 := by rw [hd.1]; decide
            simp only [if_neg d0] at hix ⊢; rw [if_pos (by omega)]; congr 1; omega
          · simp only [if_pos hd.1] at hix ⊢; rw [if_pos (by omega)]; congr 1; omega
        · rw [up_sn q, hv j hj]; rcases hd with hd | hd
          · have d0 : ¬ d = 0 := by rw [hd.1]; decide
            simp only [if_neg d0] at hix q ⊢
            by_cases r : O ≤ j ∧ j < O + N ∧ O + N ≤ j + k
            · rw [if_pos r, if_pos (by omega)]
            · rw [if_neg r, if_neg (by omega)]
          · simp only [if_pos hd.1] at hix q ⊢
            by_cases r : O ≤ j ∧ j < O + N ∧ j < O + k
            · rw [if_pos r, if_pos (by omega)]
            · rw [if_neg r, if_neg (by omega)]
      · skip
        refine x_iload C dX7_copyNumbers_36 rfl ?_
        refine x_iconst (v := 1) C dX7_copyNumbers_38 (by decide) ?_
        refine x_isub C dX7_copyNumbers_39 ?_
        refine x_iload C dX7_copyNumbers_40 rfl ?_
        refine x_isub C dX7_copyNumbers_42 ?_
        refine x_goto (tgt := 48) C dX7_copyNumbers_43 (by decide) ?_
        refine x_topE (y := nI (if d = 0 then k else N - 1 - k)) (by first | (rw [if_neg c33, hn]; have := i_down (n := N) (i := k) (by omega) (by omega); rw [if_pos hlt] at this; exact this) | rw [if_pos c33]) ?_
        refine x_istore C dX7_copyNumbers_48 rfl ?_
        refine x_aload_n C dX7_copyNumbers_50 rfl ?_
        refine x_iload_n C dX7_copyNumbers_51 rfl ?_
        refine x_iload C dX7_copyNumbers_52 rfl ?_
        refine x_iadd C dX7_copyNumbers_54 ?_
        have hix : (if d = 0 then k else N - 1 - k) < N := by split <;> omega
        refine x_topE (y := nI (O + (if d = 0 then k else N - 1 - k))) (by rw [ho]; exact nI_add _ _) ?_
        refine x_aload_n C dX7_copyNumbers_55 rfl ?_
        refine x_iload_n C dX7_copyNumbers_56 rfl ?_
        refine x_iload C dX7_copyNumbers_57 rfl ?_
        refine x_iadd C dX7_copyNumbers_59 ?_
        refine x_topE (y := nI (F + (if d = 0 then k else N - 1 - k))) (by rw [hf]; exact nI_add _ _) ?_
        refine x_cvE C (k := 29 + 2 * s) (c_X4_at l g (s := s) hs _ (i := (F + (if d = 0 then k else N - 1 - k))) rfl (by omega) ) o_X4_at mw_X7_218 rfl (C.lt' (by omega)) (rcv_S hs) rfl rfl rfl hcs dX7_copyNumbers_60 ?_
        refine x_cvv C (k := 29 + 2 * t) (c_X4_put l g (s := t) ht _ (i := (O + (if d = 0 then k else N - 1 - k))) rfl (by omega) _ ) o_X4_put mw_X7_258 rfl (C.lt' (by omega)) (rcv_S ht) rfl rfl rfl hcs dX7_copyNumbers_63 (fun M2 h2 => ?_)
        refine x_iinc (v := nI (k + 1)) C dX7_copyNumbers_66 rfl (nI_1 k) rfl ?_
        refine x_goto (tgt := 24) C dX7_copyNumbers_69 (by decide) ?_
        refine X.le (ls' := [some (.ref (gad g (29 + 2 * s))), some (.int (f)), some (.ref (gad g (29 + 2 * t))), some (.int (o)), some (.int (n)), some (.int (d)), some (.int (nI (k + 1))), none]) (lle_s rfl (lle_s rfl (lle_s rfl (lle_s rfl (lle_s rfl (lle_s rfl (lle_s rfl (lle_n lle_e)))))))) ?_
        refine ih hlt M2 (fun j hj => ?_) (hs1.tr (by rw [h2]; exact same.up (by simp)))
        have hsrc : M1 (29 + 2 * s + 1) (F + (if d = 0 then k else N - 1 - k)) = M (29 + 2 * s + 1) (F + (if d = 0 then k else N - 1 - k)) := by
          by_cases q : s = t
          · subst q; rw [hv _ (by omega)]; rcases hd with hd | hd
            · have d0 : ¬ d = 0 := by rw [hd.1]; decide
              rw [if_neg (by simp only [if_neg d0]; omega)]
            · simp only [if_pos hd.1]; rw [if_neg (by omega)]
          · rw [hs1 _ (by simp; omega)]
        rw [h2, hsrc, hs1 (29 + 2 * t) (by simp), hb _ (by omega)]
        by_cases q : j = O + (if d = 0 then k else N - 1 - k)
        · rw [q, up_ss]; rcases hd with hd | hd
          · have d0 : ¬ d = 0 := by rw [hd.1]; decide
            simp only [if_neg d0] at hix ⊢; rw [if_pos (by omega)]; congr 1; omega
          · simp only [if_pos hd.1] at hix ⊢; rw [if_pos (by omega)]; congr 1; omega
        · rw [up_sn q, hv j hj]; rcases hd with hd | hd
          · have d0 : ¬ d = 0 := by rw [hd.1]; decide
            simp only [if_neg d0] at hix q ⊢
            by_cases r : O ≤ j ∧ j < O + N ∧ O + N ≤ j + k
            · rw [if_pos r, if_pos (by omega)]
            · rw [if_neg r, if_neg (by omega)]
          · simp only [if_pos hd.1] at hix q ⊢
            by_cases r : O ≤ j ∧ j < O + N ∧ j < O + k
            · rw [if_pos r, if_pos (by omega)]
            · rw [if_neg r, if_neg (by omega)]
  refine x_iload_n C dX7_copyNumbers_9 rfl ?_
  refine x_iload_n C dX7_copyNumbers_10 rfl ?_
  refine x_icmp_le (tgt := 18) C dX7_copyNumbers_11 (by decide) (fun c11 => ?_) (fun c11 => ?_)
  · skip
    have c11 : O ≤ F := by rw [hf, ho] at c11; rcases Nat.lt_or_ge F O with z | z; exact absurd c11 (nI_ge z (by omega)); exact z
    refine x_iconst (v := 0) C dX7_copyNumbers_18 (by decide) ?_
    exact key _ (by first | exact Or.inl ⟨rfl, c11⟩ | exact Or.inr ⟨rfl, c11⟩)
  · skip
    have c11 : F < O := by rw [hf, ho] at c11; rcases Nat.lt_or_ge F O with z | z; exact z; exact absurd (nI_le z (by omega)) c11
    refine x_iconst (v := 1) C dX7_copyNumbers_14 (by decide) ?_
    refine x_goto (tgt := 19) C dX7_copyNumbers_15 (by decide) ?_
    exact key _ (by first | exact Or.inl ⟨rfl, c11⟩ | exact Or.inr ⟨rfl, c11⟩)

theorem sub_fit {a b : Nat} {x l : Int32} (ha : a ≤ 40) (hb : b ≤ 40) (hl : inB l 0 40) (hx : x ≤ l) (ex : x = nI a) (h : nI b ≤ l - nI a) : a + b ≤ 40 := by
  have q := inB_tn (n := 40) (by decide) hl
  rcases Nat.lt_or_ge 40 (a + b) with z | z
  · exfalso
    have e : nI b ≤ l - nI a → nI a + nI b ≤ l := by
      intro h
      have h1 : inB (nI a) 0 40 := inB_nI (m := 40) (by decide) ha
      have h2 : inB (nI b) 0 40 := inB_nI (m := 40) (by decide) hb
      rw [ex] at hx
      generalize nI a = p at *
      generalize nI b = r at *
      unfold inB at *
      clear q
      grind
    have e2 := e h
    rw [nI_add, q.2] at e2
    exact absurd e2 (nI_ge (by omega) (by omega))
  · exact z
def rm_X7_copy : Room := { frames := 2, cells := 0, slots := 0, locals := 49 }
set_option maxRecDepth 100000 in
set_option maxHeartbeats 4000000 in
theorem c_X7_copy (l : Launch) (g : Gp) (M : Mem) (oa : okA (aC M))  (x f y p n : Int32) : Ki l g yX7_copy cX7_copy 8 .int rm_X7_copy [.ref (gad g (0)), .int (x), .int (f), .int (y), .int (p), .int (n)] M (fun r M' => (r, aC M') = F_copy x f y p n (aC M) ∧ sameC M M') := by
  refine Ki.of rfl rfl rfl (fun q C hret hcs => ?_)
  have o : okRow (vw M 1) := oa.1
  refine x_aload_n C dX7_copy_0 rfl ?_
  refine x_iload_n C dX7_copy_1 rfl ?_
  refine x_cvq C (k := 0) (c_X7_sheetAt l g _ _ ) o_X7_sheetAt mw_X7_204 rfl (C.lt rfl) rcv_0 rfl rfl rfl hcs dX7_copy_2 (fun r2 M1 hr2 => ?_)
  obtain ⟨rfl, hr2⟩ := hr2
  rcases hr2 with ⟨cr2, rfl⟩ | ⟨s, hs, es, cr2, rfl⟩
  · skip
    refine x_astoreN C dX7_copy_5 rfl ?_
    refine x_aload_n C dX7_copy_7 rfl ?_
    refine x_iload_n C dX7_copy_8 rfl ?_
    refine x_cvq C (k := 0) (c_X7_sheetAt l g _ _ ) o_X7_sheetAt mw_X7_204 rfl (C.lt rfl) rcv_0 rfl rfl rfl hcs dX7_copy_9 (fun r9 M2 hr9 => ?_)
    obtain ⟨rfl, hr9⟩ := hr9
    rcases hr9 with ⟨cr9, rfl⟩ | ⟨t, ht, et, cr9, rfl⟩
    · skip
      refine x_astoreN C dX7_copy_12 rfl ?_
      refine x_aloadN C dX7_copy_14 rfl ?_
      refine x_ifnullN (tgt := 24) C dX7_copy_16 (by decide) ?_
      refine x_aload_n C dX7_copy_24 rfl ?_
      refine x_iconst (v := 0) C dX7_copy_25 (by decide) ?_
      refine x_cvi C (k := 0) (c_X7_finding l g _ (k := 0) rfl (by decide) ) o_X7_finding mw_X7_61 rfl (C.lt rfl) rcv_0 rfl rfl rfl hcs dX7_copy_26 (fun rf M3 hf => ?_)
      refine hret _ _ _ _ dX7_copy_29 rfl ?_
      exact fi_C (k := 0) (ifp_f (fun z => by first | exact cr2 z.1 | exact cr9 z.2)) hf rfl (by decide) same.rf
    · skip
      refine x_astore C dX7_copy_12 rfl ?_
      refine x_aloadN C dX7_copy_14 rfl ?_
      refine x_ifnullN (tgt := 24) C dX7_copy_16 (by decide) ?_
      refine x_aload_n C dX7_copy_24 rfl ?_
      refine x_iconst (v := 0) C dX7_copy_25 (by decide) ?_
      refine x_cvi C (k := 0) (c_X7_finding l g _ (k := 0) rfl (by decide) ) o_X7_finding mw_X7_61 rfl (C.lt rfl) rcv_0 rfl rfl rfl hcs dX7_copy_26 (fun rf M4 hf => ?_)
      refine hret _ _ _ _ dX7_copy_29 rfl ?_
      exact fi_C (k := 0) (ifp_f (fun z => by first | exact cr2 z.1 | exact cr9 z.2)) hf rfl (by decide) same.rf
  · skip
    refine x_astore C dX7_copy_5 rfl ?_
    refine x_aload_n C dX7_copy_7 rfl ?_
    refine x_iload_n C dX7_copy_8 rfl ?_
    refine x_cvq C (k := 0) (c_X7_sheetAt l g _ _ ) o_X7_sheetAt mw_X7_204 rfl (C.lt rfl) rcv_0 rfl rfl rfl hcs dX7_copy_9 (fun r9 M5 hr9 => ?_)
    obtain ⟨rfl, hr9⟩ := hr9
    rcases hr9 with ⟨cr9, rfl⟩ | ⟨t, ht, et, cr9, rfl⟩
    · skip
      refine x_astoreN C dX7_copy_12 rfl ?_
      refine x_aload C dX7_copy_14 rfl ?_
      refine x_ifnull C dX7_copy_16 ?_
      refine x_aloadN C dX7_copy_19 rfl ?_
      refine x_ifnonnullN C dX7_copy_21 ?_
      refine x_aload_n C dX7_copy_24 rfl ?_
      refine x_iconst (v := 0) C dX7_copy_25 (by decide) ?_
      refine x_cvi C (k := 0) (c_X7_finding l g _ (k := 0) rfl (by decide) ) o_X7_finding mw_X7_61 rfl (C.lt rfl) rcv_0 rfl rfl rfl hcs dX7_copy_26 (fun rf M6 hf => ?_)
      refine hret _ _ _ _ dX7_copy_29 rfl ?_
      exact fi_C (k := 0) (ifp_f (fun z => by first | exact cr2 z.1 | exact cr9 z.2)) hf rfl (by decide) same.rf
    · skip
      refine x_astore C dX7_copy_12 rfl ?_
      refine x_aload C dX7_copy_14 rfl ?_
      refine x_ifnull C dX7_copy_16 ?_
      refine x_aload C dX7_copy_19 rfl ?_
      refine x_ifnonnull (tgt := 30) C dX7_copy_21 (by decide) ?_
      have ets : tn x = s := by rw [es]; exact tn_nI (by omega)
      have ett : tn y = t := by rw [et]; exact tn_nI (by omega)
      have hl := okSh_C oa hs
      have hm := okSh_C oa ht
      refine x_aload C dX7_copy_30 rfl ?_
      refine x_cvB C (k := 29 + 2 * s) (c_X4_isMissing l g (s := s) hs _ ) o_X4_isMissing mw_X7_260 rfl (C.lt' (by omega)) (rcv_S hs) rfl rfl rfl hcs dX7_copy_32 (fun c32 => ?_) (fun c32 => ?_)
      · skip
        refine x_if_neT (tgt := 46) C dX7_copy_35 (by decide) (by decide) ?_
        refine x_aload_n C dX7_copy_46 rfl ?_
        refine x_iconst (v := 5) C dX7_copy_47 (by decide) ?_
        refine x_cvi C (k := 0) (c_X7_finding l g _ (k := 5) rfl (by decide) ) o_X7_finding mw_X7_61 rfl (C.lt rfl) rcv_0 rfl rfl rfl hcs dX7_copy_48 (fun rg M7 hg => ?_)
        refine hret _ _ _ _ dX7_copy_51 rfl ?_
        exact fi_C (k := 5) ((ifp_t ⟨cr2, cr9⟩).trans (ifp_t (by rw [ets, ett, aW_C hs, aW_C ht]; first | exact Or.inl c32 | exact Or.inr c40))) hg rfl (by decide) same.rf
      · skip
        refine x_if_neF (tgt := 46) C dX7_copy_35 (by decide) (by decide) ?_
        refine x_aload C dX7_copy_38 rfl ?_
        refine x_cvB C (k := 29 + 2 * t) (c_X4_isMissing l g (s := t) ht _ ) o_X4_isMissing mw_X7_260 rfl (C.lt' (by omega)) (rcv_S ht) rfl rfl rfl hcs dX7_copy_40 (fun c40 => ?_) (fun c40 => ?_)
        · skip
          refine x_if_eqF (tgt := 52) C dX7_copy_43 (by decide) (by decide) ?_
          refine x_aload_n C dX7_copy_46 rfl ?_
          refine x_iconst (v := 5) C dX7_copy_47 (by decide) ?_
          refine x_cvi C (k := 0) (c_X7_finding l g _ (k := 5) rfl (by decide) ) o_X7_finding mw_X7_61 rfl (C.lt rfl) rcv_0 rfl rfl rfl hcs dX7_copy_48 (fun rg M8 hg => ?_)
          refine hret _ _ _ _ dX7_copy_51 rfl ?_
          exact fi_C (k := 5) ((ifp_t ⟨cr2, cr9⟩).trans (ifp_t (by rw [ets, ett, aW_C hs, aW_C ht]; first | exact Or.inl c32 | exact Or.inr c40))) hg rfl (by decide) same.rf
        · skip
          refine x_if_eqT (tgt := 52) C dX7_copy_43 (by decide) (by decide) ?_
          refine x_aload C dX7_copy_52 rfl ?_
          refine x_getf (k := 29 + 2 * s) C bk_X4 (C.lt' (by omega)) rfl (ent_SO hs) 1 fw_X7_264 rfl rfl dX7_copy_54 ?_
          refine x_aload C dX7_copy_57 rfl ?_
          refine x_getf (k := 29 + 2 * t) C bk_X4 (C.lt' (by omega)) rfl (ent_SO ht) 1 fw_X7_264 rfl rfl dX7_copy_59 ?_
          refine x_icmp_eq (tgt := 71) C dX7_copy_62 (by decide) (fun c62 => ?_) (fun c62 => ?_)
          · skip
            refine x_aload C dX7_copy_71 rfl ?_
            refine x_iload_n C dX7_copy_73 rfl ?_
            refine x_iload C dX7_copy_74 rfl ?_
            refine x_cvB C (k := 29 + 2 * s) (c_X4_hasNumbers l g (s := s) hs _ _ _ ) o_X4_hasNumbers mw_X7_267 rfl (C.lt' (by omega)) (rcv_S hs) rfl rfl rfl hcs dX7_copy_76 (fun c76 => ?_) (fun c76 => ?_)
            · skip
              refine x_if_eqF (tgt := 94) C dX7_copy_79 (by decide) (by decide) ?_
              refine x_aload C dX7_copy_82 rfl ?_
              refine x_iload C dX7_copy_84 rfl ?_
              refine x_iload C dX7_copy_86 rfl ?_
              refine x_cvB C (k := 29 + 2 * t) (c_X4_hasNumbers l g (s := t) ht _ _ _ ) o_X4_hasNumbers mw_X7_267 rfl (C.lt' (by omega)) (rcv_S ht) rfl rfl rfl hcs dX7_copy_88 (fun c88 => ?_) (fun c88 => ?_)
              · skip
                refine x_if_neT (tgt := 100) C dX7_copy_91 (by decide) (by decide) ?_
                have qls := inB_tn (n := 40) (by decide) hl.1
                have qlt := inB_tn (n := 40) (by decide) hm.1
                have b1 := hl.1; have b2 := hm.1; unfold inB at b1 b2
                have qn := inB_tn (n := 40) (by decide) (show inB n 0 40 from ⟨c76.2.1, by clear hret hcs C hl hm; grind⟩)
                have qf := inB_tn (n := 40) (by decide) (show inB f 0 40 from ⟨c76.1, by clear hret hcs C hl hm; grind⟩)
                have qo := inB_tn (n := 40) (by decide) (show inB p 0 40 from ⟨c88.1, by clear hret hcs C hl hm; grind⟩)
                have hF : tn f + tn n ≤ 40 := by have := c76.2.2.2; rw [qn.2, qf.2] at this; exact sub_fit (by omega) (by omega) hl.1 c76.2.2.1 qf.2 this
                have hO : tn p + tn n ≤ 40 := by have := c88.2.2.2; rw [qn.2, qo.2] at this; exact sub_fit (by omega) (by omega) hm.1 c88.2.2.1 qo.2 this
                refine x_aload C dX7_copy_100 rfl ?_
                refine x_iload_n C dX7_copy_102 rfl ?_
                refine x_aload C dX7_copy_103 rfl ?_
                refine x_iload C dX7_copy_105 rfl ?_
                refine x_iload C dX7_copy_107 rfl ?_
                refine x_csv C (c_X7_copyNumbers l g (s := s) (t := t) hs ht _ (F := (tn f)) (O := (tn p)) (N := (tn n)) qf.2 qo.2 qn.2 hF hO (by rw [← c62]; exact hl.2) ) o_X7_copyNumbers mw_X7_270 rfl rfl rfl rfl hcs dX7_copy_109 (fun M1 h1 => ?_)
                refine x_iload C dX7_copy_112 rfl ?_
                refine hret _ _ _ _ dX7_copy_114 rfl ?_
                have hw := sh_num (M := M) (M1 := M1) (X := copX (aX (aC M)) s (tn f) t (tn p) (tn n)) ht (fun u hu => if_neg hu) (fun k hk => ?_) (fun k hk => ?_) h1.2
                · refine sh_C ?_ hw.1 hw.2
                  rw [← ets, ← ett]
                  exact (ifp_t ⟨cr2, cr9⟩).trans ((ifp_f (by rw [ets, ett, aW_C hs, aW_C ht]; exact fun z => z.elim c32 c40)).trans ((ifp_t (by rw [ets, ett, aW_C hs, aW_C ht]; exact c62)).trans (ifp_t (by rw [ets, ett, aN_C hs, aN_C ht]; clear hret hcs C hl hm hw; grind))))
                · rw [h1.1 k hk]; show _ = (if t = t then _ else _ : Row) k; rw [if_pos rfl]
                  by_cases q1 : tn p ≤ k ∧ k < tn p + tn n
                  · rw [if_pos q1, if_pos q1]; exact (aX_C hs (by omega)).symm
                  · rw [if_neg q1, if_neg q1]; exact (aX_C ht hk).symm
                · show (if t = t then _ else _ : Row) k = 0; rw [if_pos rfl, if_neg (by omega)]; exact aX_z (Or.inr hk)
              · skip
                refine x_if_neF (tgt := 100) C dX7_copy_91 (by decide) (by decide) ?_
                refine x_aload_n C dX7_copy_94 rfl ?_
                refine x_iconst (v := 0) C dX7_copy_95 (by decide) ?_
                refine x_cvi C (k := 0) (c_X7_finding l g _ (k := 0) rfl (by decide) ) o_X7_finding mw_X7_61 rfl (C.lt rfl) rcv_0 rfl rfl rfl hcs dX7_copy_96 (fun rb M9 hb => ?_)
                refine hret _ _ _ _ dX7_copy_99 rfl ?_
                exact fi_C (k := 0) ((ifp_t ⟨cr2, cr9⟩).trans ((ifp_f (by rw [ets, ett, aW_C hs, aW_C ht]; exact fun z => z.elim c32 c40)).trans ((ifp_t (by rw [ets, ett, aW_C hs, aW_C ht]; exact c62)).trans (ifp_f (by rw [ets, ett, aN_C hs, aN_C ht]; have b1 := hl.1; have b2 := hm.1; unfold inB at b1 b2; clear hret hcs C hl hm; grind))))) hb rfl (by decide) same.rf
            · skip
              refine x_if_eqT (tgt := 94) C dX7_copy_79 (by decide) (by decide) ?_
              refine x_aload_n C dX7_copy_94 rfl ?_
              refine x_iconst (v := 0) C dX7_copy_95 (by decide) ?_
              refine x_cvi C (k := 0) (c_X7_finding l g _ (k := 0) rfl (by decide) ) o_X7_finding mw_X7_61 rfl (C.lt rfl) rcv_0 rfl rfl rfl hcs dX7_copy_96 (fun rb M10 hb => ?_)
              refine hret _ _ _ _ dX7_copy_99 rfl ?_
              exact fi_C (k := 0) ((ifp_t ⟨cr2, cr9⟩).trans ((ifp_f (by rw [ets, ett, aW_C hs, aW_C ht]; exact fun z => z.elim c32 c40)).trans ((ifp_t (by rw [ets, ett, aW_C hs, aW_C ht]; exact c62)).trans (ifp_f (by rw [ets, ett, aN_C hs, aN_C ht]; have b1 := hl.1; have b2 := hm.1; unfold inB at b1 b2; clear hret hcs C hl hm; grind))))) hb rfl (by decide) same.rf
          · skip
            refine x_aload_n C dX7_copy_65 rfl ?_
            refine x_iconst (v := 2) C dX7_copy_66 (by decide) ?_
            refine x_cvi C (k := 0) (c_X7_finding l g _ (k := 2) rfl (by decide) ) o_X7_finding mw_X7_61 rfl (C.lt rfl) rcv_0 rfl rfl rfl hcs dX7_copy_67 (fun rk M11 hk => ?_)
            refine hret _ _ _ _ dX7_copy_70 rfl ?_
            exact fi_C (k := 2) ((ifp_t ⟨cr2, cr9⟩).trans ((ifp_f (by rw [ets, ett, aW_C hs, aW_C ht]; exact fun z => z.elim c32 c40)).trans (ifp_f (by rw [ets, ett, aW_C hs, aW_C ht]; exact c62)))) hk rfl (by decide) same.rf

def rm_X7_load : Room := { frames := 2, cells := 0, slots := 0, locals := 43 }
set_option maxRecDepth 100000 in
set_option maxHeartbeats 4000000 in
theorem c_X7_load (l : Launch) (g : Gp) (M : Mem) (oa : okA (aC M))  (x : Int32) : Ki l g yX7_load cX7_load 5 .int rm_X7_load [.ref (gad g (0)), .int (x)] M (fun r M' => (r, aC M') = F_load x (aC M) ∧ sameC M M') := by
  refine Ki.of rfl rfl rfl (fun q C hret hcs => ?_)
  have o : okRow (vw M 1) := oa.1
  refine x_aload_n C dX7_load_0 rfl ?_
  refine x_iload_n C dX7_load_1 rfl ?_
  refine x_cvE C (k := 0) (c_X7_wrongSheet l g _ _ ) o_X7_wrongSheet mw_X7_212 rfl (C.lt rfl) rcv_0 rfl rfl rfl hcs dX7_load_2 ?_
  refine x_topi (fun x2 ex2 => ?_)
  refine x_istore_n C dX7_load_5 rfl ?_
  refine x_iload_n C dX7_load_6 rfl ?_
  refine x_if_lt (tgt := 16) C dX7_load_7 (by decide) (fun c7 => ?_) (fun c7 => ?_)
  · skip
    have c9 := c7
    have qq := wrgS_lt (by rw [← ex2]; exact c7)
    refine x_aload_n C dX7_load_16 rfl ?_
    refine x_iload_n C dX7_load_17 rfl ?_
    refine x_cvq C (k := 0) (c_X7_sheetAt l g _ _ ) o_X7_sheetAt mw_X7_204 rfl (C.lt rfl) rcv_0 rfl rfl rfl hcs dX7_load_18 (fun r2 M1 hr2 => ?_)
    obtain ⟨rfl, hr2⟩ := hr2
    rcases hr2 with ⟨cr2, rfl⟩ | ⟨s, hs, es, cr2, rfl⟩
    · skip
      exact absurd qq.1 cr2
    · skip
      have ets : tn x = s := by rw [es]; exact tn_nI (by omega)
      refine x_astore_n C dX7_load_21 rfl ?_
      refine x_iconst (v := 0) C dX7_load_22 (by decide) ?_
      refine x_istore C dX7_load_23 rfl ?_
      refine up_to 6 (P := fun i => ∀ M1 : Mem, vw M1 1 = loaS (vw M 1) (aX (aC M) s) i → same [1 + (2 + 4)] M M1 → (∀ j, j < i → (nI j < aN (aC M) s ∧ inB (aX (aC M) s j) 0 999)) → X (kmk l rm_X7_load g 5 q) M1 25 [some (.ref (gad g (0))), some (.int (x)), some (.int (x2)), some (.ref (gad g (29 + 2 * s))), some (.int (nI i))] []) (fun i hi ih M1 hv hs1 hst => ?_) 0 (by omega) M rfl same.rf (fun j hj => absurd hj (by omega))
      have hnum : ∀ k, k < 40 → M1 (29 + 2 * s + 1) k = aX (aC M) s k := fun k hk => by rw [aX_C hs hk, hs1 _ (by simp; omega)]
      have hlen : M1 (29 + 2 * s) 2 = aN (aC M) s := by rw [aN_C hs, hs1 _ (by simp; omega)]
      refine x_aload_n C dX7_load_25 rfl ?_
      refine x_ifnull C dX7_load_26 ?_
      refine x_iload C dX7_load_29 rfl ?_
      refine x_aload_n C dX7_load_31 rfl ?_
      refine x_getf (k := 29 + 2 * s) C bk_X4 (C.lt' (by omega)) rfl (ent_SO hs) 2 fw_X7_215 rfl rfl dX7_load_32 ?_
      refine x_icmp_ge (tgt := 90) C dX7_load_35 (by decide) (fun c35 => ?_) (fun c35 => ?_)
      · skip
        have cx : ¬ nI i < aN (aC M) s := by rw [← hlen]; exact Int32.not_lt.mpr c35
        refine x_iload C dX7_load_90 rfl ?_
        refine hret _ _ _ _ dX7_load_92 rfl ?_
        have eF : fstN (fun j => nI j < aN (aC M) s ∧ inB (aX (aC M) s j) 0 999) 6 = i := by
          first
            | exact fstN_hit hst (fun z => cz z.2) (by omega)
            | (subst h6; exact fstN_all hst)
            | (rcases Nat.lt_or_ge i 6 with z | z; exact fstN_hit hst (fun q => cx q.1) z; rw [show i = 6 by omega] at hst ⊢; exact fstN_all hst)
        refine st_C ?_ hv (hs1.mono (by simp [HOU]))
        refine (ifp_t (by rw [← ex2]; exact c9)).trans ?_
        rw [ets]
        exact congrArg (fun z => (nI z, wS (aC M) (loaS (vw M 1) (aX (aC M) s) z))) eF
      · skip
        have cy : nI i < aN (aC M) s := by rw [← hlen]; exact Int32.not_le.mp c35
        refine x_iload C dX7_load_38 rfl ?_
        refine x_bipush (v := 6) C dX7_load_40 (by decide) ?_
        refine x_icmp_ge (tgt := 90) C dX7_load_42 (by decide) (fun c42 => ?_) (fun c42 => ?_)
        · skip
          have h6 : i = 6 := lp_ge (N := 6) (by decide) hi c42
          refine x_iload C dX7_load_90 rfl ?_
          refine hret _ _ _ _ dX7_load_92 rfl ?_
          have eF : fstN (fun j => nI j < aN (aC M) s ∧ inB (aX (aC M) s j) 0 999) 6 = i := by
            first
              | exact fstN_hit hst (fun z => cz z.2) (by omega)
              | (subst h6; exact fstN_all hst)
              | (rcases Nat.lt_or_ge i 6 with z | z; exact fstN_hit hst (fun q => cx q.1) z; rw [show i = 6 by omega] at hst ⊢; exact fstN_all hst)
          refine st_C ?_ hv (hs1.mono (by simp [HOU]))
          refine (ifp_t (by rw [← ex2]; exact c9)).trans ?_
          rw [ets]
          exact congrArg (fun z => (nI z, wS (aC M) (loaS (vw M 1) (aX (aC M) s) z))) eF
        · skip
          have hlt := lp_lt (N := 6) (by decide) hi c42
          refine x_aload_n C dX7_load_45 rfl ?_
          refine x_getf (k := 0) C bk_X7 (C.lt rfl) rfl ent_0 0 fw_X7_10 rfl rfl dX7_load_46 ?_
          refine x_getf (k := 1) C bk_X1 (C.lt' (isH_lt (Or.inl rfl) 0 (by decide))) rfl (ent_H0 (Or.inl rfl)) 2 fw_X7_100 rfl rfl dX7_load_49 ?_
          refine x_iconst (v := 0) C dX7_load_52 (by decide) ?_
          refine x_aload_n C dX7_load_53 rfl ?_
          refine x_iload C dX7_load_54 rfl ?_
          refine x_cvE C (k := 29 + 2 * s) (c_X4_at l g (s := s) hs _ (i := i) rfl (by omega) ) o_X4_at mw_X7_218 rfl (C.lt' (by omega)) (rcv_S hs) rfl rfl rfl hcs dX7_load_56 ?_
          refine x_topE (y := aX (aC M) s i) (hnum i (by omega)) ?_
          refine x_cvB C (k := 1 + (2 + 1)) (c_X5_takes l g (h := 1) (j := 2) (Or.inl rfl) (by decide) _ _ _ ) o_X5_takes mw_X7_55 rfl (C.lt' (isH_lt (Or.inl rfl) (2 + 1) (by omega))) (rcv_HT (Or.inl rfl) 2 (by decide)) rfl rfl rfl hcs dX7_load_59 (fun c59 => ?_) (fun c59 => ?_)
          · skip
            have cz := (tk_0 (j := 2) (f := 0) (a := 0) (b := 999) rfl rfl (by decide)).mp c59
            refine x_if_eqF (tgt := 90) C dX7_load_62 (by decide) (by decide) ?_
            refine x_aload_n C dX7_load_65 rfl ?_
            refine x_getf (k := 0) C bk_X7 (C.lt rfl) rfl ent_0 0 fw_X7_10 rfl rfl dX7_load_66 ?_
            refine x_getf (k := 1) C bk_X1 (C.lt' (isH_lt (Or.inl rfl) 0 (by decide))) rfl (ent_H0 (Or.inl rfl)) 2 fw_X7_100 rfl rfl dX7_load_69 ?_
            refine x_iload C dX7_load_72 rfl ?_
            refine x_iconst (v := 0) C dX7_load_74 (by decide) ?_
            refine x_aload_n C dX7_load_75 rfl ?_
            refine x_iload C dX7_load_76 rfl ?_
            refine x_cvE C (k := 29 + 2 * s) (c_X4_at l g (s := s) hs _ (i := i) rfl (by omega) ) o_X4_at mw_X7_218 rfl (C.lt' (by omega)) (rcv_S hs) rfl rfl rfl hcs dX7_load_78 ?_
            refine x_topE (y := aX (aC M) s i) (hnum i (by omega)) ?_
            refine x_cvv C (k := 1 + (2 + 1)) (c_X5_put l g (h := 1) (j := 2) (Or.inl rfl) (by decide) _ _ _ _ ) o_X5_put mw_X7_162 rfl (C.lt' (isH_lt (Or.inl rfl) (2 + 1) (by omega))) (rcv_HT (Or.inl rfl) 2 (by decide)) rfl rfl rfl hcs dX7_load_81 (fun M2 h2 => ?_)
            refine x_iinc (v := nI (i + 1)) C dX7_load_84 rfl (nI_1 i) rfl ?_
            refine x_goto (tgt := 25) C dX7_load_87 (by decide) ?_
            have h2 := h2.trans (tabPut_e (j := 2) (a := i) (b := 0) rfl rfl (by decide) hlt (by decide))
            refine ih hlt M2 (by rw [h2, vw_w (by omega), hv]; rfl) (hs1.tr (by rw [h2]; exact same.up (by simp))) (fun j hj => by rcases Nat.lt_or_ge j i with z | z; exact hst j z; rw [show j = i by omega]; exact ⟨cy, cz⟩)
          · skip
            have cz := fun z => c59 ((tk_0 (j := 2) (f := 0) (a := 0) (b := 999) rfl rfl (by decide)).mpr z)
            refine x_if_eqT (tgt := 90) C dX7_load_62 (by decide) (by decide) ?_
            refine x_iload C dX7_load_90 rfl ?_
            refine hret _ _ _ _ dX7_load_92 rfl ?_
            have eF : fstN (fun j => nI j < aN (aC M) s ∧ inB (aX (aC M) s j) 0 999) 6 = i := by
              first
                | exact fstN_hit hst (fun z => cz z.2) (by omega)
                | (subst h6; exact fstN_all hst)
                | (rcases Nat.lt_or_ge i 6 with z | z; exact fstN_hit hst (fun q => cx q.1) z; rw [show i = 6 by omega] at hst ⊢; exact fstN_all hst)
            refine st_C ?_ hv (hs1.mono (by simp [HOU]))
            refine (ifp_t (by rw [← ex2]; exact c9)).trans ?_
            rw [ets]
            exact congrArg (fun z => (nI z, wS (aC M) (loaS (vw M 1) (aX (aC M) s) z))) eF
  · skip
    have c9 := c7
    have qq := wrgS_ge (by rw [← ex2]; exact c7)
    refine x_aload_n C dX7_load_10 rfl ?_
    refine x_iload_n C dX7_load_11 rfl ?_
    refine x_cvi C (k := 0) (c_X7_finding l g _ (k := (tn (wrgS (aC M) x))) (ex2.trans qq.1) qq.2 ) o_X7_finding mw_X7_61 rfl (C.lt rfl) rcv_0 rfl rfl rfl hcs dX7_load_12 (fun rf M2 hf => ?_)
    refine hret _ _ _ _ dX7_load_15 rfl ?_
    exact fi_C (k := tn (wrgS (aC M) x)) (ifp_f (by rw [← ex2]; exact c9)) hf (ex2.trans qq.1) qq.2 same.rf

def rm_X7_judge : Room := { frames := 4, cells := 0, slots := 0, locals := 92 }
set_option maxRecDepth 100000 in
set_option maxHeartbeats 4000000 in
theorem c_X7_judge (l : Launch) (g : Gp) (M : Mem) (oa : okA (aC M))  (x : Int32) : Ki l g yX7_judge cX7_judge 7 .int rm_X7_judge [.ref (gad g (0)), .int (x)] M (fun r M' => (r, aC M') = F_judge x (aC M) ∧ sameC M M') := by
  refine Ki.of rfl rfl rfl (fun q C hret hcs => ?_)
  have o : okRow (vw M 1) := oa.1
  refine x_aload_n C dX7_judge_0 rfl ?_
  refine x_iload_n C dX7_judge_1 rfl ?_
  refine x_cvE C (k := 0) (c_X7_wrongSheet l g _ _ ) o_X7_wrongSheet mw_X7_212 rfl (C.lt rfl) rcv_0 rfl rfl rfl hcs dX7_judge_2 ?_
  refine x_topi (fun x2 ex2 => ?_)
  refine x_istore_n C dX7_judge_5 rfl ?_
  refine x_iload_n C dX7_judge_6 rfl ?_
  refine x_if_lt (tgt := 16) C dX7_judge_7 (by decide) (fun c7 => ?_) (fun c7 => ?_)
  · skip
    have c9 := c7
    have qq := wrgS_lt (by rw [← ex2]; exact c7)
    refine x_aload_n C dX7_judge_16 rfl ?_
    refine x_iload_n C dX7_judge_17 rfl ?_
    refine x_cvq C (k := 0) (c_X7_sheetAt l g _ _ ) o_X7_sheetAt mw_X7_204 rfl (C.lt rfl) rcv_0 rfl rfl rfl hcs dX7_judge_18 (fun r2 M1 hr2 => ?_)
    obtain ⟨rfl, hr2⟩ := hr2
    rcases hr2 with ⟨cr2, rfl⟩ | ⟨s, hs, es, cr2, rfl⟩
    · skip
      exact absurd qq.1 cr2
    · skip
      have ets : tn x = s := by rw [es]; exact tn_nI (by omega)
      have hl := inB_tn (n := 40) (by decide) (okSh_C oa hs).1
      have hN : tn (aN (aC M) s) = tn (M (29 + 2 * s) 2) := by rw [aN_C hs]
      refine x_astore_n C dX7_judge_21 rfl ?_
      refine x_iconst (v := 0) C dX7_judge_22 (by decide) ?_
      refine x_istore C dX7_judge_23 rfl ?_
      refine x_iconst (v := 0) C dX7_judge_25 (by decide) ?_
      refine x_istore C dX7_judge_26 rfl ?_
      refine up_to (tn (M (29 + 2 * s) 2)) (P := fun i => (∀ j, j < i → jdgP (vw M 1) (aX (aC M) s) j) → X (kmk l rm_X7_judge g 7 q) M 28 [some (.ref (gad g (0))), some (.int (x)), some (.int (x2)), some (.ref (gad g (29 + 2 * s))), some (.int (nI (jdgM (aX (aC M) s) i))), some (.int (nI i)), none] []) (fun i hi ih hst => ?_) 0 (Nat.zero_le _) (fun j hj => absurd hj (by omega))
      refine x_aload_n C dX7_judge_28 rfl ?_
      refine x_ifnull C dX7_judge_29 ?_
      refine x_iload C dX7_judge_32 rfl ?_
      refine x_aload_n C dX7_judge_34 rfl ?_
      refine x_getf (k := 29 + 2 * s) C bk_X4 (C.lt' (by omega)) rfl (ent_SO hs) 2 fw_X7_215 rfl rfl dX7_judge_35 ?_
      refine x_icmp_ge (tgt := 128) C dX7_judge_38 (by decide) (fun c38 => ?_) (fun c38 => ?_)
      · skip
        have hlt := lp_ge (N := tn (M (29 + 2 * s) 2)) (by omega) hi (by rw [← hl.2]; exact c38)
        refine x_iconst (v := 0) C dX7_judge_128 (by decide) ?_
        refine hret _ _ _ _ dX7_judge_129 rfl ?_
        subst hlt
        have eF : fstN (jdgP (vw M 1) (aX (aC M) s)) (tn (M (29 + 2 * s) 2)) = tn (M (29 + 2 * s) 2) := fstN_all hst
        refine pu_C0 ((ifp_t (by rw [← ex2]; exact c9)).trans ?_)
        rw [ets, hN]
        exact ifp_f (show ¬ fstN (jdgP (vw M 1) (aX (aC M) s)) (tn (M (29 + 2 * s) 2)) < _ by omega)
      · skip
        have hlt := lp_lt (N := tn (M (29 + 2 * s) 2)) (by omega) hi (by rw [← hl.2]; exact c38)
        have hm8 := jdgM_lt (aX (aC M) s) i (fun k hk => (eggP_tn (hst k hk).1).1)
        refine x_aload_n C dX7_judge_41 rfl ?_
        refine x_iload C dX7_judge_42 rfl ?_
        refine x_cvE C (k := 29 + 2 * s) (c_X4_at l g (s := s) hs _ (i := i) rfl (by omega) ) o_X4_at mw_X7_218 rfl (C.lt' (by omega)) (rcv_S hs) rfl rfl rfl hcs dX7_judge_44 ?_
        refine x_topE (y := aX (aC M) s i) ((aX_C hs (by omega)).symm) ?_
        refine x_istore C dX7_judge_47 rfl ?_
        refine x_aload_n C dX7_judge_49 rfl ?_
        refine x_getf (k := 0) C bk_X7 (C.lt rfl) rfl ent_0 0 fw_X7_10 rfl rfl dX7_judge_50 ?_
        refine x_iload C dX7_judge_53 rfl ?_
        refine x_cvB C (k := 1) (c_X1_hasEgg l g (h := 1) (Or.inl rfl) _ _ ) o_X1_hasEgg mw_X7_73 rfl (C.lt' (isH_lt (Or.inl rfl) 0 (by decide))) (rcv_H (Or.inl rfl)) rfl rfl rfl hcs dX7_judge_55 (fun c55 => ?_) (fun c55 => ?_)
        · skip
          obtain ⟨he, ex, htr⟩ := eggP_tn c55
          refine x_if_eqF (tgt := 71) C dX7_judge_58 (by decide) (by decide) ?_
          refine x_iload C dX7_judge_61 rfl ?_
          refine x_iconst (v := 1) C dX7_judge_63 (by decide) ?_
          refine x_iload C dX7_judge_64 rfl ?_
          refine x_ishl C dX7_judge_66 ?_
          refine x_iand C dX7_judge_67 ?_
          refine x_if_eq (tgt := 76) C dX7_judge_68 (by decide) (fun c68 => ?_) (fun c68 => ?_)
          · skip
            have c68 : ¬ (jdgM (aX (aC M) s) i).testBit (tn (aX (aC M) s i)) = true := by rw [ex] at c68; rw [and_bit he hm8] at c68; exact c68
            have hnew : ∀ k, k < i → ¬ aX (aC M) s k = aX (aC M) s i := fun k hk z => c68 ((jdg_bit _ _ i).mpr ⟨k, hk, by rw [z]⟩)
            refine x_iload C dX7_judge_76 rfl ?_
            refine x_if_le (tgt := 113) C dX7_judge_78 (by decide) (fun c78 => ?_) (fun c78 => ?_)
            · skip
              have i0 : i = 0 := by rcases Nat.eq_zero_or_pos i with z | z; exact z; exact absurd c78 (Int32.not_le.mpr ((nI_ltI (a := 0) (by decide) (by omega)).mpr z))
              refine x_iload C dX7_judge_113 rfl ?_
              refine x_iconst (v := 1) C dX7_judge_115 (by decide) ?_
              refine x_iload C dX7_judge_116 rfl ?_
              refine x_ishl C dX7_judge_118 ?_
              refine x_ior C dX7_judge_119 ?_
              refine x_topE (y := nI (jdgM (aX (aC M) s) (i + 1))) ((congrArg (fun z => nI (jdgM (aX (aC M) s) i) ||| ((1 : Int32) <<< (z &&& 31))) ex).trans (or_pow he)) ?_
              refine x_istore C dX7_judge_120 rfl ?_
              refine x_iinc (v := nI (i + 1)) C dX7_judge_122 rfl (nI_1 i) rfl ?_
              refine x_goto (tgt := 28) C dX7_judge_125 (by decide) ?_
              refine X.le (ls' := [some (.ref (gad g (0))), some (.int (x)), some (.int (x2)), some (.ref (gad g (29 + 2 * s))), some (.int (nI (jdgM (aX (aC M) s) (i + 1)))), some (.int (nI (i + 1))), none]) (lle_s rfl (lle_s rfl (lle_s rfl (lle_s rfl (lle_s rfl (lle_s rfl (lle_n lle_e))))))) ?_
              exact ih hlt (fun j hj => by rcases Nat.lt_or_ge j i with z | z; exact hst j z; rw [show j = i by omega]; exact ⟨c55, hnew, fun k hk => by first | (exfalso; omega) | (rw [show k = p by omega]; exact cmp)⟩)
            · skip
              obtain ⟨p, hp⟩ : ∃ p, i = p + 1 := ⟨i - 1, by rcases Nat.eq_zero_or_pos i with z | z; exact absurd (by rw [z]; decide) c78; omega⟩
              obtain ⟨hep, exp, htp⟩ := eggP_tn (hst p (by omega)).1
              refine x_aload_n C dX7_judge_81 rfl ?_
              refine x_getf (k := 0) C bk_X7 (C.lt rfl) rfl ent_0 0 fw_X7_10 rfl rfl dX7_judge_82 ?_
              refine x_iload C dX7_judge_85 rfl ?_
              refine x_cvE C (k := 1) (c_X1_minutesOf l g (h := 1) (Or.inl rfl) _ (e := (tn (aX (aC M) s i))) ex he o ) o_X1_minutesOf mw_X7_81 rfl (C.lt' (isH_lt (Or.inl rfl) 0 (by decide))) (rcv_H (Or.inl rfl)) rfl rfl rfl hcs dX7_judge_87 ?_
              refine x_aload_n C dX7_judge_90 rfl ?_
              refine x_getf (k := 0) C bk_X7 (C.lt rfl) rfl ent_0 0 fw_X7_10 rfl rfl dX7_judge_91 ?_
              refine x_aload_n C dX7_judge_94 rfl ?_
              refine x_iload C dX7_judge_95 rfl ?_
              refine x_iconst (v := 1) C dX7_judge_97 (by decide) ?_
              refine x_isub C dX7_judge_98 ?_
              refine x_topE (y := nI p) (by rw [hp]; exact nI_pred p) ?_
              refine x_cvE C (k := 29 + 2 * s) (c_X4_at l g (s := s) hs _ (i := p) rfl (by omega) ) o_X4_at mw_X7_218 rfl (C.lt' (by omega)) (rcv_S hs) rfl rfl rfl hcs dX7_judge_99 ?_
              refine x_topE (y := aX (aC M) s p) ((aX_C hs (by omega)).symm) ?_
              refine x_cvE C (k := 1) (c_X1_minutesOf l g (h := 1) (Or.inl rfl) _ (e := (tn (aX (aC M) s p))) exp hep o ) o_X1_minutesOf mw_X7_81 rfl (C.lt' (isH_lt (Or.inl rfl) 0 (by decide))) (rcv_H (Or.inl rfl)) rfl rfl rfl hcs dX7_judge_102 ?_
              refine x_icmp_le (tgt := 113) C dX7_judge_105 (by decide) (fun c105 => ?_) (fun c105 => ?_)
              · skip
                have cmp : ¬ minE (vw M 1) (tn (aX (aC M) s p)) < minE (vw M 1) (tn (aX (aC M) s i)) := by rw [← mE_minE hep o, ← mE_minE he o]; exact Int32.not_lt.mpr c105
                refine x_iload C dX7_judge_113 rfl ?_
                refine x_iconst (v := 1) C dX7_judge_115 (by decide) ?_
                refine x_iload C dX7_judge_116 rfl ?_
                refine x_ishl C dX7_judge_118 ?_
                refine x_ior C dX7_judge_119 ?_
                refine x_topE (y := nI (jdgM (aX (aC M) s) (i + 1))) ((congrArg (fun z => nI (jdgM (aX (aC M) s) i) ||| ((1 : Int32) <<< (z &&& 31))) ex).trans (or_pow he)) ?_
                refine x_istore C dX7_judge_120 rfl ?_
                refine x_iinc (v := nI (i + 1)) C dX7_judge_122 rfl (nI_1 i) rfl ?_
                refine x_goto (tgt := 28) C dX7_judge_125 (by decide) ?_
                refine X.le (ls' := [some (.ref (gad g (0))), some (.int (x)), some (.int (x2)), some (.ref (gad g (29 + 2 * s))), some (.int (nI (jdgM (aX (aC M) s) (i + 1)))), some (.int (nI (i + 1))), none]) (lle_s rfl (lle_s rfl (lle_s rfl (lle_s rfl (lle_s rfl (lle_s rfl (lle_n lle_e))))))) ?_
                exact ih hlt (fun j hj => by rcases Nat.lt_or_ge j i with z | z; exact hst j z; rw [show j = i by omega]; exact ⟨c55, hnew, fun k hk => by first | (exfalso; omega) | (rw [show k = p by omega]; exact cmp)⟩)
              · skip
                have cmp : minE (vw M 1) (tn (aX (aC M) s p)) < minE (vw M 1) (tn (aX (aC M) s i)) := by rw [← mE_minE hep o, ← mE_minE he o]; exact Int32.not_le.mp c105
                refine x_iconst (v := 1) C dX7_judge_108 (by decide) ?_
                refine x_iload C dX7_judge_109 rfl ?_
                refine x_iadd C dX7_judge_111 ?_
                refine hret _ _ _ _ dX7_judge_112 rfl ?_
                have eF : fstN (jdgP (vw M 1) (aX (aC M) s)) (tn (M (29 + 2 * s) 2)) = i := fstN_hit hst (fun z => z.2.2 p hp cmp) hlt
                refine pu_C0 ((ifp_t (by rw [← ex2]; exact c9)).trans ?_)
                rw [ets, hN]
                refine (ifp_t (show fstN (jdgP (vw M 1) (aX (aC M) s)) (tn (M (29 + 2 * s) 2)) < _ by omega)).trans ?_
                exact (congrArg (fun z => (nI (1 + z), aC M)) eF).trans (by rw [← nI_add]; rfl)
          · skip
            have c68 : (jdgM (aX (aC M) s) i).testBit (tn (aX (aC M) s i)) = true := by rw [ex] at c68; rw [and_bit he hm8] at c68; exact Classical.not_not.mp c68
            refine x_iconst (v := 1) C dX7_judge_71 (by decide) ?_
            refine x_iload C dX7_judge_72 rfl ?_
            refine x_iadd C dX7_judge_74 ?_
            refine hret _ _ _ _ dX7_judge_75 rfl ?_
            have eF : fstN (jdgP (vw M 1) (aX (aC M) s)) (tn (M (29 + 2 * s) 2)) = i := fstN_hit hst (fun z => by first | exact c55 z.1 | (obtain ⟨k, hk, e⟩ := (jdg_bit _ _ i).mp c68; exact z.2.1 k hk ((eggP_tn (hst k hk).1).2.1.trans ((congrArg nI e).trans ex.symm)))) hlt
            refine pu_C0 ((ifp_t (by rw [← ex2]; exact c9)).trans ?_)
            rw [ets, hN]
            refine (ifp_t (show fstN (jdgP (vw M 1) (aX (aC M) s)) (tn (M (29 + 2 * s) 2)) < _ by omega)).trans ?_
            exact (congrArg (fun z => (nI (1 + z), aC M)) eF).trans (by rw [← nI_add]; rfl)
        · skip
          refine x_if_eqT (tgt := 71) C dX7_judge_58 (by decide) (by decide) ?_
          refine x_iconst (v := 1) C dX7_judge_71 (by decide) ?_
          refine x_iload C dX7_judge_72 rfl ?_
          refine x_iadd C dX7_judge_74 ?_
          refine hret _ _ _ _ dX7_judge_75 rfl ?_
          have eF : fstN (jdgP (vw M 1) (aX (aC M) s)) (tn (M (29 + 2 * s) 2)) = i := fstN_hit hst (fun z => by first | exact c55 z.1 | (obtain ⟨k, hk, e⟩ := (jdg_bit _ _ i).mp c68; exact z.2.1 k hk ((eggP_tn (hst k hk).1).2.1.trans ((congrArg nI e).trans ex.symm)))) hlt
          refine pu_C0 ((ifp_t (by rw [← ex2]; exact c9)).trans ?_)
          rw [ets, hN]
          refine (ifp_t (show fstN (jdgP (vw M 1) (aX (aC M) s)) (tn (M (29 + 2 * s) 2)) < _ by omega)).trans ?_
          exact (congrArg (fun z => (nI (1 + z), aC M)) eF).trans (by rw [← nI_add]; rfl)
  · skip
    have c9 := c7
    have qq := wrgS_ge (by rw [← ex2]; exact c7)
    refine x_aload_n C dX7_judge_10 rfl ?_
    refine x_iload_n C dX7_judge_11 rfl ?_
    refine x_cvi C (k := 0) (c_X7_finding l g _ (k := (tn (wrgS (aC M) x))) (ex2.trans qq.1) qq.2 ) o_X7_finding mw_X7_61 rfl (C.lt rfl) rcv_0 rfl rfl rfl hcs dX7_judge_12 (fun rf M2 hf => ?_)
    refine hret _ _ _ _ dX7_judge_15 rfl ?_
    exact fi_C (k := tn (wrgS (aC M) x)) (ifp_f (by rw [← ex2]; exact c9)) hf (ex2.trans qq.1) qq.2 same.rf

theorem aK_C {M : Mem} : aK (aC M) = if M 0 7 = 0 then none else some (vw M 9) := rfl
theorem aC_K {M M' : Mem} {K : Option Row} (hK : (if M' 0 7 = 0 then none else some (vw M' 9)) = K) (hs : same [0, 9, 9 + (0 + 4), 9 + (1 + 4), 9 + (2 + 4), 9 + 7] M M') : aC M' = wK (aC M) K := by
  have hh : ∀ k, (0 < k ∧ k < 9) ∨ 17 ≤ k → M' k = M k := fun k hk => hs k (by simp; omega)
  unfold aC wK
  rw [vw_eqK (h := 1) (hh _ (by decide)) (hh _ (by decide)) (hh _ (by decide)) (hh _ (by decide)) (hh _ (by decide)), hK, hh 39 (by decide), hh 38 (by decide), hh 37 (by decide), shC_eq (fun k h1 h2 => hh k (by omega))]
theorem im_C {M M1 : Mem} {r : Int32} {K : Option Row} {P : Int32 × Abs} (h : P = (r, wK (aC M) K)) (hK : (if M1 0 7 = 0 then none else some (vw M1 9)) = K) (hs : same [0, 9, 9 + (0 + 4), 9 + (1 + 4), 9 + (2 + 4), 9 + 7] M M1) : (r, aC M1) = P ∧ sameC M M1 := ⟨by rw [h, aC_K hK hs], hs.C (by decide)⟩
theorem F_count_out {w : Int32} {A : Abs} (h : w.toInt < 0 ∨ 7 < w.toInt) : F_count w A = noA A 0 := by
  unfold F_count
  rw [if_neg (sw_ne h (by decide) (by decide)), if_neg (sw_ne h (by decide) (by decide)), if_neg (sw_ne h (by decide) (by decide)), if_neg (sw_ne h (by decide) (by decide)), if_neg (sw_ne h (by decide) (by decide)), if_neg (sw_ne h (by decide) (by decide)), if_neg (sw_ne h (by decide) (by decide)), if_neg (sw_ne h (by decide) (by decide))]
def rm_X7_image : Room := { frames := 3, cells := 0, slots := 0, locals := 64 }
set_option maxRecDepth 100000 in
set_option maxHeartbeats 4000000 in
theorem c_X7_image (l : Launch) (g : Gp) (M : Mem) (oa : okA (aC M))  : Ki l g yX7_image cX7_image 1 .int rm_X7_image [.ref (gad g (0))] M (fun r M' => (r, aC M') = F_image (aC M) ∧ sameC M M') := by
  refine Ki.of rfl rfl rfl (fun q C hret hcs => ?_)
  have o : okRow (vw M 1) := oa.1
  refine x_aload_n C dX7_image_0 rfl ?_
  refine x_getf (k := 0) C bk_X7 (C.lt rfl) rfl ent_0 1 fw_X7_16 rfl rfl dX7_image_1 ?_
  refine x_aload_n C dX7_image_4 rfl ?_
  refine x_getf (k := 0) C bk_X7 (C.lt rfl) rfl ent_0 0 fw_X7_10 rfl rfl dX7_image_5 ?_
  refine x_cvv C (k := 9) (c_X1_become l g (h := 9) (h2 := 1) (Or.inr (Or.inl rfl)) (Or.inl rfl) (by decide) _ ) o_X1_become mw_X7_147 rfl (C.lt' (isH_lt (Or.inr (Or.inl rfl)) 0 (by decide))) (rcv_H (Or.inr (Or.inl rfl))) rfl rfl rfl hcs dX7_image_8 (fun M1 h1 => ?_)
  refine x_aload_n C dX7_image_11 rfl ?_
  refine x_iconst (v := 1) C dX7_image_12 (by decide) ?_
  refine x_putf (k := 0) C bk_X7 (C.lt rfl) rfl ent_0 7 fw_X7_47 rfl (fun _ => rfl) rfl rfl rfl rfl dX7_image_13 ?_
  refine x_memI (fun M2 eM2 => ?_)
  refine x_iconst (v := 1) C dX7_image_16 (by decide) ?_
  refine hret _ _ _ _ dX7_image_17 rfl ?_
  refine im_C (K := some (vw M 1)) rfl ?_ ((h1.2.mono (by simp)).tr (by rw [eM2]; exact same.up (by simp)))
  rw [show M2 0 7 = 1 by rw [eM2]; exact up_ss, if_neg (by decide), vw_same (show same [0] M1 M2 by rw [eM2]; exact same.up (by simp)) (by decide) (by decide) (by decide) (by decide) (by decide), h1.1]

def rm_X7_undo : Room := { frames := 3, cells := 0, slots := 0, locals := 64 }
set_option maxRecDepth 100000 in
set_option maxHeartbeats 4000000 in
theorem c_X7_undo (l : Launch) (g : Gp) (M : Mem) (oa : okA (aC M))  : Ki l g yX7_undo cX7_undo 1 .int rm_X7_undo [.ref (gad g (0))] M (fun r M' => (r, aC M') = F_undo (aC M) ∧ sameC M M') := by
  refine Ki.of rfl rfl rfl (fun q C hret hcs => ?_)
  have o : okRow (vw M 1) := oa.1
  refine x_aload_n C dX7_undo_0 rfl ?_
  refine x_getf (k := 0) C bk_X7 (C.lt rfl) rfl ent_0 7 fw_X7_47 rfl rfl dX7_undo_1 ?_
  refine x_if_ne (tgt := 13) C dX7_undo_4 (by decide) (fun c4 => ?_) (fun c4 => ?_)
  · skip
    refine x_aload_n C dX7_undo_13 rfl ?_
    refine x_getf (k := 0) C bk_X7 (C.lt rfl) rfl ent_0 0 fw_X7_10 rfl rfl dX7_undo_14 ?_
    refine x_aload_n C dX7_undo_17 rfl ?_
    refine x_getf (k := 0) C bk_X7 (C.lt rfl) rfl ent_0 1 fw_X7_16 rfl rfl dX7_undo_18 ?_
    refine x_cvv C (k := 1) (c_X1_become l g (h := 1) (h2 := 9) (Or.inl rfl) (Or.inr (Or.inl rfl)) (by decide) _ ) o_X1_become mw_X7_147 rfl (C.lt' (isH_lt (Or.inl rfl) 0 (by decide))) (rcv_H (Or.inl rfl)) rfl rfl rfl hcs dX7_undo_21 (fun M1 h1 => ?_)
    refine x_aload_n C dX7_undo_24 rfl ?_
    refine x_getf (k := 0) C bk_X7 (C.lt rfl) rfl ent_0 0 fw_X7_10 rfl rfl dX7_undo_25 ?_
    refine x_getf (k := 1) C bk_X1 (C.lt' (isH_lt (Or.inl rfl) 0 (by decide))) rfl (ent_H0 (Or.inl rfl)) 4 fw_X7_122 rfl rfl dX7_undo_28 ?_
    refine hret _ _ _ _ dX7_undo_31 rfl ?_
    refine st_C (S := vw M 9) ?_ h1.1 (h1.2.mono (by simp [HOU]))
    rw [show M1 1 4 = vw M1 1 0 from rfl, h1.1]
    unfold F_undo; rw [aK_C, if_neg c4]
  · skip
    refine x_aload_n C dX7_undo_7 rfl ?_
    refine x_iconst (v := 3) C dX7_undo_8 (by decide) ?_
    refine x_cvi C (k := 0) (c_X7_finding l g _ (k := 3) rfl (by decide) ) o_X7_finding mw_X7_61 rfl (C.lt rfl) rcv_0 rfl rfl rfl hcs dX7_undo_9 (fun rf M1 hf => ?_)
    refine hret _ _ _ _ dX7_undo_12 rfl ?_
    exact fi_C (k := 3) (by unfold F_undo; rw [aK_C, if_pos c4]) hf rfl (by decide) same.rf

def rm_X7_tear : Room := { frames := 0, cells := 0, slots := 0, locals := 0 }
set_option maxRecDepth 100000 in
set_option maxHeartbeats 4000000 in
theorem c_X7_tear (l : Launch) (g : Gp) (M : Mem) (oa : okA (aC M))  : Ki l g yX7_tear cX7_tear 2 .int rm_X7_tear [.ref (gad g (0))] M (fun r M' => (r, aC M') = F_tear (aC M) ∧ sameC M M') := by
  refine Ki.of rfl rfl rfl (fun q C hret hcs => ?_)
  have o : okRow (vw M 1) := oa.1
  refine x_aload_n C dX7_tear_0 rfl ?_
  refine x_getf (k := 0) C bk_X7 (C.lt rfl) rfl ent_0 7 fw_X7_47 rfl rfl dX7_tear_1 ?_
  refine x_if_eq (tgt := 11) C dX7_tear_4 (by decide) (fun c4 => ?_) (fun c4 => ?_)
  · skip
    refine x_iconst (v := 0) C dX7_tear_11 (by decide) ?_
    refine x_istore_n C dX7_tear_12 rfl ?_
    refine x_aload_n C dX7_tear_13 rfl ?_
    refine x_iconst (v := 0) C dX7_tear_14 (by decide) ?_
    refine x_putf (k := 0) C bk_X7 (C.lt rfl) rfl ent_0 7 fw_X7_47 rfl (fun _ => rfl) rfl rfl rfl rfl dX7_tear_15 ?_
    refine x_memI (fun M1 eM1 => ?_)
    refine x_iload_n C dX7_tear_18 rfl ?_
    refine hret _ _ _ _ dX7_tear_19 rfl ?_
    refine im_C (K := none) ?_ (by rw [eM1, up_ss]; rfl) (by rw [eM1]; exact same.up (by simp))
    unfold F_tear; rw [aK_C]; first | rw [if_neg c4] | rw [if_pos c4]
  · skip
    refine x_iconst (v := 1) C dX7_tear_7 (by decide) ?_
    refine x_goto (tgt := 12) C dX7_tear_8 (by decide) ?_
    refine x_istore_n C dX7_tear_12 rfl ?_
    refine x_aload_n C dX7_tear_13 rfl ?_
    refine x_iconst (v := 0) C dX7_tear_14 (by decide) ?_
    refine x_putf (k := 0) C bk_X7 (C.lt rfl) rfl ent_0 7 fw_X7_47 rfl (fun _ => rfl) rfl rfl rfl rfl dX7_tear_15 ?_
    refine x_memI (fun M1 eM1 => ?_)
    refine x_iload_n C dX7_tear_18 rfl ?_
    refine hret _ _ _ _ dX7_tear_19 rfl ?_
    refine im_C (K := none) ?_ (by rw [eM1, up_ss]; rfl) (by rw [eM1]; exact same.up (by simp))
    unfold F_tear; rw [aK_C]; first | rw [if_neg c4] | rw [if_pos c4]

def rm_X7_count : Room := { frames := 5, cells := 0, slots := 0, locals := 114 }
set_option maxRecDepth 100000 in
set_option maxHeartbeats 4000000 in
theorem c_X7_count (l : Launch) (g : Gp) (M : Mem) (oa : okA (aC M))  (w : Int32) : Ki l g yX7_count cX7_count 2 .int rm_X7_count [.ref (gad g (0)), .int (w)] M (fun r M' => (r, aC M') = F_count w (aC M) ∧ sameC M M') := by
  refine Ki.of rfl rfl rfl (fun q C hret hcs => ?_)
  have o : okRow (vw M 1) := oa.1
  refine x_iload_n C dX7_count_0 rfl ?_
  rcases sw_split (w) 0 7 with c1 | c1
  · skip
    refine x_tableOut (tgt := 118) C dX7_count_1 c1 (by decide) ?_
    refine x_aload_n C dX7_count_118 rfl ?_
    refine x_iconst (v := 0) C dX7_count_119 (by decide) ?_
    refine x_cvi C (k := 0) (c_X7_finding l g _ (k := 0) rfl (by decide) ) o_X7_finding mw_X7_61 rfl (C.lt rfl) rcv_0 rfl rfl rfl hcs dX7_count_120 (fun rf M1 hf => ?_)
    refine hret _ _ _ _ dX7_count_123 rfl ?_
    exact fi_C (k := 0) (F_count_out c1) hf rfl (by decide) same.rf
  · skip
    by_cases c1_0 : w = 0
    · skip
      refine x_tableIn (tgt := 48) (off := 47) C dX7_count_1 c1.1 c1.2 (by rw [c1_0]; decide) (by decide) ?_
      refine x_aload_n C dX7_count_48 rfl ?_
      refine x_getf (k := 0) C bk_X7 (C.lt rfl) rfl ent_0 0 fw_X7_10 rfl rfl dX7_count_49 ?_
      refine x_getf (k := 1) C bk_X1 (C.lt' (isH_lt (Or.inl rfl) 0 (by decide))) rfl (ent_H0 (Or.inl rfl)) 4 fw_X7_122 rfl rfl dX7_count_52 ?_
      refine hret _ _ _ _ dX7_count_55 rfl ?_
      exact pu_C0 (if_pos c1_0)
    by_cases c1_1 : w = 1
    · skip
      refine x_tableIn (tgt := 56) (off := 55) C dX7_count_1 c1.1 c1.2 (by rw [c1_1]; decide) (by decide) ?_
      refine x_aload_n C dX7_count_56 rfl ?_
      refine x_getf (k := 0) C bk_X7 (C.lt rfl) rfl ent_0 0 fw_X7_10 rfl rfl dX7_count_57 ?_
      refine x_cvE C (k := 1) (c_X1_places l g (h := 1) (Or.inl rfl) _ ) o_X1_places mw_X7_130 rfl (C.lt' (isH_lt (Or.inl rfl) 0 (by decide))) (rcv_H (Or.inl rfl)) rfl rfl rfl hcs dX7_count_60 ?_
      refine x_csE C (c_J6_bitCount_0f7a4 l g _ (s := (eggN (vw M 1) 8)) rfl (eggN_lt _ 8) ) o_J6_bitCount_0f7a4 mw_X7_133 rfl rfl rfl rfl hcs dX7_count_63 ?_
      refine hret _ _ _ _ dX7_count_66 rfl ?_
      exact pu_C0 ((if_neg c1_0).trans (if_pos c1_1))
    by_cases c1_2 : w = 2
    · skip
      refine x_tableIn (tgt := 67) (off := 66) C dX7_count_1 c1.1 c1.2 (by rw [c1_2]; decide) (by decide) ?_
      refine x_aload_n C dX7_count_67 rfl ?_
      refine x_getf (k := 0) C bk_X7 (C.lt rfl) rfl ent_0 0 fw_X7_10 rfl rfl dX7_count_68 ?_
      refine x_cvE C (k := 1) (c_X1_doneWorks l g (h := 1) (Or.inl rfl) _ o ) o_X1_doneWorks mw_X7_141 rfl (C.lt' (isH_lt (Or.inl rfl) 0 (by decide))) (rcv_H (Or.inl rfl)) rfl rfl rfl hcs dX7_count_71 ?_
      refine x_csE C (c_J6_bitCount_0f7a4 l g _ (s := (doneN (vw M 1) 6)) rfl (by have := doneN_lt (vw M 1) 6; omega) ) o_J6_bitCount_0f7a4 mw_X7_133 rfl rfl rfl rfl hcs dX7_count_74 ?_
      refine hret _ _ _ _ dX7_count_77 rfl ?_
      exact pu_C0 ((if_neg c1_0).trans ((if_neg c1_1).trans (if_pos c1_2)))
    by_cases c1_3 : w = 3
    · skip
      refine x_tableIn (tgt := 78) (off := 77) C dX7_count_1 c1.1 c1.2 (by rw [c1_3]; decide) (by decide) ?_
      refine x_aload_n C dX7_count_78 rfl ?_
      refine x_getf (k := 0) C bk_X7 (C.lt rfl) rfl ent_0 0 fw_X7_10 rfl rfl dX7_count_79 ?_
      refine x_getf (k := 1) C bk_X1 (C.lt' (isH_lt (Or.inl rfl) 0 (by decide))) rfl (ent_H0 (Or.inl rfl)) 5 fw_X7_144 rfl rfl dX7_count_82 ?_
      refine hret _ _ _ _ dX7_count_85 rfl ?_
      exact pu_C0 ((if_neg c1_0).trans ((if_neg c1_1).trans ((if_neg c1_2).trans (if_pos c1_3))))
    by_cases c1_4 : w = 4
    · skip
      refine x_tableIn (tgt := 86) (off := 85) C dX7_count_1 c1.1 c1.2 (by rw [c1_4]; decide) (by decide) ?_
      refine x_aload_n C dX7_count_86 rfl ?_
      refine x_getf (k := 0) C bk_X7 (C.lt rfl) rfl ent_0 0 fw_X7_10 rfl rfl dX7_count_87 ?_
      refine x_cvE C (k := 1) (c_X1_allMinutes l g (h := 1) (Or.inl rfl) _ o ) o_X1_allMinutes mw_X7_138 rfl (C.lt' (isH_lt (Or.inl rfl) 0 (by decide))) (rcv_H (Or.inl rfl)) rfl rfl rfl hcs dX7_count_90 ?_
      refine hret _ _ _ _ dX7_count_93 rfl ?_
      exact pu_C0 ((if_neg c1_0).trans ((if_neg c1_1).trans ((if_neg c1_2).trans ((if_neg c1_3).trans (if_pos c1_4)))))
    by_cases c1_5 : w = 5
    · skip
      refine x_tableIn (tgt := 94) (off := 93) C dX7_count_1 c1.1 c1.2 (by rw [c1_5]; decide) (by decide) ?_
      refine x_aload_n C dX7_count_94 rfl ?_
      refine x_getf (k := 0) C bk_X7 (C.lt rfl) rfl ent_0 5 fw_X7_39 rfl rfl dX7_count_95 ?_
      refine x_getf (k := 37) C bk_X6 (C.lt rfl) rfl ent_37 1 fw_X7_230 rfl rfl dX7_count_98 ?_
      refine hret _ _ _ _ dX7_count_101 rfl ?_
      exact pu_C0 ((if_neg c1_0).trans ((if_neg c1_1).trans ((if_neg c1_2).trans ((if_neg c1_3).trans ((if_neg c1_4).trans (if_pos c1_5))))))
    by_cases c1_6 : w = 6
    · skip
      refine x_tableIn (tgt := 102) (off := 101) C dX7_count_1 c1.1 c1.2 (by rw [c1_6]; decide) (by decide) ?_
      refine x_aload_n C dX7_count_102 rfl ?_
      refine x_getf (k := 0) C bk_X7 (C.lt rfl) rfl ent_0 0 fw_X7_10 rfl rfl dX7_count_103 ?_
      refine x_getf (k := 1) C bk_X1 (C.lt' (isH_lt (Or.inl rfl) 0 (by decide))) rfl (ent_H0 (Or.inl rfl)) 6 fw_X7_227 rfl rfl dX7_count_106 ?_
      refine hret _ _ _ _ dX7_count_109 rfl ?_
      exact pu_C0 ((if_neg c1_0).trans ((if_neg c1_1).trans ((if_neg c1_2).trans ((if_neg c1_3).trans ((if_neg c1_4).trans ((if_neg c1_5).trans (if_pos c1_6)))))))
    by_cases c1_7 : w = 7
    · skip
      refine x_tableIn (tgt := 110) (off := 109) C dX7_count_1 c1.1 c1.2 (by rw [c1_7]; decide) (by decide) ?_
      refine x_aload_n C dX7_count_110 rfl ?_
      refine x_getf (k := 0) C bk_X7 (C.lt rfl) rfl ent_0 0 fw_X7_10 rfl rfl dX7_count_111 ?_
      refine x_cvE C (k := 1) (c_X1_heldSpots l g (h := 1) (Or.inl rfl) _ ) o_X1_heldSpots mw_X7_274 rfl (C.lt' (isH_lt (Or.inl rfl) 0 (by decide))) (rcv_H (Or.inl rfl)) rfl rfl rfl hcs dX7_count_114 ?_
      refine hret _ _ _ _ dX7_count_117 rfl ?_
      exact pu_C0 ((if_neg c1_0).trans ((if_neg c1_1).trans ((if_neg c1_2).trans ((if_neg c1_3).trans ((if_neg c1_4).trans ((if_neg c1_5).trans ((if_neg c1_6).trans (if_pos c1_7))))))))
    exfalso
    have h1 := c1.1; have h2 := c1.2
    simp only [fa_eq] at c1_0 c1_1 c1_2 c1_3 c1_4 c1_5 c1_6 c1_7
    simp at c1_0 c1_1 c1_2 c1_3 c1_4 c1_5 c1_6 c1_7
    omega

def rm_X7_status : Room := { frames := 1, cells := 0, slots := 0, locals := 21 }
set_option maxRecDepth 100000 in
set_option maxHeartbeats 4000000 in
theorem c_X7_status (l : Launch) (g : Gp) (M : Mem) (oa : okA (aC M))  (w : Int32) : Ki l g yX7_status cX7_status 4 .int rm_X7_status [.ref (gad g (0)), .int (w)] M (fun r M' => (r, aC M') = F_status w (aC M) ∧ sameC M M') := by
  refine Ki.of rfl rfl rfl (fun q C hret hcs => ?_)
  have o : okRow (vw M 1) := oa.1
  refine x_iload_n C dX7_status_0 rfl ?_
  refine x_iconst (v := -1) C dX7_status_1 (by decide) ?_
  refine x_icmp_ne (tgt := 35) C dX7_status_2 (by decide) (fun c2 => ?_) (fun c2 => ?_)
  · skip
    refine x_iload_n C dX7_status_35 rfl ?_
    refine x_if_lt (tgt := 48) C dX7_status_36 (by decide) (fun c36 => ?_) (fun c36 => ?_)
    · skip
      refine x_aload_n C dX7_status_48 rfl ?_
      refine x_iconst (v := 0) C dX7_status_49 (by decide) ?_
      refine x_cvi C (k := 0) (c_X7_finding l g _ (k := 0) rfl (by decide) ) o_X7_finding mw_X7_61 rfl (C.lt rfl) rcv_0 rfl rfl rfl hcs dX7_status_50 (fun rf M1 hf => ?_)
      refine hret _ _ _ _ dX7_status_53 rfl ?_
      exact fi_C (k := 0) ((if_neg c2).trans (ifp_f (by unfold inB; clear hret hcs C; grind))) hf rfl (by decide) same.rf
    · skip
      refine x_iload_n C dX7_status_39 rfl ?_
      refine x_aload_n C dX7_status_40 rfl ?_
      refine x_getf (k := 0) C bk_X7 (C.lt rfl) rfl ent_0 6 fw_X7_43 rfl rfl dX7_status_41 ?_
      refine x_alenI (k := 39) (v := 7) C (C.lt rfl) rfl ent_39 rfl dX7_status_44 ?_
      refine x_icmp_lt (tgt := 54) C dX7_status_45 (by decide) (fun c45 => ?_) (fun c45 => ?_)
      · skip
        have q7 := ix_tn (n := 7) (by decide) ⟨c36, c45⟩
        refine x_aload_n C dX7_status_54 rfl ?_
        refine x_getf (k := 0) C bk_X7 (C.lt rfl) rfl ent_0 6 fw_X7_43 rfl rfl dX7_status_55 ?_
        refine x_iload_n C dX7_status_58 rfl ?_
        refine x_iald (j := (tn w)) (k := 39) C (C.lt rfl) rfl ent_39 (q7.2) (q7.1) rfl dX7_status_59 ?_
        refine hret _ _ _ _ dX7_status_60 rfl ?_
        rw [show M 39 (tn w) = aF (aC M) (tn w) from (cut_at q7.1).symm]; exact pu_C0 ((if_neg c2).trans (ifp_t (by unfold inB; clear hret hcs C; grind)))
      · skip
        refine x_aload_n C dX7_status_48 rfl ?_
        refine x_iconst (v := 0) C dX7_status_49 (by decide) ?_
        refine x_cvi C (k := 0) (c_X7_finding l g _ (k := 0) rfl (by decide) ) o_X7_finding mw_X7_61 rfl (C.lt rfl) rcv_0 rfl rfl rfl hcs dX7_status_50 (fun rf M2 hf => ?_)
        refine hret _ _ _ _ dX7_status_53 rfl ?_
        exact fi_C (k := 0) ((if_neg c2).trans (ifp_f (by unfold inB; clear hret hcs C; grind))) hf rfl (by decide) same.rf
  · skip
    refine x_iconst (v := 0) C dX7_status_5 (by decide) ?_
    refine x_istore_n C dX7_status_6 rfl ?_
    refine x_iconst (v := 0) C dX7_status_7 (by decide) ?_
    refine x_istore_n C dX7_status_8 rfl ?_
    refine up_to 7 (P := fun i => X (kmk l rm_X7_status g 4 q) M 9 [some (.ref (gad g (0))), some (.int (w)), some (.int (fsum (aF (aC M)) i)), some (.int (nI i))] []) (fun i hi ih => ?_) 0 (by omega)
    refine x_iload_n C dX7_status_9 rfl ?_
    refine x_aload_n C dX7_status_10 rfl ?_
    refine x_getf (k := 0) C bk_X7 (C.lt rfl) rfl ent_0 6 fw_X7_43 rfl rfl dX7_status_11 ?_
    refine x_alenI (k := 39) (v := 7) C (C.lt rfl) rfl ent_39 rfl dX7_status_14 ?_
    refine x_icmp_ge (tgt := 33) C dX7_status_15 (by decide) (fun c15 => ?_) (fun c15 => ?_)
    · skip
      have hlt := lp_ge (N := 7) (by decide) hi c15
      refine x_iload_n C dX7_status_33 rfl ?_
      refine hret _ _ _ _ dX7_status_34 rfl ?_
      subst hlt; exact pu_C0 (if_pos c2)
    · skip
      have hlt := lp_lt (N := 7) (by decide) hi c15
      refine x_iload_n C dX7_status_18 rfl ?_
      refine x_aload_n C dX7_status_19 rfl ?_
      refine x_getf (k := 0) C bk_X7 (C.lt rfl) rfl ent_0 6 fw_X7_43 rfl rfl dX7_status_20 ?_
      refine x_iload_n C dX7_status_23 rfl ?_
      refine x_iald (j := i) (k := 39) C (C.lt rfl) rfl ent_39 (rfl) (by omega) rfl dX7_status_24 ?_
      refine x_iadd C dX7_status_25 ?_
      refine x_topE (y := fsum (aF (aC M)) (i + 1)) (by show _ = _ + aF (aC M) i; rw [show aF (aC M) i = M 39 i from cut_at hlt]) ?_
      refine x_istore_n C dX7_status_26 rfl ?_
      refine x_iinc (v := nI (i + 1)) C dX7_status_27 rfl (nI_1 i) rfl ?_
      refine x_goto (tgt := 9) C dX7_status_30 (by decide) ?_
      exact ih hlt

