/-! ===== contracts: the model's items ===== -/
theorem upd_df {S : Row} {k : Nat} {x : Int32} (h : S k = x) : upd S k x = S := by rw [← h]; exact upd_id
theorem ix_w1 {x : Int32} {a : Nat} (hx : x = nI a) : 59 + 4 * x + 1 + 0 = nI (59 + 4 * a + 1) := by
  have h := ix_w (y := 1) (b := 1) hx rfl
  rw [h]; exact Int32.add_zero _
theorem ix_w2 {x : Int32} {a : Nat} (hx : x = nI a) : 59 + 4 * x + 1 + 1 = nI (59 + 4 * a + 2) := by
  have h := ix_w (y := 1) (b := 1) hx rfl
  rw [h]; exact nI_1 _
theorem tk_m {r : Int32} {T : Row} {L p lo hi : Nat} (e : r = opI (tkN T L p lo hi).2) (hb : hi < 2 ^ 31) (h : ¬ 0 ≤ r) : (tkN T L p lo hi).2 = none := tk_n hb (by rw [← e]; exact Int32.not_le.mp h)
theorem nI_tnB {x : Int32} {n : Nat} (hn : n + 1 < 2 ^ 31) (h : inB x 0 (nI n)) : nI (tn x) = x := (inB_tn hn h).2.symm
def rm_X8_readsEgg : Room := { frames := 4, cells := 0, slots := 0, locals := 89 }
set_option maxRecDepth 100000 in
set_option maxHeartbeats 4000000 in
theorem c_X8_readsEgg (l : Launch) (g : Gp) (M : Mem) {T : Row} {L p k : Nat} (ht : tpM M T L) (hr : rdM T L M p) (ol : okLt M) {x : Int32} (hx : x = nI k) : Ki l g yX8_readsEgg cX8_readsEgg 7 .boolean rm_X8_readsEgg [.ref (gad g (40)), .int (x)] M (fun r M' => rsO r (if frN (vm M) 8 < 8 then eggB T L (vm M) k (enn T L p) else (p, none)).2 (vm M') ∧ rdM T L M' (if frN (vm M) 8 < 8 then eggB T L (vm M) k (enn T L p) else (p, none)).1 ∧ same [40, 41] M M' ∧ kp40 M M') := by
  refine Ki.of rfl rfl rfl (fun q C hret hcs => ?_)
  refine x_aload_n C dX8_readsEgg_0 rfl ?_
  refine x_cvE C (k := 40) (c_X8_free l g _ ) o_X8_free mw_X8_102 rfl (C.lt rfl) rcv_40 rfl rfl rfl hcs dX8_readsEgg_1 ?_
  refine x_topi (fun x2 ex2 => ?_)
  refine x_istore_n C dX8_readsEgg_4 rfl ?_
  refine x_iload_n C dX8_readsEgg_5 rfl ?_
  refine x_if_ge (tgt := 11) C dX8_readsEgg_6 (by decide) (fun c6 => ?_) (fun c6 => ?_)
  · skip
    have f8 : frN (vm M) 8 < 8 := frI_lt (by rw [← ex2]; exact Int32.not_lt.mpr c6)
    have e2 : x2 = nI (frN (vm M) 8) := by rw [ex2]; exact if_pos f8
    have hE : (if frN (vm M) 8 < 8 then eggB T L (vm M) k (enn T L p) else (p, none)) = eggB T L (vm M) k (enn T L p) := if_pos f8
    refine x_aload_n C dX8_readsEgg_11 rfl ?_
    refine x_cvv C (k := 40) (c_X8_nextToken l g _ (T := T) (L := L) (p := (enn T L p)) ht (enn_le hr.1) hr.2.2.2.1 ) o_X8_nextToken mw_X8_240 rfl (C.lt rfl) rcv_40 rfl rfl rfl hcs dX8_readsEgg_12 (fun M1 h1 => ?_)
    have ht1 : tpM M1 T L := ht.of (h1.2.1 47 (by simp)) h1.2.2
    refine x_aload_n C dX8_readsEgg_15 rfl ?_
    refine x_iconst (v := 1) C dX8_readsEgg_16 (by decide) ?_
    refine x_bipush (v := 99) C dX8_readsEgg_17 (by decide) ?_
    refine x_cvi C (k := 40) (c_X8_takesNumber l g _ (T := T) (L := L) (p := (enn T L p)) (lo := 1) (hi := 99) ht1 h1.1 (by decide) (by decide) rfl rfl ) o_X8_takesNumber mw_X8_243 rfl (C.lt rfl) rcv_40 rfl rfl rfl hcs dX8_readsEgg_19 (fun r2 M2 h2 => ?_)
    have hs2 : same [40] M M2 := h1.2.1.tr h2.2.2.1
    have hk2 : kp40 M M2 := h1.2.2.tr h2.2.2.2
    have hv2 : vm M2 = vm M := vm_same (hs2 41 (by simp))
    refine x_istore_n C dX8_readsEgg_22 rfl ?_
    refine x_iload_n C dX8_readsEgg_23 rfl ?_
    refine x_if_ge (tgt := 29) C dX8_readsEgg_24 (by decide) (fun c24 => ?_) (fun c24 => ?_)
    · skip
      obtain ⟨s, hs⟩ := opI_ge' (show 0 ≤ opI _ by rw [← h2.1]; exact c24)
      have er2 : r2 = nI s := by rw [h2.1, hs]; rfl
      have key2 : ∀ (M4 : Mem) (a n : Nat), (perN T L (tkN T L (enn T L p) 1 99).1 9 99 0).2 = some a → (perN T L (perN T L (tkN T L (enn T L p) 1 99).1 9 99 0).1 10 3 0).2 = some n → rdM T L M4 (perN T L (perN T L (tkN T L (enn T L p) 1 99).1 9 99 0).1 10 3 0).1 → vm M4 = putE (vm M) (frN (vm M) 8) (nI k) (nI s) (nI a) (nI n) → same [40, 41] M M4 → kp40 M M4 → X (kmk l rm_X8_readsEgg g 7 q) M4 42 [some (.ref (gad g (40))), some (.int (x)), some (.int (x2)), some (.int (r2)), some (.int (x2)), some (.int (2)), none] [] := by
        intro M4 a n hA hN h4r h4v h4s h4k
        refine x_iload C dX8_readsEgg_42 rfl ?_
        refine x_iconst (v := 2) C dX8_readsEgg_44 (by decide) ?_
        refine x_icmp_ge (tgt := 107) C dX8_readsEgg_45 (by decide) (fun c45 => ?_) (fun c45 => ?_)
        · skip
          refine x_iload C dX8_readsEgg_107 rfl ?_
          refine x_iload_n C dX8_readsEgg_109 rfl ?_
          refine x_icmp_ne (tgt := 117) C dX8_readsEgg_110 (by decide) (fun c110 => ?_) (fun c110 => ?_)
          · skip
            exact absurd rfl c110
          · skip
            refine x_iconst (v := 1) C dX8_readsEgg_113 (by decide) ?_
            refine x_goto (tgt := 118) C dX8_readsEgg_114 (by decide) ?_
            refine hret _ _ _ _ dX8_readsEgg_118 rfl ?_
            have e : eggB T L (vm M) k (enn T L p) = ((perN T L (perN T L (tkN T L (enn T L p) 1 99).1 9 99 0).1 10 3 0).1, some (putE (vm M) (frN (vm M) 8) (nI k) (nI s) (nI a) (nI n))) := (andN_s hs).trans ((andN_s hA).trans (andN_s hN))
            rw [hE, e]
            exact ⟨Or.inr ⟨rfl, congrArg some h4v.symm⟩, h4r, h4s, h4k⟩
        · skip
          exact absurd c45 (by decide)
      have key1 : ∀ (M4 : Mem) (a : Nat), (perN T L (tkN T L (enn T L p) 1 99).1 9 99 0).2 = some a → rdM T L M4 (perN T L (tkN T L (enn T L p) 1 99).1 9 99 0).1 → vm M4 = putE (vm M) (frN (vm M) 8) (nI k) (nI s) (nI a) (0) → same [40, 41] M M4 → kp40 M M4 → X (kmk l rm_X8_readsEgg g 7 q) M4 42 [some (.ref (gad g (40))), some (.int (x)), some (.int (x2)), some (.int (r2)), some (.int (x2)), some (.int (1)), none] [] := by
        intro M4 a hA h4r h4v h4s h4k
        have ht4 : tpM M4 T L := ht.of (h4s 47 (by simp)) h4k
        have ol4 : okLt M4 := ol.of h4s (by decide)
        refine x_iload C dX8_readsEgg_42 rfl ?_
        refine x_iconst (v := 2) C dX8_readsEgg_44 (by decide) ?_
        refine x_icmp_ge (tgt := 107) C dX8_readsEgg_45 (by decide) (fun c45 => ?_) (fun c45 => ?_)
        · skip
          exact absurd c45 (by decide)
        · skip
          refine x_aload_n C dX8_readsEgg_48 rfl ?_
          refine x_aload_n C dX8_readsEgg_49 rfl ?_
          refine x_getf (k := 40) C bk_X8 (C.lt rfl) rfl ent_40 14 fw_X8_36 rfl rfl dX8_readsEgg_50 ?_
          refine x_cvE C (k := 40) (c_X8_wordOf49 l g _ (T := T) (L := L) (p := (perN T L (tkN T L (enn T L p) 1 99).1 9 99 0).1) h4r ol4.2.1 ) o_X8_wordOf mw_X8_246 rfl (C.lt rfl) rcv_40 rfl rfl rfl hcs dX8_readsEgg_53 ?_
          refine x_iload C dX8_readsEgg_56 rfl ?_
          refine x_icmp_ne (tgt := 101) C dX8_readsEgg_58 (by decide) (fun c58 => ?_) (fun c58 => ?_)
          · skip
            have hP : perN T L (perN T L (tkN T L (enn T L p) 1 99).1 9 99 0).1 10 3 0 = ((perN T L (tkN T L (enn T L p) 1 99).1 9 99 0).1, some 0) := ifp_f (fun z => c58 ((whI_iff (b := 9) (n := 2) (w := 1) (by decide) (by decide)).mpr z))
            refine x_iinc (v := 2) C dX8_readsEgg_101 rfl (by decide) rfl ?_
            refine x_goto (tgt := 42) C dX8_readsEgg_104 (by decide) ?_
            refine X.le (ls' := [some (.ref (gad g (40))), some (.int (x)), some (.int (x2)), some (.int (r2)), some (.int (x2)), some (.int (2)), none]) (lle_s rfl (lle_s rfl (lle_s rfl (lle_s rfl (lle_s rfl (lle_s rfl (lle_n lle_e))))))) ?_
            exact key2 M4 a 0 hA (congrArg Prod.snd hP) (by rw [hP]; exact h4r) h4v h4s h4k
          · skip
            have hP : perN T L (perN T L (tkN T L (enn T L p) 1 99).1 9 99 0).1 10 3 0 = tkN T L (enn T L (perN T L (tkN T L (enn T L p) 1 99).1 9 99 0).1) 0 3 := ifp_t ((whI_iff (b := 9) (n := 2) (w := 1) (by decide) (by decide)).mp c58)
            refine x_aload_n C dX8_readsEgg_61 rfl ?_
            refine x_cvv C (k := 40) (c_X8_nextToken l g _ (T := T) (L := L) (p := (enn T L (perN T L (tkN T L (enn T L p) 1 99).1 9 99 0).1)) ht4 (enn_le h4r.1) h4r.2.2.2.1 ) o_X8_nextToken mw_X8_240 rfl (C.lt rfl) rcv_40 rfl rfl rfl hcs dX8_readsEgg_62 (fun M5 h5 => ?_)
            have ht5 : tpM M5 T L := ht4.of (h5.2.1 47 (by simp)) h5.2.2
            refine x_aload_n C dX8_readsEgg_65 rfl ?_
            refine x_iconst (v := 0) C dX8_readsEgg_66 (by decide) ?_
            refine x_iload C dX8_readsEgg_67 rfl ?_
            refine x_if_neT (tgt := 77) C dX8_readsEgg_69 (by decide) (by decide) ?_
            refine x_iconst (v := 3) C dX8_readsEgg_77 (by decide) ?_
            refine x_cvi C (k := 40) (c_X8_takesNumber l g _ (T := T) (L := L) (p := (enn T L (perN T L (tkN T L (enn T L p) 1 99).1 9 99 0).1)) (lo := 0) (hi := 3) ht5 h5.1 (by decide) (by decide) rfl rfl ) o_X8_takesNumber mw_X8_243 rfl (C.lt rfl) rcv_40 rfl rfl rfl hcs dX8_readsEgg_78 (fun r6 M6 h6 => ?_)
            have hs6 : same [40] M4 M6 := h5.2.1.tr h6.2.2.1
            have hk6 : kp40 M4 M6 := h5.2.2.tr h6.2.2.2
            have hv6 : vm M6 = vm M4 := vm_same (hs6 41 (by simp))
            refine x_istore C dX8_readsEgg_81 rfl ?_
            refine x_iload C dX8_readsEgg_83 rfl ?_
            refine x_if_ge (tgt := 90) C dX8_readsEgg_85 (by decide) (fun c85 => ?_) (fun c85 => ?_)
            · skip
              obtain ⟨v6, hn6⟩ := opI_ge' (show 0 ≤ opI _ by rw [← h6.1]; exact c85)
              have er6 : r6 = nI v6 := by rw [h6.1, hn6]; rfl
              refine x_aload_n C dX8_readsEgg_90 rfl ?_
              refine x_iload_n C dX8_readsEgg_91 rfl ?_
              refine x_iconst (v := 2) C dX8_readsEgg_92 (by decide) ?_
              refine x_iload C dX8_readsEgg_93 rfl ?_
              refine x_iadd C dX8_readsEgg_95 ?_
              refine x_iload C dX8_readsEgg_96 rfl ?_
              refine x_cvv C (k := 40) (c_X8_puts l g _ (e := (frN (vm M) 8)) (f := 3) e2 f8 rfl (by decide) ) o_X8_puts mw_X8_105 rfl (C.lt rfl) rcv_40 rfl rfl rfl hcs dX8_readsEgg_98 (fun M7 h7 => ?_)
              have h7r := h6.2.1.of (h7.2 40 (by simp))
              have h7s : same [40, 41] M M7 := h4s.tr ((hs6.mono (by simp)).tr (h7.2.mono (by simp)))
              have h7k : kp40 M M7 := h4k.tr (hk6.tr (kp40.of h7.2 (by simp)))
              have h7v : vm M7 = putE (vm M) (frN (vm M) 8) (nI k) (nI s) (nI a) (nI v6) := by rw [h7.1, hv6, h4v, er6]; exact putE_ne
              refine x_iinc (v := 2) C dX8_readsEgg_101 rfl (by decide) rfl ?_
              refine x_goto (tgt := 42) C dX8_readsEgg_104 (by decide) ?_
              refine X.le (ls' := [some (.ref (gad g (40))), some (.int (x)), some (.int (x2)), some (.int (r2)), some (.int (x2)), some (.int (2)), none]) (lle_s rfl (lle_s rfl (lle_s rfl (lle_s rfl (lle_s rfl (lle_s rfl (lle_n lle_e))))))) ?_
              exact key2 M7 a v6 hA (by rw [hP]; exact hn6) (by rw [hP]; exact h7r) h7v h7s h7k
            · skip
              have ho6 := tk_m h6.1 (by decide) c85
              refine x_iconst (v := 0) C dX8_readsEgg_88 (by decide) ?_
              refine hret _ _ _ _ dX8_readsEgg_89 rfl ?_
              have e : eggB T L (vm M) k (enn T L p) = ((perN T L (perN T L (tkN T L (enn T L p) 1 99).1 9 99 0).1 10 3 0).1, none) := (andN_s hs).trans ((andN_s hA).trans (andN_n (by rw [hP]; exact ho6)))
              rw [hE, e]
              exact ⟨Or.inl ⟨rfl, rfl⟩, by rw [hP]; exact h6.2.1, h4s.tr (hs6.mono (by simp)), h4k.tr hk6⟩
      refine x_aload_n C dX8_readsEgg_29 rfl ?_
      refine x_iload_n C dX8_readsEgg_30 rfl ?_
      refine x_iload_n C dX8_readsEgg_31 rfl ?_
      refine x_iconst (v := 0) C dX8_readsEgg_32 (by decide) ?_
      refine x_iconst (v := 0) C dX8_readsEgg_33 (by decide) ?_
      refine x_cvi C (k := 40) (c_X8_lays l g _ _ _ _ _ ) o_X8_lays mw_X8_116 rfl (C.lt rfl) rcv_40 rfl rfl rfl hcs dX8_readsEgg_34 (fun r4 M3 h4 => ?_)
      have h4v : vm M3 = putE (vm M) (frN (vm M) 8) (nI k) (nI s) (0) (0) := by rw [h4.2.1, hv2]; unfold layS; rw [if_pos f8, hx, er2]
      have h4s : same [40, 41] M M3 := (hs2.mono (by simp)).tr (h4.2.2.mono (by simp))
      have h4k : kp40 M M3 := hk2.tr (kp40.of h4.2.2 (by simp))
      have h4r : rdM T L M3 (tkN T L (enn T L p) 1 99).1 := h2.2.1.of (h4.2.2 40 (by simp))
      have ht4 : tpM M3 T L := ht.of (h4s 47 (by simp)) h4k
      have ol4 : okLt M3 := ol.of h4s (by decide)
      refine x_topE (y := x2) (by rw [h4.1, hv2, ex2]) ?_
      refine x_istore C dX8_readsEgg_37 rfl ?_
      refine x_iconst (v := 0) C dX8_readsEgg_39 (by decide) ?_
      refine x_istore C dX8_readsEgg_40 rfl ?_
      refine x_iload C dX8_readsEgg_42 rfl ?_
      refine x_iconst (v := 2) C dX8_readsEgg_44 (by decide) ?_
      refine x_icmp_ge (tgt := 107) C dX8_readsEgg_45 (by decide) (fun c45 => ?_) (fun c45 => ?_)
      · skip
        exact absurd c45 (by decide)
      · skip
        refine x_aload_n C dX8_readsEgg_48 rfl ?_
        refine x_aload_n C dX8_readsEgg_49 rfl ?_
        refine x_getf (k := 40) C bk_X8 (C.lt rfl) rfl ent_40 14 fw_X8_36 rfl rfl dX8_readsEgg_50 ?_
        refine x_cvE C (k := 40) (c_X8_wordOf49 l g _ (T := T) (L := L) (p := (tkN T L (enn T L p) 1 99).1) h4r ol4.2.1 ) o_X8_wordOf mw_X8_246 rfl (C.lt rfl) rcv_40 rfl rfl rfl hcs dX8_readsEgg_53 ?_
        refine x_iload C dX8_readsEgg_56 rfl ?_
        refine x_icmp_ne (tgt := 101) C dX8_readsEgg_58 (by decide) (fun c58 => ?_) (fun c58 => ?_)
        · skip
          have hP : perN T L (tkN T L (enn T L p) 1 99).1 9 99 0 = ((tkN T L (enn T L p) 1 99).1, some 0) := ifp_f (fun z => c58 ((whI_iff (b := 9) (n := 2) (w := 0) (by decide) (by decide)).mpr z))
          refine x_iinc (v := 1) C dX8_readsEgg_101 rfl (by decide) rfl ?_
          refine x_goto (tgt := 42) C dX8_readsEgg_104 (by decide) ?_
          refine X.le (ls' := [some (.ref (gad g (40))), some (.int (x)), some (.int (x2)), some (.int (r2)), some (.int (x2)), some (.int (1)), none]) (lle_s rfl (lle_s rfl (lle_s rfl (lle_s rfl (lle_s rfl (lle_s rfl (lle_n lle_e))))))) ?_
          exact key1 M3 0 (congrArg Prod.snd hP) (by rw [hP]; exact h4r) h4v h4s h4k
        · skip
          have hP : perN T L (tkN T L (enn T L p) 1 99).1 9 99 0 = tkN T L (enn T L (tkN T L (enn T L p) 1 99).1) 0 99 := ifp_t ((whI_iff (b := 9) (n := 2) (w := 0) (by decide) (by decide)).mp c58)
          refine x_aload_n C dX8_readsEgg_61 rfl ?_
          refine x_cvv C (k := 40) (c_X8_nextToken l g _ (T := T) (L := L) (p := (enn T L (tkN T L (enn T L p) 1 99).1)) ht4 (enn_le h4r.1) h4r.2.2.2.1 ) o_X8_nextToken mw_X8_240 rfl (C.lt rfl) rcv_40 rfl rfl rfl hcs dX8_readsEgg_62 (fun M5 h5 => ?_)
          have ht5 : tpM M5 T L := ht4.of (h5.2.1 47 (by simp)) h5.2.2
          refine x_aload_n C dX8_readsEgg_65 rfl ?_
          refine x_iconst (v := 0) C dX8_readsEgg_66 (by decide) ?_
          refine x_iload C dX8_readsEgg_67 rfl ?_
          refine x_if_neF (tgt := 77) C dX8_readsEgg_69 (by decide) (by decide) ?_
          refine x_bipush (v := 99) C dX8_readsEgg_72 (by decide) ?_
          refine x_goto (tgt := 78) C dX8_readsEgg_74 (by decide) ?_
          refine x_cvi C (k := 40) (c_X8_takesNumber l g _ (T := T) (L := L) (p := (enn T L (tkN T L (enn T L p) 1 99).1)) (lo := 0) (hi := 99) ht5 h5.1 (by decide) (by decide) rfl rfl ) o_X8_takesNumber mw_X8_243 rfl (C.lt rfl) rcv_40 rfl rfl rfl hcs dX8_readsEgg_78 (fun r6 M6 h6 => ?_)
          have hs6 : same [40] M3 M6 := h5.2.1.tr h6.2.2.1
          have hk6 : kp40 M3 M6 := h5.2.2.tr h6.2.2.2
          have hv6 : vm M6 = vm M3 := vm_same (hs6 41 (by simp))
          refine x_istore C dX8_readsEgg_81 rfl ?_
          refine x_iload C dX8_readsEgg_83 rfl ?_
          refine x_if_ge (tgt := 90) C dX8_readsEgg_85 (by decide) (fun c85 => ?_) (fun c85 => ?_)
          · skip
            obtain ⟨v6, hn6⟩ := opI_ge' (show 0 ≤ opI _ by rw [← h6.1]; exact c85)
            have er6 : r6 = nI v6 := by rw [h6.1, hn6]; rfl
            refine x_aload_n C dX8_readsEgg_90 rfl ?_
            refine x_iload_n C dX8_readsEgg_91 rfl ?_
            refine x_iconst (v := 2) C dX8_readsEgg_92 (by decide) ?_
            refine x_iload C dX8_readsEgg_93 rfl ?_
            refine x_iadd C dX8_readsEgg_95 ?_
            refine x_iload C dX8_readsEgg_96 rfl ?_
            refine x_cvv C (k := 40) (c_X8_puts l g _ (e := (frN (vm M) 8)) (f := 2) e2 f8 rfl (by decide) ) o_X8_puts mw_X8_105 rfl (C.lt rfl) rcv_40 rfl rfl rfl hcs dX8_readsEgg_98 (fun M7 h7 => ?_)
            have h7r := h6.2.1.of (h7.2 40 (by simp))
            have h7s : same [40, 41] M M7 := h4s.tr ((hs6.mono (by simp)).tr (h7.2.mono (by simp)))
            have h7k : kp40 M M7 := h4k.tr (hk6.tr (kp40.of h7.2 (by simp)))
            have h7v : vm M7 = putE (vm M) (frN (vm M) 8) (nI k) (nI s) (nI v6) (0) := by rw [h7.1, hv6, h4v, er6]; exact putE_ag
            refine x_iinc (v := 1) C dX8_readsEgg_101 rfl (by decide) rfl ?_
            refine x_goto (tgt := 42) C dX8_readsEgg_104 (by decide) ?_
            refine X.le (ls' := [some (.ref (gad g (40))), some (.int (x)), some (.int (x2)), some (.int (r2)), some (.int (x2)), some (.int (1)), none]) (lle_s rfl (lle_s rfl (lle_s rfl (lle_s rfl (lle_s rfl (lle_s rfl (lle_n lle_e))))))) ?_
            exact key1 M7 v6 (by rw [hP]; exact hn6) (by rw [hP]; exact h7r) h7v h7s h7k
          · skip
            have ho6 := tk_m h6.1 (by decide) c85
            refine x_iconst (v := 0) C dX8_readsEgg_88 (by decide) ?_
            refine hret _ _ _ _ dX8_readsEgg_89 rfl ?_
            have e : eggB T L (vm M) k (enn T L p) = ((perN T L (tkN T L (enn T L p) 1 99).1 9 99 0).1, none) := (andN_s hs).trans (andN_n (by rw [hP]; exact ho6))
            rw [hE, e]
            exact ⟨Or.inl ⟨rfl, rfl⟩, by rw [hP]; exact h6.2.1, h4s.tr (hs6.mono (by simp)), h4k.tr hk6⟩
    · skip
      have hn2 := tk_m h2.1 (by decide) c24
      refine x_iconst (v := 0) C dX8_readsEgg_27 (by decide) ?_
      refine hret _ _ _ _ dX8_readsEgg_28 rfl ?_
      have e : eggB T L (vm M) k (enn T L p) = ((tkN T L (enn T L p) 1 99).1, none) := andN_n hn2
      rw [hE, e]
      exact ⟨Or.inl ⟨rfl, rfl⟩, h2.2.1, hs2.mono (by simp), hk2⟩
  · skip
    have f8 : ¬ frN (vm M) 8 < 8 := frI_ge (by rw [← ex2]; exact Int32.not_le.mp c6)
    have hE : (if frN (vm M) 8 < 8 then eggB T L (vm M) k (enn T L p) else (p, none)) = (p, none) := if_neg f8
    refine x_iconst (v := 0) C dX8_readsEgg_9 (by decide) ?_
    refine hret _ _ _ _ dX8_readsEgg_10 rfl ?_
    rw [hE]
    exact ⟨Or.inl ⟨rfl, rfl⟩, hr, same.rf, kp40.rf⟩

def rm_X8_readsHen : Room := { frames := 4, cells := 0, slots := 0, locals := 85 }
set_option maxRecDepth 100000 in
set_option maxHeartbeats 4000000 in
theorem c_X8_readsHen (l : Launch) (g : Gp) (M : Mem) {T : Row} {L p : Nat} (ht : tpM M T L) (hr : rdM T L M p)  : Ki l g yX8_readsHen cX8_readsHen 3 .boolean rm_X8_readsHen [.ref (gad g (40))] M (fun r M' => rsO r (henB T L (vm M) p).2 (vm M') ∧ rdM T L M' (henB T L (vm M) p).1 ∧ same [40, 41] M M' ∧ kp40 M M') := by
  refine Ki.of rfl rfl rfl (fun q C hret hcs => ?_)
  refine x_aload_n C dX8_readsHen_0 rfl ?_
  refine x_iconst (v := 0) C dX8_readsHen_1 (by decide) ?_
  refine x_iconst (v := 3) C dX8_readsHen_2 (by decide) ?_
  refine x_cvi C (k := 40) (c_X8_takesNumber l g _ (T := T) (L := L) (p := p) (lo := 0) (hi := 3) ht hr (by decide) (by decide) rfl rfl ) o_X8_takesNumber mw_X8_243 rfl (C.lt rfl) rcv_40 rfl rfl rfl hcs dX8_readsHen_3 (fun r1 M1 h1 => ?_)
  have ht1 : tpM M1 T L := ht.of (h1.2.2.1 47 (by simp)) h1.2.2.2
  refine x_istore_n C dX8_readsHen_6 rfl ?_
  refine x_iload_n C dX8_readsHen_7 rfl ?_
  refine x_if_ge (tgt := 15) C dX8_readsHen_8 (by decide) (fun c8 => ?_) (fun c8 => ?_)
  · skip
    obtain ⟨a, ha⟩ := opI_ge' (show 0 ≤ opI _ by rw [← h1.1]; exact c8)
    have er1 : r1 = nI a := by rw [h1.1, ha]; rfl
    have ba := tkN_v ha
    refine x_aload_n C dX8_readsHen_15 rfl ?_
    refine x_iconst (v := 0) C dX8_readsHen_16 (by decide) ?_
    refine x_bipush (v := 30) C dX8_readsHen_17 (by decide) ?_
    refine x_cvi C (k := 40) (c_X8_takesNumber l g _ (T := T) (L := L) (p := (tkN T L p 0 3).1) (lo := 0) (hi := 30) ht1 h1.2.1 (by decide) (by decide) rfl rfl ) o_X8_takesNumber mw_X8_243 rfl (C.lt rfl) rcv_40 rfl rfl rfl hcs dX8_readsHen_19 (fun r2 M2 h2 => ?_)
    have hs2 : same [40] M M2 := h1.2.2.1.tr h2.2.2.1
    have hk2 : kp40 M M2 := h1.2.2.2.tr h2.2.2.2
    have hv2 : vm M2 = vm M := vm_same (hs2 41 (by simp))
    refine x_istore_n C dX8_readsHen_22 rfl ?_
    refine x_iload_n C dX8_readsHen_23 rfl ?_
    refine x_if_ge (tgt := 29) C dX8_readsHen_24 (by decide) (fun c24 => ?_) (fun c24 => ?_)
    · skip
      obtain ⟨b, hb⟩ := opI_ge' (show 0 ≤ opI _ by rw [← h2.1]; exact c24)
      have er2 : r2 = nI b := by rw [h2.1, hb]; rfl
      have bb := tkN_v hb
      refine x_aload_n C dX8_readsHen_29 rfl ?_
      refine x_getf (k := 40) C bk_X8 (C.lt rfl) rfl ent_40 0 fw_X8_9 rfl rfl dX8_readsHen_30 ?_
      refine x_bipush (v := 43) C dX8_readsHen_33 (by decide) ?_
      refine x_iconst (v := 4) C dX8_readsHen_35 (by decide) ?_
      refine x_iload_n C dX8_readsHen_36 rfl ?_
      refine x_imul C dX8_readsHen_37 ?_
      refine x_iadd C dX8_readsHen_38 ?_
      refine x_iconst (v := 0) C dX8_readsHen_39 (by decide) ?_
      refine x_iadd C dX8_readsHen_40 ?_
      refine x_iload_n C dX8_readsHen_41 rfl ?_
      refine x_iast (j := 43 + 4 * a + 0) (k := 41) C (C.lt rfl) rfl ent_41 (ix_h er1 rfl) (by have := ba.2; omega) rfl dX8_readsHen_42 ?_
      refine x_memI (fun M3 eM3 => ?_)
      refine x_iconst (v := 1) C dX8_readsHen_43 (by decide) ?_
      refine hret _ _ _ _ dX8_readsHen_44 rfl ?_
      have e : henB T L (vm M) p = ((tkN T L (tkN T L p 0 3).1 0 30).1, some (upd (vm M) (43 + 4 * a + 0) (nI b))) := (andN_s ha).trans (andN_s hb)
      rw [e]
      refine ⟨Or.inr ⟨rfl, congrArg some ?_⟩, h2.2.1.of (by rw [eM3]; exact up_n (by decide)), (hs2.mono (by simp)).tr (by rw [eM3]; exact same.up (by simp)), hk2.tr (by rw [eM3]; exact kp40.ot (by decide))⟩
      rw [eM3, vm_up (by have := ba.2; omega), hv2, er2]
    · skip
      have hn2 := tk_m h2.1 (by decide) c24
      refine x_iconst (v := 0) C dX8_readsHen_27 (by decide) ?_
      refine hret _ _ _ _ dX8_readsHen_28 rfl ?_
      have e : henB T L (vm M) p = ((tkN T L (tkN T L p 0 3).1 0 30).1, none) := (andN_s ha).trans (andN_n hn2)
      rw [e]
      exact ⟨Or.inl ⟨rfl, rfl⟩, h2.2.1, hs2.mono (by simp), hk2⟩
  · skip
    have hn1 := tk_m h1.1 (by decide) c8
    refine x_iconst (v := -1) C dX8_readsHen_11 (by decide) ?_
    refine x_goto (tgt := 22) C dX8_readsHen_12 (by decide) ?_
    refine x_istore_n C dX8_readsHen_22 rfl ?_
    refine x_iload_n C dX8_readsHen_23 rfl ?_
    refine x_if_geF (tgt := 29) C dX8_readsHen_24 (by decide) (by decide) ?_
    refine x_iconst (v := 0) C dX8_readsHen_27 (by decide) ?_
    refine hret _ _ _ _ dX8_readsHen_28 rfl ?_
    have e : henB T L (vm M) p = ((tkN T L p 0 3).1, none) := andN_n hn1
    rw [e]
    exact ⟨Or.inl ⟨rfl, rfl⟩, h1.2.1, h1.2.2.1.mono (by simp), h1.2.2.2⟩

def rm_X8_readsWork : Room := { frames := 4, cells := 0, slots := 0, locals := 85 }
set_option maxRecDepth 100000 in
set_option maxHeartbeats 4000000 in
theorem c_X8_readsWork (l : Launch) (g : Gp) (M : Mem) {T : Row} {L p : Nat} (ht : tpM M T L) (hr : rdM T L M p) (o : okRow (vm M)) (ol : okLt M) : Ki l g yX8_readsWork cX8_readsWork 5 .boolean rm_X8_readsWork [.ref (gad g (40))] M (fun r M' => rsO r (wrkB T L (vm M) p).2 (vm M') ∧ rdM T L M' (wrkB T L (vm M) p).1 ∧ same [40, 41] M M' ∧ kp40 M M') := by
  refine Ki.of rfl rfl rfl (fun q C hret hcs => ?_)
  refine x_aload_n C dX8_readsWork_0 rfl ?_
  refine x_iconst (v := 0) C dX8_readsWork_1 (by decide) ?_
  refine x_iconst (v := 5) C dX8_readsWork_2 (by decide) ?_
  refine x_cvi C (k := 40) (c_X8_takesNumber l g _ (T := T) (L := L) (p := p) (lo := 0) (hi := 5) ht hr (by decide) (by decide) rfl rfl ) o_X8_takesNumber mw_X8_243 rfl (C.lt rfl) rcv_40 rfl rfl rfl hcs dX8_readsWork_3 (fun r1 M1 h1 => ?_)
  have ht1 : tpM M1 T L := ht.of (h1.2.2.1 47 (by simp)) h1.2.2.2
  refine x_istore_n C dX8_readsWork_6 rfl ?_
  refine x_iload_n C dX8_readsWork_7 rfl ?_
  refine x_if_ge (tgt := 15) C dX8_readsWork_8 (by decide) (fun c8 => ?_) (fun c8 => ?_)
  · skip
    obtain ⟨a, ha⟩ := opI_ge' (show 0 ≤ opI _ by rw [← h1.1]; exact c8)
    have er1 : r1 = nI a := by rw [h1.1, ha]; rfl
    have ba := tkN_v ha
    refine x_aload_n C dX8_readsWork_15 rfl ?_
    refine x_iconst (v := 0) C dX8_readsWork_16 (by decide) ?_
    refine x_sipush (v := 999) C dX8_readsWork_17 (by decide) ?_
    refine x_cvi C (k := 40) (c_X8_takesNumber l g _ (T := T) (L := L) (p := (tkN T L p 0 5).1) (lo := 0) (hi := 999) ht1 h1.2.1 (by decide) (by decide) rfl rfl ) o_X8_takesNumber mw_X8_243 rfl (C.lt rfl) rcv_40 rfl rfl rfl hcs dX8_readsWork_20 (fun r2 M2 h2 => ?_)
    have hs2 : same [40] M M2 := h1.2.2.1.tr h2.2.2.1
    have hk2 : kp40 M M2 := h1.2.2.2.tr h2.2.2.2
    have hv2 : vm M2 = vm M := vm_same (hs2 41 (by simp))
    refine x_istore_n C dX8_readsWork_23 rfl ?_
    refine x_iload_n C dX8_readsWork_24 rfl ?_
    refine x_if_ge (tgt := 30) C dX8_readsWork_25 (by decide) (fun c25 => ?_) (fun c25 => ?_)
    · skip
      obtain ⟨b, hb⟩ := opI_ge' (show 0 ≤ opI _ by rw [← h2.1]; exact c25)
      have er2 : r2 = nI b := by rw [h2.1, hb]; rfl
      have bb := tkN_v hb
      have key2 : ∀ (M4 : Mem) (d n : Nat), (perN T L (tkN T L (tkN T L p 0 5).1 0 999).1 11 99999 (tn (wk (vm M) a 1))).2 = some d → (perN T L (perN T L (tkN T L (tkN T L p 0 5).1 0 999).1 11 99999 (tn (wk (vm M) a 1))).1 12 99 (tn (wk (vm M) a 2))).2 = some n → rdM T L M4 (perN T L (perN T L (tkN T L (tkN T L p 0 5).1 0 999).1 11 99999 (tn (wk (vm M) a 1))).1 12 99 (tn (wk (vm M) a 2))).1 → vm M4 = upd (upd (upd (vm M) (59 + 4 * a + 0) (nI b)) (59 + 4 * a + 1) (nI d)) (59 + 4 * a + 2) (nI n) → same [40, 41] M M4 → kp40 M M4 → X (kmk l rm_X8_readsWork g 5 q) M4 46 [some (.ref (gad g (40))), some (.int (r1)), some (.int (r2)), some (.int (2)), none] [] := by
        intro M4 d n hA hN h4r h4v h4s h4k
        refine x_iload_n C dX8_readsWork_46 rfl ?_
        refine x_iconst (v := 2) C dX8_readsWork_47 (by decide) ?_
        refine x_icmp_ge (tgt := 115) C dX8_readsWork_48 (by decide) (fun c48 => ?_) (fun c48 => ?_)
        · skip
          refine x_iconst (v := 1) C dX8_readsWork_115 (by decide) ?_
          refine hret _ _ _ _ dX8_readsWork_116 rfl ?_
          have e : wrkB T L (vm M) p = ((perN T L (perN T L (tkN T L (tkN T L p 0 5).1 0 999).1 11 99999 (tn (wk (vm M) a 1))).1 12 99 (tn (wk (vm M) a 2))).1, some (upd (upd (upd (vm M) (59 + 4 * a + 0) (nI b)) (59 + 4 * a + 1) (nI d)) (59 + 4 * a + 2) (nI n))) := (andN_s ha).trans ((andN_s hb).trans ((andN_s hA).trans (andN_s hN)))
          rw [e]
          exact ⟨Or.inr ⟨rfl, congrArg some h4v.symm⟩, h4r, h4s, h4k⟩
        · skip
          exact absurd c48 (by decide)
      have key1 : ∀ (M4 : Mem) (d : Nat), (perN T L (tkN T L (tkN T L p 0 5).1 0 999).1 11 99999 (tn (wk (vm M) a 1))).2 = some d → rdM T L M4 (perN T L (tkN T L (tkN T L p 0 5).1 0 999).1 11 99999 (tn (wk (vm M) a 1))).1 → vm M4 = upd (upd (vm M) (59 + 4 * a + 0) (nI b)) (59 + 4 * a + 1) (nI d) → same [40, 41] M M4 → kp40 M M4 → X (kmk l rm_X8_readsWork g 5 q) M4 46 [some (.ref (gad g (40))), some (.int (r1)), some (.int (r2)), some (.int (1)), none] [] := by
        intro M4 d hA h4r h4v h4s h4k
        have ow := o.2.2.2.2.1 a (by have := ba.2; omega)
        have ht4 : tpM M4 T L := ht.of (h4s 47 (by simp)) h4k
        have ol4 : okLt M4 := ol.of h4s (by decide)
        refine x_iload_n C dX8_readsWork_46 rfl ?_
        refine x_iconst (v := 2) C dX8_readsWork_47 (by decide) ?_
        refine x_icmp_ge (tgt := 115) C dX8_readsWork_48 (by decide) (fun c48 => ?_) (fun c48 => ?_)
        · skip
          exact absurd c48 (by decide)
        · skip
          refine x_aload_n C dX8_readsWork_51 rfl ?_
          refine x_aload_n C dX8_readsWork_52 rfl ?_
          refine x_getf (k := 40) C bk_X8 (C.lt rfl) rfl ent_40 15 fw_X8_39 rfl rfl dX8_readsWork_53 ?_
          refine x_cvE C (k := 40) (c_X8_wordOf50 l g _ (T := T) (L := L) (p := (perN T L (tkN T L (tkN T L p 0 5).1 0 999).1 11 99999 (tn (wk (vm M) a 1))).1) h4r ol4.2.2.1 ) o_X8_wordOf mw_X8_246 rfl (C.lt rfl) rcv_40 rfl rfl rfl hcs dX8_readsWork_56 ?_
          refine x_iload_n C dX8_readsWork_59 rfl ?_
          refine x_icmp_ne (tgt := 109) C dX8_readsWork_60 (by decide) (fun c60 => ?_) (fun c60 => ?_)
          · skip
            have hP : perN T L (perN T L (tkN T L (tkN T L p 0 5).1 0 999).1 11 99999 (tn (wk (vm M) a 1))).1 12 99 (tn (wk (vm M) a 2)) = ((perN T L (tkN T L (tkN T L p 0 5).1 0 999).1 11 99999 (tn (wk (vm M) a 1))).1, some (tn (wk (vm M) a 2))) := ifp_f (fun z => c60 ((whI_iff (b := 11) (n := 2) (w := 1) (by decide) (by decide)).mpr z))
            refine x_iinc (v := 2) C dX8_readsWork_109 rfl (by decide) rfl ?_
            refine x_goto (tgt := 46) C dX8_readsWork_112 (by decide) ?_
            refine X.le (ls' := [some (.ref (gad g (40))), some (.int (r1)), some (.int (r2)), some (.int (2)), none]) (lle_s rfl (lle_s rfl (lle_s rfl (lle_s rfl (lle_n lle_e))))) ?_
            exact key2 M4 d (tn (wk (vm M) a 2)) hA (congrArg Prod.snd hP) (by rw [hP]; exact h4r) (h4v.trans (upd_df (by rw [pk_un (by omega), pk_un (by omega), nI_tnB (n := 99) (by decide) ow.2.2.1]; rfl)).symm) h4s h4k
          · skip
            have hP : perN T L (perN T L (tkN T L (tkN T L p 0 5).1 0 999).1 11 99999 (tn (wk (vm M) a 1))).1 12 99 (tn (wk (vm M) a 2)) = tkN T L (enn T L (perN T L (tkN T L (tkN T L p 0 5).1 0 999).1 11 99999 (tn (wk (vm M) a 1))).1) 0 99 := ifp_t ((whI_iff (b := 11) (n := 2) (w := 1) (by decide) (by decide)).mp c60)
            refine x_aload_n C dX8_readsWork_63 rfl ?_
            refine x_cvv C (k := 40) (c_X8_nextToken l g _ (T := T) (L := L) (p := (enn T L (perN T L (tkN T L (tkN T L p 0 5).1 0 999).1 11 99999 (tn (wk (vm M) a 1))).1)) ht4 (enn_le h4r.1) h4r.2.2.2.1 ) o_X8_nextToken mw_X8_240 rfl (C.lt rfl) rcv_40 rfl rfl rfl hcs dX8_readsWork_64 (fun M5 h5 => ?_)
            have ht5 : tpM M5 T L := ht4.of (h5.2.1 47 (by simp)) h5.2.2
            refine x_aload_n C dX8_readsWork_67 rfl ?_
            refine x_iconst (v := 0) C dX8_readsWork_68 (by decide) ?_
            refine x_iload_n C dX8_readsWork_69 rfl ?_
            refine x_if_neT (tgt := 78) C dX8_readsWork_70 (by decide) (by decide) ?_
            refine x_bipush (v := 99) C dX8_readsWork_78 (by decide) ?_
            refine x_cvi C (k := 40) (c_X8_takesNumber l g _ (T := T) (L := L) (p := (enn T L (perN T L (tkN T L (tkN T L p 0 5).1 0 999).1 11 99999 (tn (wk (vm M) a 1))).1)) (lo := 0) (hi := 99) ht5 h5.1 (by decide) (by decide) rfl rfl ) o_X8_takesNumber mw_X8_243 rfl (C.lt rfl) rcv_40 rfl rfl rfl hcs dX8_readsWork_80 (fun r6 M6 h6 => ?_)
            have hs6 : same [40] M4 M6 := h5.2.1.tr h6.2.2.1
            have hk6 : kp40 M4 M6 := h5.2.2.tr h6.2.2.2
            have hv6 : vm M6 = vm M4 := vm_same (hs6 41 (by simp))
            refine x_istore C dX8_readsWork_83 rfl ?_
            refine x_iload C dX8_readsWork_85 rfl ?_
            refine x_if_ge (tgt := 92) C dX8_readsWork_87 (by decide) (fun c87 => ?_) (fun c87 => ?_)
            · skip
              obtain ⟨v6, hn6⟩ := opI_ge' (show 0 ≤ opI _ by rw [← h6.1]; exact c87)
              have er6 : r6 = nI v6 := by rw [h6.1, hn6]; rfl
              refine x_aload_n C dX8_readsWork_92 rfl ?_
              refine x_getf (k := 40) C bk_X8 (C.lt rfl) rfl ent_40 0 fw_X8_9 rfl rfl dX8_readsWork_93 ?_
              refine x_bipush (v := 59) C dX8_readsWork_96 (by decide) ?_
              refine x_iconst (v := 4) C dX8_readsWork_98 (by decide) ?_
              refine x_iload_n C dX8_readsWork_99 rfl ?_
              refine x_imul C dX8_readsWork_100 ?_
              refine x_iadd C dX8_readsWork_101 ?_
              refine x_iconst (v := 1) C dX8_readsWork_102 (by decide) ?_
              refine x_iadd C dX8_readsWork_103 ?_
              refine x_iload_n C dX8_readsWork_104 rfl ?_
              refine x_iadd C dX8_readsWork_105 ?_
              refine x_iload C dX8_readsWork_106 rfl ?_
              refine x_iast (j := 59 + 4 * a + 2) (k := 41) C (C.lt rfl) rfl ent_41 (ix_w2 er1) (by have := ba.2; omega) rfl dX8_readsWork_108 ?_
              refine x_memI (fun M7 eM7 => ?_)
              have h7r := h6.2.1.of (show M7 40 = M6 40 by rw [eM7]; exact up_n (by decide))
              have h7s : same [40, 41] M M7 := h4s.tr ((hs6.mono (by simp)).tr (by rw [eM7]; exact same.up (by simp)))
              have h7k : kp40 M M7 := h4k.tr (hk6.tr (by rw [eM7]; exact kp40.ot (by decide)))
              have h7v : vm M7 = upd (upd (upd (vm M) (59 + 4 * a + 0) (nI b)) (59 + 4 * a + 1) (nI d)) (59 + 4 * a + 2) (nI v6) := by rw [eM7, vm_up (by have := ba.2; omega), hv6, h4v, er6]
              refine x_iinc (v := 2) C dX8_readsWork_109 rfl (by decide) rfl ?_
              refine x_goto (tgt := 46) C dX8_readsWork_112 (by decide) ?_
              refine X.le (ls' := [some (.ref (gad g (40))), some (.int (r1)), some (.int (r2)), some (.int (2)), none]) (lle_s rfl (lle_s rfl (lle_s rfl (lle_s rfl (lle_n lle_e))))) ?_
              exact key2 M7 d v6 hA (by rw [hP]; exact hn6) (by rw [hP]; exact h7r) h7v h7s h7k
            · skip
              have ho6 := tk_m h6.1 (by decide) c87
              refine x_iconst (v := 0) C dX8_readsWork_90 (by decide) ?_
              refine hret _ _ _ _ dX8_readsWork_91 rfl ?_
              have e : wrkB T L (vm M) p = ((perN T L (perN T L (tkN T L (tkN T L p 0 5).1 0 999).1 11 99999 (tn (wk (vm M) a 1))).1 12 99 (tn (wk (vm M) a 2))).1, none) := (andN_s ha).trans ((andN_s hb).trans ((andN_s hA).trans (andN_n (by rw [hP]; exact ho6))))
              rw [e]
              exact ⟨Or.inl ⟨rfl, rfl⟩, by rw [hP]; exact h6.2.1, h4s.tr (hs6.mono (by simp)), h4k.tr hk6⟩
      refine x_aload_n C dX8_readsWork_30 rfl ?_
      refine x_getf (k := 40) C bk_X8 (C.lt rfl) rfl ent_40 0 fw_X8_9 rfl rfl dX8_readsWork_31 ?_
      refine x_bipush (v := 59) C dX8_readsWork_34 (by decide) ?_
      refine x_iconst (v := 4) C dX8_readsWork_36 (by decide) ?_
      refine x_iload_n C dX8_readsWork_37 rfl ?_
      refine x_imul C dX8_readsWork_38 ?_
      refine x_iadd C dX8_readsWork_39 ?_
      refine x_iconst (v := 0) C dX8_readsWork_40 (by decide) ?_
      refine x_iadd C dX8_readsWork_41 ?_
      refine x_iload_n C dX8_readsWork_42 rfl ?_
      refine x_iast (j := 59 + 4 * a + 0) (k := 41) C (C.lt rfl) rfl ent_41 (ix_w er1 rfl) (by have := ba.2; omega) rfl dX8_readsWork_43 ?_
      refine x_memI (fun M3 eM3 => ?_)
      have ow := o.2.2.2.2.1 a (by have := ba.2; omega)
      have h4v : vm M3 = upd (vm M) (59 + 4 * a + 0) (nI b) := by rw [eM3, vm_up (by have := ba.2; omega), hv2, er2]
      have h4s : same [40, 41] M M3 := (hs2.mono (by simp)).tr (by rw [eM3]; exact same.up (by simp))
      have h4k : kp40 M M3 := hk2.tr (by rw [eM3]; exact kp40.ot (by decide))
      have h4r : rdM T L M3 (tkN T L (tkN T L p 0 5).1 0 999).1 := h2.2.1.of (by rw [eM3]; exact up_n (by decide))
      have ht4 : tpM M3 T L := ht.of (h4s 47 (by simp)) h4k
      have ol4 : okLt M3 := ol.of h4s (by decide)
      refine x_iconst (v := 0) C dX8_readsWork_44 (by decide) ?_
      refine x_istore_n C dX8_readsWork_45 rfl ?_
      refine x_iload_n C dX8_readsWork_46 rfl ?_
      refine x_iconst (v := 2) C dX8_readsWork_47 (by decide) ?_
      refine x_icmp_ge (tgt := 115) C dX8_readsWork_48 (by decide) (fun c48 => ?_) (fun c48 => ?_)
      · skip
        exact absurd c48 (by decide)
      · skip
        refine x_aload_n C dX8_readsWork_51 rfl ?_
        refine x_aload_n C dX8_readsWork_52 rfl ?_
        refine x_getf (k := 40) C bk_X8 (C.lt rfl) rfl ent_40 15 fw_X8_39 rfl rfl dX8_readsWork_53 ?_
        refine x_cvE C (k := 40) (c_X8_wordOf50 l g _ (T := T) (L := L) (p := (tkN T L (tkN T L p 0 5).1 0 999).1) h4r ol4.2.2.1 ) o_X8_wordOf mw_X8_246 rfl (C.lt rfl) rcv_40 rfl rfl rfl hcs dX8_readsWork_56 ?_
        refine x_iload_n C dX8_readsWork_59 rfl ?_
        refine x_icmp_ne (tgt := 109) C dX8_readsWork_60 (by decide) (fun c60 => ?_) (fun c60 => ?_)
        · skip
          have hP : perN T L (tkN T L (tkN T L p 0 5).1 0 999).1 11 99999 (tn (wk (vm M) a 1)) = ((tkN T L (tkN T L p 0 5).1 0 999).1, some (tn (wk (vm M) a 1))) := ifp_f (fun z => c60 ((whI_iff (b := 11) (n := 2) (w := 0) (by decide) (by decide)).mpr z))
          refine x_iinc (v := 1) C dX8_readsWork_109 rfl (by decide) rfl ?_
          refine x_goto (tgt := 46) C dX8_readsWork_112 (by decide) ?_
          refine X.le (ls' := [some (.ref (gad g (40))), some (.int (r1)), some (.int (r2)), some (.int (1)), none]) (lle_s rfl (lle_s rfl (lle_s rfl (lle_s rfl (lle_n lle_e))))) ?_
          exact key1 M3 (tn (wk (vm M) a 1)) (congrArg Prod.snd hP) (by rw [hP]; exact h4r) (h4v.trans (upd_df (by rw [pk_un (by omega), nI_tnB (n := 99999) (by decide) ow.2.1]; rfl)).symm) h4s h4k
        · skip
          have hP : perN T L (tkN T L (tkN T L p 0 5).1 0 999).1 11 99999 (tn (wk (vm M) a 1)) = tkN T L (enn T L (tkN T L (tkN T L p 0 5).1 0 999).1) 0 99999 := ifp_t ((whI_iff (b := 11) (n := 2) (w := 0) (by decide) (by decide)).mp c60)
          refine x_aload_n C dX8_readsWork_63 rfl ?_
          refine x_cvv C (k := 40) (c_X8_nextToken l g _ (T := T) (L := L) (p := (enn T L (tkN T L (tkN T L p 0 5).1 0 999).1)) ht4 (enn_le h4r.1) h4r.2.2.2.1 ) o_X8_nextToken mw_X8_240 rfl (C.lt rfl) rcv_40 rfl rfl rfl hcs dX8_readsWork_64 (fun M5 h5 => ?_)
          have ht5 : tpM M5 T L := ht4.of (h5.2.1 47 (by simp)) h5.2.2
          refine x_aload_n C dX8_readsWork_67 rfl ?_
          refine x_iconst (v := 0) C dX8_readsWork_68 (by decide) ?_
          refine x_iload_n C dX8_readsWork_69 rfl ?_
          refine x_if_neF (tgt := 78) C dX8_readsWork_70 (by decide) (by decide) ?_
          refine x_ldc C kw_X8_57 dX8_readsWork_73 ?_
          refine x_goto (tgt := 80) C dX8_readsWork_75 (by decide) ?_
          refine x_cvi C (k := 40) (c_X8_takesNumber l g _ (T := T) (L := L) (p := (enn T L (tkN T L (tkN T L p 0 5).1 0 999).1)) (lo := 0) (hi := 99999) ht5 h5.1 (by decide) (by decide) rfl rfl ) o_X8_takesNumber mw_X8_243 rfl (C.lt rfl) rcv_40 rfl rfl rfl hcs dX8_readsWork_80 (fun r6 M6 h6 => ?_)
          have hs6 : same [40] M3 M6 := h5.2.1.tr h6.2.2.1
          have hk6 : kp40 M3 M6 := h5.2.2.tr h6.2.2.2
          have hv6 : vm M6 = vm M3 := vm_same (hs6 41 (by simp))
          refine x_istore C dX8_readsWork_83 rfl ?_
          refine x_iload C dX8_readsWork_85 rfl ?_
          refine x_if_ge (tgt := 92) C dX8_readsWork_87 (by decide) (fun c87 => ?_) (fun c87 => ?_)
          · skip
            obtain ⟨v6, hn6⟩ := opI_ge' (show 0 ≤ opI _ by rw [← h6.1]; exact c87)
            have er6 : r6 = nI v6 := by rw [h6.1, hn6]; rfl
            refine x_aload_n C dX8_readsWork_92 rfl ?_
            refine x_getf (k := 40) C bk_X8 (C.lt rfl) rfl ent_40 0 fw_X8_9 rfl rfl dX8_readsWork_93 ?_
            refine x_bipush (v := 59) C dX8_readsWork_96 (by decide) ?_
            refine x_iconst (v := 4) C dX8_readsWork_98 (by decide) ?_
            refine x_iload_n C dX8_readsWork_99 rfl ?_
            refine x_imul C dX8_readsWork_100 ?_
            refine x_iadd C dX8_readsWork_101 ?_
            refine x_iconst (v := 1) C dX8_readsWork_102 (by decide) ?_
            refine x_iadd C dX8_readsWork_103 ?_
            refine x_iload_n C dX8_readsWork_104 rfl ?_
            refine x_iadd C dX8_readsWork_105 ?_
            refine x_iload C dX8_readsWork_106 rfl ?_
            refine x_iast (j := 59 + 4 * a + 1) (k := 41) C (C.lt rfl) rfl ent_41 (ix_w1 er1) (by have := ba.2; omega) rfl dX8_readsWork_108 ?_
            refine x_memI (fun M7 eM7 => ?_)
            have h7r := h6.2.1.of (show M7 40 = M6 40 by rw [eM7]; exact up_n (by decide))
            have h7s : same [40, 41] M M7 := h4s.tr ((hs6.mono (by simp)).tr (by rw [eM7]; exact same.up (by simp)))
            have h7k : kp40 M M7 := h4k.tr (hk6.tr (by rw [eM7]; exact kp40.ot (by decide)))
            have h7v : vm M7 = upd (upd (vm M) (59 + 4 * a + 0) (nI b)) (59 + 4 * a + 1) (nI v6) := by rw [eM7, vm_up (by have := ba.2; omega), hv6, h4v, er6]
            refine x_iinc (v := 1) C dX8_readsWork_109 rfl (by decide) rfl ?_
            refine x_goto (tgt := 46) C dX8_readsWork_112 (by decide) ?_
            refine X.le (ls' := [some (.ref (gad g (40))), some (.int (r1)), some (.int (r2)), some (.int (1)), none]) (lle_s rfl (lle_s rfl (lle_s rfl (lle_s rfl (lle_n lle_e))))) ?_
            exact key1 M7 v6 (by rw [hP]; exact hn6) (by rw [hP]; exact h7r) h7v h7s h7k
          · skip
            have ho6 := tk_m h6.1 (by decide) c87
            refine x_iconst (v := 0) C dX8_readsWork_90 (by decide) ?_
            refine hret _ _ _ _ dX8_readsWork_91 rfl ?_
            have e : wrkB T L (vm M) p = ((perN T L (tkN T L (tkN T L p 0 5).1 0 999).1 11 99999 (tn (wk (vm M) a 1))).1, none) := (andN_s ha).trans ((andN_s hb).trans (andN_n (by rw [hP]; exact ho6)))
            rw [e]
            exact ⟨Or.inl ⟨rfl, rfl⟩, by rw [hP]; exact h6.2.1, h4s.tr (hs6.mono (by simp)), h4k.tr hk6⟩
    · skip
      have hn2 := tk_m h2.1 (by decide) c25
      refine x_iconst (v := 0) C dX8_readsWork_28 (by decide) ?_
      refine hret _ _ _ _ dX8_readsWork_29 rfl ?_
      have e : wrkB T L (vm M) p = ((tkN T L (tkN T L p 0 5).1 0 999).1, none) := (andN_s ha).trans (andN_n hn2)
      rw [e]
      exact ⟨Or.inl ⟨rfl, rfl⟩, h2.2.1, hs2.mono (by simp), hk2⟩
  · skip
    have hn1 := tk_m h1.1 (by decide) c8
    refine x_iconst (v := -1) C dX8_readsWork_11 (by decide) ?_
    refine x_goto (tgt := 23) C dX8_readsWork_12 (by decide) ?_
    refine x_istore_n C dX8_readsWork_23 rfl ?_
    refine x_iload_n C dX8_readsWork_24 rfl ?_
    refine x_if_geF (tgt := 30) C dX8_readsWork_25 (by decide) (by decide) ?_
    refine x_iconst (v := 0) C dX8_readsWork_28 (by decide) ?_
    refine hret _ _ _ _ dX8_readsWork_29 rfl ?_
    have e : wrkB T L (vm M) p = ((tkN T L p 0 5).1, none) := andN_n hn1
    rw [e]
    exact ⟨Or.inl ⟨rfl, rfl⟩, h1.2.1, h1.2.2.1.mono (by simp), h1.2.2.2⟩

