/-! ===== contracts: the model reads a text ===== -/
theorem rsO_nar {r : Int32} {o : Option Row} {S : Row} (h : rsO r o S) : narrow .boolean (.int r) = .int r := by
  rcases h with ⟨rfl, _⟩ | ⟨rfl, _⟩ <;> rfl
theorem rsO_0 {r : Int32} {o : Option Row} {S : Row} (h : rsO r o S) (c : r = 0) : o = none := by
  rcases h with ⟨_, h2⟩ | ⟨h1, _⟩
  · exact h2
  · exact absurd (h1.symm.trans c) (by decide)
theorem rsO_1 {r : Int32} {o : Option Row} {S : Row} (h : rsO r o S) (c : ¬ r = 0) : r = 1 ∧ o = some S := by
  rcases h with ⟨h1, _⟩ | h1
  · exact absurd h1 c
  · exact h1
theorem vm_of93 {M M1 : Mem} (h : ∀ k, k < 93 → M1 41 k = M 41 k) : vm M1 = vm M := by
  funext k
  unfold vm
  by_cases z : k < 93
  · rw [if_pos z, if_pos z, h k z]
  · rw [if_neg z, if_neg z]
theorem F_tx {A : Abs} {T : Row} {L : Nat} {R : Int32 × Option Row} (hT : T = aT A) (hL : L = tn (aL A)) (h : txtN T L 121 1 0 A.1 = R) : F_text A = (R.1, match R.2 with | none => wT A (T, 0) | some S1 => wT (wS A S1) (T, 0)) := by
  subst hT; subst hL; rw [← h]; rfl
def rm_X8_readsItem : Room := { frames := 5, cells := 0, slots := 0, locals := 115 }
set_option maxRecDepth 100000 in
set_option maxHeartbeats 4000000 in
theorem c_X8_readsItem (l : Launch) (g : Gp) (M : Mem) {T : Row} {L p : Nat} (ht : tpM M T L) (hr : rdM T L M p) (o : okRow (vm M)) (ol : okLt M) : Ki l g yX8_readsItem cX8_readsItem 3 .boolean rm_X8_readsItem [.ref (gad g (40))] M (fun r M' => rsO r (itmN T L (vm M) p).2 (vm M') ∧ rdM T L M' (itmN T L (vm M) p).1 ∧ same [40, 41] M M' ∧ kp40 M M') := by
  refine Ki.of rfl rfl rfl (fun q C hret hcs => ?_)
  refine x_aload_n C dX8_readsItem_0 rfl ?_
  refine x_aload_n C dX8_readsItem_1 rfl ?_
  refine x_getf (k := 40) C bk_X8 (C.lt rfl) rfl ent_40 13 fw_X8_32 rfl rfl dX8_readsItem_2 ?_
  refine x_cvE C (k := 40) (c_X8_wordOf48 l g _ (T := T) (L := L) (p := p) hr (fun w hw k hk => by rw [Nat.zero_add]; exact ol.1 w hw k hk) ) o_X8_wordOf mw_X8_246 rfl (C.lt rfl) rcv_40 rfl rfl rfl hcs dX8_readsItem_5 ?_
  refine x_istore_n C dX8_readsItem_8 rfl ?_
  refine x_iload_n C dX8_readsItem_9 rfl ?_
  refine x_if_lt (tgt := 19) C dX8_readsItem_10 (by decide) (fun c10 => ?_) (fun c10 => ?_)
  · skip
    have hk7 : ¬ kdN T L p < 7 := fun z => whI_lt (b := 0) (by decide) c10 (kdN T L p) z (by rw [Nat.zero_add]; exact kdN_is z)
    refine x_aload_n C dX8_readsItem_19 rfl ?_
    refine x_aload_n C dX8_readsItem_20 rfl ?_
    refine x_getf (k := 40) C bk_X8 (C.lt rfl) rfl ent_40 16 fw_X8_42 rfl rfl dX8_readsItem_21 ?_
    refine x_cvE C (k := 40) (c_X8_wordOf51 l g _ (T := T) (L := L) (p := p) hr ol.2.2.2 ) o_X8_wordOf mw_X8_246 rfl (C.lt rfl) rcv_40 rfl rfl rfl hcs dX8_readsItem_24 ?_
    refine x_istore_n C dX8_readsItem_27 rfl ?_
    refine x_iload_n C dX8_readsItem_28 rfl ?_
    refine x_if_ge (tgt := 34) C dX8_readsItem_29 (by decide) (fun c29 => ?_) (fun c29 => ?_)
    · skip
      obtain ⟨w, hw, hw2, hw3⟩ := whI_ge (b := 7) (by decide) (Int32.not_lt.mpr c29)
      refine x_aload_n C dX8_readsItem_34 rfl ?_
      refine x_cvv C (k := 40) (c_X8_nextToken l g _ (T := T) (L := L) (p := (enn T L p)) ht (enn_le hr.1) hr.2.2.2.1 ) o_X8_nextToken mw_X8_240 rfl (C.lt rfl) rcv_40 rfl rfl rfl hcs dX8_readsItem_35 (fun M1 h1 => ?_)
      have ht1 : tpM M1 T L := ht.of (h1.2.1 47 (by simp)) h1.2.2
      have hv1 : vm M1 = vm M := vm_same (h1.2.1 41 (by simp))
      refine x_iload_n C dX8_readsItem_38 rfl ?_
      refine x_if_ne (tgt := 49) C dX8_readsItem_39 (by decide) (fun c39 => ?_) (fun c39 => ?_)
      · skip
        have h8 : isW T L p 8 := by
          rcases (show w = 0 ∨ w = 1 by omega) with z | z
          · exact absurd (by rw [hw3, z]; rfl) c39
          · rw [z] at hw2; exact hw2
        have hn7 : ¬ isW T L p 7 := fun z => absurd (isW_one (by decide) (by decide) z h8) (by decide)
        refine x_aload_n C dX8_readsItem_49 rfl ?_
        refine x_cvi C (k := 40) (c_X8_readsWork l g _ (T := T) (L := L) (p := (enn T L p)) ht1 h1.1 (by rw [hv1]; exact o) (ol.of h1.2.1 (by decide)) ) o_X8_readsWork mw_X8_257 rfl (C.lt rfl) rcv_40 rfl rfl rfl hcs dX8_readsItem_50 (fun r2 M3 h2 => ?_)
        refine hret _ _ _ _ dX8_readsItem_53 (rsO_nar h2.1) ?_
        rw [hv1] at h2
        have e : itmN T L (vm M) p = wrkB T L (vm M) (enn T L p) := by unfold itmN; rw [if_neg hk7, ifp_f hn7, ifp_t h8]
        rw [e]
        exact ⟨h2.1, h2.2.1, (h1.2.1.mono (by simp)).tr h2.2.2.1, h1.2.2.tr h2.2.2.2⟩
      · skip
        have h7 : isW T L p 7 := (whI_iff (b := 7) (n := 2) (w := 0) (by decide) (by decide)).mp c39
        refine x_aload_n C dX8_readsItem_42 rfl ?_
        refine x_cvi C (k := 40) (c_X8_readsHen l g _ (T := T) (L := L) (p := (enn T L p)) ht1 h1.1 ) o_X8_readsHen mw_X8_253 rfl (C.lt rfl) rcv_40 rfl rfl rfl hcs dX8_readsItem_43 (fun r2 M2 h2 => ?_)
        refine x_goto (tgt := 53) C dX8_readsItem_46 (by decide) ?_
        refine hret _ _ _ _ dX8_readsItem_53 (rsO_nar h2.1) ?_
        rw [hv1] at h2
        have e : itmN T L (vm M) p = henB T L (vm M) (enn T L p) := by unfold itmN; rw [if_neg hk7, ifp_t h7]
        rw [e]
        exact ⟨h2.1, h2.2.1, (h1.2.1.mono (by simp)).tr h2.2.2.1, h1.2.2.tr h2.2.2.2⟩
    · skip
      have hno := whI_lt (b := 7) (by decide) (Int32.not_le.mp c29)
      refine x_iconst (v := 0) C dX8_readsItem_32 (by decide) ?_
      refine hret _ _ _ _ dX8_readsItem_33 rfl ?_
      have e : itmN T L (vm M) p = (p, none) := by unfold itmN; rw [if_neg hk7, ifp_f (hno 0 (by decide)), ifp_f (hno 1 (by decide))]
      rw [e]; exact ⟨Or.inl ⟨rfl, rfl⟩, hr, same.rf, kp40.rf⟩
  · skip
    obtain ⟨w, hw, hw2, hw3⟩ := whI_ge (b := 0) (by decide) c10
    rw [Nat.zero_add] at hw2
    have hkd := kdN_eq hw hw2
    refine x_aload_n C dX8_readsItem_13 rfl ?_
    refine x_iload_n C dX8_readsItem_14 rfl ?_
    refine x_cvi C (k := 40) (c_X8_readsEgg l g _ (T := T) (L := L) (p := p) (k := w) ht hr ol hw3 ) o_X8_readsEgg mw_X8_250 rfl (C.lt rfl) rcv_40 rfl rfl rfl hcs dX8_readsItem_15 (fun r1 M1 h1 => ?_)
    refine hret _ _ _ _ dX8_readsItem_18 (rsO_nar h1.1) ?_
    have e : itmN T L (vm M) p = (if frN (vm M) 8 < 8 then eggB T L (vm M) w (enn T L p) else (p, none)) := by unfold itmN; rw [hkd, if_pos hw]
    rw [e]; exact h1

def rm_X8_text : Room := { frames := 6, cells := 0, slots := 0, locals := 137 }
set_option maxRecDepth 100000 in
set_option maxHeartbeats 4000000 in
theorem c_X8_text (l : Launch) (g : Gp) (M : Mem) (oa : okA (aM M)) (ol : okLt M) : Ki l g yX8_text cX8_text 3 .int rm_X8_text [.ref (gad g (40))] M (fun r M' => (r, aM M') = F_text (aM M) ∧ sameM M M') := by
  refine Ki.of rfl rfl rfl (fun q C hret hcs => ?_)
  have o : okRow (vm M) := oa.1
  have qL := inB_tn (n := 120) (by decide) (okL_M oa)
  have ht0 : tpM M (aT (aM M)) (tn (M 40 8)) := ⟨qL.2, by omega, fun k hk9 => (cut_at hk9).symm, oa.2.2.1.2⟩
  obtain ⟨T, hT⟩ : ∃ T, T = aT (aM M) := ⟨_, rfl⟩
  obtain ⟨L, hL⟩ : ∃ L, L = tn (aL (aM M)) := ⟨_, rfl⟩
  rw [← hT, show tn (M 40 8) = L from hL.symm] at ht0
  refine x_aload_n C dX8_text_0 rfl ?_
  refine x_cvv C (k := 40) (c_X8_setsAside l g _ ) o_X8_setsAside mw_X8_152 rfl (C.lt rfl) rcv_40 rfl rfl rfl hcs dX8_text_1 (fun Ma ha => ?_)
  refine x_aload_n C dX8_text_4 rfl ?_
  refine x_iconst (v := 0) C dX8_text_5 (by decide) ?_
  refine x_putf (k := 40) C bk_X8 (C.lt rfl) rfl ent_40 11 fw_X8_209 rfl (fun _ => rfl) rfl rfl rfl rfl dX8_text_6 ?_
  refine x_memI (fun Mb eMb => ?_)
  refine x_aload_n C dX8_text_9 rfl ?_
  have htb : tpM Mb T L := ht0.of (by rw [eMb, up_n (by decide)]; exact ha.2 47 (by simp)) ((kp40.of ha.2 (by simp)).tr (by rw [eMb]; exact kp40.u40 (by decide)))
  have hsb : same [40, 43] M Mb := (ha.2.mono (by simp)).tr (by rw [eMb]; exact same.up (by simp))
  have hkb : kp40 M Mb := (kp40.of ha.2 (by simp)).tr (by rw [eMb]; exact kp40.u40 (by decide))
  refine x_cvv C (k := 40) (c_X8_nextToken l g _ (T := T) (L := L) (p := 0) htb (Nat.zero_le L) (by rw [eMb, up_ss]; rfl) ) o_X8_nextToken mw_X8_240 rfl (C.lt rfl) rcv_40 rfl rfl rfl hcs dX8_text_10 (fun Mc hc => ?_)
  have hsc : same [40, 43] M Mc := hsb.tr (hc.2.1.mono (by simp))
  have hkc : kp40 M Mc := hkb.tr hc.2.2
  have hvc : vm Mc = vm M := vm_same (hsc 41 (by simp))
  have hac : ∀ k, k < 93 → Mc 43 k = M 41 k := fun k hk9 => by rw [hc.2.1 43 (by simp), eMb, up_n (by decide)]; exact ha.1 k hk9
  refine x_iconst (v := 1) C dX8_text_13 (by decide) ?_
  refine x_istore_n C dX8_text_14 rfl ?_
  refine x_aload_n C dX8_text_15 rfl ?_
  refine x_cvi C (k := 40) (c_X8_readsItem l g _ (T := T) (L := L) (p := 0) (ht0.of (hsc 47 (by simp)) hkc) hc.1 (by rw [hvc]; exact o) (ol.of hsc (by decide)) ) o_X8_readsItem mw_X8_260 rfl (C.lt rfl) rcv_40 rfl rfl rfl hcs dX8_text_16 (fun rd Md hd => ?_)
  rw [hvc] at hd
  refine x_istore_n C dX8_text_19 rfl ?_
  refine X.le (ls' := [some (.ref (gad g (40))), some (.int (nI 1)), some (.int (rd))]) (lle_s rfl (lle_s rfl (lle_s rfl lle_e))) ?_
  refine dn_to (P := fun f => ∀ (n p : Nat) (S : Row) (M1 : Mem) (gd : Int32), p ≤ L → 121 ≤ p + f → txtN T L 121 1 0 (vm M) = txtN T L f n p S → okRow S → rsO gd (itmN T L S p).2 (vm M1) → rdM T L M1 (itmN T L S p).1 → (∀ k, k < 93 → M1 43 k = M 41 k) → same [40, 41, 43] M M1 → kp40 M M1 → X (kmk l rm_X8_text g 3 q) M1 20 [some (.ref (gad g (40))), some (.int (nI n)), some (.int (gd))] []) (fun f jh n p S M1 gd hp hf htx ho hgo hrd hA hs hk => ?_) 121 1 0 (vm M) Md rd (Nat.zero_le L) (by omega) rfl o hd.1 hd.2.1 (fun k hk9 => by rw [hd.2.2.1 43 (by simp)]; exact hac k hk9) ((hsc.mono (by simp)).tr (hd.2.2.1.mono (by simp))) (hkc.tr hd.2.2.2)
  obtain ⟨f1, rfl⟩ : ∃ u, f = u + 1 := ⟨f - 1, by have := ht0.2.1; omega⟩
  have ib := itm_b (T := T) (S := S) hp
  refine x_iload_n C dX8_text_20 rfl ?_
  refine x_if_eq (tgt := 47) C dX8_text_21 (by decide) (fun c21 => ?_) (fun c21 => ?_)
  · skip
    have hno := rsO_0 hgo c21
    subst c21
    refine x_iload_n C dX8_text_47 rfl ?_
    refine x_if_eqT (tgt := 62) C dX8_text_48 (by decide) (by decide) ?_
    refine x_iconst (v := 0) C dX8_text_62 (by decide) ?_
    refine x_istore_n C dX8_text_63 rfl ?_
    refine x_aload_n C dX8_text_64 rfl ?_
    refine x_iconst (v := 0) C dX8_text_65 (by decide) ?_
    refine x_putf (k := 40) C bk_X8 (C.lt rfl) rfl ent_40 8 fw_X8_205 rfl (fun _ => rfl) rfl rfl rfl rfl dX8_text_66 ?_
    refine x_memI (fun M5 eM5 => ?_)
    refine x_iload_n C dX8_text_69 rfl ?_
    refine x_if_neF (tgt := 84) C dX8_text_70 (by decide) (by decide) ?_
    refine x_aload_n C dX8_text_73 rfl ?_
    refine x_cvv C (k := 40) (c_X8_laysBack l g _ ) o_X8_laysBack mw_X8_155 rfl (C.lt rfl) rcv_40 rfl rfl rfl hcs dX8_text_74 (fun M6 h6 => ?_)
    refine x_iconst (v := -1) C dX8_text_77 (by decide) ?_
    refine x_aload_n C dX8_text_78 rfl ?_
    refine x_getf (k := 40) C bk_X8 (C.lt rfl) rfl ent_40 10 fw_X8_212 rfl rfl dX8_text_79 ?_
    refine x_topE (y := nI (stt T L (itmN T L S p).1)) (by rw [h6.2 40 (by simp), eM5, up_sn (by decide)]; exact hrd.2.2.1) ?_
    refine x_isub C dX8_text_82 ?_
    refine hret _ _ _ _ dX8_text_83 rfl ?_
    have hv6 : vm M6 = vm M := vm_of93 (fun k hk9 => by rw [h6.1 k hk9, eM5, up_n (by decide)]; exact hA k hk9)
    have eX : aM M6 = wT (wS (aM M) (vm M)) (aT (aM M), 0) := aM_X hv6 (by rw [h6.2 40 (by simp), eM5]; exact up_ss) (by rw [h6.2 40 (by simp), eM5, up_sn (by decide)]; exact hk.1) (hs.tr ((by rw [eM5]; exact same.up (by simp) : same [40, 41, 43] M1 M5).tr (h6.2.mono (by simp))))
    refine ⟨?_, ?_⟩
    · rw [eX, ← hT]
      refine ((F_tx (R := (-1 - nI (stt T L (itmN T L S p).1), none)) hT hL (htx.trans ?_)).trans ?_).symm
      · first | exact txt_n hno | exact (txt_s hso.2).trans ((if_neg h0).trans (if_neg h3))
      · rfl
    · exact (hs.tr ((by rw [eM5]; exact same.up (by simp) : same [40, 41, 43] M1 M5).tr (h6.2.mono (by simp)))).Mo (by decide)
  · skip
    have hso := rsO_1 hgo c21
    obtain ⟨g1, -⟩ := hso
    have hso := rsO_1 hgo c21
    subst g1
    refine x_aload_n C dX8_text_24 rfl ?_
    refine x_getf (k := 40) C bk_X8 (C.lt rfl) rfl ent_40 9 fw_X8_219 rfl rfl dX8_text_25 ?_
    refine x_iconst (v := 3) C dX8_text_28 (by decide) ?_
    refine x_icmp_ne (tgt := 47) C dX8_text_29 (by decide) (fun c29 => ?_) (fun c29 => ?_)
    · skip
      have h3 : ¬ sor T L (itmN T L S p).1 = 3 := fun z => c29 ((sorM_is (k := 3) (by decide) hrd.2.1).mpr (sorM_3.mpr z))
      refine x_iload_n C dX8_text_47 rfl ?_
      refine x_if_eqF (tgt := 62) C dX8_text_48 (by decide) (by decide) ?_
      refine x_aload_n C dX8_text_51 rfl ?_
      refine x_getf (k := 40) C bk_X8 (C.lt rfl) rfl ent_40 9 fw_X8_219 rfl rfl dX8_text_52 ?_
      refine x_if_ne (tgt := 62) C dX8_text_55 (by decide) (fun c55 => ?_) (fun c55 => ?_)
      · skip
        have h0 : ¬ sor T L (itmN T L S p).1 = 0 := fun z => c55 ((sorM_is (k := 0) (by decide) hrd.2.1).mpr (sorM_0.mpr z))
        refine x_iconst (v := 0) C dX8_text_62 (by decide) ?_
        refine x_istore_n C dX8_text_63 rfl ?_
        refine x_aload_n C dX8_text_64 rfl ?_
        refine x_iconst (v := 0) C dX8_text_65 (by decide) ?_
        refine x_putf (k := 40) C bk_X8 (C.lt rfl) rfl ent_40 8 fw_X8_205 rfl (fun _ => rfl) rfl rfl rfl rfl dX8_text_66 ?_
        refine x_memI (fun M5 eM5 => ?_)
        refine x_iload_n C dX8_text_69 rfl ?_
        refine x_if_neF (tgt := 84) C dX8_text_70 (by decide) (by decide) ?_
        refine x_aload_n C dX8_text_73 rfl ?_
        refine x_cvv C (k := 40) (c_X8_laysBack l g _ ) o_X8_laysBack mw_X8_155 rfl (C.lt rfl) rcv_40 rfl rfl rfl hcs dX8_text_74 (fun M6 h6 => ?_)
        refine x_iconst (v := -1) C dX8_text_77 (by decide) ?_
        refine x_aload_n C dX8_text_78 rfl ?_
        refine x_getf (k := 40) C bk_X8 (C.lt rfl) rfl ent_40 10 fw_X8_212 rfl rfl dX8_text_79 ?_
        refine x_topE (y := nI (stt T L (itmN T L S p).1)) (by rw [h6.2 40 (by simp), eM5, up_sn (by decide)]; exact hrd.2.2.1) ?_
        refine x_isub C dX8_text_82 ?_
        refine hret _ _ _ _ dX8_text_83 rfl ?_
        have hv6 : vm M6 = vm M := vm_of93 (fun k hk9 => by rw [h6.1 k hk9, eM5, up_n (by decide)]; exact hA k hk9)
        have eX : aM M6 = wT (wS (aM M) (vm M)) (aT (aM M), 0) := aM_X hv6 (by rw [h6.2 40 (by simp), eM5]; exact up_ss) (by rw [h6.2 40 (by simp), eM5, up_sn (by decide)]; exact hk.1) (hs.tr ((by rw [eM5]; exact same.up (by simp) : same [40, 41, 43] M1 M5).tr (h6.2.mono (by simp))))
        refine ⟨?_, ?_⟩
        · rw [eX, ← hT]
          refine ((F_tx (R := (-1 - nI (stt T L (itmN T L S p).1), none)) hT hL (htx.trans ?_)).trans ?_).symm
          · first | exact txt_n hno | exact (txt_s hso.2).trans ((if_neg h0).trans (if_neg h3))
          · rfl
        · exact (hs.tr ((by rw [eM5]; exact same.up (by simp) : same [40, 41, 43] M1 M5).tr (h6.2.mono (by simp)))).Mo (by decide)
      · skip
        have h0 : sor T L (itmN T L S p).1 = 0 := sorM_0.mp ((sorM_is (k := 0) (by decide) hrd.2.1).mp c55)
        refine x_iconst (v := 1) C dX8_text_58 (by decide) ?_
        refine x_goto (tgt := 63) C dX8_text_59 (by decide) ?_
        refine x_istore_n C dX8_text_63 rfl ?_
        refine x_aload_n C dX8_text_64 rfl ?_
        refine x_iconst (v := 0) C dX8_text_65 (by decide) ?_
        refine x_putf (k := 40) C bk_X8 (C.lt rfl) rfl ent_40 8 fw_X8_205 rfl (fun _ => rfl) rfl rfl rfl rfl dX8_text_66 ?_
        refine x_memI (fun M5 eM5 => ?_)
        refine x_iload_n C dX8_text_69 rfl ?_
        refine x_if_neT (tgt := 84) C dX8_text_70 (by decide) (by decide) ?_
        refine x_iload_n C dX8_text_84 rfl ?_
        refine hret _ _ _ _ dX8_text_85 rfl ?_
        have eX : aM M5 = wT (wS (aM M) (vm M1)) (aT (aM M), 0) := aM_X (by rw [eM5]; exact vm_same (up_n (by decide))) (by rw [eM5]; exact up_ss) (by rw [eM5, up_sn (by decide)]; exact hk.1) (hs.tr (by rw [eM5]; exact same.up (by simp)))
        refine ⟨?_, ?_⟩
        · rw [eX, ← hT]
          refine ((F_tx (R := (nI n, some (vm M1))) hT hL (htx.trans ?_)).trans ?_).symm
          · exact (txt_s hso.2).trans (if_pos h0)
          · rfl
        · exact (hs.tr (by rw [eM5]; exact same.up (by simp))).Mo (by decide)
    · skip
      have h3 : sor T L (itmN T L S p).1 = 3 := sorM_3.mp ((sorM_is (k := 3) (by decide) hrd.2.1).mp c29)
      refine x_aload_n C dX8_text_32 rfl ?_
      refine x_cvv C (k := 40) (c_X8_nextToken l g _ (T := T) (L := L) (p := (enn T L (itmN T L S p).1)) (ht0.of (hs 47 (by simp)) hk) (enn_le ib.2.1) hrd.2.2.2.1 ) o_X8_nextToken mw_X8_240 rfl (C.lt rfl) rcv_40 rfl rfl rfl hcs dX8_text_33 (fun M2 h2 => ?_)
      have hv2 : vm M2 = vm M1 := vm_same (h2.2.1 41 (by simp))
      refine x_aload_n C dX8_text_36 rfl ?_
      refine x_cvi C (k := 40) (c_X8_readsItem l g _ (T := T) (L := L) (p := (enn T L (itmN T L S p).1)) (ht0.of (by rw [h2.2.1 47 (by simp)]; exact hs 47 (by simp)) (hk.tr h2.2.2)) h2.1 (by rw [hv2]; exact okRow_itm ho hso.2) (ol.of (hs.tr (h2.2.1.mono (by simp))) (by decide)) ) o_X8_readsItem mw_X8_260 rfl (C.lt rfl) rcv_40 rfl rfl rfl hcs dX8_text_37 (fun r3 M3 h4 => ?_)
      rw [hv2] at h4
      refine x_istore_n C dX8_text_40 rfl ?_
      refine x_iinc (v := nI (n + 1)) C dX8_text_41 rfl (nI_1 n) rfl ?_
      refine x_goto (tgt := 20) C dX8_text_44 (by decide) ?_
      refine jh f1 (Nat.lt_succ_self f1) (n + 1) (enn T L (itmN T L S p).1) (vm M1) M3 r3 (enn_le ib.2.1) ?_ ?_ (okRow_itm ho hso.2) h4.1 h4.2.1 ?_ (hs.tr ((h2.2.1.mono (by simp)).tr (h4.2.2.1.mono (by simp)))) (hk.tr (h2.2.2.tr h4.2.2.2))
      · have z1 := ib.2.2 _ hso.2
        have z2 := enn_ge (T := T) ib.2.1
        omega
      · refine htx.trans ((txt_s hso.2).trans ?_)
        rw [if_neg (by rw [h3]; decide), if_pos h3]
      · intro k hk9
        rw [h4.2.2.1 43 (by simp), h2.2.1 43 (by simp)]
        exact hA k hk9

