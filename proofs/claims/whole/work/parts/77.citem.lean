/-! ===== contracts: the class's items, its reader ===== -/
theorem pe_m {r : Int32} {T : Row} {L p w hi d : Nat} (e : r = opI (perN T L p w hi d).2) (hd : d ≤ hi) (hb : hi < 2 ^ 31) (h : ¬ 0 ≤ r) : (perN T L p w hi d).2 = none := pe_n hd hb (by rw [← e]; exact Int32.not_le.mp h)
theorem neg_1 : ∀ u, u < 121 → -1 - nI u < 0 := by decide +kernel
def txP (R : Int32 × Option Row) (r : Int32) (S : Row) : Prop := r = R.1 ∧ ((R.2 = some S ∧ 0 ≤ R.1) ∨ (R.2 = none ∧ R.1 < 0))
def rm_X3_readEgg : Room := { frames := 7, cells := 0, slots := 0, locals := 151 }
set_option maxRecDepth 100000 in
set_option maxHeartbeats 4000000 in
theorem c_X3_readEgg (l : Launch) (g : Gp) (hrd : 56 < gn g) (M : Mem) {T : Row} {L p : Nat} (ht : tpC M T L) (hr : rdC T L M p) {k : Nat} (hk : k < 7) {x : Int32} (hx : x = nI k) : Ki l g yX3_readEgg cX3_readEgg 6 .boolean rm_X3_readEgg [.ref (gad g (56)), .int (x)] M (fun r M' => rsO r (if frN (vw M 17) 8 < 8 then eggB T L (vw M 17) k (enn T L p) else (p, none)).2 (vw M' 17) ∧ rdC T L M' (if frN (vw M 17) 8 < 8 then eggB T L (vw M 17) k (enn T L p) else (p, none)).1 ∧ same [56, 17 + (0 + 4), 17 + (1 + 4), 17 + (2 + 4)] M M') := by
  refine Ki.of rfl rfl rfl (fun q C hret hcs => ?_)
  refine x_aload_n C dX3_readEgg_0 rfl ?_
  refine x_getf (k := 56) C bk_X3 hrd rfl ent_56 1 fw_X3_15 rfl rfl dX3_readEgg_1 ?_
  refine x_cvE C (k := 17) (c_X1_emptyPlace l g (h := 17) (Or.inr (Or.inr rfl)) _ ) o_X1_emptyPlace mw_X3_52 rfl (C.lt' (isH_lt (Or.inr (Or.inr rfl)) 0 (by decide))) (rcv_H (Or.inr (Or.inr rfl))) rfl rfl rfl hcs dX3_readEgg_4 ?_
  refine x_topi (fun x2 ex2 => ?_)
  refine x_istore_n C dX3_readEgg_7 rfl ?_
  refine x_iload_n C dX3_readEgg_8 rfl ?_
  refine x_if_ge (tgt := 14) C dX3_readEgg_9 (by decide) (fun c9 => ?_) (fun c9 => ?_)
  · skip
    have f8 : frN (vw M 17) 8 < 8 := frI_lt (by rw [← ex2]; exact Int32.not_lt.mpr c9)
    have e2 : x2 = nI (frN (vw M 17) 8) := by rw [ex2]; exact if_pos f8
    have hE : (if frN (vw M 17) 8 < 8 then eggB T L (vw M 17) k (enn T L p) else (p, none)) = eggB T L (vw M 17) k (enn T L p) := if_pos f8
    refine x_aload_n C dX3_readEgg_14 rfl ?_
    refine x_cvv C (k := 56) (c_X3_advance l g hrd _ (T := T) (L := L) (p := (enn T L p)) ht (enn_le hr.1) hr.2.2.2.1 ) o_X3_advance mw_X3_19 rfl hrd rcv_56 rfl rfl rfl hcs dX3_readEgg_15 (fun M1 h1 => ?_)
    have ht1 : tpC M1 T L := ht.sm h1.2 (by simp) (by simp)
    refine x_aload_n C dX3_readEgg_18 rfl ?_
    refine x_iconst (v := 1) C dX3_readEgg_19 (by decide) ?_
    refine x_bipush (v := 99) C dX3_readEgg_20 (by decide) ?_
    refine x_cvi C (k := 56) (c_X3_readNumber l g hrd _ (T := T) (L := L) (p := (enn T L p)) ht1 h1.1 (lo := 1) (hi := 99) (by decide) (by decide) rfl rfl ) o_X3_readNumber mw_X3_57 rfl hrd rcv_56 rfl rfl rfl hcs dX3_readEgg_22 (fun r2 M2 h2 => ?_)
    have ht2 : tpC M2 T L := ht1.sm h2.2.2 (by simp) (by simp)
    have hs2 : same [56] M M2 := h1.2.tr h2.2.2
    have hv2 : vw M2 17 = vw M 17 := vw_same hs2 (by decide) (by decide) (by decide) (by decide) (by decide)
    refine x_istore_n C dX3_readEgg_25 rfl ?_
    refine x_iload_n C dX3_readEgg_26 rfl ?_
    refine x_if_ge (tgt := 34) C dX3_readEgg_27 (by decide) (fun c27 => ?_) (fun c27 => ?_)
    · skip
      obtain ⟨s, hq2⟩ := opI_ge' (show 0 ≤ opI _ by rw [← h2.1]; exact c27)
      have er2 : r2 = nI s := by rw [h2.1, hq2]; rfl
      refine x_aload_n C dX3_readEgg_34 rfl ?_
      refine x_ldcS C (i := 9) (by decide) dX3_readEgg_35 ?_
      refine x_bipush (v := 99) C dX3_readEgg_37 (by decide) ?_
      refine x_iconst (v := 0) C dX3_readEgg_39 (by decide) ?_
      refine x_cvi C (k := 56) (c_X3_readPerhaps l g hrd _ (T := T) (L := L) (p := (tkN T L (enn T L p) 1 99).1) ht2 h2.2.1 (i := 9) (hi := 99) (d := 0) (by decide) (by decide) rfl rfl ) o_X3_readPerhaps mw_X3_63 rfl hrd rcv_56 rfl rfl rfl hcs dX3_readEgg_40 (fun r3 M3 h3 => ?_)
      have ht3 : tpC M3 T L := ht2.sm h3.2.2 (by simp) (by simp)
      have hs3 : same [56] M M3 := hs2.tr h3.2.2
      have hv3 : vw M3 17 = vw M 17 := vw_same hs3 (by decide) (by decide) (by decide) (by decide) (by decide)
      refine x_istore C dX3_readEgg_43 rfl ?_
      refine x_iload C dX3_readEgg_45 rfl ?_
      refine x_if_ge (tgt := 54) C dX3_readEgg_47 (by decide) (fun c47 => ?_) (fun c47 => ?_)
      · skip
        obtain ⟨a, hq3⟩ := opI_ge' (show 0 ≤ opI _ by rw [← h3.1]; exact c47)
        have er3 : r3 = nI a := by rw [h3.1, hq3]; rfl
        refine x_aload_n C dX3_readEgg_54 rfl ?_
        refine x_ldcS C (i := 10) (by decide) dX3_readEgg_55 ?_
        refine x_iconst (v := 3) C dX3_readEgg_57 (by decide) ?_
        refine x_iconst (v := 0) C dX3_readEgg_58 (by decide) ?_
        refine x_cvi C (k := 56) (c_X3_readPerhaps l g hrd _ (T := T) (L := L) (p := (perN T L (tkN T L (enn T L p) 1 99).1 9 99 0).1) ht3 h3.2.1 (i := 10) (hi := 3) (d := 0) (by decide) (by decide) rfl rfl ) o_X3_readPerhaps mw_X3_63 rfl hrd rcv_56 rfl rfl rfl hcs dX3_readEgg_59 (fun r4 M4 h4 => ?_)
        have ht4 : tpC M4 T L := ht3.sm h4.2.2 (by simp) (by simp)
        have hs4 : same [56] M M4 := hs3.tr h4.2.2
        have hv4 : vw M4 17 = vw M 17 := vw_same hs4 (by decide) (by decide) (by decide) (by decide) (by decide)
        refine x_istore C dX3_readEgg_62 rfl ?_
        refine x_iload C dX3_readEgg_64 rfl ?_
        refine x_if_ge (tgt := 71) C dX3_readEgg_66 (by decide) (fun c66 => ?_) (fun c66 => ?_)
        · skip
          obtain ⟨n, hq4⟩ := opI_ge' (show 0 ≤ opI _ by rw [← h4.1]; exact c66)
          have er4 : r4 = nI n := by rw [h4.1, hq4]; rfl
          refine x_aload_n C dX3_readEgg_71 rfl ?_
          refine x_getf (k := 56) C bk_X3 hrd rfl ent_56 1 fw_X3_15 rfl rfl dX3_readEgg_72 ?_
          refine x_iload_n C dX3_readEgg_75 rfl ?_
          refine x_iload_n C dX3_readEgg_76 rfl ?_
          refine x_iload_n C dX3_readEgg_77 rfl ?_
          refine x_iload C dX3_readEgg_78 rfl ?_
          refine x_iload C dX3_readEgg_80 rfl ?_
          refine x_cvv C (k := 17) (c_X1_layAt l g (h := 17) (Or.inr (Or.inr rfl)) _ (e := (frN (vw M 17) 8)) e2 f8 _ _ _ _ (by rw [hx]; exact fun z => nI_pos (n := k) (by omega) (by rw [z]; decide)) ) o_X1_layAt mw_X3_69 rfl (C.lt' (isH_lt (Or.inr (Or.inr rfl)) 0 (by decide))) (rcv_H (Or.inr (Or.inr rfl))) rfl rfl rfl hcs dX3_readEgg_82 (fun M5 h5 => ?_)
          refine x_iconst (v := 1) C dX3_readEgg_85 (by decide) ?_
          refine hret _ _ _ _ dX3_readEgg_86 rfl ?_
          have e : eggB T L (vw M 17) k (enn T L p) = ((perN T L (perN T L (tkN T L (enn T L p) 1 99).1 9 99 0).1 10 3 0).1, some (putE (vw M 17) (frN (vw M 17) 8) (nI k) (nI s) (nI a) (nI n))) := (andN_s hq2).trans ((andN_s hq3).trans (andN_s hq4))
          rw [hE, e]
          refine ⟨Or.inr ⟨rfl, congrArg some ?_⟩, h4.2.1.of (h5.2 56 (by simp)), (hs4.mono (by simp)).tr (h5.2.mono (by simp))⟩
          rw [h5.1, hv4, hx, er2, er3, er4]
        · skip
          have hn4 := pe_m h4.1 (by decide) (by decide) c66
          refine x_iconst (v := 0) C dX3_readEgg_69 (by decide) ?_
          refine hret _ _ _ _ dX3_readEgg_70 rfl ?_
          have e : eggB T L (vw M 17) k (enn T L p) = ((perN T L (perN T L (tkN T L (enn T L p) 1 99).1 9 99 0).1 10 3 0).1, none) := (andN_s hq2).trans ((andN_s hq3).trans (andN_n hn4))
          rw [hE, e]
          exact ⟨Or.inl ⟨rfl, rfl⟩, h4.2.1, hs4.mono (by simp)⟩
      · skip
        have hn3 := pe_m h3.1 (by decide) (by decide) c47
        refine x_iconst (v := -1) C dX3_readEgg_50 (by decide) ?_
        refine x_goto (tgt := 62) C dX3_readEgg_51 (by decide) ?_
        refine x_istore C dX3_readEgg_62 rfl ?_
        refine x_iload C dX3_readEgg_64 rfl ?_
        refine x_if_geF (tgt := 71) C dX3_readEgg_66 (by decide) (by decide) ?_
        refine x_iconst (v := 0) C dX3_readEgg_69 (by decide) ?_
        refine hret _ _ _ _ dX3_readEgg_70 rfl ?_
        have e : eggB T L (vw M 17) k (enn T L p) = ((perN T L (tkN T L (enn T L p) 1 99).1 9 99 0).1, none) := (andN_s hq2).trans (andN_n hn3)
        rw [hE, e]
        exact ⟨Or.inl ⟨rfl, rfl⟩, h3.2.1, hs3.mono (by simp)⟩
    · skip
      have hn2 := tk_m h2.1 (by decide) c27
      refine x_iconst (v := -1) C dX3_readEgg_30 (by decide) ?_
      refine x_goto (tgt := 43) C dX3_readEgg_31 (by decide) ?_
      refine x_istore C dX3_readEgg_43 rfl ?_
      refine x_iload C dX3_readEgg_45 rfl ?_
      refine x_if_geF (tgt := 54) C dX3_readEgg_47 (by decide) (by decide) ?_
      refine x_iconst (v := -1) C dX3_readEgg_50 (by decide) ?_
      refine x_goto (tgt := 62) C dX3_readEgg_51 (by decide) ?_
      refine x_istore C dX3_readEgg_62 rfl ?_
      refine x_iload C dX3_readEgg_64 rfl ?_
      refine x_if_geF (tgt := 71) C dX3_readEgg_66 (by decide) (by decide) ?_
      refine x_iconst (v := 0) C dX3_readEgg_69 (by decide) ?_
      refine hret _ _ _ _ dX3_readEgg_70 rfl ?_
      have e : eggB T L (vw M 17) k (enn T L p) = ((tkN T L (enn T L p) 1 99).1, none) := andN_n hn2
      rw [hE, e]
      exact ⟨Or.inl ⟨rfl, rfl⟩, h2.2.1, hs2.mono (by simp)⟩
  · skip
    have f8 : ¬ frN (vw M 17) 8 < 8 := frI_ge (by rw [← ex2]; exact Int32.not_le.mp c9)
    have hE : (if frN (vw M 17) 8 < 8 then eggB T L (vw M 17) k (enn T L p) else (p, none)) = (p, none) := if_neg f8
    refine x_iconst (v := 0) C dX3_readEgg_12 (by decide) ?_
    refine hret _ _ _ _ dX3_readEgg_13 rfl ?_
    rw [hE]
    exact ⟨Or.inl ⟨rfl, rfl⟩, hr, same.rf⟩

def rm_X3_readHen : Room := { frames := 3, cells := 0, slots := 0, locals := 64 }
set_option maxRecDepth 100000 in
set_option maxHeartbeats 4000000 in
theorem c_X3_readHen (l : Launch) (g : Gp) (hrd : 56 < gn g) (M : Mem) {T : Row} {L p : Nat} (ht : tpC M T L) (hr : rdC T L M p)  : Ki l g yX3_readHen cX3_readHen 3 .boolean rm_X3_readHen [.ref (gad g (56))] M (fun r M' => rsO r (henB T L (vw M 17) (enn T L p)).2 (vw M' 17) ∧ rdC T L M' (henB T L (vw M 17) (enn T L p)).1 ∧ same [56, 17 + (0 + 4), 17 + (1 + 4), 17 + (2 + 4)] M M') := by
  refine Ki.of rfl rfl rfl (fun q C hret hcs => ?_)
  refine x_aload_n C dX3_readHen_0 rfl ?_
  refine x_cvv C (k := 56) (c_X3_advance l g hrd _ (T := T) (L := L) (p := (enn T L p)) ht (enn_le hr.1) hr.2.2.2.1 ) o_X3_advance mw_X3_19 rfl hrd rcv_56 rfl rfl rfl hcs dX3_readHen_1 (fun M1 h1 => ?_)
  have ht1 : tpC M1 T L := ht.sm h1.2 (by simp) (by simp)
  refine x_aload_n C dX3_readHen_4 rfl ?_
  refine x_iconst (v := 0) C dX3_readHen_5 (by decide) ?_
  refine x_iconst (v := 3) C dX3_readHen_6 (by decide) ?_
  refine x_cvi C (k := 56) (c_X3_readNumber l g hrd _ (T := T) (L := L) (p := (enn T L p)) ht1 h1.1 (lo := 0) (hi := 3) (by decide) (by decide) rfl rfl ) o_X3_readNumber mw_X3_57 rfl hrd rcv_56 rfl rfl rfl hcs dX3_readHen_7 (fun r2 M2 h2 => ?_)
  have ht2 : tpC M2 T L := ht1.sm h2.2.2 (by simp) (by simp)
  have hs2 : same [56] M M2 := h1.2.tr h2.2.2
  have hv2 : vw M2 17 = vw M 17 := vw_same hs2 (by decide) (by decide) (by decide) (by decide) (by decide)
  refine x_istore_n C dX3_readHen_10 rfl ?_
  refine x_iload_n C dX3_readHen_11 rfl ?_
  refine x_if_ge (tgt := 19) C dX3_readHen_12 (by decide) (fun c12 => ?_) (fun c12 => ?_)
  · skip
    obtain ⟨a, hq2⟩ := opI_ge' (show 0 ≤ opI _ by rw [← h2.1]; exact c12)
    have er2 : r2 = nI a := by rw [h2.1, hq2]; rfl
    have ba := tkN_v hq2
    refine x_aload_n C dX3_readHen_19 rfl ?_
    refine x_iconst (v := 0) C dX3_readHen_20 (by decide) ?_
    refine x_bipush (v := 30) C dX3_readHen_21 (by decide) ?_
    refine x_cvi C (k := 56) (c_X3_readNumber l g hrd _ (T := T) (L := L) (p := (tkN T L (enn T L p) 0 3).1) ht2 h2.2.1 (lo := 0) (hi := 30) (by decide) (by decide) rfl rfl ) o_X3_readNumber mw_X3_57 rfl hrd rcv_56 rfl rfl rfl hcs dX3_readHen_23 (fun r3 M3 h3 => ?_)
    have ht3 : tpC M3 T L := ht2.sm h3.2.2 (by simp) (by simp)
    have hs3 : same [56] M M3 := hs2.tr h3.2.2
    have hv3 : vw M3 17 = vw M 17 := vw_same hs3 (by decide) (by decide) (by decide) (by decide) (by decide)
    refine x_istore_n C dX3_readHen_26 rfl ?_
    refine x_iload_n C dX3_readHen_27 rfl ?_
    refine x_if_ge (tgt := 33) C dX3_readHen_28 (by decide) (fun c28 => ?_) (fun c28 => ?_)
    · skip
      obtain ⟨b, hq3⟩ := opI_ge' (show 0 ≤ opI _ by rw [← h3.1]; exact c28)
      have er3 : r3 = nI b := by rw [h3.1, hq3]; rfl
      refine x_aload_n C dX3_readHen_33 rfl ?_
      refine x_getf (k := 56) C bk_X3 hrd rfl ent_56 1 fw_X3_15 rfl rfl dX3_readHen_34 ?_
      refine x_getf (k := 17) C bk_X1 (C.lt' (isH_lt (Or.inr (Or.inr rfl)) 0 (by decide))) rfl (ent_H0 (Or.inr (Or.inr rfl))) 1 fw_X3_73 rfl rfl dX3_readHen_37 ?_
      refine x_iload_n C dX3_readHen_40 rfl ?_
      refine x_iconst (v := 0) C dX3_readHen_41 (by decide) ?_
      refine x_iload_n C dX3_readHen_42 rfl ?_
      refine x_cvv C (k := 17 + (1 + 1)) (c_X5_put l g (h := 17) (j := 1) (Or.inr (Or.inr rfl)) (by decide) _ _ _ _ ) o_X5_put mw_X3_77 rfl (C.lt' (isH_lt (Or.inr (Or.inr rfl)) (1 + 1) (by omega))) (rcv_HT (Or.inr (Or.inr rfl)) 1 (by decide)) rfl rfl rfl hcs dX3_readHen_43 (fun M5 h5 => ?_)
      have h5 := h5.trans (tabPut_e (j := 1) (a := a) (b := 0) er2 rfl (by decide) (show a < 4 by have := ba.2; omega) (by decide))
      have ha4 : a < 4 := by have := ba.2; omega
      refine x_iconst (v := 1) C dX3_readHen_46 (by decide) ?_
      refine hret _ _ _ _ dX3_readHen_47 rfl ?_
      have e : henB T L (vw M 17) (enn T L p) = ((tkN T L (tkN T L (enn T L p) 0 3).1 0 30).1, some (upd (vw M 17) (43 + 4 * a + 0) (nI b))) := (andN_s hq2).trans (andN_s hq3)
      rw [e]
      refine ⟨Or.inr ⟨rfl, congrArg some ?_⟩, h3.2.1.of (by rw [h5]; exact up_n (by decide)), (hs3.mono (by simp)).tr (by rw [h5]; exact same.up (by simp))⟩
      rw [h5, vw_h (by omega), hv3, er3, ← Nat.add_assoc]
    · skip
      have hn3 := tk_m h3.1 (by decide) c28
      refine x_iconst (v := 0) C dX3_readHen_31 (by decide) ?_
      refine hret _ _ _ _ dX3_readHen_32 rfl ?_
      have e : henB T L (vw M 17) (enn T L p) = ((tkN T L (tkN T L (enn T L p) 0 3).1 0 30).1, none) := (andN_s hq2).trans (andN_n hn3)
      rw [e]
      exact ⟨Or.inl ⟨rfl, rfl⟩, h3.2.1, hs3.mono (by simp)⟩
  · skip
    have hn2 := tk_m h2.1 (by decide) c12
    refine x_iconst (v := -1) C dX3_readHen_15 (by decide) ?_
    refine x_goto (tgt := 26) C dX3_readHen_16 (by decide) ?_
    refine x_istore_n C dX3_readHen_26 rfl ?_
    refine x_iload_n C dX3_readHen_27 rfl ?_
    refine x_if_geF (tgt := 33) C dX3_readHen_28 (by decide) (by decide) ?_
    refine x_iconst (v := 0) C dX3_readHen_31 (by decide) ?_
    refine hret _ _ _ _ dX3_readHen_32 rfl ?_
    have e : henB T L (vw M 17) (enn T L p) = ((tkN T L (enn T L p) 0 3).1, none) := andN_n hn2
    rw [e]
    exact ⟨Or.inl ⟨rfl, rfl⟩, h2.2.1, hs2.mono (by simp)⟩

def rm_X3_readWork : Room := { frames := 7, cells := 0, slots := 0, locals := 151 }
set_option maxRecDepth 100000 in
set_option maxHeartbeats 4000000 in
theorem c_X3_readWork (l : Launch) (g : Gp) (hrd : 56 < gn g) (M : Mem) {T : Row} {L p : Nat} (ht : tpC M T L) (hr : rdC T L M p) (o : okRow (vw M 17)) : Ki l g yX3_readWork cX3_readWork 5 .boolean rm_X3_readWork [.ref (gad g (56))] M (fun r M' => rsO r (ifp (isW T L p 8) (wrkB T L (vw M 17) (enn T L p)) (p, none)).2 (vw M' 17) ∧ rdC T L M' (ifp (isW T L p 8) (wrkB T L (vw M 17) (enn T L p)) (p, none)).1 ∧ same [56, 17 + (0 + 4), 17 + (1 + 4), 17 + (2 + 4)] M M') := by
  refine Ki.of rfl rfl rfl (fun q C hret hcs => ?_)
  refine x_aload_n C dX3_readWork_0 rfl ?_
  refine x_ldcS C (i := 8) (by decide) dX3_readWork_1 ?_
  refine x_cvB C (k := 56) (c_X3_isAhead l g hrd _ (T := T) (L := L) (p := p) ht hr (i := 8) (by decide) ) o_X3_isAhead mw_X3_34 rfl hrd rcv_56 rfl rfl rfl hcs dX3_readWork_3 (fun c3 => ?_) (fun c3 => ?_)
  · skip
    refine x_if_neT (tgt := 11) C dX3_readWork_6 (by decide) (by decide) ?_
    refine x_aload_n C dX3_readWork_11 rfl ?_
    refine x_cvv C (k := 56) (c_X3_advance l g hrd _ (T := T) (L := L) (p := (enn T L p)) ht (enn_le hr.1) hr.2.2.2.1 ) o_X3_advance mw_X3_19 rfl hrd rcv_56 rfl rfl rfl hcs dX3_readWork_12 (fun M1 h1 => ?_)
    have ht1 : tpC M1 T L := ht.sm h1.2 (by simp) (by simp)
    refine x_aload_n C dX3_readWork_15 rfl ?_
    refine x_iconst (v := 0) C dX3_readWork_16 (by decide) ?_
    refine x_iconst (v := 5) C dX3_readWork_17 (by decide) ?_
    refine x_cvi C (k := 56) (c_X3_readNumber l g hrd _ (T := T) (L := L) (p := (enn T L p)) ht1 h1.1 (lo := 0) (hi := 5) (by decide) (by decide) rfl rfl ) o_X3_readNumber mw_X3_57 rfl hrd rcv_56 rfl rfl rfl hcs dX3_readWork_18 (fun r2 M2 h2 => ?_)
    have ht2 : tpC M2 T L := ht1.sm h2.2.2 (by simp) (by simp)
    have hs2 : same [56] M M2 := h1.2.tr h2.2.2
    have hv2 : vw M2 17 = vw M 17 := vw_same hs2 (by decide) (by decide) (by decide) (by decide) (by decide)
    refine x_istore_n C dX3_readWork_21 rfl ?_
    refine x_iload_n C dX3_readWork_22 rfl ?_
    refine x_if_ge (tgt := 30) C dX3_readWork_23 (by decide) (fun c23 => ?_) (fun c23 => ?_)
    · skip
      obtain ⟨a, hq2⟩ := opI_ge' (show 0 ≤ opI _ by rw [← h2.1]; exact c23)
      have er2 : r2 = nI a := by rw [h2.1, hq2]; rfl
      have ba := tkN_v hq2
      refine x_aload_n C dX3_readWork_30 rfl ?_
      refine x_iconst (v := 0) C dX3_readWork_31 (by decide) ?_
      refine x_sipush (v := 999) C dX3_readWork_32 (by decide) ?_
      refine x_cvi C (k := 56) (c_X3_readNumber l g hrd _ (T := T) (L := L) (p := (tkN T L (enn T L p) 0 5).1) ht2 h2.2.1 (lo := 0) (hi := 999) (by decide) (by decide) rfl rfl ) o_X3_readNumber mw_X3_57 rfl hrd rcv_56 rfl rfl rfl hcs dX3_readWork_35 (fun r3 M3 h3 => ?_)
      have ht3 : tpC M3 T L := ht2.sm h3.2.2 (by simp) (by simp)
      have hs3 : same [56] M M3 := hs2.tr h3.2.2
      have hv3 : vw M3 17 = vw M 17 := vw_same hs3 (by decide) (by decide) (by decide) (by decide) (by decide)
      refine x_istore_n C dX3_readWork_38 rfl ?_
      refine x_iload_n C dX3_readWork_39 rfl ?_
      refine x_if_ge (tgt := 47) C dX3_readWork_40 (by decide) (fun c40 => ?_) (fun c40 => ?_)
      · skip
        obtain ⟨b, hq3⟩ := opI_ge' (show 0 ≤ opI _ by rw [← h3.1]; exact c40)
        have er3 : r3 = nI b := by rw [h3.1, hq3]; rfl
        have hw6 : a < 6 := by have := ba.2; omega
        have ow := o.2.2.2.2.1 a hw6
        refine x_aload_n C dX3_readWork_47 rfl ?_
        refine x_ldcS C (i := 11) (by decide) dX3_readWork_48 ?_
        refine x_ldc C kw_X3_87 dX3_readWork_50 ?_
        refine x_aload_n C dX3_readWork_52 rfl ?_
        refine x_getf (k := 56) C bk_X3 hrd rfl ent_56 1 fw_X3_15 rfl rfl dX3_readWork_53 ?_
        refine x_getf (k := 17) C bk_X1 (C.lt' (isH_lt (Or.inr (Or.inr rfl)) 0 (by decide))) rfl (ent_H0 (Or.inr (Or.inr rfl))) 2 fw_X3_88 rfl rfl dX3_readWork_56 ?_
        refine x_iload_n C dX3_readWork_59 rfl ?_
        refine x_iconst (v := 1) C dX3_readWork_60 (by decide) ?_
        refine x_cvE C (k := 17 + (2 + 1)) (c_X5_at l g (h := 17) (j := 2) (Or.inr (Or.inr rfl)) (by decide) _ _ _ ) o_X5_at mw_X3_91 rfl (C.lt' (isH_lt (Or.inr (Or.inr rfl)) (2 + 1) (by omega))) (rcv_HT (Or.inr (Or.inr rfl)) 2 (by decide)) rfl rfl rfl hcs dX3_readWork_61 ?_
        refine x_topE (y := wk (vw M 17) a 1) ((tab_wk er2 rfl hw6 (by decide)).trans (by rw [hv3])) ?_
        refine x_cvi C (k := 56) (c_X3_readPerhaps l g hrd _ (T := T) (L := L) (p := (tkN T L (tkN T L (enn T L p) 0 5).1 0 999).1) ht3 h3.2.1 (i := 11) (hi := 99999) (d := (tn (wk (vw M 17) a 1))) (by decide) (by decide) rfl (nI_tnB (n := 99999) (by decide) ow.2.1).symm ) o_X3_readPerhaps mw_X3_63 rfl hrd rcv_56 rfl rfl rfl hcs dX3_readWork_64 (fun r4 M4 h4 => ?_)
        have ht4 : tpC M4 T L := ht3.sm h4.2.2 (by simp) (by simp)
        have hs4 : same [56] M M4 := hs3.tr h4.2.2
        have hv4 : vw M4 17 = vw M 17 := vw_same hs4 (by decide) (by decide) (by decide) (by decide) (by decide)
        refine x_istore_n C dX3_readWork_67 rfl ?_
        refine x_iload_n C dX3_readWork_68 rfl ?_
        refine x_if_ge (tgt := 76) C dX3_readWork_69 (by decide) (fun c69 => ?_) (fun c69 => ?_)
        · skip
          obtain ⟨d, hq4⟩ := opI_ge' (show 0 ≤ opI _ by rw [← h4.1]; exact c69)
          have er4 : r4 = nI d := by rw [h4.1, hq4]; rfl
          refine x_aload_n C dX3_readWork_76 rfl ?_
          refine x_ldcS C (i := 12) (by decide) dX3_readWork_77 ?_
          refine x_bipush (v := 99) C dX3_readWork_79 (by decide) ?_
          refine x_aload_n C dX3_readWork_81 rfl ?_
          refine x_getf (k := 56) C bk_X3 hrd rfl ent_56 1 fw_X3_15 rfl rfl dX3_readWork_82 ?_
          refine x_getf (k := 17) C bk_X1 (C.lt' (isH_lt (Or.inr (Or.inr rfl)) 0 (by decide))) rfl (ent_H0 (Or.inr (Or.inr rfl))) 2 fw_X3_88 rfl rfl dX3_readWork_85 ?_
          refine x_iload_n C dX3_readWork_88 rfl ?_
          refine x_iconst (v := 2) C dX3_readWork_89 (by decide) ?_
          refine x_cvE C (k := 17 + (2 + 1)) (c_X5_at l g (h := 17) (j := 2) (Or.inr (Or.inr rfl)) (by decide) _ _ _ ) o_X5_at mw_X3_91 rfl (C.lt' (isH_lt (Or.inr (Or.inr rfl)) (2 + 1) (by omega))) (rcv_HT (Or.inr (Or.inr rfl)) 2 (by decide)) rfl rfl rfl hcs dX3_readWork_90 ?_
          refine x_topE (y := wk (vw M 17) a 2) ((tab_wk er2 rfl hw6 (by decide)).trans (by rw [hv4])) ?_
          refine x_cvi C (k := 56) (c_X3_readPerhaps l g hrd _ (T := T) (L := L) (p := (perN T L (tkN T L (tkN T L (enn T L p) 0 5).1 0 999).1 11 99999 (tn (wk (vw M 17) a 1))).1) ht4 h4.2.1 (i := 12) (hi := 99) (d := (tn (wk (vw M 17) a 2))) (by decide) (by decide) rfl (nI_tnB (n := 99) (by decide) ow.2.2.1).symm ) o_X3_readPerhaps mw_X3_63 rfl hrd rcv_56 rfl rfl rfl hcs dX3_readWork_93 (fun r5 M5 h5 => ?_)
          have ht5 : tpC M5 T L := ht4.sm h5.2.2 (by simp) (by simp)
          have hs5 : same [56] M M5 := hs4.tr h5.2.2
          have hv5 : vw M5 17 = vw M 17 := vw_same hs5 (by decide) (by decide) (by decide) (by decide) (by decide)
          refine x_istore C dX3_readWork_96 rfl ?_
          refine x_iload C dX3_readWork_98 rfl ?_
          refine x_if_ge (tgt := 105) C dX3_readWork_100 (by decide) (fun c100 => ?_) (fun c100 => ?_)
          · skip
            obtain ⟨n, hq5⟩ := opI_ge' (show 0 ≤ opI _ by rw [← h5.1]; exact c100)
            have er5 : r5 = nI n := by rw [h5.1, hq5]; rfl
            refine x_aload_n C dX3_readWork_105 rfl ?_
            refine x_getf (k := 56) C bk_X3 hrd rfl ent_56 1 fw_X3_15 rfl rfl dX3_readWork_106 ?_
            refine x_getf (k := 17) C bk_X1 (C.lt' (isH_lt (Or.inr (Or.inr rfl)) 0 (by decide))) rfl (ent_H0 (Or.inr (Or.inr rfl))) 2 fw_X3_88 rfl rfl dX3_readWork_109 ?_
            refine x_iload_n C dX3_readWork_112 rfl ?_
            refine x_iconst (v := 0) C dX3_readWork_113 (by decide) ?_
            refine x_iload_n C dX3_readWork_114 rfl ?_
            refine x_cvv C (k := 17 + (2 + 1)) (c_X5_put l g (h := 17) (j := 2) (Or.inr (Or.inr rfl)) (by decide) _ _ _ _ ) o_X5_put mw_X3_77 rfl (C.lt' (isH_lt (Or.inr (Or.inr rfl)) (2 + 1) (by omega))) (rcv_HT (Or.inr (Or.inr rfl)) 2 (by decide)) rfl rfl rfl hcs dX3_readWork_115 (fun M6 h6 => ?_)
            have h6 := h6.trans (tabPut_e (j := 2) (a := a) (b := 0) er2 rfl (by decide) hw6 (by decide))
            have hv6 : vw M6 17 = upd (vw M 17) (59 + 4 * a + 0) (nI b) := by rw [h6, vw_w (by omega), hv5, er3, ← Nat.add_assoc]
            refine x_aload_n C dX3_readWork_118 rfl ?_
            refine x_getf (k := 56) C bk_X3 hrd rfl ent_56 1 fw_X3_15 rfl rfl dX3_readWork_119 ?_
            refine x_getf (k := 17) C bk_X1 (C.lt' (isH_lt (Or.inr (Or.inr rfl)) 0 (by decide))) rfl (ent_H0 (Or.inr (Or.inr rfl))) 2 fw_X3_88 rfl rfl dX3_readWork_122 ?_
            refine x_iload_n C dX3_readWork_125 rfl ?_
            refine x_iconst (v := 1) C dX3_readWork_126 (by decide) ?_
            refine x_iload_n C dX3_readWork_127 rfl ?_
            refine x_cvv C (k := 17 + (2 + 1)) (c_X5_put l g (h := 17) (j := 2) (Or.inr (Or.inr rfl)) (by decide) _ _ _ _ ) o_X5_put mw_X3_77 rfl (C.lt' (isH_lt (Or.inr (Or.inr rfl)) (2 + 1) (by omega))) (rcv_HT (Or.inr (Or.inr rfl)) 2 (by decide)) rfl rfl rfl hcs dX3_readWork_128 (fun M7 h7 => ?_)
            have h7 := h7.trans (tabPut_e (j := 2) (a := a) (b := 1) er2 rfl (by decide) hw6 (by decide))
            have hv7 : vw M7 17 = upd (upd (vw M 17) (59 + 4 * a + 0) (nI b)) (59 + 4 * a + 1) (nI d) := by rw [h7, vw_w (by omega), hv6, er4, ← Nat.add_assoc]
            refine x_aload_n C dX3_readWork_131 rfl ?_
            refine x_getf (k := 56) C bk_X3 hrd rfl ent_56 1 fw_X3_15 rfl rfl dX3_readWork_132 ?_
            refine x_getf (k := 17) C bk_X1 (C.lt' (isH_lt (Or.inr (Or.inr rfl)) 0 (by decide))) rfl (ent_H0 (Or.inr (Or.inr rfl))) 2 fw_X3_88 rfl rfl dX3_readWork_135 ?_
            refine x_iload_n C dX3_readWork_138 rfl ?_
            refine x_iconst (v := 2) C dX3_readWork_139 (by decide) ?_
            refine x_iload C dX3_readWork_140 rfl ?_
            refine x_cvv C (k := 17 + (2 + 1)) (c_X5_put l g (h := 17) (j := 2) (Or.inr (Or.inr rfl)) (by decide) _ _ _ _ ) o_X5_put mw_X3_77 rfl (C.lt' (isH_lt (Or.inr (Or.inr rfl)) (2 + 1) (by omega))) (rcv_HT (Or.inr (Or.inr rfl)) 2 (by decide)) rfl rfl rfl hcs dX3_readWork_142 (fun M8 h8 => ?_)
            have h8 := h8.trans (tabPut_e (j := 2) (a := a) (b := 2) er2 rfl (by decide) hw6 (by decide))
            have hv8 : vw M8 17 = upd (upd (upd (vw M 17) (59 + 4 * a + 0) (nI b)) (59 + 4 * a + 1) (nI d)) (59 + 4 * a + 2) (nI n) := by rw [h8, vw_w (by omega), hv7, er5, ← Nat.add_assoc]
            refine x_iconst (v := 1) C dX3_readWork_145 (by decide) ?_
            refine hret _ _ _ _ dX3_readWork_146 rfl ?_
            have hE : ifp (isW T L p 8) (wrkB T L (vw M 17) (enn T L p)) (p, none) = wrkB T L (vw M 17) (enn T L p) := ifp_t c3
            have e : wrkB T L (vw M 17) (enn T L p) = ((perN T L (perN T L (tkN T L (tkN T L (enn T L p) 0 5).1 0 999).1 11 99999 (tn (wk (vw M 17) a 1))).1 12 99 (tn (wk (vw M 17) a 2))).1, some (upd (upd (upd (vw M 17) (59 + 4 * a + 0) (nI b)) (59 + 4 * a + 1) (nI d)) (59 + 4 * a + 2) (nI n))) := (andN_s hq2).trans ((andN_s hq3).trans ((andN_s hq4).trans (andN_s hq5)))
            rw [hE, e]
            refine ⟨Or.inr ⟨rfl, congrArg some hv8.symm⟩, h5.2.1.of (by rw [h8, up_n (by decide), h7, up_n (by decide), h6]; exact up_n (by decide)), (hs5.mono (by simp)).tr (by rw [h8, h7, h6]; exact (same.up (by simp)).tr ((same.up (by simp)).tr (same.up (by simp))))⟩
          · skip
            have hn5 := pe_m h5.1 (tn_le (b := 99) (by decide) ow.2.2.1) (by decide) c100
            refine x_iconst (v := 0) C dX3_readWork_103 (by decide) ?_
            refine hret _ _ _ _ dX3_readWork_104 rfl ?_
            have hE : ifp (isW T L p 8) (wrkB T L (vw M 17) (enn T L p)) (p, none) = wrkB T L (vw M 17) (enn T L p) := ifp_t c3
            have e : wrkB T L (vw M 17) (enn T L p) = ((perN T L (perN T L (tkN T L (tkN T L (enn T L p) 0 5).1 0 999).1 11 99999 (tn (wk (vw M 17) a 1))).1 12 99 (tn (wk (vw M 17) a 2))).1, none) := (andN_s hq2).trans ((andN_s hq3).trans ((andN_s hq4).trans (andN_n hn5)))
            rw [hE, e]
            exact ⟨Or.inl ⟨rfl, rfl⟩, h5.2.1, hs5.mono (by simp)⟩
        · skip
          have hn4 := pe_m h4.1 (tn_le (b := 99999) (by decide) ow.2.1) (by decide) c69
          refine x_iconst (v := -1) C dX3_readWork_72 (by decide) ?_
          refine x_goto (tgt := 96) C dX3_readWork_73 (by decide) ?_
          refine x_istore C dX3_readWork_96 rfl ?_
          refine x_iload C dX3_readWork_98 rfl ?_
          refine x_if_geF (tgt := 105) C dX3_readWork_100 (by decide) (by decide) ?_
          refine x_iconst (v := 0) C dX3_readWork_103 (by decide) ?_
          refine hret _ _ _ _ dX3_readWork_104 rfl ?_
          have hE : ifp (isW T L p 8) (wrkB T L (vw M 17) (enn T L p)) (p, none) = wrkB T L (vw M 17) (enn T L p) := ifp_t c3
          have e : wrkB T L (vw M 17) (enn T L p) = ((perN T L (tkN T L (tkN T L (enn T L p) 0 5).1 0 999).1 11 99999 (tn (wk (vw M 17) a 1))).1, none) := (andN_s hq2).trans ((andN_s hq3).trans (andN_n hn4))
          rw [hE, e]
          exact ⟨Or.inl ⟨rfl, rfl⟩, h4.2.1, hs4.mono (by simp)⟩
      · skip
        have hn3 := tk_m h3.1 (by decide) c40
        refine x_iconst (v := -1) C dX3_readWork_43 (by decide) ?_
        refine x_goto (tgt := 67) C dX3_readWork_44 (by decide) ?_
        refine x_istore_n C dX3_readWork_67 rfl ?_
        refine x_iload_n C dX3_readWork_68 rfl ?_
        refine x_if_geF (tgt := 76) C dX3_readWork_69 (by decide) (by decide) ?_
        refine x_iconst (v := -1) C dX3_readWork_72 (by decide) ?_
        refine x_goto (tgt := 96) C dX3_readWork_73 (by decide) ?_
        refine x_istore C dX3_readWork_96 rfl ?_
        refine x_iload C dX3_readWork_98 rfl ?_
        refine x_if_geF (tgt := 105) C dX3_readWork_100 (by decide) (by decide) ?_
        refine x_iconst (v := 0) C dX3_readWork_103 (by decide) ?_
        refine hret _ _ _ _ dX3_readWork_104 rfl ?_
        have hE : ifp (isW T L p 8) (wrkB T L (vw M 17) (enn T L p)) (p, none) = wrkB T L (vw M 17) (enn T L p) := ifp_t c3
        have e : wrkB T L (vw M 17) (enn T L p) = ((tkN T L (tkN T L (enn T L p) 0 5).1 0 999).1, none) := (andN_s hq2).trans (andN_n hn3)
        rw [hE, e]
        exact ⟨Or.inl ⟨rfl, rfl⟩, h3.2.1, hs3.mono (by simp)⟩
    · skip
      have hn2 := tk_m h2.1 (by decide) c23
      refine x_iconst (v := -1) C dX3_readWork_26 (by decide) ?_
      refine x_goto (tgt := 38) C dX3_readWork_27 (by decide) ?_
      refine x_istore_n C dX3_readWork_38 rfl ?_
      refine x_iload_n C dX3_readWork_39 rfl ?_
      refine x_if_geF (tgt := 47) C dX3_readWork_40 (by decide) (by decide) ?_
      refine x_iconst (v := -1) C dX3_readWork_43 (by decide) ?_
      refine x_goto (tgt := 67) C dX3_readWork_44 (by decide) ?_
      refine x_istore_n C dX3_readWork_67 rfl ?_
      refine x_iload_n C dX3_readWork_68 rfl ?_
      refine x_if_geF (tgt := 76) C dX3_readWork_69 (by decide) (by decide) ?_
      refine x_iconst (v := -1) C dX3_readWork_72 (by decide) ?_
      refine x_goto (tgt := 96) C dX3_readWork_73 (by decide) ?_
      refine x_istore C dX3_readWork_96 rfl ?_
      refine x_iload C dX3_readWork_98 rfl ?_
      refine x_if_geF (tgt := 105) C dX3_readWork_100 (by decide) (by decide) ?_
      refine x_iconst (v := 0) C dX3_readWork_103 (by decide) ?_
      refine hret _ _ _ _ dX3_readWork_104 rfl ?_
      have hE : ifp (isW T L p 8) (wrkB T L (vw M 17) (enn T L p)) (p, none) = wrkB T L (vw M 17) (enn T L p) := ifp_t c3
      have e : wrkB T L (vw M 17) (enn T L p) = ((tkN T L (enn T L p) 0 5).1, none) := andN_n hn2
      rw [hE, e]
      exact ⟨Or.inl ⟨rfl, rfl⟩, h2.2.1, hs2.mono (by simp)⟩
  · skip
    refine x_if_neF (tgt := 11) C dX3_readWork_6 (by decide) (by decide) ?_
    refine x_iconst (v := 0) C dX3_readWork_9 (by decide) ?_
    refine hret _ _ _ _ dX3_readWork_10 rfl ?_
    have hE : ifp (isW T L p 8) (wrkB T L (vw M 17) (enn T L p)) (p, none) = (p, none) := ifp_f c3
    rw [hE]
    exact ⟨Or.inl ⟨rfl, rfl⟩, hr, same.rf⟩

def rm_X3_readText : Room := { frames := 8, cells := 0, slots := 0, locals := 176 }
set_option maxRecDepth 100000 in
set_option maxHeartbeats 4000000 in
theorem c_X3_readText (l : Launch) (g : Gp) (hrd : 56 < gn g) (M : Mem) {T : Row} {L : Nat} (ht : tpC M T L) (he : M 56 4 = nI 0) (o : okRow (vw M 17)) : Ki l g yX3_readText cX3_readText 4 .int rm_X3_readText [.ref (gad g (56))] M (fun r M' => txP (txtN T L 121 1 0 (vw M 17)) r (vw M' 17) ∧ same [56, 17 + (0 + 4), 17 + (1 + 4), 17 + (2 + 4)] M M') := by
  refine Ki.of rfl rfl rfl (fun q C hret hcs => ?_)
  refine x_aload_n C dX3_readText_0 rfl ?_
  refine x_getf (k := 56) C bk_X3 hrd rfl ent_56 0 fw_X3_9 rfl rfl dX3_readText_1 ?_
  refine x_ifnull C dX3_readText_4 ?_
  refine x_aload_n C dX3_readText_7 rfl ?_
  refine x_getf (k := 56) C bk_X3 hrd rfl ent_56 1 fw_X3_15 rfl rfl dX3_readText_8 ?_
  refine x_ifnonnull (tgt := 16) C dX3_readText_11 (by decide) ?_
  refine x_aload_n C dX3_readText_16 rfl ?_
  refine x_cvv C (k := 56) (c_X3_advance l g hrd _ (T := T) (L := L) (p := 0) ht (Nat.zero_le L) he ) o_X3_advance mw_X3_19 rfl hrd rcv_56 rfl rfl rfl hcs dX3_readText_17 (fun M1 h1 => ?_)
  refine x_iconst (v := 1) C dX3_readText_20 (by decide) ?_
  refine x_istore_n C dX3_readText_21 rfl ?_
  refine X.le (ls' := [some (.ref (gad g (56))), some (.int (nI 1)), none, none]) (lle_s rfl (lle_s rfl (lle_n (lle_n lle_e)))) ?_
  refine up_to 121 (P := fun n => 1 ≤ n → ∀ (p : Nat) (S : Row) (M3 : Mem), p ≤ L → 2 * (n - 1) ≤ p → txtN T L 121 1 0 (vw M 17) = txtN T L (121 - n + 1) n p S → okRow S → vw M3 17 = S → rdC T L M3 p → same [56, 17 + (0 + 4), 17 + (1 + 4), 17 + (2 + 4)] M M3 → X (kmk l rm_X3_readText g 4 q) M3 22 [some (.ref (gad g (56))), some (.int (nI n)), none, none] []) (fun n hn ih hn1 p S M3 hp h2n htx ho hv hr3 hs => ?_) 1 (by decide) (Nat.le_refl 1) 0 (vw M 17) M1 (Nat.zero_le L) (Nat.le_refl 0) rfl o (vw_same h1.2 (by decide) (by decide) (by decide) (by decide) (by decide)) h1.1 (h1.2.mono (by simp))
  have ht3 : tpC M3 T L := ht.sm hs (by decide) (by decide)
  have ib := itm_b (T := T) (S := S) hp
  refine x_iload_n C dX3_readText_22 rfl ?_
  refine x_bipush (v := 120) C dX3_readText_23 (by decide) ?_
  refine x_icmp_gt (tgt := 107) C dX3_readText_25 (by decide) (fun c25 => ?_) (fun c25 => ?_)
  · skip
    exact absurd c25 (Int32.not_lt.mpr (nI_le (b := 120) (by have := ht.2.1; omega) (by decide)))
  · skip
    have key : ∀ (M4 : Mem) (r4 : Int32), rsO r4 (itmN T L S p).2 (vw M4 17) → rdC T L M4 (itmN T L S p).1 → same [56, 17 + (0 + 4), 17 + (1 + 4), 17 + (2 + 4)] M3 M4 → X (kmk l rm_X3_readText g 4 q) M4 65 [some (.ref (gad g (56))), some (.int (nI n)), none, none] [.int (r4)] := by
      intro M4 r4 hg hc hz
      refine x_istore_n C dX3_readText_65 rfl ?_
      refine x_iload_n C dX3_readText_66 rfl ?_
      refine x_if_eq (tgt := 107) C dX3_readText_67 (by decide) (fun c67 => ?_) (fun c67 => ?_)
      · skip
        have hno := rsO_0 hg c67
        refine x_iconst (v := -1) C dX3_readText_107 (by decide) ?_
        refine x_aload_n C dX3_readText_108 rfl ?_
        refine x_getf (k := 56) C bk_X3 hrd rfl ent_56 3 fw_X3_49 rfl rfl dX3_readText_109 ?_
        refine x_topE (y := nI (stt T L (itmN T L S p).1)) (hc.2.2.1) ?_
        refine x_isub C dX3_readText_112 ?_
        refine hret _ _ _ _ dX3_readText_113 rfl ?_
        have eR : txtN T L 121 1 0 (vw M 17) = (-1 - nI (stt T L (itmN T L S p).1), none) := htx.trans (by first | exact txt_n hno | exact (txt_s hso.2).trans ((if_neg h0).trans (if_neg h3)))
        rw [eR]
        exact ⟨⟨rfl, Or.inr ⟨rfl, neg_1 _ (by have := (stt_b (T := T) ib.2.1).2; have := ht.2.1; omega)⟩⟩, hs.tr hz⟩
      · skip
        have hso := rsO_1 hg c67
        refine x_aload_n C dX3_readText_70 rfl ?_
        refine x_getf (k := 56) C bk_X3 hrd rfl ent_56 2 fw_X3_45 rfl rfl dX3_readText_71 ?_
        refine x_if_eq (tgt := 88) C dX3_readText_74 (by decide) (fun c74 => ?_) (fun c74 => ?_)
        · skip
          have h0 : sor T L (itmN T L S p).1 = 0 := sor_is (k := 0) (by decide) hc.2.1 c74
          refine x_aload_n C dX3_readText_88 rfl ?_
          refine x_getf (k := 56) C bk_X3 hrd rfl ent_56 2 fw_X3_45 rfl rfl dX3_readText_89 ?_
          refine x_if_ne (tgt := 97) C dX3_readText_92 (by decide) (fun c92 => ?_) (fun c92 => ?_)
          · skip
            exact absurd c74 c92
          · skip
            refine x_iload_n C dX3_readText_95 rfl ?_
            refine hret _ _ _ _ dX3_readText_96 rfl ?_
            have eR := htx.trans ((txt_s hso.2).trans (if_pos h0))
            rw [eR]
            exact ⟨⟨rfl, Or.inl ⟨rfl, nI_pos' (by omega)⟩⟩, hs.tr hz⟩
        · skip
          have h0 : ¬ sor T L (itmN T L S p).1 = 0 := fun z => c74 (by rw [hc.2.1, z]; rfl)
          refine x_aload_n C dX3_readText_77 rfl ?_
          refine x_getf (k := 56) C bk_X3 hrd rfl ent_56 2 fw_X3_45 rfl rfl dX3_readText_78 ?_
          refine x_iconst (v := 3) C dX3_readText_81 (by decide) ?_
          refine x_icmp_eq (tgt := 88) C dX3_readText_82 (by decide) (fun c82 => ?_) (fun c82 => ?_)
          · skip
            have h3 : sor T L (itmN T L S p).1 = 3 := sor_is (k := 3) (by decide) hc.2.1 c82
            refine x_aload_n C dX3_readText_88 rfl ?_
            refine x_getf (k := 56) C bk_X3 hrd rfl ent_56 2 fw_X3_45 rfl rfl dX3_readText_89 ?_
            refine x_if_ne (tgt := 97) C dX3_readText_92 (by decide) (fun c92 => ?_) (fun c92 => ?_)
            · skip
              refine x_aload_n C dX3_readText_97 rfl ?_
              refine x_cvv C (k := 56) (c_X3_advance l g hrd _ (T := T) (L := L) (p := (enn T L (itmN T L S p).1)) (ht3.sm hz (by decide) (by decide)) (enn_le ib.2.1) hc.2.2.2.1 ) o_X3_advance mw_X3_19 rfl hrd rcv_56 rfl rfl rfl hcs dX3_readText_98 (fun M5 h5 => ?_)
              refine x_iinc (v := nI (n + 1)) C dX3_readText_101 rfl (nI_1 n) rfl ?_
              refine x_goto (tgt := 22) C dX3_readText_104 (by decide) ?_
              refine X.le (ls' := [some (.ref (gad g (56))), some (.int (nI (n + 1))), none, none]) (lle_s rfl (lle_s rfl (lle_n (lle_n lle_e)))) ?_
              refine ih (by have := ht.2.1; omega) (by omega) (enn T L (itmN T L S p).1) (vw M4 17) M5 (enn_le ib.2.1) ?_ ?_ (okRow_itm ho hso.2) (vw_same h5.2 (by decide) (by decide) (by decide) (by decide) (by decide)) h5.1 (hs.tr (hz.tr (h5.2.mono (by simp))))
              · have z1 := ib.2.2 _ hso.2
                have z2 := enn_gt (T := T) ib.2.1 h0
                omega
              · refine htx.trans ((txt_s hso.2).trans ?_)
                rw [if_neg h0, if_pos h3, show 121 - (n + 1) + 1 = 121 - n by have := ht.2.1; omega]
            · skip
              exact absurd c92 c74
          · skip
            have h3 : ¬ sor T L (itmN T L S p).1 = 3 := fun z => c82 (by rw [hc.2.1, z]; rfl)
            refine x_goto (tgt := 107) C dX3_readText_85 (by decide) ?_
            refine x_iconst (v := -1) C dX3_readText_107 (by decide) ?_
            refine x_aload_n C dX3_readText_108 rfl ?_
            refine x_getf (k := 56) C bk_X3 hrd rfl ent_56 3 fw_X3_49 rfl rfl dX3_readText_109 ?_
            refine x_topE (y := nI (stt T L (itmN T L S p).1)) (hc.2.2.1) ?_
            refine x_isub C dX3_readText_112 ?_
            refine hret _ _ _ _ dX3_readText_113 rfl ?_
            have eR : txtN T L 121 1 0 (vw M 17) = (-1 - nI (stt T L (itmN T L S p).1), none) := htx.trans (by first | exact txt_n hno | exact (txt_s hso.2).trans ((if_neg h0).trans (if_neg h3)))
            rw [eR]
            exact ⟨⟨rfl, Or.inr ⟨rfl, neg_1 _ (by have := (stt_b (T := T) ib.2.1).2; have := ht.2.1; omega)⟩⟩, hs.tr hz⟩
    refine x_aload_n C dX3_readText_28 rfl ?_
    refine x_cvE C (k := 56) (c_X3_kindAhead l g hrd _ (T := T) (L := L) (p := p) ht3 hr3 ) o_X3_kindAhead mw_X3_24 rfl hrd rcv_56 rfl rfl rfl hcs dX3_readText_29 ?_
    refine x_istore_n C dX3_readText_32 rfl ?_
    refine x_iload_n C dX3_readText_33 rfl ?_
    refine x_if_lt (tgt := 45) C dX3_readText_34 (by decide) (fun c34 => ?_) (fun c34 => ?_)
    · skip
      have hk7 : ¬ kdN T L p < 7 := fun z => by unfold kdI at c34; rw [if_pos z] at c34; exact nI_pos (by omega) c34
      refine x_aload_n C dX3_readText_45 rfl ?_
      refine x_ldcS C (i := 7) (by decide) dX3_readText_46 ?_
      refine x_cvB C (k := 56) (c_X3_isAhead l g hrd _ (T := T) (L := L) (p := p) ht3 hr3 (i := 7) (by decide) ) o_X3_isAhead mw_X3_34 rfl hrd rcv_56 rfl rfl rfl hcs dX3_readText_48 (fun c48 => ?_) (fun c48 => ?_)
      · skip
        refine x_if_eqF (tgt := 61) C dX3_readText_51 (by decide) (by decide) ?_
        refine x_aload_n C dX3_readText_54 rfl ?_
        refine x_cvi C (k := 56) (c_X3_readHen l g hrd _ (T := T) (L := L) (p := p) ht3 hr3 ) o_X3_readHen mw_X3_38 rfl hrd rcv_56 rfl rfl rfl hcs dX3_readText_55 (fun r4 M4 h4 => ?_)
        have hI : itmN T L (vw M3 17) p = _ := (if_neg hk7).trans (ifp_t c48)
        rw [← hI, hv] at h4
        refine x_goto (tgt := 65) C dX3_readText_58 (by decide) ?_
        refine X.le (ls' := [some (.ref (gad g (56))), some (.int (nI n)), none, none]) (lle_s rfl (lle_s rfl (lle_n (lle_n lle_e)))) ?_
        exact key M4 r4 h4.1 h4.2.1 h4.2.2
      · skip
        refine x_if_eqT (tgt := 61) C dX3_readText_51 (by decide) (by decide) ?_
        refine x_aload_n C dX3_readText_61 rfl ?_
        refine x_cvi C (k := 56) (c_X3_readWork l g hrd _ (T := T) (L := L) (p := p) ht3 hr3 (by rw [hv]; exact ho) ) o_X3_readWork mw_X3_42 rfl hrd rcv_56 rfl rfl rfl hcs dX3_readText_62 (fun r4 M4 h4 => ?_)
        have hI : itmN T L (vw M3 17) p = _ := (if_neg hk7).trans (ifp_f c48)
        rw [← hI, hv] at h4
        refine X.le (ls' := [some (.ref (gad g (56))), some (.int (nI n)), none, none]) (lle_s rfl (lle_s rfl (lle_n (lle_n lle_e)))) ?_
        exact key M4 r4 h4.1 h4.2.1 h4.2.2
    · skip
      have hk7 : kdN T L p < 7 := by rcases Nat.lt_or_ge (kdN T L p) 7 with z | z; exact z; exact absurd (show kdI T L p < 0 by unfold kdI; rw [if_neg (by omega)]; decide) c34
      have ek : kdI T L p = nI (kdN T L p) := if_pos hk7
      refine x_aload_n C dX3_readText_37 rfl ?_
      refine x_iload_n C dX3_readText_38 rfl ?_
      refine x_cvi C (k := 56) (c_X3_readEgg l g hrd _ (T := T) (L := L) (p := p) ht3 hr3 (k := (kdN T L p)) hk7 ek ) o_X3_readEgg mw_X3_28 rfl hrd rcv_56 rfl rfl rfl hcs dX3_readText_39 (fun r4 M4 h4 => ?_)
      have hI : itmN T L (vw M3 17) p = _ := if_pos hk7
      rw [← hI, hv] at h4
      refine x_goto (tgt := 65) C dX3_readText_42 (by decide) ?_
      refine X.le (ls' := [some (.ref (gad g (56))), some (.int (nI n)), none, none]) (lle_s rfl (lle_s rfl (lle_n (lle_n lle_e)))) ?_
      exact key M4 r4 h4.1 h4.2.1 h4.2.2

