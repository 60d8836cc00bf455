/-! ===== contracts: the class's own calls, first part ===== -/
def rm_X7_finding : Room := { frames := 0, cells := 0, slots := 0, locals := 0 }
set_option maxRecDepth 100000 in
set_option maxHeartbeats 4000000 in
theorem c_X7_finding (l : Launch) (g : Gp) (M : Mem) {x : Int32} {k : Nat} (hx : x = nI k) (hk : k < 7) : Ki l g yX7_finding cX7_finding 2 .int rm_X7_finding [.ref (gad g (0)), .int (x)] M (fun r M' => r = -1000001 - x ∧ M' = up M 39 k (M 39 k + 1)) := by
  refine Ki.of rfl rfl rfl (fun q C hret hcs => ?_)
  refine x_iload_n C dX7_finding_0 rfl ?_
  refine x_if_lt (tgt := 23) C dX7_finding_1 (by decide) (fun c1 => ?_) (fun c1 => ?_)
  · skip
    exact absurd c1 (by rw [hx]; exact nI_pos (by omega))
  · skip
    refine x_iload_n C dX7_finding_4 rfl ?_
    refine x_aload_n C dX7_finding_5 rfl ?_
    refine x_getf (k := 0) C bk_X7 (C.lt rfl) rfl ent_0 6 fw_X7_43 rfl rfl dX7_finding_6 ?_
    refine x_alenI (k := 39) (v := 7) C (C.lt rfl) rfl ent_39 rfl dX7_finding_9 ?_
    refine x_icmp_ge (tgt := 23) C dX7_finding_10 (by decide) (fun c10 => ?_) (fun c10 => ?_)
    · skip
      exact absurd c10 (by rw [hx]; exact nI_ge hk (by decide))
    · skip
      refine x_aload_n C dX7_finding_13 rfl ?_
      refine x_getf (k := 0) C bk_X7 (C.lt rfl) rfl ent_0 6 fw_X7_43 rfl rfl dX7_finding_14 ?_
      refine x_iload_n C dX7_finding_17 rfl ?_
      refine x_dup2 C dX7_finding_18 rfl rfl ?_
      refine x_iald (j := k) (k := 39) C (C.lt rfl) rfl ent_39 (hx) (hk) rfl dX7_finding_19 ?_
      refine x_iconst (v := 1) C dX7_finding_20 (by decide) ?_
      refine x_iadd C dX7_finding_21 ?_
      refine x_iast (j := k) (k := 39) C (C.lt rfl) rfl ent_39 (hx) (hk) rfl dX7_finding_22 ?_
      refine x_memI (fun M1 eM1 => ?_)
      refine x_ldcw C kw_X7_277 dX7_finding_23 ?_
      refine x_iload_n C dX7_finding_26 rfl ?_
      refine x_isub C dX7_finding_27 ?_
      refine hret _ _ _ _ dX7_finding_28 rfl ?_
      exact ⟨rfl, eM1⟩

def rm_X7_within : Room := { frames := 0, cells := 0, slots := 0, locals := 0 }
set_option maxRecDepth 100000 in
set_option maxHeartbeats 4000000 in
theorem c_X7_within (l : Launch) (g : Gp) (M : Mem) (v a b : Int32) : Kp l g yX7_within cX7_within 3 .boolean rm_X7_within [.int (v), .int (a), .int (b)] M (bv (inB v a b)) := by
  unfold Kp
  refine Ki.of rfl rfl rfl (fun q C hret hcs => ?_)
  refine x_iload_n C dX7_within_0 rfl ?_
  refine x_iload_n C dX7_within_1 rfl ?_
  refine x_icmp_lt (tgt := 14) C dX7_within_2 (by decide) (fun c2 => ?_) (fun c2 => ?_)
  · skip
    refine x_iconst (v := 0) C dX7_within_14 (by decide) ?_
    refine hret _ _ _ _ dX7_within_15 rfl ⟨Or.inr ⟨rfl, ?_⟩, rfl⟩
    unfold inB; clear hret hcs C; grind
  · skip
    refine x_iload_n C dX7_within_5 rfl ?_
    refine x_iload_n C dX7_within_6 rfl ?_
    refine x_icmp_gt (tgt := 14) C dX7_within_7 (by decide) (fun c7 => ?_) (fun c7 => ?_)
    · skip
      refine x_iconst (v := 0) C dX7_within_14 (by decide) ?_
      refine hret _ _ _ _ dX7_within_15 rfl ⟨Or.inr ⟨rfl, ?_⟩, rfl⟩
      unfold inB; clear hret hcs C; grind
    · skip
      refine x_iconst (v := 1) C dX7_within_10 (by decide) ?_
      refine x_goto (tgt := 15) C dX7_within_11 (by decide) ?_
      refine hret _ _ _ _ dX7_within_15 rfl ⟨Or.inl ⟨rfl, ?_⟩, rfl⟩
      unfold inB; clear hret hcs C; grind

def rm_X7_replace : Room := { frames := 1, cells := 0, slots := 0, locals := 23 }
set_option maxRecDepth 100000 in
set_option maxHeartbeats 4000000 in
theorem c_X7_replace (l : Launch) (g : Gp) {j : Nat} (hj : j < 3) (M : Mem) (row col v : Int32) : Ki l g yX7_replace cX7_replace 6 .int rm_X7_replace [.ref (gad g (0)), .ref (gad g (1 + (j + 1))), .int (row), .int (col), .int (v)] M (fun r M' => (((¬ row < 0 ∧ row < rowsT j) ∧ takesP j col v) ∧ r = tabAt M 1 j row col ∧ M' = tabPut M 1 j row col v) ∨ (¬ ((¬ row < 0 ∧ row < rowsT j) ∧ takesP j col v) ∧ r = -1000001 - 0 ∧ M' = up M 39 0 (M 39 0 + 1))) := by
  refine Ki.of rfl rfl rfl (fun q C hret hcs => ?_)
  refine x_aload_n C dX7_replace_0 rfl ?_
  refine x_ifnull C dX7_replace_1 ?_
  refine x_aload_n C dX7_replace_4 rfl ?_
  refine x_iload_n C dX7_replace_5 rfl ?_
  refine x_cvB C (k := 1 + (j + 1)) (c_X5_hasRow l g (h := 1) (j := j) (Or.inl rfl) hj _ _ ) o_X5_hasRow mw_X7_103 rfl (C.lt' (isH_lt (Or.inl rfl) (j + 1) (by omega))) (rcv_HT (Or.inl rfl) j hj) rfl rfl rfl hcs dX7_replace_6 (fun c6 => ?_) (fun c6 => ?_)
  · skip
    refine x_if_eqF (tgt := 22) C dX7_replace_9 (by decide) (by decide) ?_
    refine x_aload_n C dX7_replace_12 rfl ?_
    refine x_iload_n C dX7_replace_13 rfl ?_
    refine x_iload C dX7_replace_14 rfl ?_
    refine x_cvB C (k := 1 + (j + 1)) (c_X5_takes l g (h := 1) (j := j) (Or.inl rfl) hj _ _ _ ) o_X5_takes mw_X7_55 rfl (C.lt' (isH_lt (Or.inl rfl) (j + 1) (by omega))) (rcv_HT (Or.inl rfl) j hj) rfl rfl rfl hcs dX7_replace_16 (fun c16 => ?_) (fun c16 => ?_)
    · skip
      refine x_if_neT (tgt := 28) C dX7_replace_19 (by decide) (by decide) ?_
      refine x_aload_n C dX7_replace_28 rfl ?_
      refine x_iload_n C dX7_replace_29 rfl ?_
      refine x_iload_n C dX7_replace_30 rfl ?_
      refine x_cvE C (k := 1 + (j + 1)) (c_X5_at l g (h := 1) (j := j) (Or.inl rfl) hj _ _ _ ) o_X5_at mw_X7_84 rfl (C.lt' (isH_lt (Or.inl rfl) (j + 1) (by omega))) (rcv_HT (Or.inl rfl) j hj) rfl rfl rfl hcs dX7_replace_31 ?_
      refine x_topi (fun x5 ex5 => ?_)
      refine x_istore C dX7_replace_34 rfl ?_
      refine x_aload_n C dX7_replace_36 rfl ?_
      refine x_iload_n C dX7_replace_37 rfl ?_
      refine x_iload_n C dX7_replace_38 rfl ?_
      refine x_iload C dX7_replace_39 rfl ?_
      refine x_cvv C (k := 1 + (j + 1)) (c_X5_put l g (h := 1) (j := j) (Or.inl rfl) hj _ _ _ _ ) o_X5_put mw_X7_162 rfl (C.lt' (isH_lt (Or.inl rfl) (j + 1) (by omega))) (rcv_HT (Or.inl rfl) j hj) rfl rfl rfl hcs dX7_replace_41 (fun M1 h1 => ?_)
      refine x_iload C dX7_replace_44 rfl ?_
      refine hret _ _ _ _ dX7_replace_46 rfl ?_
      exact Or.inl ⟨⟨c6, c16⟩, ex5, h1⟩
    · skip
      refine x_if_neF (tgt := 28) C dX7_replace_19 (by decide) (by decide) ?_
      refine x_aload_n C dX7_replace_22 rfl ?_
      refine x_iconst (v := 0) C dX7_replace_23 (by decide) ?_
      refine x_cvi C (k := 0) (c_X7_finding l g _ (k := 0) rfl (by decide) ) o_X7_finding mw_X7_61 rfl (C.lt rfl) rcv_0 rfl rfl rfl hcs dX7_replace_24 (fun rf M1 hf => ?_)
      refine hret _ _ _ _ dX7_replace_27 rfl ?_
      refine Or.inr ⟨fun z => ?_, hf⟩; first | exact c16 z.2 | exact c6 z.1
  · skip
    refine x_if_eqT (tgt := 22) C dX7_replace_9 (by decide) (by decide) ?_
    refine x_aload_n C dX7_replace_22 rfl ?_
    refine x_iconst (v := 0) C dX7_replace_23 (by decide) ?_
    refine x_cvi C (k := 0) (c_X7_finding l g _ (k := 0) rfl (by decide) ) o_X7_finding mw_X7_61 rfl (C.lt rfl) rcv_0 rfl rfl rfl hcs dX7_replace_24 (fun rf M2 hf => ?_)
    refine hret _ _ _ _ dX7_replace_27 rfl ?_
    refine Or.inr ⟨fun z => ?_, hf⟩; first | exact c16 z.2 | exact c6 z.1

def rm_X7_sheetAt : Room := { frames := 0, cells := 0, slots := 0, locals := 0 }
set_option maxRecDepth 100000 in
set_option maxHeartbeats 4000000 in
theorem c_X7_sheetAt (l : Launch) (g : Gp) (M : Mem) (x : Int32) : Kq l g yX7_sheetAt cX7_sheetAt 2 ((.object "HourEggs$Sheet")) rm_X7_sheetAt [.ref (gad g (0)), .int (x)] M (fun r M' => M = M' ∧ ((¬ inB x 0 3 ∧ r = none) ∨ ∃ j, j < 4 ∧ x = nI j ∧ inB x 0 3 ∧ r = some (gad g (29 + 2 * j)))) := by
  refine Kq.of rfl rfl rfl (Or.inl ⟨_, rfl⟩) (fun q C hret hcs => ?_)
  refine x_iload_n C dX7_sheetAt_0 rfl ?_
  refine x_if_lt (tgt := 22) C dX7_sheetAt_1 (by decide) (fun c1 => ?_) (fun c1 => ?_)
  · skip
    refine x_null C dX7_sheetAt_22 ?_
    refine hret _ _ _ (none) dX7_sheetAt_23 ?_
    exact ⟨rfl, Or.inl ⟨by unfold inB; clear hret hcs C; grind, rfl⟩⟩
  · skip
    refine x_iload_n C dX7_sheetAt_4 rfl ?_
    refine x_aload_n C dX7_sheetAt_5 rfl ?_
    refine x_getf (k := 0) C bk_X7 (C.lt rfl) rfl ent_0 4 fw_X7_31 rfl rfl dX7_sheetAt_6 ?_
    refine x_alenS (v := 4) C rfl rfl dX7_sheetAt_9 ?_
    refine x_icmp_ge (tgt := 22) C dX7_sheetAt_10 (by decide) (fun c10 => ?_) (fun c10 => ?_)
    · skip
      refine x_null C dX7_sheetAt_22 ?_
      refine hret _ _ _ (none) dX7_sheetAt_23 ?_
      exact ⟨rfl, Or.inl ⟨by unfold inB; clear hret hcs C; grind, rfl⟩⟩
    · skip
      refine x_aload_n C dX7_sheetAt_13 rfl ?_
      refine x_getf (k := 0) C bk_X7 (C.lt rfl) rfl ent_0 4 fw_X7_31 rfl rfl dX7_sheetAt_14 ?_
      refine x_iload_n C dX7_sheetAt_17 rfl ?_
      refine x_aaldS (j := (tn x)) C rfl (nI_tn c1) (tn_lt' (n := 4) c1 c10 (by decide)) dX7_sheetAt_18 ?_
      refine x_goto (tgt := 23) C dX7_sheetAt_19 (by decide) ?_
      refine hret _ _ _ (some (gad g (29 + 2 * (tn x)))) dX7_sheetAt_23 ?_
      exact ⟨rfl, Or.inr ⟨tn x, tn_lt' (n := 4) c1 c10 (by decide), nI_tn c1, by unfold inB; clear hret hcs C; grind, rfl⟩⟩

def rm_X4_isMissing : Room := { frames := 0, cells := 0, slots := 0, locals := 0 }
set_option maxRecDepth 100000 in
set_option maxHeartbeats 4000000 in
theorem c_X4_isMissing (l : Launch) (g : Gp) {s : Nat} (hs : s < 4) (M : Mem) : Kp l g yX4_isMissing cX4_isMissing 1 .boolean rm_X4_isMissing [.ref (gad g (29 + 2 * s))] M (bv (M (29 + 2 * s) 1 = 0)) := by
  unfold Kp
  refine Ki.of rfl rfl rfl (fun q C hret hcs => ?_)
  refine x_aload_n C dX4_isMissing_0 rfl ?_
  refine x_getf (k := 29 + 2 * s) C bk_X4 (C.lt' (by omega)) rfl (ent_SO hs) 1 fw_X4_13 rfl rfl dX4_isMissing_1 ?_
  refine x_if_ne (tgt := 11) C dX4_isMissing_4 (by decide) (fun c4 => ?_) (fun c4 => ?_)
  · skip
    refine x_iconst (v := 0) C dX4_isMissing_11 (by decide) ?_
    refine hret _ _ _ _ dX4_isMissing_12 rfl ⟨Or.inr ⟨rfl, ?_⟩, rfl⟩
    first | exact c4
  · skip
    refine x_iconst (v := 1) C dX4_isMissing_7 (by decide) ?_
    refine x_goto (tgt := 12) C dX4_isMissing_8 (by decide) ?_
    refine hret _ _ _ _ dX4_isMissing_12 rfl ⟨Or.inl ⟨rfl, ?_⟩, rfl⟩
    first | exact c4

def rm_X7_wrongSheet : Room := { frames := 1, cells := 0, slots := 0, locals := 21 }
set_option maxRecDepth 100000 in
set_option maxHeartbeats 4000000 in
theorem c_X7_wrongSheet (l : Launch) (g : Gp) (M : Mem) (x : Int32) : Kp l g yX7_wrongSheet cX7_wrongSheet 3 .int rm_X7_wrongSheet [.ref (gad g (0)), .int (x)] M (fun r => r = wrgS (aC M) x) := by
  unfold Kp
  refine Ki.of rfl rfl rfl (fun q C hret hcs => ?_)
  refine x_aload_n C dX7_wrongSheet_0 rfl ?_
  refine x_iload_n C dX7_wrongSheet_1 rfl ?_
  refine x_cvq C (k := 0) (c_X7_sheetAt l g _ _ ) o_X7_sheetAt mw_X7_204 rfl (C.lt rfl) rcv_0 rfl rfl rfl hcs dX7_wrongSheet_2 (fun r2 M1 hr2 => ?_)
  obtain ⟨rfl, hr2⟩ := hr2
  rcases hr2 with ⟨cr2, rfl⟩ | ⟨s, hs, es, cr2, rfl⟩
  · skip
    refine x_astore_nN C dX7_wrongSheet_5 rfl ?_
    refine x_aload_nN C dX7_wrongSheet_6 rfl ?_
    refine x_ifnonnullN C dX7_wrongSheet_7 ?_
    refine x_iconst (v := 0) C dX7_wrongSheet_10 (by decide) ?_
    refine hret _ _ _ _ dX7_wrongSheet_11 rfl ⟨?_, rfl⟩
    exact (ifp_f cr2).symm
  · skip
    refine x_astore_n C dX7_wrongSheet_5 rfl ?_
    refine x_aload_n C dX7_wrongSheet_6 rfl ?_
    refine x_ifnonnull (tgt := 12) C dX7_wrongSheet_7 (by decide) ?_
    refine x_aload_n C dX7_wrongSheet_12 rfl ?_
    refine x_cvB C (k := 29 + 2 * s) (c_X4_isMissing l g (s := s) hs _ ) o_X4_isMissing mw_X7_260 rfl (C.lt' (by omega)) (rcv_S hs) rfl rfl rfl hcs dX7_wrongSheet_13 (fun c13 => ?_) (fun c13 => ?_)
    · skip
      refine x_if_eqF (tgt := 23) C dX7_wrongSheet_16 (by decide) (by decide) ?_
      refine x_iconst (v := 5) C dX7_wrongSheet_19 (by decide) ?_
      refine x_goto (tgt := 24) C dX7_wrongSheet_20 (by decide) ?_
      refine hret _ _ _ _ dX7_wrongSheet_24 rfl ⟨?_, rfl⟩
      unfold wrgS; rw [ifp_t cr2, es, tn_nI (by omega), aW_C hs, if_pos c13]
    · skip
      refine x_if_eqT (tgt := 23) C dX7_wrongSheet_16 (by decide) (by decide) ?_
      refine x_iconst (v := -1) C dX7_wrongSheet_23 (by decide) ?_
      refine hret _ _ _ _ dX7_wrongSheet_24 rfl ⟨?_, rfl⟩
      unfold wrgS; rw [ifp_t cr2, es, tn_nI (by omega), aW_C hs, if_neg c13]

def rm_X7_wrongTold : Room := { frames := 2, cells := 0, slots := 0, locals := 43 }
set_option maxRecDepth 100000 in
set_option maxHeartbeats 4000000 in
theorem c_X7_wrongTold (l : Launch) (g : Gp) (M : Mem) (x e : Int32) : Kp l g yX7_wrongTold cX7_wrongTold 4 .int rm_X7_wrongTold [.ref (gad g (0)), .int (x), .int (e)] M (fun r => r = wrgT (aC M) x e) := by
  unfold Kp
  refine Ki.of rfl rfl rfl (fun q C hret hcs => ?_)
  refine x_aload_n C dX7_wrongTold_0 rfl ?_
  refine x_iload_n C dX7_wrongTold_1 rfl ?_
  refine x_cvE C (k := 0) (c_X7_wrongSheet l g _ _ ) o_X7_wrongSheet mw_X7_212 rfl (C.lt rfl) rcv_0 rfl rfl rfl hcs dX7_wrongTold_2 ?_
  refine x_topi (fun x3 ex3 => ?_)
  refine x_istore_n C dX7_wrongTold_5 rfl ?_
  refine x_iload_n C dX7_wrongTold_6 rfl ?_
  refine x_if_lt (tgt := 12) C dX7_wrongTold_7 (by decide) (fun c7 => ?_) (fun c7 => ?_)
  · skip
    refine x_aload_n C dX7_wrongTold_12 rfl ?_
    refine x_getf (k := 0) C bk_X7 (C.lt rfl) rfl ent_0 0 fw_X7_10 rfl rfl dX7_wrongTold_13 ?_
    refine x_iload_n C dX7_wrongTold_16 rfl ?_
    refine x_cvB C (k := 1) (c_X1_hasEgg l g (h := 1) (Or.inl rfl) _ _ ) o_X1_hasEgg mw_X7_73 rfl (C.lt' (isH_lt (Or.inl rfl) 0 (by decide))) (rcv_H (Or.inl rfl)) rfl rfl rfl hcs dX7_wrongTold_17 (fun c17 => ?_) (fun c17 => ?_)
    · skip
      refine x_if_eqF (tgt := 27) C dX7_wrongTold_20 (by decide) (by decide) ?_
      refine x_iconst (v := -1) C dX7_wrongTold_23 (by decide) ?_
      refine x_goto (tgt := 28) C dX7_wrongTold_24 (by decide) ?_
      refine hret _ _ _ _ dX7_wrongTold_28 rfl ⟨?_, rfl⟩
      unfold wrgT; rw [ex3] at c7; rw [ifp_t c7]; exact (ifp_t c17).symm
    · skip
      refine x_if_eqT (tgt := 27) C dX7_wrongTold_20 (by decide) (by decide) ?_
      refine x_iconst (v := 0) C dX7_wrongTold_27 (by decide) ?_
      refine hret _ _ _ _ dX7_wrongTold_28 rfl ⟨?_, rfl⟩
      unfold wrgT; rw [ex3] at c7; rw [ifp_t c7]; exact (ifp_f c17).symm
  · skip
    refine x_iload_n C dX7_wrongTold_10 rfl ?_
    refine hret _ _ _ _ dX7_wrongTold_11 rfl ⟨?_, rfl⟩
    unfold wrgT; rw [ex3] at c7; rw [ifp_f c7]; exact ex3

theorem tk_0 {j f : Nat} {v a b : Int32} (ha : tabV (2 * j) f = a) (hb : tabV (2 * j + 1) f = b) (hf : f < 4) : ((¬ nI f < 0 ∧ nI f < 4) ∧ tabV (2 * j) (nI f).toNatClampNeg ≤ v ∧ v ≤ tabV (2 * j + 1) (nI f).toNatClampNeg) ↔ inB v a b := by
  rw [nI_clamp (by omega), ha, hb]
  exact ⟨fun z => z.2, fun z => ⟨⟨nI_pos (by omega), nI_lt hf (by decide)⟩, z⟩⟩
theorem tk_e0 {v : Int32} : ((¬ (0 : Int32) < 0 ∧ (0 : Int32) < 4) ∧ tabV (2 * 0) (0 : Int32).toNatClampNeg ≤ v ∧ v ≤ tabV (2 * 0 + 1) (0 : Int32).toNatClampNeg) ↔ inB v 0 6 := tk_0 (j := 0) (f := 0) rfl rfl (by decide)
theorem tk_e1 {v : Int32} : ((¬ (1 : Int32) < 0 ∧ (1 : Int32) < 4) ∧ tabV (2 * 0) (1 : Int32).toNatClampNeg ≤ v ∧ v ≤ tabV (2 * 0 + 1) (1 : Int32).toNatClampNeg) ↔ inB v 1 99 := tk_0 (j := 0) (f := 1) rfl rfl (by decide)
theorem tk_e3 {v : Int32} : ((¬ (3 : Int32) < 0 ∧ (3 : Int32) < 4) ∧ tabV (2 * 0) (3 : Int32).toNatClampNeg ≤ v ∧ v ≤ tabV (2 * 0 + 1) (3 : Int32).toNatClampNeg) ↔ inB v 0 3 := tk_0 (j := 0) (f := 3) rfl rfl (by decide)
/-- a pure answer of the class -/
theorem pu_C {M M1 : Mem} {r : Int32} {P : Int32 × Abs} (h : P = (r, aC M)) (hs : same SCR M M1) : (r, aC M1) = P ∧ sameC M M1 := ⟨by rw [h, aC_0 hs], hs.C (by decide)⟩
theorem pu_C0 {M : Mem} {r : Int32} {P : Int32 × Abs} (h : P = (r, aC M)) : (r, aC M) = P ∧ sameC M M := ⟨h.symm, sameC.rf⟩
/-- a change of the henhouse -/
theorem st_C {M M1 : Mem} {r : Int32} {S : Row} {P : Int32 × Abs} (h : P = (r, wS (aC M) S)) (hv : vw M1 1 = S) (hs : same (HOU ++ SCR) M M1) : (r, aC M1) = P ∧ sameC M M1 := ⟨by rw [h, aC_S hv hs], hs.C (by decide)⟩
theorem fi_C {M M0 M1 : Mem} {r x : Int32} {k : Nat} {P : Int32 × Abs} (h : P = noA (aC M) k) (h1 : r = -1000001 - x ∧ M1 = up M0 39 k (M0 39 k + 1)) (hx : x = nI k) (hk : k < 7) (hs : same SCR M M0) : (r, aC M1) = P ∧ sameC M M1 := by
  rw [h]; exact no_C h1 hx hk hs
def rm_X7_egg : Room := { frames := 3, cells := 0, slots := 0, locals := 64 }
set_option maxRecDepth 100000 in
set_option maxHeartbeats 4000000 in
theorem c_X7_egg (l : Launch) (g : Gp) (M : Mem) (oa : okA (aC M))  (k s n : Int32) : Ki l g yX7_egg cX7_egg 6 .int rm_X7_egg [.ref (gad g (0)), .int (k), .int (s), .int (n)] M (fun r M' => (r, aC M') = F_egg k s n (aC M) ∧ sameC M M') := by
  refine Ki.of rfl rfl rfl (fun q C hret hcs => ?_)
  have o : okRow (vw M 1) := oa.1
  refine x_aload_n C dX7_egg_0 rfl ?_
  refine x_getf (k := 0) C bk_X7 (C.lt rfl) rfl ent_0 0 fw_X7_10 rfl rfl dX7_egg_1 ?_
  refine x_getf (k := 1) C bk_X1 (C.lt' (isH_lt (Or.inl rfl) 0 (by decide))) rfl (ent_H0 (Or.inl rfl)) 0 fw_X7_51 rfl rfl dX7_egg_4 ?_
  refine x_astore C dX7_egg_7 rfl ?_
  refine x_aload C dX7_egg_9 rfl ?_
  refine x_iconst (v := 0) C dX7_egg_11 (by decide) ?_
  refine x_iload_n C dX7_egg_12 rfl ?_
  refine x_cvB C (k := 1 + (0 + 1)) (c_X5_takes l g (h := 1) (j := 0) (Or.inl rfl) (by decide) _ _ _ ) o_X5_takes mw_X7_55 rfl (C.lt' (isH_lt (Or.inl rfl) (0 + 1) (by omega))) (rcv_HT (Or.inl rfl) 0 (by decide)) rfl rfl rfl hcs dX7_egg_13 (fun c13 => ?_) (fun c13 => ?_)
  · skip
    refine x_if_eqF (tgt := 39) C dX7_egg_16 (by decide) (by decide) ?_
    refine x_aload C dX7_egg_19 rfl ?_
    refine x_iconst (v := 1) C dX7_egg_21 (by decide) ?_
    refine x_iload_n C dX7_egg_22 rfl ?_
    refine x_cvB C (k := 1 + (0 + 1)) (c_X5_takes l g (h := 1) (j := 0) (Or.inl rfl) (by decide) _ _ _ ) o_X5_takes mw_X7_55 rfl (C.lt' (isH_lt (Or.inl rfl) (0 + 1) (by omega))) (rcv_HT (Or.inl rfl) 0 (by decide)) rfl rfl rfl hcs dX7_egg_23 (fun c23 => ?_) (fun c23 => ?_)
    · skip
      refine x_if_eqF (tgt := 39) C dX7_egg_26 (by decide) (by decide) ?_
      refine x_aload C dX7_egg_29 rfl ?_
      refine x_iconst (v := 3) C dX7_egg_31 (by decide) ?_
      refine x_iload_n C dX7_egg_32 rfl ?_
      refine x_cvB C (k := 1 + (0 + 1)) (c_X5_takes l g (h := 1) (j := 0) (Or.inl rfl) (by decide) _ _ _ ) o_X5_takes mw_X7_55 rfl (C.lt' (isH_lt (Or.inl rfl) (0 + 1) (by omega))) (rcv_HT (Or.inl rfl) 0 (by decide)) rfl rfl rfl hcs dX7_egg_33 (fun c33 => ?_) (fun c33 => ?_)
      · skip
        refine x_if_neT (tgt := 45) C dX7_egg_36 (by decide) (by decide) ?_
        refine x_aload_n C dX7_egg_45 rfl ?_
        refine x_getf (k := 0) C bk_X7 (C.lt rfl) rfl ent_0 0 fw_X7_10 rfl rfl dX7_egg_46 ?_
        refine x_cvE C (k := 1) (c_X1_emptyPlace l g (h := 1) (Or.inl rfl) _ ) o_X1_emptyPlace mw_X7_65 rfl (C.lt' (isH_lt (Or.inl rfl) 0 (by decide))) (rcv_H (Or.inl rfl)) rfl rfl rfl hcs dX7_egg_49 ?_
        refine x_topi (fun x5 ex5 => ?_)
        refine x_istore C dX7_egg_52 rfl ?_
        refine x_iload C dX7_egg_54 rfl ?_
        refine x_if_ge (tgt := 65) C dX7_egg_56 (by decide) (fun c56 => ?_) (fun c56 => ?_)
        · skip
          have f8 : frN (vw M 1) 8 < 8 := frI_lt (by rw [← ex5]; clear hret hcs C; grind)
          have e5 : x5 = nI (frN (vw M 1) 8) := by rw [ex5]; exact if_pos f8
          refine x_aload_n C dX7_egg_65 rfl ?_
          refine x_getf (k := 0) C bk_X7 (C.lt rfl) rfl ent_0 0 fw_X7_10 rfl rfl dX7_egg_66 ?_
          refine x_iload C dX7_egg_69 rfl ?_
          refine x_iload_n C dX7_egg_71 rfl ?_
          refine x_iload_n C dX7_egg_72 rfl ?_
          refine x_iconst (v := 0) C dX7_egg_73 (by decide) ?_
          refine x_iload_n C dX7_egg_74 rfl ?_
          refine x_cvv C (k := 1) (c_X1_layAt l g (h := 1) (Or.inl rfl) _ (e := (frN (vw M 1) 8)) e5 f8 _ _ _ _ (by have := (tk_e0.mp c13).1; clear hret hcs C; grind) ) o_X1_layAt mw_X7_69 rfl (C.lt' (isH_lt (Or.inl rfl) 0 (by decide))) (rcv_H (Or.inl rfl)) rfl rfl rfl hcs dX7_egg_75 (fun M1 h1 => ?_)
          refine x_iload C dX7_egg_78 rfl ?_
          refine hret _ _ _ _ dX7_egg_80 rfl ?_
          rw [e5]; exact st_C ((ifp_t ⟨tk_e0.mp c13, tk_e1.mp c23, tk_e3.mp c33⟩).trans (ifp_t f8)) h1.1 (h1.2.mono (by simp [HOU]))
        · skip
          have f8 : ¬ frN (vw M 1) 8 < 8 := frI_ge (by rw [← ex5]; clear hret hcs C; grind)
          refine x_aload_n C dX7_egg_59 rfl ?_
          refine x_iconst (v := 1) C dX7_egg_60 (by decide) ?_
          refine x_cvi C (k := 0) (c_X7_finding l g _ (k := 1) rfl (by decide) ) o_X7_finding mw_X7_61 rfl (C.lt rfl) rcv_0 rfl rfl rfl hcs dX7_egg_61 (fun rg M1 hg => ?_)
          refine hret _ _ _ _ dX7_egg_64 rfl ?_
          exact fi_C (k := 1) ((ifp_t ⟨tk_e0.mp c13, tk_e1.mp c23, tk_e3.mp c33⟩).trans (ifp_f f8)) hg rfl (by decide) same.rf
      · skip
        refine x_if_neF (tgt := 45) C dX7_egg_36 (by decide) (by decide) ?_
        refine x_aload_n C dX7_egg_39 rfl ?_
        refine x_iconst (v := 0) C dX7_egg_40 (by decide) ?_
        refine x_cvi C (k := 0) (c_X7_finding l g _ (k := 0) rfl (by decide) ) o_X7_finding mw_X7_61 rfl (C.lt rfl) rcv_0 rfl rfl rfl hcs dX7_egg_41 (fun rf M2 hf => ?_)
        refine hret _ _ _ _ dX7_egg_44 rfl ?_
        exact fi_C (k := 0) (ifp_f (fun z => by first | exact c33 (tk_e3.mpr z.2.2) | exact c23 (tk_e1.mpr z.2.1) | exact c13 (tk_e0.mpr z.1))) hf rfl (by decide) same.rf
    · skip
      refine x_if_eqT (tgt := 39) C dX7_egg_26 (by decide) (by decide) ?_
      refine x_aload_n C dX7_egg_39 rfl ?_
      refine x_iconst (v := 0) C dX7_egg_40 (by decide) ?_
      refine x_cvi C (k := 0) (c_X7_finding l g _ (k := 0) rfl (by decide) ) o_X7_finding mw_X7_61 rfl (C.lt rfl) rcv_0 rfl rfl rfl hcs dX7_egg_41 (fun rf M3 hf => ?_)
      refine hret _ _ _ _ dX7_egg_44 rfl ?_
      exact fi_C (k := 0) (ifp_f (fun z => by first | exact c33 (tk_e3.mpr z.2.2) | exact c23 (tk_e1.mpr z.2.1) | exact c13 (tk_e0.mpr z.1))) hf rfl (by decide) same.rf
  · skip
    refine x_if_eqT (tgt := 39) C dX7_egg_16 (by decide) (by decide) ?_
    refine x_aload_n C dX7_egg_39 rfl ?_
    refine x_iconst (v := 0) C dX7_egg_40 (by decide) ?_
    refine x_cvi C (k := 0) (c_X7_finding l g _ (k := 0) rfl (by decide) ) o_X7_finding mw_X7_61 rfl (C.lt rfl) rcv_0 rfl rfl rfl hcs dX7_egg_41 (fun rf M4 hf => ?_)
    refine hret _ _ _ _ dX7_egg_44 rfl ?_
    exact fi_C (k := 0) (ifp_f (fun z => by first | exact c33 (tk_e3.mpr z.2.2) | exact c23 (tk_e1.mpr z.2.1) | exact c13 (tk_e0.mpr z.1))) hf rfl (by decide) same.rf

def rm_X7_of : Room := { frames := 4, cells := 0, slots := 0, locals := 92 }
set_option maxRecDepth 100000 in
set_option maxHeartbeats 4000000 in
theorem c_X7_of (l : Launch) (g : Gp) (M : Mem) (oa : okA (aC M))  (x w : Int32) : Ki l g yX7_of cX7_of 3 .int rm_X7_of [.ref (gad g (0)), .int (x), .int (w)] M (fun r M' => (r, aC M') = F_of x w (aC M) ∧ sameC M M') := by
  refine Ki.of rfl rfl rfl (fun q C hret hcs => ?_)
  have o : okRow (vw M 1) := oa.1
  refine x_aload_n C dX7_of_0 rfl ?_
  refine x_getf (k := 0) C bk_X7 (C.lt rfl) rfl ent_0 0 fw_X7_10 rfl rfl dX7_of_1 ?_
  refine x_iload_n C dX7_of_4 rfl ?_
  refine x_cvB C (k := 1) (c_X1_hasEgg l g (h := 1) (Or.inl rfl) _ _ ) o_X1_hasEgg mw_X7_73 rfl (C.lt' (isH_lt (Or.inl rfl) 0 (by decide))) (rcv_H (Or.inl rfl)) rfl rfl rfl hcs dX7_of_5 (fun c5 => ?_) (fun c5 => ?_)
  · skip
    obtain ⟨he, ex, ht⟩ := eggP_tn c5
    refine x_if_eqF (tgt := 20) C dX7_of_8 (by decide) (by decide) ?_
    refine x_iload_n C dX7_of_11 rfl ?_
    refine x_iconst (v := 0) C dX7_of_12 (by decide) ?_
    refine x_iconst (v := 5) C dX7_of_13 (by decide) ?_
    refine x_csB C (c_X7_within l g _ _ _ _ ) o_X7_within mw_X7_77 rfl rfl rfl rfl hcs dX7_of_14 (fun c14 => ?_) (fun c14 => ?_)
    · skip
      refine x_if_neT (tgt := 26) C dX7_of_17 (by decide) (by decide) ?_
      refine x_iload_n C dX7_of_26 rfl ?_
      refine x_iconst (v := 4) C dX7_of_27 (by decide) ?_
      refine x_icmp_ne (tgt := 40) C dX7_of_28 (by decide) (fun c28 => ?_) (fun c28 => ?_)
      · skip
        refine x_iload_n C dX7_of_40 rfl ?_
        refine x_iconst (v := 5) C dX7_of_41 (by decide) ?_
        refine x_icmp_ne (tgt := 61) C dX7_of_42 (by decide) (fun c42 => ?_) (fun c42 => ?_)
        · skip
          refine x_aload_n C dX7_of_61 rfl ?_
          refine x_getf (k := 0) C bk_X7 (C.lt rfl) rfl ent_0 0 fw_X7_10 rfl rfl dX7_of_62 ?_
          refine x_getf (k := 1) C bk_X1 (C.lt' (isH_lt (Or.inl rfl) 0 (by decide))) rfl (ent_H0 (Or.inl rfl)) 0 fw_X7_51 rfl rfl dX7_of_65 ?_
          refine x_iload_n C dX7_of_68 rfl ?_
          refine x_iload_n C dX7_of_69 rfl ?_
          refine x_cvE C (k := 1 + (0 + 1)) (c_X5_at l g (h := 1) (j := 0) (Or.inl rfl) (by decide) _ _ _ ) o_X5_at mw_X7_84 rfl (C.lt' (isH_lt (Or.inl rfl) (0 + 1) (by omega))) (rcv_HT (Or.inl rfl) 0 (by decide)) rfl rfl rfl hcs dX7_of_70 ?_
          refine hret _ _ _ _ dX7_of_73 rfl ?_
          have q := ix_tn (n := 4) (by decide) (show ¬ w < 0 ∧ w < 4 from by unfold inB at c14; clear hret hcs C; grind)
          exact pu_C0 ((ifp_t ⟨c5, c14⟩).trans (by rw [if_neg (by clear hret hcs C; grind), if_neg (by clear hret hcs C; grind)]; rw [tab_eg ex q.2 he q.1 ht]; rfl))
        · skip
          refine x_aload_n C dX7_of_45 rfl ?_
          refine x_getf (k := 0) C bk_X7 (C.lt rfl) rfl ent_0 0 fw_X7_10 rfl rfl dX7_of_46 ?_
          refine x_getf (k := 1) C bk_X1 (C.lt' (isH_lt (Or.inl rfl) 0 (by decide))) rfl (ent_H0 (Or.inl rfl)) 0 fw_X7_51 rfl rfl dX7_of_49 ?_
          refine x_iload_n C dX7_of_52 rfl ?_
          refine x_iconst (v := 0) C dX7_of_53 (by decide) ?_
          refine x_cvE C (k := 1 + (0 + 1)) (c_X5_at l g (h := 1) (j := 0) (Or.inl rfl) (by decide) _ _ _ ) o_X5_at mw_X7_84 rfl (C.lt' (isH_lt (Or.inl rfl) (0 + 1) (by omega))) (rcv_HT (Or.inl rfl) 0 (by decide)) rfl rfl rfl hcs dX7_of_54 ?_
          refine x_topE (y := eg (vw M 1) (tn x) 0) (tab_eg ex rfl he (by decide) ht) ?_
          refine x_csE C (c_X2_keeps l g _ (okE_kind he o ht)) o_X2_keeps mw_X7_88 rfl rfl rfl rfl hcs dX7_of_57 ?_
          refine hret _ _ _ _ dX7_of_60 rfl ?_
          exact pu_C0 ((ifp_t ⟨c5, c14⟩).trans (by rw [if_neg (by clear hret hcs C; grind), if_pos (by clear hret hcs C; grind)]; rfl))
      · skip
        refine x_aload_n C dX7_of_31 rfl ?_
        refine x_getf (k := 0) C bk_X7 (C.lt rfl) rfl ent_0 0 fw_X7_10 rfl rfl dX7_of_32 ?_
        refine x_iload_n C dX7_of_35 rfl ?_
        refine x_cvE C (k := 1) (c_X1_minutesOf l g (h := 1) (Or.inl rfl) _ (e := (tn x)) ex he o ) o_X1_minutesOf mw_X7_81 rfl (C.lt' (isH_lt (Or.inl rfl) 0 (by decide))) (rcv_H (Or.inl rfl)) rfl rfl rfl hcs dX7_of_36 ?_
        refine hret _ _ _ _ dX7_of_39 rfl ?_
        exact pu_C0 ((ifp_t ⟨c5, c14⟩).trans (by rw [if_pos (by clear hret hcs C; grind), show mE (vw M 1) (tn x) = minE (vw M 1) (tn x) from mE_minE he o]; rfl))
    · skip
      refine x_if_neF (tgt := 26) C dX7_of_17 (by decide) (by decide) ?_
      refine x_aload_n C dX7_of_20 rfl ?_
      refine x_iconst (v := 0) C dX7_of_21 (by decide) ?_
      refine x_cvi C (k := 0) (c_X7_finding l g _ (k := 0) rfl (by decide) ) o_X7_finding mw_X7_61 rfl (C.lt rfl) rcv_0 rfl rfl rfl hcs dX7_of_22 (fun rf M1 hf => ?_)
      refine hret _ _ _ _ dX7_of_25 rfl ?_
      exact fi_C (k := 0) (ifp_f (fun z => by first | exact c14 z.2 | exact c5 z.1)) hf rfl (by decide) same.rf
  · skip
    refine x_if_eqT (tgt := 20) C dX7_of_8 (by decide) (by decide) ?_
    refine x_aload_n C dX7_of_20 rfl ?_
    refine x_iconst (v := 0) C dX7_of_21 (by decide) ?_
    refine x_cvi C (k := 0) (c_X7_finding l g _ (k := 0) rfl (by decide) ) o_X7_finding mw_X7_61 rfl (C.lt rfl) rcv_0 rfl rfl rfl hcs dX7_of_22 (fun rf M2 hf => ?_)
    refine hret _ _ _ _ dX7_of_25 rfl ?_
    exact fi_C (k := 0) (ifp_f (fun z => by first | exact c14 z.2 | exact c5 z.1)) hf rfl (by decide) same.rf

theorem rep_hen {M M1 : Mem} {r x w v : Int32} (h : (((¬ x < 0 ∧ x < rowsT 1) ∧ takesP 1 w v) ∧ r = tabAt M 1 1 x w ∧ M1 = tabPut M 1 1 x w v) ∨ (¬ ((¬ x < 0 ∧ x < rowsT 1) ∧ takesP 1 w v) ∧ r = -1000001 - 0 ∧ M1 = up M 39 0 (M 39 0 + 1))) : (r, aC M1) = F_hen x w v (aC M) ∧ sameC M M1 := by
  rcases h with ⟨⟨h1, h2⟩, rfl, rfl⟩ | ⟨h1, h2⟩
  · have qx := ix_tn (n := 4) (by decide) h1
    have qw := ix_tn (n := 4) (by decide) h2.1
    rw [tab_hn qx.2 qw.2 qx.1 qw.1, tabPut_e (j := 1) qx.2 qw.2 (by decide) qx.1 qw.1]
    refine st_C (ifp_t ⟨h1, h2⟩) ?_ (same.up (by simp [HOU]))
    rw [vw_h (by omega), Nat.add_assoc]; rfl
  · exact fi_C (k := 0) (ifp_f h1) h2 rfl (by decide) same.rf
theorem rep_work {M M1 : Mem} {r x w v : Int32} (h : (((¬ x < 0 ∧ x < rowsT 2) ∧ takesP 2 w v) ∧ r = tabAt M 1 2 x w ∧ M1 = tabPut M 1 2 x w v) ∨ (¬ ((¬ x < 0 ∧ x < rowsT 2) ∧ takesP 2 w v) ∧ r = -1000001 - 0 ∧ M1 = up M 39 0 (M 39 0 + 1))) : (r, aC M1) = F_work x w v (aC M) ∧ sameC M M1 := by
  rcases h with ⟨⟨h1, h2⟩, rfl, rfl⟩ | ⟨h1, h2⟩
  · have qx := ix_tn (n := 6) (by decide) h1
    have qw := ix_tn (n := 4) (by decide) h2.1
    rw [tab_wk qx.2 qw.2 qx.1 qw.1, tabPut_e (j := 2) qx.2 qw.2 (by decide) qx.1 qw.1]
    refine st_C (ifp_t ⟨h1, h2⟩) ?_ (same.up (by simp [HOU]))
    rw [vw_w (by omega), Nat.add_assoc]; rfl
  · exact fi_C (k := 0) (ifp_f h1) h2 rfl (by decide) same.rf
def rm_X7_hen : Room := { frames := 2, cells := 0, slots := 0, locals := 48 }
set_option maxRecDepth 100000 in
set_option maxHeartbeats 4000000 in
theorem c_X7_hen (l : Launch) (g : Gp) (M : Mem) (oa : okA (aC M))  (x w v : Int32) : Ki l g yX7_hen cX7_hen 4 .int rm_X7_hen [.ref (gad g (0)), .int (x), .int (w), .int (v)] M (fun r M' => (r, aC M') = F_hen x w v (aC M) ∧ sameC M M') := by
  refine Ki.of rfl rfl rfl (fun q C hret hcs => ?_)
  have o : okRow (vw M 1) := oa.1
  refine x_aload_n C dX7_hen_0 rfl ?_
  refine x_aload_n C dX7_hen_1 rfl ?_
  refine x_getf (k := 0) C bk_X7 (C.lt rfl) rfl ent_0 0 fw_X7_10 rfl rfl dX7_hen_2 ?_
  refine x_getf (k := 1) C bk_X1 (C.lt' (isH_lt (Or.inl rfl) 0 (by decide))) rfl (ent_H0 (Or.inl rfl)) 1 fw_X7_97 rfl rfl dX7_hen_5 ?_
  refine x_iload_n C dX7_hen_8 rfl ?_
  refine x_iload_n C dX7_hen_9 rfl ?_
  refine x_iload_n C dX7_hen_10 rfl ?_
  refine x_cvi C (k := 0) (c_X7_replace l g (j := 1) (by decide) _ _ _ _ ) o_X7_replace mw_X7_93 rfl (C.lt rfl) rcv_0 rfl rfl rfl hcs dX7_hen_11 (fun r1 M1 h1 => ?_)
  refine hret _ _ _ _ dX7_hen_14 rfl ?_
  exact rep_hen h1

def rm_X7_work : Room := { frames := 2, cells := 0, slots := 0, locals := 48 }
set_option maxRecDepth 100000 in
set_option maxHeartbeats 4000000 in
theorem c_X7_work (l : Launch) (g : Gp) (M : Mem) (oa : okA (aC M))  (x w v : Int32) : Ki l g yX7_work cX7_work 4 .int rm_X7_work [.ref (gad g (0)), .int (x), .int (w), .int (v)] M (fun r M' => (r, aC M') = F_work x w v (aC M) ∧ sameC M M') := by
  refine Ki.of rfl rfl rfl (fun q C hret hcs => ?_)
  have o : okRow (vw M 1) := oa.1
  refine x_aload_n C dX7_work_0 rfl ?_
  refine x_aload_n C dX7_work_1 rfl ?_
  refine x_getf (k := 0) C bk_X7 (C.lt rfl) rfl ent_0 0 fw_X7_10 rfl rfl dX7_work_2 ?_
  refine x_getf (k := 1) C bk_X1 (C.lt' (isH_lt (Or.inl rfl) 0 (by decide))) rfl (ent_H0 (Or.inl rfl)) 2 fw_X7_100 rfl rfl dX7_work_5 ?_
  refine x_iload_n C dX7_work_8 rfl ?_
  refine x_iload_n C dX7_work_9 rfl ?_
  refine x_iload_n C dX7_work_10 rfl ?_
  refine x_cvi C (k := 0) (c_X7_replace l g (j := 2) (by decide) _ _ _ _ ) o_X7_replace mw_X7_93 rfl (C.lt rfl) rcv_0 rfl rfl rfl hcs dX7_work_11 (fun r1 M1 h1 => ?_)
  refine hret _ _ _ _ dX7_work_14 rfl ?_
  exact rep_work h1

theorem tk_low {w v : Int32} (h : takesP 0 w v) : tn w = 0 → ¬ v = -1 := by
  intro z e
  have h1 := h.2.1
  rw [z, e] at h1
  exact absurd h1 (by decide)
def rm_X7_change : Room := { frames := 2, cells := 0, slots := 0, locals := 48 }
set_option maxRecDepth 100000 in
set_option maxHeartbeats 4000000 in
theorem c_X7_change (l : Launch) (g : Gp) (M : Mem) (oa : okA (aC M))  (x w v : Int32) : Ki l g yX7_change cX7_change 4 .int rm_X7_change [.ref (gad g (0)), .int (x), .int (w), .int (v)] M (fun r M' => (r, aC M') = F_change x w v (aC M) ∧ sameC M M') := by
  refine Ki.of rfl rfl rfl (fun q C hret hcs => ?_)
  have o : okRow (vw M 1) := oa.1
  refine x_aload_n C dX7_change_0 rfl ?_
  refine x_getf (k := 0) C bk_X7 (C.lt rfl) rfl ent_0 0 fw_X7_10 rfl rfl dX7_change_1 ?_
  refine x_iload_n C dX7_change_4 rfl ?_
  refine x_cvB C (k := 1) (c_X1_hasEgg l g (h := 1) (Or.inl rfl) _ _ ) o_X1_hasEgg mw_X7_73 rfl (C.lt' (isH_lt (Or.inl rfl) 0 (by decide))) (rcv_H (Or.inl rfl)) rfl rfl rfl hcs dX7_change_5 (fun c5 => ?_) (fun c5 => ?_)
  · skip
    obtain ⟨he, ex, ht⟩ := eggP_tn c5
    refine x_if_eqF (tgt := 28) C dX7_change_8 (by decide) (by decide) ?_
    refine x_aload_n C dX7_change_11 rfl ?_
    refine x_aload_n C dX7_change_12 rfl ?_
    refine x_getf (k := 0) C bk_X7 (C.lt rfl) rfl ent_0 0 fw_X7_10 rfl rfl dX7_change_13 ?_
    refine x_getf (k := 1) C bk_X1 (C.lt' (isH_lt (Or.inl rfl) 0 (by decide))) rfl (ent_H0 (Or.inl rfl)) 0 fw_X7_51 rfl rfl dX7_change_16 ?_
    refine x_iload_n C dX7_change_19 rfl ?_
    refine x_iload_n C dX7_change_20 rfl ?_
    refine x_iload_n C dX7_change_21 rfl ?_
    refine x_cvi C (k := 0) (c_X7_replace l g (j := 0) (by decide) _ _ _ _ ) o_X7_replace mw_X7_93 rfl (C.lt rfl) rcv_0 rfl rfl rfl hcs dX7_change_22 (fun r1 Mq h1 => ?_)
    refine x_goto (tgt := 33) C dX7_change_25 (by decide) ?_
    refine hret _ _ _ _ dX7_change_33 rfl ?_
    rcases h1 with ⟨⟨h0, h2⟩, rfl, rfl⟩ | ⟨h0, h2⟩
    · have qw := ix_tn (n := 4) (by decide) h2.1
      rw [tab_eg ex qw.2 he qw.1 ht, tabPut_e (j := 0) ex qw.2 (by decide) he qw.1]
      refine st_C (ifp_t ⟨c5, h2⟩) ?_ (same.up (by simp [HOU]))
      exact vw_putf he qw.1 ht (tk_low h2)
    · exact fi_C (k := 0) (ifp_f (fun z => h0 ⟨c5.1, z.2⟩)) h2 rfl (by decide) same.rf
  · skip
    refine x_if_eqT (tgt := 28) C dX7_change_8 (by decide) (by decide) ?_
    refine x_aload_n C dX7_change_28 rfl ?_
    refine x_iconst (v := 0) C dX7_change_29 (by decide) ?_
    refine x_cvi C (k := 0) (c_X7_finding l g _ (k := 0) rfl (by decide) ) o_X7_finding mw_X7_61 rfl (C.lt rfl) rcv_0 rfl rfl rfl hcs dX7_change_30 (fun rf M1 hf => ?_)
    refine hret _ _ _ _ dX7_change_33 rfl ?_
    exact fi_C (k := 0) (ifp_f (fun z => c5 z.1)) hf rfl (by decide) same.rf

def rm_X7_henOf : Room := { frames := 1, cells := 0, slots := 0, locals := 22 }
set_option maxRecDepth 100000 in
set_option maxHeartbeats 4000000 in
theorem c_X7_henOf (l : Launch) (g : Gp) (M : Mem) (oa : okA (aC M))  (x w : Int32) : Ki l g yX7_henOf cX7_henOf 3 .int rm_X7_henOf [.ref (gad g (0)), .int (x), .int (w)] M (fun r M' => (r, aC M') = F_henOf x w (aC M) ∧ sameC M M') := by
  refine Ki.of rfl rfl rfl (fun q C hret hcs => ?_)
  have o : okRow (vw M 1) := oa.1
  refine x_aload_n C dX7_henOf_0 rfl ?_
  refine x_getf (k := 0) C bk_X7 (C.lt rfl) rfl ent_0 0 fw_X7_10 rfl rfl dX7_henOf_1 ?_
  refine x_getf (k := 1) C bk_X1 (C.lt' (isH_lt (Or.inl rfl) 0 (by decide))) rfl (ent_H0 (Or.inl rfl)) 1 fw_X7_97 rfl rfl dX7_henOf_4 ?_
  refine x_iload_n C dX7_henOf_7 rfl ?_
  refine x_cvB C (k := 1 + (1 + 1)) (c_X5_hasRow l g (h := 1) (j := 1) (Or.inl rfl) (by decide) _ _ ) o_X5_hasRow mw_X7_103 rfl (C.lt' (isH_lt (Or.inl rfl) (1 + 1) (by omega))) (rcv_HT (Or.inl rfl) 1 (by decide)) rfl rfl rfl hcs dX7_henOf_8 (fun c8 => ?_) (fun c8 => ?_)
  · skip
    refine x_if_eqF (tgt := 28) C dX7_henOf_11 (by decide) (by decide) ?_
    refine x_aload_n C dX7_henOf_14 rfl ?_
    refine x_getf (k := 0) C bk_X7 (C.lt rfl) rfl ent_0 0 fw_X7_10 rfl rfl dX7_henOf_15 ?_
    refine x_getf (k := 1) C bk_X1 (C.lt' (isH_lt (Or.inl rfl) 0 (by decide))) rfl (ent_H0 (Or.inl rfl)) 1 fw_X7_97 rfl rfl dX7_henOf_18 ?_
    refine x_iload_n C dX7_henOf_21 rfl ?_
    refine x_cvB C (k := 1 + (1 + 1)) (c_X5_hasColumn l g (h := 1) (j := 1) (Or.inl rfl) (by decide) _ _ ) o_X5_hasColumn mw_X7_106 rfl (C.lt' (isH_lt (Or.inl rfl) (1 + 1) (by omega))) (rcv_HT (Or.inl rfl) 1 (by decide)) rfl rfl rfl hcs dX7_henOf_22 (fun c22 => ?_) (fun c22 => ?_)
    · skip
      refine x_if_neT (tgt := 34) C dX7_henOf_25 (by decide) (by decide) ?_
      refine x_aload_n C dX7_henOf_34 rfl ?_
      refine x_getf (k := 0) C bk_X7 (C.lt rfl) rfl ent_0 0 fw_X7_10 rfl rfl dX7_henOf_35 ?_
      refine x_getf (k := 1) C bk_X1 (C.lt' (isH_lt (Or.inl rfl) 0 (by decide))) rfl (ent_H0 (Or.inl rfl)) 1 fw_X7_97 rfl rfl dX7_henOf_38 ?_
      refine x_iload_n C dX7_henOf_41 rfl ?_
      refine x_iload_n C dX7_henOf_42 rfl ?_
      refine x_cvE C (k := 1 + (1 + 1)) (c_X5_at l g (h := 1) (j := 1) (Or.inl rfl) (by decide) _ _ _ ) o_X5_at mw_X7_84 rfl (C.lt' (isH_lt (Or.inl rfl) (1 + 1) (by omega))) (rcv_HT (Or.inl rfl) 1 (by decide)) rfl rfl rfl hcs dX7_henOf_43 ?_
      refine hret _ _ _ _ dX7_henOf_46 rfl ?_
      have qx := ix_tn (n := 4) (by decide) c8
      have qw := ix_tn (n := 4) (by decide) c22
      rw [tab_hn qx.2 qw.2 qx.1 qw.1]
      exact pu_C0 (ifp_t ⟨c8, c22⟩)
    · skip
      refine x_if_neF (tgt := 34) C dX7_henOf_25 (by decide) (by decide) ?_
      refine x_aload_n C dX7_henOf_28 rfl ?_
      refine x_iconst (v := 0) C dX7_henOf_29 (by decide) ?_
      refine x_cvi C (k := 0) (c_X7_finding l g _ (k := 0) rfl (by decide) ) o_X7_finding mw_X7_61 rfl (C.lt rfl) rcv_0 rfl rfl rfl hcs dX7_henOf_30 (fun rf M1 hf => ?_)
      refine hret _ _ _ _ dX7_henOf_33 rfl ?_
      exact fi_C (k := 0) (ifp_f (fun z => by first | exact c22 z.2 | exact c8 z.1)) hf rfl (by decide) same.rf
  · skip
    refine x_if_eqT (tgt := 28) C dX7_henOf_11 (by decide) (by decide) ?_
    refine x_aload_n C dX7_henOf_28 rfl ?_
    refine x_iconst (v := 0) C dX7_henOf_29 (by decide) ?_
    refine x_cvi C (k := 0) (c_X7_finding l g _ (k := 0) rfl (by decide) ) o_X7_finding mw_X7_61 rfl (C.lt rfl) rcv_0 rfl rfl rfl hcs dX7_henOf_30 (fun rf M2 hf => ?_)
    refine hret _ _ _ _ dX7_henOf_33 rfl ?_
    exact fi_C (k := 0) (ifp_f (fun z => by first | exact c22 z.2 | exact c8 z.1)) hf rfl (by decide) same.rf

def rm_X7_workOf : Room := { frames := 3, cells := 0, slots := 0, locals := 64 }
set_option maxRecDepth 100000 in
set_option maxHeartbeats 4000000 in
theorem c_X7_workOf (l : Launch) (g : Gp) (M : Mem) (oa : okA (aC M))  (x w : Int32) : Ki l g yX7_workOf cX7_workOf 3 .int rm_X7_workOf [.ref (gad g (0)), .int (x), .int (w)] M (fun r M' => (r, aC M') = F_workOf x w (aC M) ∧ sameC M M') := by
  refine Ki.of rfl rfl rfl (fun q C hret hcs => ?_)
  have o : okRow (vw M 1) := oa.1
  refine x_aload_n C dX7_workOf_0 rfl ?_
  refine x_getf (k := 0) C bk_X7 (C.lt rfl) rfl ent_0 0 fw_X7_10 rfl rfl dX7_workOf_1 ?_
  refine x_getf (k := 1) C bk_X1 (C.lt' (isH_lt (Or.inl rfl) 0 (by decide))) rfl (ent_H0 (Or.inl rfl)) 2 fw_X7_100 rfl rfl dX7_workOf_4 ?_
  refine x_iload_n C dX7_workOf_7 rfl ?_
  refine x_cvB C (k := 1 + (2 + 1)) (c_X5_hasRow l g (h := 1) (j := 2) (Or.inl rfl) (by decide) _ _ ) o_X5_hasRow mw_X7_103 rfl (C.lt' (isH_lt (Or.inl rfl) (2 + 1) (by omega))) (rcv_HT (Or.inl rfl) 2 (by decide)) rfl rfl rfl hcs dX7_workOf_8 (fun c8 => ?_) (fun c8 => ?_)
  · skip
    have qx := ix_tn (n := 6) (by decide) c8
    refine x_if_eqF (tgt := 23) C dX7_workOf_11 (by decide) (by decide) ?_
    refine x_iload_n C dX7_workOf_14 rfl ?_
    refine x_iconst (v := 0) C dX7_workOf_15 (by decide) ?_
    refine x_iconst (v := 4) C dX7_workOf_16 (by decide) ?_
    refine x_csB C (c_X7_within l g _ _ _ _ ) o_X7_within mw_X7_77 rfl rfl rfl rfl hcs dX7_workOf_17 (fun c17 => ?_) (fun c17 => ?_)
    · skip
      refine x_if_neT (tgt := 29) C dX7_workOf_20 (by decide) (by decide) ?_
      refine x_iload_n C dX7_workOf_29 rfl ?_
      refine x_iconst (v := 4) C dX7_workOf_30 (by decide) ?_
      refine x_icmp_ne (tgt := 51) C dX7_workOf_31 (by decide) (fun c31 => ?_) (fun c31 => ?_)
      · skip
        refine x_aload_n C dX7_workOf_51 rfl ?_
        refine x_getf (k := 0) C bk_X7 (C.lt rfl) rfl ent_0 0 fw_X7_10 rfl rfl dX7_workOf_52 ?_
        refine x_getf (k := 1) C bk_X1 (C.lt' (isH_lt (Or.inl rfl) 0 (by decide))) rfl (ent_H0 (Or.inl rfl)) 2 fw_X7_100 rfl rfl dX7_workOf_55 ?_
        refine x_iload_n C dX7_workOf_58 rfl ?_
        refine x_iload_n C dX7_workOf_59 rfl ?_
        refine x_cvE C (k := 1 + (2 + 1)) (c_X5_at l g (h := 1) (j := 2) (Or.inl rfl) (by decide) _ _ _ ) o_X5_at mw_X7_84 rfl (C.lt' (isH_lt (Or.inl rfl) (2 + 1) (by omega))) (rcv_HT (Or.inl rfl) 2 (by decide)) rfl rfl rfl hcs dX7_workOf_60 ?_
        refine hret _ _ _ _ dX7_workOf_63 rfl ?_
        have qw := ix_tn (n := 4) (by decide) (show ¬ w < 0 ∧ w < 4 from by unfold inB at c17; clear hret hcs C; grind)
        rw [tab_wk qx.2 qw.2 qx.1 qw.1]
        exact pu_C0 ((ifp_t ⟨c8, c17⟩).trans (by rw [if_neg (by clear hret hcs C; grind)]; rfl))
      · skip
        refine x_aload_n C dX7_workOf_34 rfl ?_
        refine x_getf (k := 0) C bk_X7 (C.lt rfl) rfl ent_0 0 fw_X7_10 rfl rfl dX7_workOf_35 ?_
        refine x_iload_n C dX7_workOf_38 rfl ?_
        refine x_cvB C (k := 1) (c_X1_isDone l g (h := 1) (Or.inl rfl) _ (w := (tn x)) qx.2 qx.1 o ) o_X1_isDone mw_X7_109 rfl (C.lt' (isH_lt (Or.inl rfl) 0 (by decide))) (rcv_H (Or.inl rfl)) rfl rfl rfl hcs dX7_workOf_39 (fun c39 => ?_) (fun c39 => ?_)
        · skip
          refine x_if_eqF (tgt := 49) C dX7_workOf_42 (by decide) (by decide) ?_
          refine x_iconst (v := 1) C dX7_workOf_45 (by decide) ?_
          refine x_goto (tgt := 50) C dX7_workOf_46 (by decide) ?_
          refine hret _ _ _ _ dX7_workOf_50 rfl ?_
          exact pu_C0 ((ifp_t ⟨c8, c17⟩).trans (by rw [if_pos (by clear hret hcs C; grind)]; exact congrArg (fun z => (z, aC M)) (ifp_t c39)))
        · skip
          refine x_if_eqT (tgt := 49) C dX7_workOf_42 (by decide) (by decide) ?_
          refine x_iconst (v := 0) C dX7_workOf_49 (by decide) ?_
          refine hret _ _ _ _ dX7_workOf_50 rfl ?_
          exact pu_C0 ((ifp_t ⟨c8, c17⟩).trans (by rw [if_pos (by clear hret hcs C; grind)]; exact congrArg (fun z => (z, aC M)) (ifp_f c39)))
    · skip
      refine x_if_neF (tgt := 29) C dX7_workOf_20 (by decide) (by decide) ?_
      refine x_aload_n C dX7_workOf_23 rfl ?_
      refine x_iconst (v := 0) C dX7_workOf_24 (by decide) ?_
      refine x_cvi C (k := 0) (c_X7_finding l g _ (k := 0) rfl (by decide) ) o_X7_finding mw_X7_61 rfl (C.lt rfl) rcv_0 rfl rfl rfl hcs dX7_workOf_25 (fun rf M1 hf => ?_)
      refine hret _ _ _ _ dX7_workOf_28 rfl ?_
      exact fi_C (k := 0) (ifp_f (fun z => by first | exact c17 z.2 | exact c8 z.1)) hf rfl (by decide) same.rf
  · skip
    refine x_if_eqT (tgt := 23) C dX7_workOf_11 (by decide) (by decide) ?_
    refine x_aload_n C dX7_workOf_23 rfl ?_
    refine x_iconst (v := 0) C dX7_workOf_24 (by decide) ?_
    refine x_cvi C (k := 0) (c_X7_finding l g _ (k := 0) rfl (by decide) ) o_X7_finding mw_X7_61 rfl (C.lt rfl) rcv_0 rfl rfl rfl hcs dX7_workOf_25 (fun rf M2 hf => ?_)
    refine hret _ _ _ _ dX7_workOf_28 rfl ?_
    exact fi_C (k := 0) (ifp_f (fun z => by first | exact c17 z.2 | exact c8 z.1)) hf rfl (by decide) same.rf

def rm_X7_spend : Room := { frames := 5, cells := 0, slots := 0, locals := 116 }
set_option maxRecDepth 100000 in
set_option maxHeartbeats 4000000 in
theorem c_X7_spend (l : Launch) (g : Gp) (M : Mem) (oa : okA (aC M))  (x w : Int32) : Ki l g yX7_spend cX7_spend 3 .int rm_X7_spend [.ref (gad g (0)), .int (x), .int (w)] M (fun r M' => (r, aC M') = F_spend x w (aC M) ∧ sameC M M') := by
  refine Ki.of rfl rfl rfl (fun q C hret hcs => ?_)
  have o : okRow (vw M 1) := oa.1
  refine x_aload_n C dX7_spend_0 rfl ?_
  refine x_getf (k := 0) C bk_X7 (C.lt rfl) rfl ent_0 0 fw_X7_10 rfl rfl dX7_spend_1 ?_
  refine x_iload_n C dX7_spend_4 rfl ?_
  refine x_cvB C (k := 1) (c_X1_hasEgg l g (h := 1) (Or.inl rfl) _ _ ) o_X1_hasEgg mw_X7_73 rfl (C.lt' (isH_lt (Or.inl rfl) 0 (by decide))) (rcv_H (Or.inl rfl)) rfl rfl rfl hcs dX7_spend_5 (fun c5 => ?_) (fun c5 => ?_)
  · skip
    obtain ⟨he, ex, ht⟩ := eggP_tn c5
    refine x_if_eqF (tgt := 25) C dX7_spend_8 (by decide) (by decide) ?_
    refine x_aload_n C dX7_spend_11 rfl ?_
    refine x_getf (k := 0) C bk_X7 (C.lt rfl) rfl ent_0 0 fw_X7_10 rfl rfl dX7_spend_12 ?_
    refine x_getf (k := 1) C bk_X1 (C.lt' (isH_lt (Or.inl rfl) 0 (by decide))) rfl (ent_H0 (Or.inl rfl)) 2 fw_X7_100 rfl rfl dX7_spend_15 ?_
    refine x_iload_n C dX7_spend_18 rfl ?_
    refine x_cvB C (k := 1 + (2 + 1)) (c_X5_hasRow l g (h := 1) (j := 2) (Or.inl rfl) (by decide) _ _ ) o_X5_hasRow mw_X7_103 rfl (C.lt' (isH_lt (Or.inl rfl) (2 + 1) (by omega))) (rcv_HT (Or.inl rfl) 2 (by decide)) rfl rfl rfl hcs dX7_spend_19 (fun c19 => ?_) (fun c19 => ?_)
    · skip
      have qw := ix_tn (n := 6) (by decide) c19
      refine x_if_neT (tgt := 31) C dX7_spend_22 (by decide) (by decide) ?_
      refine x_aload_n C dX7_spend_31 rfl ?_
      refine x_getf (k := 0) C bk_X7 (C.lt rfl) rfl ent_0 0 fw_X7_10 rfl rfl dX7_spend_32 ?_
      refine x_iload_n C dX7_spend_35 rfl ?_
      refine x_cvB C (k := 1) (c_X1_isInTime l g (h := 1) (Or.inl rfl) _ (w := (tn w)) qw.2 qw.1 ) o_X1_isInTime mw_X7_112 rfl (C.lt' (isH_lt (Or.inl rfl) 0 (by decide))) (rcv_H (Or.inl rfl)) rfl rfl rfl hcs dX7_spend_36 (fun c36 => ?_) (fun c36 => ?_)
      · skip
        refine x_if_neT (tgt := 48) C dX7_spend_39 (by decide) (by decide) ?_
        refine x_aload_n C dX7_spend_48 rfl ?_
        refine x_getf (k := 0) C bk_X7 (C.lt rfl) rfl ent_0 0 fw_X7_10 rfl rfl dX7_spend_49 ?_
        refine x_iload_n C dX7_spend_52 rfl ?_
        refine x_iload_n C dX7_spend_53 rfl ?_
        refine x_cvi C (k := 1) (c_X1_spendOn l g (h := 1) (Or.inl rfl) _ (e := (tn x)) (w := (tn w)) ex he qw.2 qw.1 o ) o_X1_spendOn mw_X7_115 rfl (C.lt' (isH_lt (Or.inl rfl) 0 (by decide))) (rcv_H (Or.inl rfl)) rfl rfl rfl hcs dX7_spend_54 (fun r1 M1 h1 => ?_)
        refine hret _ _ _ _ dX7_spend_57 rfl ?_
        rw [h1.1]; exact st_C ((ifp_t ⟨c5, c19⟩).trans (ifp_f c36)) h1.2.1 (h1.2.2.mono (by simp [HOU]))
      · skip
        refine x_if_neF (tgt := 48) C dX7_spend_39 (by decide) (by decide) ?_
        refine x_aload_n C dX7_spend_42 rfl ?_
        refine x_iconst (v := 4) C dX7_spend_43 (by decide) ?_
        refine x_cvi C (k := 0) (c_X7_finding l g _ (k := 4) rfl (by decide) ) o_X7_finding mw_X7_61 rfl (C.lt rfl) rcv_0 rfl rfl rfl hcs dX7_spend_44 (fun rg M2 hg => ?_)
        refine hret _ _ _ _ dX7_spend_47 rfl ?_
        exact fi_C (k := 4) ((ifp_t ⟨c5, c19⟩).trans (ifp_t (Classical.not_not.mp c36))) hg rfl (by decide) same.rf
    · skip
      refine x_if_neF (tgt := 31) C dX7_spend_22 (by decide) (by decide) ?_
      refine x_aload_n C dX7_spend_25 rfl ?_
      refine x_iconst (v := 0) C dX7_spend_26 (by decide) ?_
      refine x_cvi C (k := 0) (c_X7_finding l g _ (k := 0) rfl (by decide) ) o_X7_finding mw_X7_61 rfl (C.lt rfl) rcv_0 rfl rfl rfl hcs dX7_spend_27 (fun rf M3 hf => ?_)
      refine hret _ _ _ _ dX7_spend_30 rfl ?_
      exact fi_C (k := 0) (ifp_f (fun z => by first | exact c19 z.2 | exact c5 z.1)) hf rfl (by decide) same.rf
  · skip
    refine x_if_eqT (tgt := 25) C dX7_spend_8 (by decide) (by decide) ?_
    refine x_aload_n C dX7_spend_25 rfl ?_
    refine x_iconst (v := 0) C dX7_spend_26 (by decide) ?_
    refine x_cvi C (k := 0) (c_X7_finding l g _ (k := 0) rfl (by decide) ) o_X7_finding mw_X7_61 rfl (C.lt rfl) rcv_0 rfl rfl rfl hcs dX7_spend_27 (fun rf M4 hf => ?_)
    refine hret _ _ _ _ dX7_spend_30 rfl ?_
    exact fi_C (k := 0) (ifp_f (fun z => by first | exact c19 z.2 | exact c5 z.1)) hf rfl (by decide) same.rf

def rm_X7_broken : Room := { frames := 4, cells := 0, slots := 0, locals := 92 }
set_option maxRecDepth 100000 in
set_option maxHeartbeats 4000000 in
theorem c_X7_broken (l : Launch) (g : Gp) (M : Mem) (oa : okA (aC M))  (x : Int32) : Ki l g yX7_broken cX7_broken 3 .int rm_X7_broken [.ref (gad g (0)), .int (x)] M (fun r M' => (r, aC M') = F_broken x (aC M) ∧ sameC M M') := by
  refine Ki.of rfl rfl rfl (fun q C hret hcs => ?_)
  have o : okRow (vw M 1) := oa.1
  refine x_aload_n C dX7_broken_0 rfl ?_
  refine x_getf (k := 0) C bk_X7 (C.lt rfl) rfl ent_0 0 fw_X7_10 rfl rfl dX7_broken_1 ?_
  refine x_iload_n C dX7_broken_4 rfl ?_
  refine x_cvB C (k := 1) (c_X1_hasEgg l g (h := 1) (Or.inl rfl) _ _ ) o_X1_hasEgg mw_X7_73 rfl (C.lt' (isH_lt (Or.inl rfl) 0 (by decide))) (rcv_H (Or.inl rfl)) rfl rfl rfl hcs dX7_broken_5 (fun c5 => ?_) (fun c5 => ?_)
  · skip
    obtain ⟨he, ex, ht⟩ := eggP_tn c5
    refine x_if_neT (tgt := 17) C dX7_broken_8 (by decide) (by decide) ?_
    refine x_aload_n C dX7_broken_17 rfl ?_
    refine x_getf (k := 0) C bk_X7 (C.lt rfl) rfl ent_0 0 fw_X7_10 rfl rfl dX7_broken_18 ?_
    refine x_iload_n C dX7_broken_21 rfl ?_
    refine x_cvE C (k := 1) (c_X1_minutesOf l g (h := 1) (Or.inl rfl) _ (e := (tn x)) ex he o ) o_X1_minutesOf mw_X7_81 rfl (C.lt' (isH_lt (Or.inl rfl) 0 (by decide))) (rcv_H (Or.inl rfl)) rfl rfl rfl hcs dX7_broken_22 ?_
    refine x_topi (fun x1 ex1 => ?_)
    refine x_istore_n C dX7_broken_25 rfl ?_
    refine x_aload_n C dX7_broken_26 rfl ?_
    refine x_getf (k := 0) C bk_X7 (C.lt rfl) rfl ent_0 0 fw_X7_10 rfl rfl dX7_broken_27 ?_
    refine x_iload_n C dX7_broken_30 rfl ?_
    refine x_cvv C (k := 1) (c_X1_empty l g (h := 1) (Or.inl rfl) _ (e := (tn x)) ex he ) o_X1_empty mw_X7_118 rfl (C.lt' (isH_lt (Or.inl rfl) 0 (by decide))) (rcv_H (Or.inl rfl)) rfl rfl rfl hcs dX7_broken_31 (fun M1 h1 => ?_)
    refine x_iload_n C dX7_broken_34 rfl ?_
    refine hret _ _ _ _ dX7_broken_35 rfl ?_
    rw [ex1]; exact st_C (ifp_t c5) h1.1 (h1.2.mono (by simp [HOU]))
  · skip
    refine x_if_neF (tgt := 17) C dX7_broken_8 (by decide) (by decide) ?_
    refine x_aload_n C dX7_broken_11 rfl ?_
    refine x_iconst (v := 0) C dX7_broken_12 (by decide) ?_
    refine x_cvi C (k := 0) (c_X7_finding l g _ (k := 0) rfl (by decide) ) o_X7_finding mw_X7_61 rfl (C.lt rfl) rcv_0 rfl rfl rfl hcs dX7_broken_13 (fun rf M2 hf => ?_)
    refine hret _ _ _ _ dX7_broken_16 rfl ?_
    exact fi_C (k := 0) (ifp_f c5) hf rfl (by decide) same.rf

def rm_X7_go : Room := { frames := 5, cells := 0, slots := 0, locals := 111 }
set_option maxRecDepth 100000 in
set_option maxHeartbeats 4000000 in
theorem c_X7_go (l : Launch) (g : Gp) (M : Mem) (oa : okA (aC M))  (n : Int32) : Ki l g yX7_go cX7_go 2 .int rm_X7_go [.ref (gad g (0)), .int (n)] M (fun r M' => (r, aC M') = F_go n (aC M) ∧ sameC M M') := by
  refine Ki.of rfl rfl rfl (fun q C hret hcs => ?_)
  have o : okRow (vw M 1) := oa.1
  refine x_iload_n C dX7_go_0 rfl ?_
  refine x_iconst (v := 1) C dX7_go_1 (by decide) ?_
  refine x_bipush (v := 60) C dX7_go_2 (by decide) ?_
  refine x_csB C (c_X7_within l g _ _ _ _ ) o_X7_within mw_X7_77 rfl rfl rfl rfl hcs dX7_go_4 (fun c4 => ?_) (fun c4 => ?_)
  · skip
    have qn := inB_tn (n := 60) (by decide) (show inB n 0 60 from ⟨by have := c4.1; clear hret hcs C; grind, c4.2⟩)
    refine x_if_neT (tgt := 16) C dX7_go_7 (by decide) (by decide) ?_
    refine x_aload_n C dX7_go_16 rfl ?_
    refine x_getf (k := 0) C bk_X7 (C.lt rfl) rfl ent_0 0 fw_X7_10 rfl rfl dX7_go_17 ?_
    refine x_getf (k := 1) C bk_X1 (C.lt' (isH_lt (Or.inl rfl) 0 (by decide))) rfl (ent_H0 (Or.inl rfl)) 4 fw_X7_122 rfl rfl dX7_go_20 ?_
    refine x_iload_n C dX7_go_23 rfl ?_
    refine x_iadd C dX7_go_24 ?_
    refine x_ldc C kw_X7_126 dX7_go_25 ?_
    refine x_icmp_le (tgt := 36) C dX7_go_27 (by decide) (fun c27 => ?_) (fun c27 => ?_)
    · skip
      refine x_aload_n C dX7_go_36 rfl ?_
      refine x_getf (k := 0) C bk_X7 (C.lt rfl) rfl ent_0 0 fw_X7_10 rfl rfl dX7_go_37 ?_
      refine x_iload_n C dX7_go_40 rfl ?_
      refine x_cvi C (k := 1) (c_X1_daysGoBy l g (h := 1) (Or.inl rfl) _ (N := (tn n)) qn.2 (by omega) o ) o_X1_daysGoBy mw_X7_127 rfl (C.lt' (isH_lt (Or.inl rfl) 0 (by decide))) (rcv_H (Or.inl rfl)) rfl rfl rfl hcs dX7_go_41 (fun r1 M1 h1 => ?_)
      refine x_pop C dX7_go_44 rfl ?_
      refine x_aload_n C dX7_go_45 rfl ?_
      refine x_getf (k := 0) C bk_X7 (C.lt rfl) rfl ent_0 0 fw_X7_10 rfl rfl dX7_go_46 ?_
      refine x_cvE C (k := 1) (c_X1_places l g (h := 1) (Or.inl rfl) _ ) o_X1_places mw_X7_130 rfl (C.lt' (isH_lt (Or.inl rfl) 0 (by decide))) (rcv_H (Or.inl rfl)) rfl rfl rfl hcs dX7_go_49 ?_
      refine x_csE C (c_J6_bitCount_0f7a4 l g _ (s := (eggN (vw M1 1) 8)) rfl (eggN_lt _ 8) ) o_J6_bitCount_0f7a4 mw_X7_133 rfl rfl rfl rfl hcs dX7_go_52 ?_
      refine hret _ _ _ _ dX7_go_55 rfl ?_
      rw [h1.2.1]; exact st_C ((ifp_t c4).trans (ifp_f (Int32.not_lt.mpr c27))) h1.2.1 (h1.2.2.mono (by simp [HOU]))
    · skip
      refine x_aload_n C dX7_go_30 rfl ?_
      refine x_iconst (v := 4) C dX7_go_31 (by decide) ?_
      refine x_cvi C (k := 0) (c_X7_finding l g _ (k := 4) rfl (by decide) ) o_X7_finding mw_X7_61 rfl (C.lt rfl) rcv_0 rfl rfl rfl hcs dX7_go_32 (fun rg M2 hg => ?_)
      refine hret _ _ _ _ dX7_go_35 rfl ?_
      exact fi_C (k := 4) ((ifp_t c4).trans (ifp_t (Int32.not_le.mp c27))) hg rfl (by decide) same.rf
  · skip
    refine x_if_neF (tgt := 16) C dX7_go_7 (by decide) (by decide) ?_
    refine x_aload_n C dX7_go_10 rfl ?_
    refine x_iconst (v := 0) C dX7_go_11 (by decide) ?_
    refine x_cvi C (k := 0) (c_X7_finding l g _ (k := 0) rfl (by decide) ) o_X7_finding mw_X7_61 rfl (C.lt rfl) rcv_0 rfl rfl rfl hcs dX7_go_12 (fun rf M3 hf => ?_)
    refine hret _ _ _ _ dX7_go_15 rfl ?_
    exact fi_C (k := 0) (ifp_f c4) hf rfl (by decide) same.rf

theorem sw_ne {k z : Int32} {a b : Int} (h : k.toInt < a ∨ b < k.toInt) (h1 : a ≤ z.toInt) (h2 : z.toInt ≤ b) : ¬ k = z := fun e => by subst e; omega
theorem F_now_out {w : Int32} {A : Abs} (h : w.toInt < 0 ∨ 4 < w.toInt) : F_now w A = noA A 0 := by
  unfold F_now
  rw [if_neg (sw_ne h (by decide) (by decide)), if_neg (sw_ne h (by decide) (by decide)), if_neg (sw_ne h (by decide) (by decide)), if_neg (sw_ne h (by decide) (by decide)), if_neg (sw_ne h (by decide) (by decide))]
def rm_X7_now : Room := { frames := 5, cells := 0, slots := 0, locals := 114 }
set_option maxRecDepth 100000 in
set_option maxHeartbeats 4000000 in
theorem c_X7_now (l : Launch) (g : Gp) (M : Mem) (oa : okA (aC M))  (w : Int32) : Ki l g yX7_now cX7_now 2 .int rm_X7_now [.ref (gad g (0)), .int (w)] M (fun r M' => (r, aC M') = F_now w (aC M) ∧ sameC M M') := by
  refine Ki.of rfl rfl rfl (fun q C hret hcs => ?_)
  have o : okRow (vw M 1) := oa.1
  refine x_iload_n C dX7_now_0 rfl ?_
  rcases sw_split (w) 0 4 with c1 | c1
  · skip
    refine x_tableOut (tgt := 76) C dX7_now_1 c1 (by decide) ?_
    refine x_aload_n C dX7_now_76 rfl ?_
    refine x_iconst (v := 0) C dX7_now_77 (by decide) ?_
    refine x_cvi C (k := 0) (c_X7_finding l g _ (k := 0) rfl (by decide) ) o_X7_finding mw_X7_61 rfl (C.lt rfl) rcv_0 rfl rfl rfl hcs dX7_now_78 (fun rf M1 hf => ?_)
    refine hret _ _ _ _ dX7_now_81 rfl ?_
    exact fi_C (k := 0) (F_now_out c1) hf rfl (by decide) same.rf
  · skip
    by_cases c1_0 : w = 0
    · skip
      refine x_tableIn (tgt := 36) (off := 35) C dX7_now_1 c1.1 c1.2 (by rw [c1_0]; decide) (by decide) ?_
      refine x_aload_n C dX7_now_36 rfl ?_
      refine x_getf (k := 0) C bk_X7 (C.lt rfl) rfl ent_0 0 fw_X7_10 rfl rfl dX7_now_37 ?_
      refine x_getf (k := 1) C bk_X1 (C.lt' (isH_lt (Or.inl rfl) 0 (by decide))) rfl (ent_H0 (Or.inl rfl)) 4 fw_X7_122 rfl rfl dX7_now_40 ?_
      refine hret _ _ _ _ dX7_now_43 rfl ?_
      exact pu_C0 (if_pos c1_0)
    by_cases c1_1 : w = 1
    · skip
      refine x_tableIn (tgt := 44) (off := 43) C dX7_now_1 c1.1 c1.2 (by rw [c1_1]; decide) (by decide) ?_
      refine x_aload_n C dX7_now_44 rfl ?_
      refine x_getf (k := 0) C bk_X7 (C.lt rfl) rfl ent_0 0 fw_X7_10 rfl rfl dX7_now_45 ?_
      refine x_cvE C (k := 1) (c_X1_places l g (h := 1) (Or.inl rfl) _ ) o_X1_places mw_X7_130 rfl (C.lt' (isH_lt (Or.inl rfl) 0 (by decide))) (rcv_H (Or.inl rfl)) rfl rfl rfl hcs dX7_now_48 ?_
      refine hret _ _ _ _ dX7_now_51 rfl ?_
      exact pu_C0 ((if_neg c1_0).trans (if_pos c1_1))
    by_cases c1_2 : w = 2
    · skip
      refine x_tableIn (tgt := 52) (off := 51) C dX7_now_1 c1.1 c1.2 (by rw [c1_2]; decide) (by decide) ?_
      refine x_aload_n C dX7_now_52 rfl ?_
      refine x_getf (k := 0) C bk_X7 (C.lt rfl) rfl ent_0 0 fw_X7_10 rfl rfl dX7_now_53 ?_
      refine x_cvE C (k := 1) (c_X1_allMinutes l g (h := 1) (Or.inl rfl) _ o ) o_X1_allMinutes mw_X7_138 rfl (C.lt' (isH_lt (Or.inl rfl) 0 (by decide))) (rcv_H (Or.inl rfl)) rfl rfl rfl hcs dX7_now_56 ?_
      refine hret _ _ _ _ dX7_now_59 rfl ?_
      exact pu_C0 ((if_neg c1_0).trans ((if_neg c1_1).trans (if_pos c1_2)))
    by_cases c1_3 : w = 3
    · skip
      refine x_tableIn (tgt := 60) (off := 59) C dX7_now_1 c1.1 c1.2 (by rw [c1_3]; decide) (by decide) ?_
      refine x_aload_n C dX7_now_60 rfl ?_
      refine x_getf (k := 0) C bk_X7 (C.lt rfl) rfl ent_0 0 fw_X7_10 rfl rfl dX7_now_61 ?_
      refine x_cvE C (k := 1) (c_X1_doneWorks l g (h := 1) (Or.inl rfl) _ o ) o_X1_doneWorks mw_X7_141 rfl (C.lt' (isH_lt (Or.inl rfl) 0 (by decide))) (rcv_H (Or.inl rfl)) rfl rfl rfl hcs dX7_now_64 ?_
      refine hret _ _ _ _ dX7_now_67 rfl ?_
      exact pu_C0 ((if_neg c1_0).trans ((if_neg c1_1).trans ((if_neg c1_2).trans (if_pos c1_3))))
    by_cases c1_4 : w = 4
    · skip
      refine x_tableIn (tgt := 68) (off := 67) C dX7_now_1 c1.1 c1.2 (by rw [c1_4]; decide) (by decide) ?_
      refine x_aload_n C dX7_now_68 rfl ?_
      refine x_getf (k := 0) C bk_X7 (C.lt rfl) rfl ent_0 0 fw_X7_10 rfl rfl dX7_now_69 ?_
      refine x_getf (k := 1) C bk_X1 (C.lt' (isH_lt (Or.inl rfl) 0 (by decide))) rfl (ent_H0 (Or.inl rfl)) 5 fw_X7_144 rfl rfl dX7_now_72 ?_
      refine hret _ _ _ _ dX7_now_75 rfl ?_
      exact pu_C0 ((if_neg c1_0).trans ((if_neg c1_1).trans ((if_neg c1_2).trans ((if_neg c1_3).trans (if_pos c1_4)))))
    exfalso
    have h1 := c1.1; have h2 := c1.2
    simp only [fa_eq] at c1_0 c1_1 c1_2 c1_3 c1_4
    simp at c1_0 c1_1 c1_2 c1_3 c1_4
    omega

def rm_X7_ahead : Room := { frames := 5, cells := 0, slots := 0, locals := 114 }
set_option maxRecDepth 100000 in
set_option maxHeartbeats 4000000 in
theorem c_X7_ahead (l : Launch) (g : Gp) (M : Mem) (oa : okA (aC M))  (n : Int32) : Ki l g yX7_ahead cX7_ahead 2 .int rm_X7_ahead [.ref (gad g (0)), .int (n)] M (fun r M' => (r, aC M') = F_ahead n (aC M) ∧ sameC M M') := by
  refine Ki.of rfl rfl rfl (fun q C hret hcs => ?_)
  have o : okRow (vw M 1) := oa.1
  refine x_iload_n C dX7_ahead_0 rfl ?_
  refine x_iconst (v := 0) C dX7_ahead_1 (by decide) ?_
  refine x_bipush (v := 100) C dX7_ahead_2 (by decide) ?_
  refine x_csB C (c_X7_within l g _ _ _ _ ) o_X7_within mw_X7_77 rfl rfl rfl rfl hcs dX7_ahead_4 (fun c4 => ?_) (fun c4 => ?_)
  · skip
    have qn := inB_tn (n := 100) (by decide) c4
    refine x_if_neT (tgt := 16) C dX7_ahead_7 (by decide) (by decide) ?_
    refine x_aload_n C dX7_ahead_16 rfl ?_
    refine x_getf (k := 0) C bk_X7 (C.lt rfl) rfl ent_0 2 fw_X7_19 rfl rfl dX7_ahead_17 ?_
    refine x_aload_n C dX7_ahead_20 rfl ?_
    refine x_getf (k := 0) C bk_X7 (C.lt rfl) rfl ent_0 0 fw_X7_10 rfl rfl dX7_ahead_21 ?_
    refine x_cvv C (k := 17) (c_X1_become l g (h := 17) (h2 := 1) (Or.inr (Or.inr rfl)) (Or.inl rfl) (by decide) _ ) o_X1_become mw_X7_147 rfl (C.lt' (isH_lt (Or.inr (Or.inr rfl)) 0 (by decide))) (rcv_H (Or.inr (Or.inr rfl))) rfl rfl rfl hcs dX7_ahead_24 (fun M1 h1 => ?_)
    have ot : okRow (vw M1 17) := by rw [h1.1]; exact o
    refine x_aload_n C dX7_ahead_27 rfl ?_
    refine x_getf (k := 0) C bk_X7 (C.lt rfl) rfl ent_0 2 fw_X7_19 rfl rfl dX7_ahead_28 ?_
    refine x_iload_n C dX7_ahead_31 rfl ?_
    refine x_cvi C (k := 17) (c_X1_daysGoBy l g (h := 17) (Or.inr (Or.inr rfl)) _ (N := (tn n)) qn.2 (by omega) ot ) o_X1_daysGoBy mw_X7_127 rfl (C.lt' (isH_lt (Or.inr (Or.inr rfl)) 0 (by decide))) (rcv_H (Or.inr (Or.inr rfl))) rfl rfl rfl hcs dX7_ahead_32 (fun r2 M2 h2 => ?_)
    refine x_pop C dX7_ahead_35 rfl ?_
    refine x_aload_n C dX7_ahead_36 rfl ?_
    refine x_getf (k := 0) C bk_X7 (C.lt rfl) rfl ent_0 2 fw_X7_19 rfl rfl dX7_ahead_37 ?_
    refine x_cvE C (k := 17) (c_X1_allMinutes l g (h := 17) (Or.inr (Or.inr rfl)) _ (by rw [h2.2.1]; exact okRow_dayN ot _) ) o_X1_allMinutes mw_X7_138 rfl (C.lt' (isH_lt (Or.inr (Or.inr rfl)) 0 (by decide))) (rcv_H (Or.inr (Or.inr rfl))) rfl rfl rfl hcs dX7_ahead_40 ?_
    refine hret _ _ _ _ dX7_ahead_43 rfl ?_
    refine pu_C ((ifp_t c4).trans (by rw [h2.2.1, h1.1]; rfl)) ((h1.2.mono (by simp [SCR])).tr (h2.2.2.mono (by simp [SCR])))
  · skip
    refine x_if_neF (tgt := 16) C dX7_ahead_7 (by decide) (by decide) ?_
    refine x_aload_n C dX7_ahead_10 rfl ?_
    refine x_iconst (v := 0) C dX7_ahead_11 (by decide) ?_
    refine x_cvi C (k := 0) (c_X7_finding l g _ (k := 0) rfl (by decide) ) o_X7_finding mw_X7_61 rfl (C.lt rfl) rcv_0 rfl rfl rfl hcs dX7_ahead_12 (fun rf M1 hf => ?_)
    refine hret _ _ _ _ dX7_ahead_15 rfl ?_
    exact fi_C (k := 0) (ifp_f c4) hf rfl (by decide) same.rf

def rm_X7_spoils : Room := { frames := 5, cells := 0, slots := 0, locals := 111 }
set_option maxRecDepth 100000 in
set_option maxHeartbeats 4000000 in
theorem c_X7_spoils (l : Launch) (g : Gp) (M : Mem) (oa : okA (aC M))  (n : Int32) : Ki l g yX7_spoils cX7_spoils 2 .int rm_X7_spoils [.ref (gad g (0)), .int (n)] M (fun r M' => (r, aC M') = F_spoils n (aC M) ∧ sameC M M') := by
  refine Ki.of rfl rfl rfl (fun q C hret hcs => ?_)
  have o : okRow (vw M 1) := oa.1
  refine x_iload_n C dX7_spoils_0 rfl ?_
  refine x_iconst (v := 0) C dX7_spoils_1 (by decide) ?_
  refine x_bipush (v := 100) C dX7_spoils_2 (by decide) ?_
  refine x_csB C (c_X7_within l g _ _ _ _ ) o_X7_within mw_X7_77 rfl rfl rfl rfl hcs dX7_spoils_4 (fun c4 => ?_) (fun c4 => ?_)
  · skip
    have qn := inB_tn (n := 100) (by decide) c4
    refine x_if_neT (tgt := 16) C dX7_spoils_7 (by decide) (by decide) ?_
    refine x_aload_n C dX7_spoils_16 rfl ?_
    refine x_getf (k := 0) C bk_X7 (C.lt rfl) rfl ent_0 2 fw_X7_19 rfl rfl dX7_spoils_17 ?_
    refine x_aload_n C dX7_spoils_20 rfl ?_
    refine x_getf (k := 0) C bk_X7 (C.lt rfl) rfl ent_0 0 fw_X7_10 rfl rfl dX7_spoils_21 ?_
    refine x_cvv C (k := 17) (c_X1_become l g (h := 17) (h2 := 1) (Or.inr (Or.inr rfl)) (Or.inl rfl) (by decide) _ ) o_X1_become mw_X7_147 rfl (C.lt' (isH_lt (Or.inr (Or.inr rfl)) 0 (by decide))) (rcv_H (Or.inr (Or.inr rfl))) rfl rfl rfl hcs dX7_spoils_24 (fun M1 h1 => ?_)
    have ot : okRow (vw M1 17) := by rw [h1.1]; exact o
    refine x_aload_n C dX7_spoils_27 rfl ?_
    refine x_getf (k := 0) C bk_X7 (C.lt rfl) rfl ent_0 2 fw_X7_19 rfl rfl dX7_spoils_28 ?_
    refine x_iload_n C dX7_spoils_31 rfl ?_
    refine x_cvi C (k := 17) (c_X1_daysGoBy l g (h := 17) (Or.inr (Or.inr rfl)) _ (N := (tn n)) qn.2 (by omega) ot ) o_X1_daysGoBy mw_X7_127 rfl (C.lt' (isH_lt (Or.inr (Or.inr rfl)) 0 (by decide))) (rcv_H (Or.inr (Or.inr rfl))) rfl rfl rfl hcs dX7_spoils_32 (fun r2 M2 h2 => ?_)
    refine hret _ _ _ _ dX7_spoils_35 rfl ?_
    rw [h2.1, h1.1]; exact pu_C (ifp_t c4) ((h1.2.mono (by simp [SCR])).tr (h2.2.2.mono (by simp [SCR])))
  · skip
    refine x_if_neF (tgt := 16) C dX7_spoils_7 (by decide) (by decide) ?_
    refine x_aload_n C dX7_spoils_10 rfl ?_
    refine x_iconst (v := 0) C dX7_spoils_11 (by decide) ?_
    refine x_cvi C (k := 0) (c_X7_finding l g _ (k := 0) rfl (by decide) ) o_X7_finding mw_X7_61 rfl (C.lt rfl) rcv_0 rfl rfl rfl hcs dX7_spoils_12 (fun rf M1 hf => ?_)
    refine hret _ _ _ _ dX7_spoils_15 rfl ?_
    exact fi_C (k := 0) (ifp_f c4) hf rfl (by decide) same.rf

