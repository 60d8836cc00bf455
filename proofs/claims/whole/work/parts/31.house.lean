/-! ===== contracts: a House's acts ===== -/
def rm_X7_copyRow : Room := { frames := 0, cells := 0, slots := 0, locals := 0 }
set_option maxRecDepth 100000 in
set_option maxHeartbeats 4000000 in
theorem c_X7_copyRow32 (l : Launch) (g : Gp) {p r : Nat} (lp : p < 56) (lr : r < 56) (ep : ∀ f, ent g p f = eI g 32 f) (er : ∀ f, ent g r f = eI g 32 f) (hpr : p ≠ r) (M : Mem) : Kv l g yX7_copyRow cX7_copyRow 3 rm_X7_copyRow [.ref (gad g (p)), .ref (gad g (r))] M (fun M' => (∀ i, i < 32 → M' r i = M p i) ∧ same [r] M M') := by
  refine Kv.of rfl rfl rfl (fun q C hret hcs => ?_)
  refine x_aload_n C dX7_copyRow_0 rfl ?_
  refine x_ifnull C dX7_copyRow_1 ?_
  refine x_aload_n C dX7_copyRow_4 rfl ?_
  refine x_ifnonnull (tgt := 9) C dX7_copyRow_5 (by decide) ?_
  refine x_iconst (v := 0) C dX7_copyRow_9 (by decide) ?_
  refine x_istore_n C dX7_copyRow_10 rfl ?_
  refine up_to 32 (P := fun i => ∀ M1 : Mem, (∀ j, j < i → M1 r j = M p j) → same [r] M M1 → X (kmk l rm_X7_copyRow g 3 q) M1 11 [some (.ref (gad g (p))), some (.ref (gad g (r))), some (.int (nI i))] []) (fun i hi ih M1 hj hs => ?_) 0 (by omega) M (fun j hj => absurd hj (by omega)) same.rf
  refine x_iload_n C dX7_copyRow_11 rfl ?_
  refine x_aload_n C dX7_copyRow_12 rfl ?_
  refine x_alenI (k := p) (v := 32) C (C.lt' lp) rfl ep rfl dX7_copyRow_13 ?_
  refine x_icmp_ge (tgt := 35) C dX7_copyRow_14 (by decide) (fun c14 => ?_) (fun c14 => ?_)
  · skip
    have hlt := lp_ge (N := 32) (by decide) hi c14
    refine hret _ _ _ dX7_copyRow_35 ?_
    subst hlt; exact ⟨hj, hs⟩
  · skip
    have hlt := lp_lt (N := 32) (by decide) hi c14
    refine x_iload_n C dX7_copyRow_17 rfl ?_
    refine x_aload_n C dX7_copyRow_18 rfl ?_
    refine x_alenI (k := r) (v := 32) C (C.lt' lr) rfl er rfl dX7_copyRow_19 ?_
    refine x_icmp_ge (tgt := 35) C dX7_copyRow_20 (by decide) (fun c20 => ?_) (fun c20 => ?_)
    · skip
      exact absurd c20 c14
    · skip
      refine x_aload_n C dX7_copyRow_23 rfl ?_
      refine x_iload_n C dX7_copyRow_24 rfl ?_
      refine x_aload_n C dX7_copyRow_25 rfl ?_
      refine x_iload_n C dX7_copyRow_26 rfl ?_
      refine x_iald (j := i) (k := p) C (C.lt' lp) rfl ep (rfl) (by omega) rfl dX7_copyRow_27 ?_
      refine x_iast (j := i) (k := r) C (C.lt' lr) rfl er (rfl) (by omega) rfl dX7_copyRow_28 ?_
      refine x_memI (fun M2 eM2 => ?_)
      refine x_iinc (v := nI (i + 1)) C dX7_copyRow_29 rfl (nI_1 i) rfl ?_
      refine x_goto (tgt := 11) C dX7_copyRow_32 (by decide) ?_
      refine ih hlt M2 (fun j hj2 => ?_) ?_
      · rw [eM2]
        by_cases q : j = i
        · subst q; rw [up_ss, hs p (by simp [hpr])]
        · rw [up_sn q]; exact hj j (by omega)
      · rw [eM2]; exact hs.tr (same.up (by simp))

set_option maxRecDepth 100000 in
set_option maxHeartbeats 4000000 in
theorem c_X7_copyRow10 (l : Launch) (g : Gp) {p r : Nat} (lp : p < 56) (lr : r < 56) (ep : ∀ f, ent g p f = eI g 10 f) (er : ∀ f, ent g r f = eI g 10 f) (hpr : p ≠ r) (M : Mem) : Kv l g yX7_copyRow cX7_copyRow 3 rm_X7_copyRow [.ref (gad g (p)), .ref (gad g (r))] M (fun M' => (∀ i, i < 10 → M' r i = M p i) ∧ same [r] M M') := by
  refine Kv.of rfl rfl rfl (fun q C hret hcs => ?_)
  refine x_aload_n C dX7_copyRow_0 rfl ?_
  refine x_ifnull C dX7_copyRow_1 ?_
  refine x_aload_n C dX7_copyRow_4 rfl ?_
  refine x_ifnonnull (tgt := 9) C dX7_copyRow_5 (by decide) ?_
  refine x_iconst (v := 0) C dX7_copyRow_9 (by decide) ?_
  refine x_istore_n C dX7_copyRow_10 rfl ?_
  refine up_to 10 (P := fun i => ∀ M1 : Mem, (∀ j, j < i → M1 r j = M p j) → same [r] M M1 → X (kmk l rm_X7_copyRow g 3 q) M1 11 [some (.ref (gad g (p))), some (.ref (gad g (r))), some (.int (nI i))] []) (fun i hi ih M1 hj hs => ?_) 0 (by omega) M (fun j hj => absurd hj (by omega)) same.rf
  refine x_iload_n C dX7_copyRow_11 rfl ?_
  refine x_aload_n C dX7_copyRow_12 rfl ?_
  refine x_alenI (k := p) (v := 10) C (C.lt' lp) rfl ep rfl dX7_copyRow_13 ?_
  refine x_icmp_ge (tgt := 35) C dX7_copyRow_14 (by decide) (fun c14 => ?_) (fun c14 => ?_)
  · skip
    have hlt := lp_ge (N := 10) (by decide) hi c14
    refine hret _ _ _ dX7_copyRow_35 ?_
    subst hlt; exact ⟨hj, hs⟩
  · skip
    have hlt := lp_lt (N := 10) (by decide) hi c14
    refine x_iload_n C dX7_copyRow_17 rfl ?_
    refine x_aload_n C dX7_copyRow_18 rfl ?_
    refine x_alenI (k := r) (v := 10) C (C.lt' lr) rfl er rfl dX7_copyRow_19 ?_
    refine x_icmp_ge (tgt := 35) C dX7_copyRow_20 (by decide) (fun c20 => ?_) (fun c20 => ?_)
    · skip
      exact absurd c20 c14
    · skip
      refine x_aload_n C dX7_copyRow_23 rfl ?_
      refine x_iload_n C dX7_copyRow_24 rfl ?_
      refine x_aload_n C dX7_copyRow_25 rfl ?_
      refine x_iload_n C dX7_copyRow_26 rfl ?_
      refine x_iald (j := i) (k := p) C (C.lt' lp) rfl ep (rfl) (by omega) rfl dX7_copyRow_27 ?_
      refine x_iast (j := i) (k := r) C (C.lt' lr) rfl er (rfl) (by omega) rfl dX7_copyRow_28 ?_
      refine x_memI (fun M2 eM2 => ?_)
      refine x_iinc (v := nI (i + 1)) C dX7_copyRow_29 rfl (nI_1 i) rfl ?_
      refine x_goto (tgt := 11) C dX7_copyRow_32 (by decide) ?_
      refine ih hlt M2 (fun j hj2 => ?_) ?_
      · rw [eM2]
        by_cases q : j = i
        · subst q; rw [up_ss, hs p (by simp [hpr])]
        · rw [up_sn q]; exact hj j (by omega)
      · rw [eM2]; exact hs.tr (same.up (by simp))

def rm_X5_become : Room := { frames := 1, cells := 0, slots := 0, locals := 22 }
set_option maxRecDepth 100000 in
set_option maxHeartbeats 4000000 in
theorem c_X5_become (l : Launch) (g : Gp) {h h2 : Nat} (hh : isH h) (hh2 : isH h2) (hne : h ≠ h2) {j : Nat} (hj : j < 3) (M : Mem) : Kv l g yX5_become cX5_become 2 rm_X5_become [.ref (gad g (h + (j + 1))), .ref (gad g (h2 + (j + 1)))] M (fun M' => (∀ i, i < 32 → M' (h + (j + 4)) i = M (h2 + (j + 4)) i) ∧ same [h + (j + 4)] M M') := by
  refine Kv.of rfl rfl rfl (fun q C hret hcs => ?_)
  refine x_aload_n C dX5_become_0 rfl ?_
  refine x_ifnull C dX5_become_1 ?_
  refine x_aload_n C dX5_become_4 rfl ?_
  refine x_getf (k := h2 + (j + 1)) C bk_X5 (C.lt' (isH_lt hh2 (j + 1) (by omega))) rfl (ent_HT hh2 j hj) 3 fw_X5_26 rfl rfl dX5_become_5 ?_
  refine x_aload_n C dX5_become_8 rfl ?_
  refine x_getf (k := h + (j + 1)) C bk_X5 (C.lt' (isH_lt hh (j + 1) (by omega))) rfl (ent_HT hh j hj) 3 fw_X5_26 rfl rfl dX5_become_9 ?_
  refine x_cnv C (c_X7_copyRow32 l g (p := h2 + (j + 4)) (r := h + (j + 4)) (isH_lt hh2 (j + 4) (by omega)) (isH_lt hh (j + 4) (by omega)) (ent_HC hh2 j hj) (ent_HC hh j hj) (by omega) _ ) o_X7_copyRow mn_X5_29 rfl rfl rfl rfl hcs dX5_become_12 (fun M1 hp => ?_)
  refine hret _ _ _ dX5_become_15 ?_
  exact hp

theorem isH_far {h h2 : Nat} (hh : isH h) (hh2 : isH h2) (hne : h ≠ h2) : h + 8 ≤ h2 ∨ h2 + 8 ≤ h := by
  unfold isH at hh hh2
  omega
theorem become_vw {h h2 : Nat} (hh : isH h) (hh2 : isH h2) (hne : h ≠ h2) {M M1 M2 M3 M4 M5 M6 M7 : Mem}
    (h1 : (∀ i, i < 32 → M1 (h + (0 + 4)) i = M (h2 + (0 + 4)) i) ∧ same [h + (0 + 4)] M M1) (h2x : (∀ i, i < 32 → M2 (h + (1 + 4)) i = M1 (h2 + (1 + 4)) i) ∧ same [h + (1 + 4)] M1 M2)
    (h3 : (∀ i, i < 32 → M3 (h + (2 + 4)) i = M2 (h2 + (2 + 4)) i) ∧ same [h + (2 + 4)] M2 M3) (h4 : (∀ i, i < 10 → M4 (h + 7) i = M3 (h2 + 7) i) ∧ same [h + 7] M3 M4)
    (e5 : M5 = up M4 h 4 (M4 h2 4)) (e6 : M6 = up M5 h 5 (M5 h2 5)) (e7 : M7 = up M6 h 6 (M6 h2 6)) : vw M7 h = vw M h2 ∧ same [h, h + (0 + 4), h + (1 + 4), h + (2 + 4), h + 7] M M7 := by
  have hf := isH_far hh hh2 hne
  have s4 : same [h + (0 + 4), h + (1 + 4), h + (2 + 4), h + 7] M M4 := (((h1.2.mono (by simp)).tr (h2x.2.mono (by simp))).tr (h3.2.mono (by simp))).tr (h4.2.mono (by simp))
  have s7 : same [h] M4 M7 := by
    rw [e7, e6, e5]
    exact ((same.up (by simp)).tr (same.up (by simp))).tr (same.up (by simp))
  have q2 : ∀ k, M4 h2 k = M h2 k := fun k => by rw [s4 h2 (by simp; omega)]
  refine ⟨vw_copy ?_ ?_ ?_ (fun i hi => ?_) (fun i hi => ?_) (fun i hi => ?_) (fun i hi => ?_), (s4.mono (by simp)).tr (s7.mono (by simp))⟩
  · rw [e7, up_sn (by decide), e6, up_sn (by decide), e5, up_ss, q2]
  · rw [e7, up_sn (by decide), e6, up_ss, e5, up_n (by omega), q2]
  · rw [e7, up_ss, e6, up_n (by omega), e5, up_n (by omega), q2]
  · rw [s7 _ (by simp <;> omega), h4.2 _ (by simp <;> omega), h3.2 _ (by simp <;> omega), h2x.2 _ (by simp <;> omega)]; exact h1.1 i hi
  · rw [s7 _ (by simp <;> omega), h4.2 _ (by simp <;> omega), h3.2 _ (by simp <;> omega), h2x.1 i hi, h1.2 _ (by simp <;> omega)]
  · rw [s7 _ (by simp <;> omega), h4.2 _ (by simp <;> omega), h3.1 i hi, h2x.2 _ (by simp <;> omega), h1.2 _ (by simp <;> omega)]
  · rw [s7 _ (by simp <;> omega), h4.1 i hi, h3.2 _ (by simp <;> omega), h2x.2 _ (by simp <;> omega), h1.2 _ (by simp <;> omega)]
def rm_X1_become : Room := { frames := 2, cells := 0, slots := 0, locals := 43 }
set_option maxRecDepth 100000 in
set_option maxHeartbeats 4000000 in
theorem c_X1_become (l : Launch) (g : Gp) {h h2 : Nat} (hh : isH h) (hh2 : isH h2) (hne : h ≠ h2) (M : Mem) : Kv l g yX1_become cX1_become 2 rm_X1_become [.ref (gad g (h)), .ref (gad g (h2))] M (fun M' => vw M' h = vw M h2 ∧ same [h, h + (0 + 4), h + (1 + 4), h + (2 + 4), h + 7] M M') := by
  refine Kv.of rfl rfl rfl (fun q C hret hcs => ?_)
  refine x_aload_n C dX1_become_0 rfl ?_
  refine x_ifnonnull (tgt := 5) C dX1_become_1 (by decide) ?_
  refine x_aload_n C dX1_become_5 rfl ?_
  refine x_getf (k := h) C bk_X1 (C.lt' (isH_lt hh 0 (by decide))) rfl (ent_H0 hh) 0 fw_X1_21 rfl rfl dX1_become_6 ?_
  refine x_aload_n C dX1_become_9 rfl ?_
  refine x_getf (k := h2) C bk_X1 (C.lt' (isH_lt hh2 0 (by decide))) rfl (ent_H0 hh2) 0 fw_X1_21 rfl rfl dX1_become_10 ?_
  refine x_cvv C (k := h + (0 + 1)) (c_X5_become l g (h := h) (h2 := h2) (j := 0) hh hh2 hne (by decide) _ ) o_X5_become mw_X1_61 rfl (C.lt' (isH_lt hh (0 + 1) (by omega))) (rcv_HT hh 0 (by decide)) rfl rfl rfl hcs dX1_become_13 (fun M1 h1 => ?_)
  refine x_aload_n C dX1_become_16 rfl ?_
  refine x_getf (k := h) C bk_X1 (C.lt' (isH_lt hh 0 (by decide))) rfl (ent_H0 hh) 1 fw_X1_35 rfl rfl dX1_become_17 ?_
  refine x_aload_n C dX1_become_20 rfl ?_
  refine x_getf (k := h2) C bk_X1 (C.lt' (isH_lt hh2 0 (by decide))) rfl (ent_H0 hh2) 1 fw_X1_35 rfl rfl dX1_become_21 ?_
  refine x_cvv C (k := h + (1 + 1)) (c_X5_become l g (h := h) (h2 := h2) (j := 1) hh hh2 hne (by decide) _ ) o_X5_become mw_X1_61 rfl (C.lt' (isH_lt hh (1 + 1) (by omega))) (rcv_HT hh 1 (by decide)) rfl rfl rfl hcs dX1_become_24 (fun M2 h2x => ?_)
  refine x_aload_n C dX1_become_27 rfl ?_
  refine x_getf (k := h) C bk_X1 (C.lt' (isH_lt hh 0 (by decide))) rfl (ent_H0 hh) 2 fw_X1_44 rfl rfl dX1_become_28 ?_
  refine x_aload_n C dX1_become_31 rfl ?_
  refine x_getf (k := h2) C bk_X1 (C.lt' (isH_lt hh2 0 (by decide))) rfl (ent_H0 hh2) 2 fw_X1_44 rfl rfl dX1_become_32 ?_
  refine x_cvv C (k := h + (2 + 1)) (c_X5_become l g (h := h) (h2 := h2) (j := 2) hh hh2 hne (by decide) _ ) o_X5_become mw_X1_61 rfl (C.lt' (isH_lt hh (2 + 1) (by omega))) (rcv_HT hh 2 (by decide)) rfl rfl rfl hcs dX1_become_35 (fun M3 h3 => ?_)
  refine x_aload_n C dX1_become_38 rfl ?_
  refine x_getf (k := h2) C bk_X1 (C.lt' (isH_lt hh2 0 (by decide))) rfl (ent_H0 hh2) 3 fw_X1_48 rfl rfl dX1_become_39 ?_
  refine x_aload_n C dX1_become_42 rfl ?_
  refine x_getf (k := h) C bk_X1 (C.lt' (isH_lt hh 0 (by decide))) rfl (ent_H0 hh) 3 fw_X1_48 rfl rfl dX1_become_43 ?_
  refine x_cnv C (c_X7_copyRow10 l g (p := h2 + 7) (r := h + 7) (isH_lt hh2 7 (by decide)) (isH_lt hh 7 (by decide)) (ent_HS hh2) (ent_HS hh) (by omega) _ ) o_X7_copyRow mn_X1_65 rfl rfl rfl rfl hcs dX1_become_46 (fun M4 h4 => ?_)
  refine x_aload_n C dX1_become_49 rfl ?_
  refine x_aload_n C dX1_become_50 rfl ?_
  refine x_getf (k := h2) C bk_X1 (C.lt' (isH_lt hh2 0 (by decide))) rfl (ent_H0 hh2) 4 fw_X1_51 rfl rfl dX1_become_51 ?_
  refine x_putf (k := h) C bk_X1 (C.lt' (isH_lt hh 0 (by decide))) rfl (ent_H0 hh) 4 fw_X1_51 rfl (fun _ => rfl) rfl rfl rfl rfl dX1_become_54 ?_
  refine x_memI (fun M5 eM5 => ?_)
  refine x_aload_n C dX1_become_57 rfl ?_
  refine x_aload_n C dX1_become_58 rfl ?_
  refine x_getf (k := h2) C bk_X1 (C.lt' (isH_lt hh2 0 (by decide))) rfl (ent_H0 hh2) 5 fw_X1_55 rfl rfl dX1_become_59 ?_
  refine x_putf (k := h) C bk_X1 (C.lt' (isH_lt hh 0 (by decide))) rfl (ent_H0 hh) 5 fw_X1_55 rfl (fun _ => rfl) rfl rfl rfl rfl dX1_become_62 ?_
  refine x_memI (fun M6 eM6 => ?_)
  refine x_aload_n C dX1_become_65 rfl ?_
  refine x_aload_n C dX1_become_66 rfl ?_
  refine x_getf (k := h2) C bk_X1 (C.lt' (isH_lt hh2 0 (by decide))) rfl (ent_H0 hh2) 6 fw_X1_58 rfl rfl dX1_become_67 ?_
  refine x_putf (k := h) C bk_X1 (C.lt' (isH_lt hh 0 (by decide))) rfl (ent_H0 hh) 6 fw_X1_58 rfl (fun _ => rfl) rfl rfl rfl rfl dX1_become_70 ?_
  refine x_memI (fun M7 eM7 => ?_)
  refine hret _ _ _ dX1_become_73 ?_
  exact become_vw hh hh2 hne h1 h2x h3 h4 eM5 eM6 eM7

def rm_X1_layAt : Room := { frames := 1, cells := 0, slots := 0, locals := 23 }
set_option maxRecDepth 100000 in
set_option maxHeartbeats 4000000 in
theorem c_X1_layAt (l : Launch) (g : Gp) {h : Nat} (hh : isH h) (M : Mem) {x : Int32} {e : Nat} (hx : x = nI e) (he : e < 8) (k s a n : Int32) (hk : ¬ k = -1) : Kv l g yX1_layAt cX1_layAt 6 rm_X1_layAt [.ref (gad g (h)), .int (x), .int (k), .int (s), .int (a), .int (n)] M (fun M' => vw M' h = putE (vw M h) e k s a n ∧ same [h + (0 + 4)] M M') := by
  refine Kv.of rfl rfl rfl (fun q C hret hcs => ?_)
  refine x_aload_n C dX1_layAt_0 rfl ?_
  refine x_getf (k := h) C bk_X1 (C.lt' (isH_lt hh 0 (by decide))) rfl (ent_H0 hh) 0 fw_X1_21 rfl rfl dX1_layAt_1 ?_
  refine x_iload_n C dX1_layAt_4 rfl ?_
  refine x_iconst (v := 0) C dX1_layAt_5 (by decide) ?_
  refine x_iload_n C dX1_layAt_6 rfl ?_
  refine x_cvv C (k := h + (0 + 1)) (c_X5_put l g (h := h) (j := 0) hh (by decide) _ _ _ _ ) o_X5_put mw_X1_25 rfl (C.lt' (isH_lt hh (0 + 1) (by omega))) (rcv_HT hh 0 (by decide)) rfl rfl rfl hcs dX1_layAt_7 (fun M1 h1 => ?_)
  refine x_aload_n C dX1_layAt_10 rfl ?_
  refine x_getf (k := h) C bk_X1 (C.lt' (isH_lt hh 0 (by decide))) rfl (ent_H0 hh) 0 fw_X1_21 rfl rfl dX1_layAt_11 ?_
  refine x_iload_n C dX1_layAt_14 rfl ?_
  refine x_iconst (v := 1) C dX1_layAt_15 (by decide) ?_
  refine x_iload_n C dX1_layAt_16 rfl ?_
  refine x_cvv C (k := h + (0 + 1)) (c_X5_put l g (h := h) (j := 0) hh (by decide) _ _ _ _ ) o_X5_put mw_X1_25 rfl (C.lt' (isH_lt hh (0 + 1) (by omega))) (rcv_HT hh 0 (by decide)) rfl rfl rfl hcs dX1_layAt_17 (fun M2 h2 => ?_)
  refine x_aload_n C dX1_layAt_20 rfl ?_
  refine x_getf (k := h) C bk_X1 (C.lt' (isH_lt hh 0 (by decide))) rfl (ent_H0 hh) 0 fw_X1_21 rfl rfl dX1_layAt_21 ?_
  refine x_iload_n C dX1_layAt_24 rfl ?_
  refine x_iconst (v := 2) C dX1_layAt_25 (by decide) ?_
  refine x_iload C dX1_layAt_26 rfl ?_
  refine x_cvv C (k := h + (0 + 1)) (c_X5_put l g (h := h) (j := 0) hh (by decide) _ _ _ _ ) o_X5_put mw_X1_25 rfl (C.lt' (isH_lt hh (0 + 1) (by omega))) (rcv_HT hh 0 (by decide)) rfl rfl rfl hcs dX1_layAt_28 (fun M3 h3 => ?_)
  refine x_aload_n C dX1_layAt_31 rfl ?_
  refine x_getf (k := h) C bk_X1 (C.lt' (isH_lt hh 0 (by decide))) rfl (ent_H0 hh) 0 fw_X1_21 rfl rfl dX1_layAt_32 ?_
  refine x_iload_n C dX1_layAt_35 rfl ?_
  refine x_iconst (v := 3) C dX1_layAt_36 (by decide) ?_
  refine x_iload C dX1_layAt_37 rfl ?_
  refine x_cvv C (k := h + (0 + 1)) (c_X5_put l g (h := h) (j := 0) hh (by decide) _ _ _ _ ) o_X5_put mw_X1_25 rfl (C.lt' (isH_lt hh (0 + 1) (by omega))) (rcv_HT hh 0 (by decide)) rfl rfl rfl hcs dX1_layAt_39 (fun M4 h4 => ?_)
  refine hret _ _ _ dX1_layAt_42 ?_
  have h1 := h1.trans (tabPut_e (j := 0) (a := e) (b := 0) hx rfl (by decide) he (by decide))
  have h2 := h2.trans (tabPut_e (j := 0) (a := e) (b := 1) hx rfl (by decide) he (by decide))
  have h3 := h3.trans (tabPut_e (j := 0) (a := e) (b := 2) hx rfl (by decide) he (by decide))
  have h4 := h4.trans (tabPut_e (j := 0) (a := e) (b := 3) hx rfl (by decide) he (by decide))
  rw [h4, h3, h2, h1]
  exact ⟨vw_lay he hk, (((same.up (by simp)).tr (same.up (by simp))).tr (same.up (by simp))).tr (same.up (by simp))⟩

def rm_X1_empty : Room := { frames := 1, cells := 0, slots := 0, locals := 23 }
set_option maxRecDepth 100000 in
set_option maxHeartbeats 4000000 in
theorem c_X1_empty (l : Launch) (g : Gp) {h : Nat} (hh : isH h) (M : Mem) {x : Int32} {e : Nat} (hx : x = nI e) (he : e < 8)  : Kv l g yX1_empty cX1_empty 2 rm_X1_empty [.ref (gad g (h)), .int (x)] M (fun M' => vw M' h = goS (vw M h) e ∧ same [h + (0 + 4)] M M') := by
  refine Kv.of rfl rfl rfl (fun q C hret hcs => ?_)
  refine x_aload_n C dX1_empty_0 rfl ?_
  refine x_getf (k := h) C bk_X1 (C.lt' (isH_lt hh 0 (by decide))) rfl (ent_H0 hh) 0 fw_X1_21 rfl rfl dX1_empty_1 ?_
  refine x_iload_n C dX1_empty_4 rfl ?_
  refine x_iconst (v := 0) C dX1_empty_5 (by decide) ?_
  refine x_iconst (v := -1) C dX1_empty_6 (by decide) ?_
  refine x_cvv C (k := h + (0 + 1)) (c_X5_put l g (h := h) (j := 0) hh (by decide) _ _ _ _ ) o_X5_put mw_X1_25 rfl (C.lt' (isH_lt hh (0 + 1) (by omega))) (rcv_HT hh 0 (by decide)) rfl rfl rfl hcs dX1_empty_7 (fun M1 h1 => ?_)
  refine hret _ _ _ dX1_empty_10 ?_
  have h1 := h1.trans (tabPut_e (j := 0) (a := e) (b := 0) hx rfl (by decide) he (by decide))
  rw [h1]
  exact ⟨vw_go he, same.up (by simp)⟩

def rm_X1_minutesBehind : Room := { frames := 2, cells := 0, slots := 0, locals := 47 }
set_option maxRecDepth 100000 in
set_option maxHeartbeats 4000000 in
theorem c_X1_minutesBehind (l : Launch) (g : Gp) {h : Nat} (hh : isH h) (M : Mem) {x : Int32} {e : Nat} (hx : x = nI e) (he : e < 8) (k age n : Int32) (ht : thr (vw M h) e) (hk : inB k 0 6) : Kp l g yX1_minutesBehind cX1_minutesBehind 5 .int rm_X1_minutesBehind [.ref (gad g (h)), .int (x), .int (k), .int (age), .int (n)] M (fun r => r = thenE (vw M h) e k age n) := by
  unfold Kp
  refine Ki.of rfl rfl rfl (fun q C hret hcs => ?_)
  refine x_iload_n C dX1_minutesBehind_0 rfl ?_
  refine x_iload_n C dX1_minutesBehind_1 rfl ?_
  refine x_iload C dX1_minutesBehind_2 rfl ?_
  refine x_csB C (c_X2_stays l g _ hk) o_X2_stays mw_X1_86 rfl rfl rfl rfl hcs dX1_minutesBehind_4 (fun c4 => ?_) (fun c4 => ?_)
  · skip
    refine x_if_neT (tgt := 12) C dX1_minutesBehind_7 (by decide) (by decide) ?_
    refine x_iload_n C dX1_minutesBehind_12 rfl ?_
    refine x_aload_n C dX1_minutesBehind_13 rfl ?_
    refine x_getf (k := h) C bk_X1 (C.lt' (isH_lt hh 0 (by decide))) rfl (ent_H0 hh) 0 fw_X1_21 rfl rfl dX1_minutesBehind_14 ?_
    refine x_iload_n C dX1_minutesBehind_17 rfl ?_
    refine x_iconst (v := 1) C dX1_minutesBehind_18 (by decide) ?_
    refine x_cvE C (k := h + (0 + 1)) (c_X5_at l g (h := h) (j := 0) hh (by decide) _ _ _ ) o_X5_at mw_X1_75 rfl (C.lt' (isH_lt hh (0 + 1) (by omega))) (rcv_HT hh 0 (by decide)) rfl rfl rfl hcs dX1_minutesBehind_19 ?_
    refine x_topE (y := eg (vw M h) e 1) (tab_eg hx rfl he (by decide) ht) ?_
    refine x_iload_n C dX1_minutesBehind_22 rfl ?_
    refine x_iload C dX1_minutesBehind_23 rfl ?_
    refine x_iadd C dX1_minutesBehind_25 ?_
    refine x_aload_n C dX1_minutesBehind_26 rfl ?_
    refine x_getf (k := h) C bk_X1 (C.lt' (isH_lt hh 0 (by decide))) rfl (ent_H0 hh) 4 fw_X1_51 rfl rfl dX1_minutesBehind_27 ?_
    refine x_iload C dX1_minutesBehind_30 rfl ?_
    refine x_iadd C dX1_minutesBehind_32 ?_
    refine x_ldc C kw_X1_47 dX1_minutesBehind_33 ?_
    refine x_min C mw_X1_92 sw_Math_min iw_J9 ow_Math_min rfl rfl hcs.1 hcs.2 dX1_minutesBehind_35 ?_
    refine x_topE (y := capD (vw M h 0 + n)) (rfl) ?_
    refine x_csE C (c_X2_minutes l g _ _ _ _ _ ) o_X2_minutes mw_X1_97 rfl rfl rfl rfl hcs dX1_minutesBehind_38 ?_
    refine hret _ _ _ _ dX1_minutesBehind_41 rfl ⟨?_, rfl⟩
    unfold thenE; rw [if_neg c4]
  · skip
    refine x_if_neF (tgt := 12) C dX1_minutesBehind_7 (by decide) (by decide) ?_
    refine x_iconst (v := 0) C dX1_minutesBehind_10 (by decide) ?_
    refine hret _ _ _ _ dX1_minutesBehind_11 rfl ⟨?_, rfl⟩
    unfold thenE; rw [if_pos (Classical.not_not.mp c4)]

def rm_X1_minutesOf : Room := { frames := 3, cells := 0, slots := 0, locals := 71 }
set_option maxRecDepth 100000 in
set_option maxHeartbeats 4000000 in
theorem c_X1_minutesOf (l : Launch) (g : Gp) {h : Nat} (hh : isH h) (M : Mem) {x : Int32} {e : Nat} (hx : x = nI e) (he : e < 8) (o : okRow (vw M h)) : Kp l g yX1_minutesOf cX1_minutesOf 2 .int rm_X1_minutesOf [.ref (gad g (h)), .int (x)] M (fun r => r = mE (vw M h) e) := by
  unfold Kp
  refine Ki.of rfl rfl rfl (fun q C hret hcs => ?_)
  refine x_aload_n C dX1_minutesOf_0 rfl ?_
  refine x_iload_n C dX1_minutesOf_1 rfl ?_
  refine x_cvB C (k := h) (c_X1_hasEgg l g (h := h) hh _ _ ) o_X1_hasEgg mw_X1_79 rfl (C.lt' (isH_lt hh 0 (by decide))) (rcv_H hh) rfl rfl rfl hcs dX1_minutesOf_2 (fun c2 => ?_) (fun c2 => ?_)
  · skip
    have ht : thr (vw M h) e := (eggP_n he).mp (hx ▸ c2)
    have hk : inB (eg (vw M h) e 0) 0 6 := by rcases o.2.2.1 e he with z | z; exact z.2.1; exact absurd ht (by unfold thr; rw [z.1]; decide)
    refine x_if_neT (tgt := 10) C dX1_minutesOf_5 (by decide) (by decide) ?_
    refine x_aload_n C dX1_minutesOf_10 rfl ?_
    refine x_iload_n C dX1_minutesOf_11 rfl ?_
    refine x_aload_n C dX1_minutesOf_12 rfl ?_
    refine x_getf (k := h) C bk_X1 (C.lt' (isH_lt hh 0 (by decide))) rfl (ent_H0 hh) 0 fw_X1_21 rfl rfl dX1_minutesOf_13 ?_
    refine x_iload_n C dX1_minutesOf_16 rfl ?_
    refine x_iconst (v := 0) C dX1_minutesOf_17 (by decide) ?_
    refine x_cvE C (k := h + (0 + 1)) (c_X5_at l g (h := h) (j := 0) hh (by decide) _ _ _ ) o_X5_at mw_X1_75 rfl (C.lt' (isH_lt hh (0 + 1) (by omega))) (rcv_HT hh 0 (by decide)) rfl rfl rfl hcs dX1_minutesOf_18 ?_
    refine x_topE (y := eg (vw M h) e 0) (tab_eg hx rfl he (by decide) ht) ?_
    refine x_aload_n C dX1_minutesOf_21 rfl ?_
    refine x_getf (k := h) C bk_X1 (C.lt' (isH_lt hh 0 (by decide))) rfl (ent_H0 hh) 0 fw_X1_21 rfl rfl dX1_minutesOf_22 ?_
    refine x_iload_n C dX1_minutesOf_25 rfl ?_
    refine x_iconst (v := 2) C dX1_minutesOf_26 (by decide) ?_
    refine x_cvE C (k := h + (0 + 1)) (c_X5_at l g (h := h) (j := 0) hh (by decide) _ _ _ ) o_X5_at mw_X1_75 rfl (C.lt' (isH_lt hh (0 + 1) (by omega))) (rcv_HT hh 0 (by decide)) rfl rfl rfl hcs dX1_minutesOf_27 ?_
    refine x_topE (y := eg (vw M h) e 2) (tab_eg hx rfl he (by decide) ht) ?_
    refine x_iconst (v := 0) C dX1_minutesOf_30 (by decide) ?_
    refine x_cvE C (k := h) (c_X1_minutesBehind l g (h := h) hh _ (e := e) hx he _ _ _ ht hk ) o_X1_minutesBehind mw_X1_82 rfl (C.lt' (isH_lt hh 0 (by decide))) (rcv_H hh) rfl rfl rfl hcs dX1_minutesOf_31 ?_
    refine hret _ _ _ _ dX1_minutesOf_34 rfl ⟨?_, rfl⟩
    exact then_0 ht o
  · skip
    have ht : ¬ thr (vw M h) e := fun z => c2 (hx ▸ (eggP_n he).mpr z)
    refine x_if_neF (tgt := 10) C dX1_minutesOf_5 (by decide) (by decide) ?_
    refine x_iconst (v := 0) C dX1_minutesOf_8 (by decide) ?_
    refine hret _ _ _ _ dX1_minutesOf_9 rfl ⟨?_, rfl⟩
    exact (if_neg ht).symm

def rm_X1_allMinutes : Room := { frames := 4, cells := 0, slots := 0, locals := 92 }
set_option maxRecDepth 100000 in
set_option maxHeartbeats 4000000 in
theorem c_X1_allMinutes (l : Launch) (g : Gp) {h : Nat} (hh : isH h) (M : Mem) (o : okRow (vw M h)) : Kp l g yX1_allMinutes cX1_allMinutes 3 .int rm_X1_allMinutes [.ref (gad g (h))] M (fun r => r = allM (vw M h) 8) := by
  unfold Kp
  refine Ki.of rfl rfl rfl (fun q C hret hcs => ?_)
  refine x_iconst (v := 0) C dX1_allMinutes_0 (by decide) ?_
  refine x_istore_n C dX1_allMinutes_1 rfl ?_
  refine x_iconst (v := 0) C dX1_allMinutes_2 (by decide) ?_
  refine x_istore_n C dX1_allMinutes_3 rfl ?_
  refine up_to 8 (P := fun i => X (kmk l rm_X1_allMinutes g 3 q) M 4 [some (.ref (gad g (h))), some (.int (allM (vw M h) i)), some (.int (nI i))] []) (fun i hi ih => ?_) 0 (by omega)
  refine x_iload_n C dX1_allMinutes_4 rfl ?_
  refine x_bipush (v := 8) C dX1_allMinutes_5 (by decide) ?_
  refine x_icmp_ge (tgt := 24) C dX1_allMinutes_7 (by decide) (fun c7 => ?_) (fun c7 => ?_)
  · skip
    have hlt := lp_ge (N := 8) (by decide) hi c7
    refine x_iload_n C dX1_allMinutes_24 rfl ?_
    refine hret _ _ _ _ dX1_allMinutes_25 rfl ⟨?_, rfl⟩
    subst hlt; rfl
  · skip
    have hlt := lp_lt (N := 8) (by decide) hi c7
    refine x_iload_n C dX1_allMinutes_10 rfl ?_
    refine x_aload_n C dX1_allMinutes_11 rfl ?_
    refine x_iload_n C dX1_allMinutes_12 rfl ?_
    refine x_cvE C (k := h) (c_X1_minutesOf l g (h := h) hh _ (e := i) rfl hlt o ) o_X1_minutesOf mw_X1_100 rfl (C.lt' (isH_lt hh 0 (by decide))) (rcv_H hh) rfl rfl rfl hcs dX1_allMinutes_13 ?_
    refine x_iadd C dX1_allMinutes_16 ?_
    refine x_topE (y := allM (vw M h) (i + 1)) (rfl) ?_
    refine x_istore_n C dX1_allMinutes_17 rfl ?_
    refine x_iinc (v := nI (i + 1)) C dX1_allMinutes_18 rfl (nI_1 i) rfl ?_
    refine x_goto (tgt := 4) C dX1_allMinutes_21 (by decide) ?_
    exact ih hlt

theorem nestM_yes {M : Mem} {h i : Nat} {nest : Int32} (hi : i < 8) (c : tabAt M h 0 (nI i) 3 = nest) : nestM (vw M h) nest i + mE (vw M h) i = nestM (vw M h) nest (i + 1) := by
  show _ = nestM (vw M h) nest i + _
  congr 1
  unfold mE
  by_cases ht : thr (vw M h) i
  · rw [tab_eg rfl (c := 3) rfl hi (by decide) ht] at c
    rw [if_pos ht, if_pos ⟨ht, c⟩]
  · rw [if_neg ht, if_neg (fun z => ht z.1)]
theorem nestM_no {M : Mem} {h i : Nat} {nest : Int32} (hi : i < 8) (c : ¬ tabAt M h 0 (nI i) 3 = nest) : nestM (vw M h) nest (i + 1) = nestM (vw M h) nest i := by
  show nestM (vw M h) nest i + _ = _
  rw [if_neg, Int32.add_zero]
  intro z
  rw [tab_eg rfl (c := 3) rfl hi (by decide) z.1] at c
  exact c z.2
def rm_X1_minutesIn : Room := { frames := 4, cells := 0, slots := 0, locals := 92 }
set_option maxRecDepth 100000 in
set_option maxHeartbeats 4000000 in
theorem c_X1_minutesIn (l : Launch) (g : Gp) {h : Nat} (hh : isH h) (M : Mem) (nest : Int32) (o : okRow (vw M h)) : Kp l g yX1_minutesIn cX1_minutesIn 4 .int rm_X1_minutesIn [.ref (gad g (h)), .int (nest)] M (fun r => r = nestM (vw M h) nest 8) := by
  unfold Kp
  refine Ki.of rfl rfl rfl (fun q C hret hcs => ?_)
  refine x_iconst (v := 0) C dX1_minutesIn_0 (by decide) ?_
  refine x_istore_n C dX1_minutesIn_1 rfl ?_
  refine x_iconst (v := 0) C dX1_minutesIn_2 (by decide) ?_
  refine x_istore_n C dX1_minutesIn_3 rfl ?_
  refine up_to 8 (P := fun i => X (kmk l rm_X1_minutesIn g 4 q) M 4 [some (.ref (gad g (h))), some (.int (nest)), some (.int (nestM (vw M h) nest i)), some (.int (nI i))] []) (fun i hi ih => ?_) 0 (by omega)
  refine x_iload_n C dX1_minutesIn_4 rfl ?_
  refine x_bipush (v := 8) C dX1_minutesIn_5 (by decide) ?_
  refine x_icmp_ge (tgt := 37) C dX1_minutesIn_7 (by decide) (fun c7 => ?_) (fun c7 => ?_)
  · skip
    have hlt := lp_ge (N := 8) (by decide) hi c7
    refine x_iload_n C dX1_minutesIn_37 rfl ?_
    refine hret _ _ _ _ dX1_minutesIn_38 rfl ⟨?_, rfl⟩
    subst hlt; rfl
  · skip
    have hlt := lp_lt (N := 8) (by decide) hi c7
    refine x_aload_n C dX1_minutesIn_10 rfl ?_
    refine x_getf (k := h) C bk_X1 (C.lt' (isH_lt hh 0 (by decide))) rfl (ent_H0 hh) 0 fw_X1_21 rfl rfl dX1_minutesIn_11 ?_
    refine x_iload_n C dX1_minutesIn_14 rfl ?_
    refine x_iconst (v := 3) C dX1_minutesIn_15 (by decide) ?_
    refine x_cvE C (k := h + (0 + 1)) (c_X5_at l g (h := h) (j := 0) hh (by decide) _ _ _ ) o_X5_at mw_X1_75 rfl (C.lt' (isH_lt hh (0 + 1) (by omega))) (rcv_HT hh 0 (by decide)) rfl rfl rfl hcs dX1_minutesIn_16 ?_
    refine x_iload_n C dX1_minutesIn_19 rfl ?_
    refine x_icmp_ne (tgt := 31) C dX1_minutesIn_20 (by decide) (fun c20 => ?_) (fun c20 => ?_)
    · skip
      refine x_iinc (v := nI (i + 1)) C dX1_minutesIn_31 rfl (nI_1 i) rfl ?_
      refine x_goto (tgt := 4) C dX1_minutesIn_34 (by decide) ?_
      have e : nestM (vw M h) nest (i + 1) = nestM (vw M h) nest i := nestM_no hlt c20
      rw [e] at ih
      exact ih hlt
    · skip
      refine x_iload_n C dX1_minutesIn_23 rfl ?_
      refine x_aload_n C dX1_minutesIn_24 rfl ?_
      refine x_iload_n C dX1_minutesIn_25 rfl ?_
      refine x_cvE C (k := h) (c_X1_minutesOf l g (h := h) hh _ (e := i) rfl hlt o ) o_X1_minutesOf mw_X1_100 rfl (C.lt' (isH_lt hh 0 (by decide))) (rcv_H hh) rfl rfl rfl hcs dX1_minutesIn_26 ?_
      refine x_iadd C dX1_minutesIn_29 ?_
      refine x_topE (y := nestM (vw M h) nest (i + 1)) (nestM_yes hlt (by clear hret hcs C ih; grind)) ?_
      refine x_istore_n C dX1_minutesIn_30 rfl ?_
      refine x_iinc (v := nI (i + 1)) C dX1_minutesIn_31 rfl (nI_1 i) rfl ?_
      refine x_goto (tgt := 4) C dX1_minutesIn_34 (by decide) ?_
      exact ih hlt

def rm_X1_lacks : Room := { frames := 1, cells := 0, slots := 0, locals := 22 }
set_option maxRecDepth 100000 in
set_option maxHeartbeats 4000000 in
theorem c_X1_lacks (l : Launch) (g : Gp) {h : Nat} (hh : isH h) (M : Mem) {x : Int32} {w : Nat} (hx : x = nI w) (hw : w < 6)  : Kp l g yX1_lacks cX1_lacks 2 .int rm_X1_lacks [.ref (gad g (h)), .int (x)] M (fun r => r = wk (vw M h) w 0 - wk (vw M h) w 3) := by
  unfold Kp
  refine Ki.of rfl rfl rfl (fun q C hret hcs => ?_)
  refine x_aload_n C dX1_lacks_0 rfl ?_
  refine x_getf (k := h) C bk_X1 (C.lt' (isH_lt hh 0 (by decide))) rfl (ent_H0 hh) 2 fw_X1_44 rfl rfl dX1_lacks_1 ?_
  refine x_iload_n C dX1_lacks_4 rfl ?_
  refine x_iconst (v := 0) C dX1_lacks_5 (by decide) ?_
  refine x_cvE C (k := h + (2 + 1)) (c_X5_at l g (h := h) (j := 2) hh (by decide) _ _ _ ) o_X5_at mw_X1_75 rfl (C.lt' (isH_lt hh (2 + 1) (by omega))) (rcv_HT hh 2 (by decide)) rfl rfl rfl hcs dX1_lacks_6 ?_
  refine x_topE (y := wk (vw M h) w 0) (tab_wk hx rfl hw (by decide)) ?_
  refine x_aload_n C dX1_lacks_9 rfl ?_
  refine x_getf (k := h) C bk_X1 (C.lt' (isH_lt hh 0 (by decide))) rfl (ent_H0 hh) 2 fw_X1_44 rfl rfl dX1_lacks_10 ?_
  refine x_iload_n C dX1_lacks_13 rfl ?_
  refine x_iconst (v := 3) C dX1_lacks_14 (by decide) ?_
  refine x_cvE C (k := h + (2 + 1)) (c_X5_at l g (h := h) (j := 2) hh (by decide) _ _ _ ) o_X5_at mw_X1_75 rfl (C.lt' (isH_lt hh (2 + 1) (by omega))) (rcv_HT hh 2 (by decide)) rfl rfl rfl hcs dX1_lacks_15 ?_
  refine x_topE (y := wk (vw M h) w 3) (tab_wk hx rfl hw (by decide)) ?_
  refine x_isub C dX1_lacks_18 ?_
  refine hret _ _ _ _ dX1_lacks_19 rfl ⟨?_, rfl⟩
  rfl

def rm_X1_isDone : Room := { frames := 2, cells := 0, slots := 0, locals := 43 }
set_option maxRecDepth 100000 in
set_option maxHeartbeats 4000000 in
theorem c_X1_isDone (l : Launch) (g : Gp) {h : Nat} (hh : isH h) (M : Mem) {x : Int32} {w : Nat} (hx : x = nI w) (hw : w < 6) (o : okRow (vw M h)) : Kp l g yX1_isDone cX1_isDone 2 .boolean rm_X1_isDone [.ref (gad g (h)), .int (x)] M (bv (wk (vw M h) w 0 ≤ wk (vw M h) w 3)) := by
  unfold Kp
  refine Ki.of rfl rfl rfl (fun q C hret hcs => ?_)
  have b0 := (o.2.2.2.2.1 w hw).1
  have b3 := (o.2.2.2.2.1 w hw).2.2.2
  unfold inB at b0 b3
  refine x_aload_n C dX1_isDone_0 rfl ?_
  refine x_iload_n C dX1_isDone_1 rfl ?_
  refine x_cvE C (k := h) (c_X1_lacks l g (h := h) hh _ (w := w) hx hw ) o_X1_lacks mw_X1_104 rfl (C.lt' (isH_lt hh 0 (by decide))) (rcv_H hh) rfl rfl rfl hcs dX1_isDone_2 ?_
  refine x_if_gt (tgt := 12) C dX1_isDone_5 (by decide) (fun c5 => ?_) (fun c5 => ?_)
  · skip
    refine x_iconst (v := 0) C dX1_isDone_12 (by decide) ?_
    refine hret _ _ _ _ dX1_isDone_13 rfl ⟨Or.inr ⟨rfl, ?_⟩, rfl⟩
    clear hret hcs C o
    generalize wk (vw M h) w 0 = p at *
    generalize wk (vw M h) w 3 = r at *
    grind
  · skip
    refine x_iconst (v := 1) C dX1_isDone_8 (by decide) ?_
    refine x_goto (tgt := 13) C dX1_isDone_9 (by decide) ?_
    refine hret _ _ _ _ dX1_isDone_13 rfl ⟨Or.inl ⟨rfl, ?_⟩, rfl⟩
    clear hret hcs C o
    generalize wk (vw M h) w 0 = p at *
    generalize wk (vw M h) w 3 = r at *
    grind

def rm_X1_isInTime : Room := { frames := 1, cells := 0, slots := 0, locals := 22 }
set_option maxRecDepth 100000 in
set_option maxHeartbeats 4000000 in
theorem c_X1_isInTime (l : Launch) (g : Gp) {h : Nat} (hh : isH h) (M : Mem) {x : Int32} {w : Nat} (hx : x = nI w) (hw : w < 6)  : Kp l g yX1_isInTime cX1_isInTime 2 .boolean rm_X1_isInTime [.ref (gad g (h)), .int (x)] M (bv (¬ wk (vw M h) w 1 < vw M h 0)) := by
  unfold Kp
  refine Ki.of rfl rfl rfl (fun q C hret hcs => ?_)
  refine x_aload_n C dX1_isInTime_0 rfl ?_
  refine x_getf (k := h) C bk_X1 (C.lt' (isH_lt hh 0 (by decide))) rfl (ent_H0 hh) 4 fw_X1_51 rfl rfl dX1_isInTime_1 ?_
  refine x_aload_n C dX1_isInTime_4 rfl ?_
  refine x_getf (k := h) C bk_X1 (C.lt' (isH_lt hh 0 (by decide))) rfl (ent_H0 hh) 2 fw_X1_44 rfl rfl dX1_isInTime_5 ?_
  refine x_iload_n C dX1_isInTime_8 rfl ?_
  refine x_iconst (v := 1) C dX1_isInTime_9 (by decide) ?_
  refine x_cvE C (k := h + (2 + 1)) (c_X5_at l g (h := h) (j := 2) hh (by decide) _ _ _ ) o_X5_at mw_X1_75 rfl (C.lt' (isH_lt hh (2 + 1) (by omega))) (rcv_HT hh 2 (by decide)) rfl rfl rfl hcs dX1_isInTime_10 ?_
  refine x_topE (y := wk (vw M h) w 1) (tab_wk hx rfl hw (by decide)) ?_
  refine x_icmp_gt (tgt := 20) C dX1_isInTime_13 (by decide) (fun c13 => ?_) (fun c13 => ?_)
  · skip
    refine x_iconst (v := 0) C dX1_isInTime_20 (by decide) ?_
    refine hret _ _ _ _ dX1_isInTime_21 rfl ⟨Or.inr ⟨rfl, ?_⟩, rfl⟩
    exact fun z => z c13
  · skip
    refine x_iconst (v := 1) C dX1_isInTime_16 (by decide) ?_
    refine x_goto (tgt := 21) C dX1_isInTime_17 (by decide) ?_
    refine hret _ _ _ _ dX1_isInTime_21 rfl ⟨Or.inl ⟨rfl, ?_⟩, rfl⟩
    exact c13

def rm_X1_doneWorks : Room := { frames := 3, cells := 0, slots := 0, locals := 64 }
set_option maxRecDepth 100000 in
set_option maxHeartbeats 4000000 in
theorem c_X1_doneWorks (l : Launch) (g : Gp) {h : Nat} (hh : isH h) (M : Mem) (o : okRow (vw M h)) : Kp l g yX1_doneWorks cX1_doneWorks 3 .int rm_X1_doneWorks [.ref (gad g (h))] M (fun r => r = nI (doneN (vw M h) 6)) := by
  unfold Kp
  refine Ki.of rfl rfl rfl (fun q C hret hcs => ?_)
  refine x_iconst (v := 0) C dX1_doneWorks_0 (by decide) ?_
  refine x_istore_n C dX1_doneWorks_1 rfl ?_
  refine x_iconst (v := 0) C dX1_doneWorks_2 (by decide) ?_
  refine x_istore_n C dX1_doneWorks_3 rfl ?_
  refine up_to 6 (P := fun i => X (kmk l rm_X1_doneWorks g 3 q) M 4 [some (.ref (gad g (h))), some (.int (nI (doneN (vw M h) i))), some (.int (nI i))] []) (fun i hi ih => ?_) 0 (by omega)
  refine x_iload_n C dX1_doneWorks_4 rfl ?_
  refine x_bipush (v := 6) C dX1_doneWorks_5 (by decide) ?_
  refine x_icmp_ge (tgt := 30) C dX1_doneWorks_7 (by decide) (fun c7 => ?_) (fun c7 => ?_)
  · skip
    have hlt := lp_ge (N := 6) (by decide) hi c7
    refine x_iload_n C dX1_doneWorks_30 rfl ?_
    refine hret _ _ _ _ dX1_doneWorks_31 rfl ⟨?_, rfl⟩
    subst hlt; rfl
  · skip
    have hlt := lp_lt (N := 6) (by decide) hi c7
    refine x_aload_n C dX1_doneWorks_10 rfl ?_
    refine x_iload_n C dX1_doneWorks_11 rfl ?_
    refine x_cvB C (k := h) (c_X1_isDone l g (h := h) hh _ (w := i) rfl hlt o ) o_X1_isDone mw_X1_107 rfl (C.lt' (isH_lt hh 0 (by decide))) (rcv_H hh) rfl rfl rfl hcs dX1_doneWorks_12 (fun c12 => ?_) (fun c12 => ?_)
    · skip
      refine x_if_eqF (tgt := 24) C dX1_doneWorks_15 (by decide) (by decide) ?_
      refine x_iload_n C dX1_doneWorks_18 rfl ?_
      refine x_iconst (v := 1) C dX1_doneWorks_19 (by decide) ?_
      refine x_iload_n C dX1_doneWorks_20 rfl ?_
      refine x_ishl C dX1_doneWorks_21 ?_
      refine x_ior C dX1_doneWorks_22 ?_
      refine x_topE (y := nI (doneN (vw M h) (i + 1))) (by rw [or_bit (doneN_lt _ i) (by omega)]; show _ = nI (_ + _); rw [if_pos c12]) ?_
      refine x_istore_n C dX1_doneWorks_23 rfl ?_
      refine x_iinc (v := nI (i + 1)) C dX1_doneWorks_24 rfl (nI_1 i) rfl ?_
      refine x_goto (tgt := 4) C dX1_doneWorks_27 (by decide) ?_
      exact ih hlt
    · skip
      refine x_if_eqT (tgt := 24) C dX1_doneWorks_15 (by decide) (by decide) ?_
      refine x_iinc (v := nI (i + 1)) C dX1_doneWorks_24 rfl (nI_1 i) rfl ?_
      refine x_goto (tgt := 4) C dX1_doneWorks_27 (by decide) ?_
      have e : doneN (vw M h) (i + 1) = doneN (vw M h) i := by show _ + _ = _; rw [if_neg c12]; rfl
      rw [e] at ih
      exact ih hlt

def rm_X1_spendOn : Room := { frames := 4, cells := 0, slots := 0, locals := 92 }
set_option maxRecDepth 100000 in
set_option maxHeartbeats 4000000 in
theorem c_X1_spendOn (l : Launch) (g : Gp) {h : Nat} (hh : isH h) (M : Mem) {x y : Int32} {e w : Nat} (hx : x = nI e) (he : e < 8) (hy : y = nI w) (hw : w < 6) (o : okRow (vw M h)) : Ki l g yX1_spendOn cX1_spendOn 5 .int rm_X1_spendOn [.ref (gad g (h)), .int (x), .int (y)] M (fun r M' => r = spdG (vw M h) e w ∧ vw M' h = goS (upd (vw M h) (59 + 4 * w + 3) (spdG (vw M h) e w)) e ∧ same [h + (0 + 4), h + (2 + 4)] M M') := by
  refine Ki.of rfl rfl rfl (fun q C hret hcs => ?_)
  refine x_aload_n C dX1_spendOn_0 rfl ?_
  refine x_getf (k := h) C bk_X1 (C.lt' (isH_lt hh 0 (by decide))) rfl (ent_H0 hh) 2 fw_X1_44 rfl rfl dX1_spendOn_1 ?_
  refine x_iload_n C dX1_spendOn_4 rfl ?_
  refine x_iconst (v := 3) C dX1_spendOn_5 (by decide) ?_
  refine x_cvE C (k := h + (2 + 1)) (c_X5_at l g (h := h) (j := 2) hh (by decide) _ _ _ ) o_X5_at mw_X1_75 rfl (C.lt' (isH_lt hh (2 + 1) (by omega))) (rcv_HT hh 2 (by decide)) rfl rfl rfl hcs dX1_spendOn_6 ?_
  refine x_topE (y := wk (vw M h) w 3) (tab_wk hy rfl hw (by decide)) ?_
  refine x_aload_n C dX1_spendOn_9 rfl ?_
  refine x_iload_n C dX1_spendOn_10 rfl ?_
  refine x_cvE C (k := h) (c_X1_minutesOf l g (h := h) hh _ (e := e) hx he o ) o_X1_minutesOf mw_X1_100 rfl (C.lt' (isH_lt hh 0 (by decide))) (rcv_H hh) rfl rfl rfl hcs dX1_spendOn_11 ?_
  refine x_iadd C dX1_spendOn_14 ?_
  refine x_topi (fun x1 ex1 => ?_)
  refine x_istore_n C dX1_spendOn_15 rfl ?_
  refine x_sipush (v := -9999) C dX1_spendOn_16 (by decide) ?_
  refine x_sipush (v := 9999) C dX1_spendOn_19 (by decide) ?_
  refine x_iload_n C dX1_spendOn_22 rfl ?_
  refine x_min C mw_X1_92 sw_Math_min iw_J9 ow_Math_min rfl rfl hcs.1 hcs.2 dX1_spendOn_23 ?_
  refine x_max C mw_X1_110 sw_Math_max iw_J9 ow_Math_max rfl rfl hcs.1 hcs.2 dX1_spendOn_26 ?_
  refine x_topE (y := spdG (vw M h) e w) (by rw [ex1]; rfl) ?_
  refine x_istore C dX1_spendOn_29 rfl ?_
  refine x_aload_n C dX1_spendOn_31 rfl ?_
  refine x_getf (k := h) C bk_X1 (C.lt' (isH_lt hh 0 (by decide))) rfl (ent_H0 hh) 2 fw_X1_44 rfl rfl dX1_spendOn_32 ?_
  refine x_iload_n C dX1_spendOn_35 rfl ?_
  refine x_iconst (v := 3) C dX1_spendOn_36 (by decide) ?_
  refine x_iload C dX1_spendOn_37 rfl ?_
  refine x_cvv C (k := h + (2 + 1)) (c_X5_put l g (h := h) (j := 2) hh (by decide) _ _ _ _ ) o_X5_put mw_X1_25 rfl (C.lt' (isH_lt hh (2 + 1) (by omega))) (rcv_HT hh 2 (by decide)) rfl rfl rfl hcs dX1_spendOn_39 (fun M1 h1 => ?_)
  refine x_aload_n C dX1_spendOn_42 rfl ?_
  refine x_iload_n C dX1_spendOn_43 rfl ?_
  refine x_cvv C (k := h) (c_X1_empty l g (h := h) hh _ (e := e) hx he ) o_X1_empty mw_X1_113 rfl (C.lt' (isH_lt hh 0 (by decide))) (rcv_H hh) rfl rfl rfl hcs dX1_spendOn_44 (fun M2 h2 => ?_)
  refine x_iload C dX1_spendOn_47 rfl ?_
  refine hret _ _ _ _ dX1_spendOn_49 rfl ?_
  have h1 := h1.trans (tabPut_e (j := 2) (a := w) (b := 3) hy rfl (by decide) hw (by decide))
  refine ⟨rfl, ?_, ?_⟩
  · rw [h2.1, h1, vw_w (by omega), up_up_cells]
  · rw [h1] at h2
    exact (same.up (by simp)).tr (h2.2.mono (by simp))

def rm_X1_spotAt : Room := { frames := 0, cells := 0, slots := 0, locals := 0 }
set_option maxRecDepth 100000 in
set_option maxHeartbeats 4000000 in
theorem c_X1_spotAt (l : Launch) (g : Gp) {h : Nat} (hh : isH h) (M : Mem) {x : Int32} {k : Nat} (hx : x = nI k) (hk : k < 10) : Kp l g yX1_spotAt cX1_spotAt 2 .int rm_X1_spotAt [.ref (gad g (h)), .int (x)] M (fun r => r = vw M h (83 + k)) := by
  unfold Kp
  refine Ki.of rfl rfl rfl (fun q C hret hcs => ?_)
  refine x_iload_n C dX1_spotAt_0 rfl ?_
  refine x_if_lt (tgt := 22) C dX1_spotAt_1 (by decide) (fun c1 => ?_) (fun c1 => ?_)
  · skip
    exact absurd c1 (by rw [hx]; exact nI_pos (by omega))
  · skip
    refine x_iload_n C dX1_spotAt_4 rfl ?_
    refine x_aload_n C dX1_spotAt_5 rfl ?_
    refine x_getf (k := h) C bk_X1 (C.lt' (isH_lt hh 0 (by decide))) rfl (ent_H0 hh) 3 fw_X1_48 rfl rfl dX1_spotAt_6 ?_
    refine x_alenI (k := h + 7) (v := 10) C (C.lt' (isH_lt hh 7 (by decide))) rfl (ent_HS hh) rfl dX1_spotAt_9 ?_
    refine x_icmp_ge (tgt := 22) C dX1_spotAt_10 (by decide) (fun c10 => ?_) (fun c10 => ?_)
    · skip
      exact absurd c10 (by rw [hx]; exact nI_ge hk (by decide))
    · skip
      refine x_aload_n C dX1_spotAt_13 rfl ?_
      refine x_getf (k := h) C bk_X1 (C.lt' (isH_lt hh 0 (by decide))) rfl (ent_H0 hh) 3 fw_X1_48 rfl rfl dX1_spotAt_14 ?_
      refine x_iload_n C dX1_spotAt_17 rfl ?_
      refine x_iald (j := k) (k := h + 7) C (C.lt' (isH_lt hh 7 (by decide))) rfl (ent_HS hh) (hx) (hk) rfl dX1_spotAt_18 ?_
      refine x_goto (tgt := 23) C dX1_spotAt_19 (by decide) ?_
      refine hret _ _ _ _ dX1_spotAt_23 rfl ⟨?_, rfl⟩
      exact (vw_sp hk).symm

def rm_X1_setSpot : Room := { frames := 0, cells := 0, slots := 0, locals := 0 }
set_option maxRecDepth 100000 in
set_option maxHeartbeats 4000000 in
theorem c_X1_setSpot (l : Launch) (g : Gp) {h : Nat} (hh : isH h) (M : Mem) {x v : Int32} {k : Nat} (hx : x = nI k) (hk : k < 10) : Kv l g yX1_setSpot cX1_setSpot 3 rm_X1_setSpot [.ref (gad g (h)), .int (x), .int (v)] M (fun M' => vw M' h = upd (vw M h) (83 + k) v ∧ same [h + 7] M M') := by
  refine Kv.of rfl rfl rfl (fun q C hret hcs => ?_)
  refine x_iload_n C dX1_setSpot_0 rfl ?_
  refine x_if_lt (tgt := 20) C dX1_setSpot_1 (by decide) (fun c1 => ?_) (fun c1 => ?_)
  · skip
    exact absurd c1 (by rw [hx]; exact nI_pos (by omega))
  · skip
    refine x_iload_n C dX1_setSpot_4 rfl ?_
    refine x_aload_n C dX1_setSpot_5 rfl ?_
    refine x_getf (k := h) C bk_X1 (C.lt' (isH_lt hh 0 (by decide))) rfl (ent_H0 hh) 3 fw_X1_48 rfl rfl dX1_setSpot_6 ?_
    refine x_alenI (k := h + 7) (v := 10) C (C.lt' (isH_lt hh 7 (by decide))) rfl (ent_HS hh) rfl dX1_setSpot_9 ?_
    refine x_icmp_ge (tgt := 20) C dX1_setSpot_10 (by decide) (fun c10 => ?_) (fun c10 => ?_)
    · skip
      exact absurd c10 (by rw [hx]; exact nI_ge hk (by decide))
    · skip
      refine x_aload_n C dX1_setSpot_13 rfl ?_
      refine x_getf (k := h) C bk_X1 (C.lt' (isH_lt hh 0 (by decide))) rfl (ent_H0 hh) 3 fw_X1_48 rfl rfl dX1_setSpot_14 ?_
      refine x_iload_n C dX1_setSpot_17 rfl ?_
      refine x_iload_n C dX1_setSpot_18 rfl ?_
      refine x_iast (j := k) (k := h + 7) C (C.lt' (isH_lt hh 7 (by decide))) rfl (ent_HS hh) (hx) (hk) rfl dX1_setSpot_19 ?_
      refine x_memI (fun M1 eM1 => ?_)
      refine hret _ _ _ dX1_setSpot_20 ?_
      rw [eM1]; exact ⟨vw_s hk, same.up (by simp)⟩

def rm_X1_heldSpots : Room := { frames := 1, cells := 0, slots := 0, locals := 21 }
set_option maxRecDepth 100000 in
set_option maxHeartbeats 4000000 in
theorem c_X1_heldSpots (l : Launch) (g : Gp) {h : Nat} (hh : isH h) (M : Mem) : Kp l g yX1_heldSpots cX1_heldSpots 3 .int rm_X1_heldSpots [.ref (gad g (h))] M (fun r => r = nI (spotN (vw M h) 10)) := by
  unfold Kp
  refine Ki.of rfl rfl rfl (fun q C hret hcs => ?_)
  refine x_iconst (v := 0) C dX1_heldSpots_0 (by decide) ?_
  refine x_istore_n C dX1_heldSpots_1 rfl ?_
  refine x_iconst (v := 0) C dX1_heldSpots_2 (by decide) ?_
  refine x_istore_n C dX1_heldSpots_3 rfl ?_
  refine up_to 10 (P := fun i => X (kmk l rm_X1_heldSpots g 3 q) M 4 [some (.ref (gad g (h))), some (.int (nI (spotN (vw M h) i))), some (.int (nI i))] []) (fun i hi ih => ?_) 0 (by omega)
  refine x_iload_n C dX1_heldSpots_4 rfl ?_
  refine x_bipush (v := 10) C dX1_heldSpots_5 (by decide) ?_
  refine x_icmp_ge (tgt := 27) C dX1_heldSpots_7 (by decide) (fun c7 => ?_) (fun c7 => ?_)
  · skip
    have hlt := lp_ge (N := 10) (by decide) hi c7
    refine x_iload_n C dX1_heldSpots_27 rfl ?_
    refine hret _ _ _ _ dX1_heldSpots_28 rfl ⟨?_, rfl⟩
    subst hlt; rfl
  · skip
    have hlt := lp_lt (N := 10) (by decide) hi c7
    refine x_aload_n C dX1_heldSpots_10 rfl ?_
    refine x_iload_n C dX1_heldSpots_11 rfl ?_
    refine x_cvE C (k := h) (c_X1_spotAt l g (h := h) hh _ (k := i) rfl hlt ) o_X1_spotAt mw_X1_135 rfl (C.lt' (isH_lt hh 0 (by decide))) (rcv_H hh) rfl rfl rfl hcs dX1_heldSpots_12 ?_
    refine x_if_lt (tgt := 21) C dX1_heldSpots_15 (by decide) (fun c15 => ?_) (fun c15 => ?_)
    · skip
      refine x_iinc (v := nI (i + 1)) C dX1_heldSpots_21 rfl (nI_1 i) rfl ?_
      refine x_goto (tgt := 4) C dX1_heldSpots_24 (by decide) ?_
      have e : spotN (vw M h) (i + 1) = spotN (vw M h) i := by show _ + _ = _; rw [if_pos c15]; rfl
      rw [e] at ih
      exact ih hlt
    · skip
      refine x_iinc (v := nI (spotN (vw M h) i + 1)) C dX1_heldSpots_18 rfl (nI_1 _) rfl ?_
      refine x_iinc (v := nI (i + 1)) C dX1_heldSpots_21 rfl (nI_1 i) rfl ?_
      refine x_goto (tgt := 4) C dX1_heldSpots_24 (by decide) ?_
      have e : spotN (vw M h) (i + 1) = spotN (vw M h) i + 1 := by show _ + _ = _; rw [if_neg c15]
      rw [e] at ih
      exact ih hlt

theorem okE_kind {S : Row} {e : Nat} (he : e < 8) (o : okRow S) (ht : thr S e) : inB (eg S e 0) 0 6 := by
  rcases o.2.2.1 e he with z | z
  · exact z.2.1
  · exact absurd ht (by unfold thr; rw [z.1]; decide)
theorem age_no {S : Row} {i : Nat} (h : ¬ thr (agesS S i) i) : agesS S (i + 1) = agesS S i ∧ agesC S (i + 1) = agesC S i := by
  constructor
  · show ageS _ _ = _
    unfold ageS
    rw [if_neg h]
  · show agesC S i + ageC _ _ = _
    unfold ageC
    rw [if_neg (fun z => h z.1)]
    rfl
theorem age_go {S : Row} {i : Nat} (h : thr (agesS S i) i) (c : ¬ (eg (agesS S i) i 2 + 1) ≤ keepB (eg (agesS S i) i 0)) : agesS S (i + 1) = goS (agesS S i) i ∧ agesC S (i + 1) = agesC S i + 1 := by
  have hp : spoilP (agesS S i) i := ⟨h, by grind⟩
  constructor
  · show ageS _ _ = _
    unfold ageS
    rw [if_pos h, if_pos hp]
  · show agesC S i + ageC _ _ = _
    unfold ageC
    rw [if_pos hp]
theorem age_on {S : Row} {i : Nat} (h : thr (agesS S i) i) (c : (eg (agesS S i) i 2 + 1) ≤ keepB (eg (agesS S i) i 0)) : agesS S (i + 1) = upd (agesS S i) (3 + 5 * i + 2) (eg (agesS S i) i 2 + 1) ∧ agesC S (i + 1) = agesC S i := by
  have hp : ¬ spoilP (agesS S i) i := fun z => absurd z.2 (by grind)
  constructor
  · show ageS _ _ = _
    unfold ageS
    rw [if_pos h, if_neg hp]
  · show agesC S i + ageC _ _ = _
    unfold ageC
    rw [if_neg hp]
    rfl
theorem goS_upd {S : Row} {e f : Nat} {x : Int32} (hf : f < 5) : goS (upd S (3 + 5 * e + f) x) e = goS S e := by
  funext k
  unfold goS
  by_cases h : 3 + 5 * e ≤ k ∧ k < 8 + 5 * e
  · rw [if_pos h, if_pos h]
  · rw [if_neg h, if_neg h, pk_un (by omega)]
def rm_X1_eggsAge : Room := { frames := 2, cells := 0, slots := 0, locals := 44 }
set_option maxRecDepth 100000 in
set_option maxHeartbeats 4000000 in
theorem c_X1_eggsAge (l : Launch) (g : Gp) {h : Nat} (hh : isH h) (M : Mem) (o : okRow (vw M h)) : Ki l g yX1_eggsAge cX1_eggsAge 4 .int rm_X1_eggsAge [.ref (gad g (h))] M (fun r M' => r = nI (agesC (vw M h) 8) ∧ vw M' h = agesS (vw M h) 8 ∧ same [h + (0 + 4)] M M') := by
  refine Ki.of rfl rfl rfl (fun q C hret hcs => ?_)
  refine x_iconst (v := 0) C dX1_eggsAge_0 (by decide) ?_
  refine x_istore_n C dX1_eggsAge_1 rfl ?_
  refine x_iconst (v := 0) C dX1_eggsAge_2 (by decide) ?_
  refine x_istore_n C dX1_eggsAge_3 rfl ?_
  refine up_to 8 (P := fun i => ∀ M1 : Mem, vw M1 h = agesS (vw M h) i → same [h + (0 + 4)] M M1 → X (kmk l rm_X1_eggsAge g 4 q) M1 4 [some (.ref (gad g (h))), some (.int (nI (agesC (vw M h) i))), some (.int (nI i)), none] []) (fun i hi ih M1 hv hs => ?_) 0 (by omega) M rfl same.rf
  refine x_iload_n C dX1_eggsAge_4 rfl ?_
  refine x_bipush (v := 8) C dX1_eggsAge_5 (by decide) ?_
  refine x_icmp_ge (tgt := 73) C dX1_eggsAge_7 (by decide) (fun c7 => ?_) (fun c7 => ?_)
  · skip
    have hlt := lp_ge (N := 8) (by decide) hi c7
    refine x_iload_n C dX1_eggsAge_73 rfl ?_
    refine hret _ _ _ _ dX1_eggsAge_74 rfl ?_
    subst hlt; exact ⟨rfl, hv, hs⟩
  · skip
    have hlt := lp_lt (N := 8) (by decide) hi c7
    refine x_aload_n C dX1_eggsAge_10 rfl ?_
    refine x_iload_n C dX1_eggsAge_11 rfl ?_
    refine x_cvB C (k := h) (c_X1_hasEgg l g (h := h) hh _ _ ) o_X1_hasEgg mw_X1_79 rfl (C.lt' (isH_lt hh 0 (by decide))) (rcv_H hh) rfl rfl rfl hcs dX1_eggsAge_12 (fun c12 => ?_) (fun c12 => ?_)
    · skip
      have c12x : thr (vw M1 h) i := (eggP_n hlt).mp c12
      have c12 : thr (agesS (vw M h) i) i := by rw [← hv]; exact c12x
      refine x_if_neT (tgt := 21) C dX1_eggsAge_15 (by decide) (by decide) ?_
      refine x_aload_n C dX1_eggsAge_21 rfl ?_
      refine x_getf (k := h) C bk_X1 (C.lt' (isH_lt hh 0 (by decide))) rfl (ent_H0 hh) 0 fw_X1_21 rfl rfl dX1_eggsAge_22 ?_
      refine x_iload_n C dX1_eggsAge_25 rfl ?_
      refine x_iconst (v := 2) C dX1_eggsAge_26 (by decide) ?_
      refine x_cvE C (k := h + (0 + 1)) (c_X5_at l g (h := h) (j := 0) hh (by decide) _ _ _ ) o_X5_at mw_X1_75 rfl (C.lt' (isH_lt hh (0 + 1) (by omega))) (rcv_HT hh 0 (by decide)) rfl rfl rfl hcs dX1_eggsAge_27 ?_
      refine x_topE (y := eg (vw M1 h) i 2) (tab_eg rfl rfl hlt (by decide) c12x) ?_
      refine x_iconst (v := 1) C dX1_eggsAge_30 (by decide) ?_
      refine x_iadd C dX1_eggsAge_31 ?_
      refine x_istore_n C dX1_eggsAge_32 rfl ?_
      refine x_aload_n C dX1_eggsAge_33 rfl ?_
      refine x_getf (k := h) C bk_X1 (C.lt' (isH_lt hh 0 (by decide))) rfl (ent_H0 hh) 0 fw_X1_21 rfl rfl dX1_eggsAge_34 ?_
      refine x_iload_n C dX1_eggsAge_37 rfl ?_
      refine x_iconst (v := 2) C dX1_eggsAge_38 (by decide) ?_
      refine x_iload_n C dX1_eggsAge_39 rfl ?_
      refine x_cvv C (k := h + (0 + 1)) (c_X5_put l g (h := h) (j := 0) hh (by decide) _ _ _ _ ) o_X5_put mw_X1_25 rfl (C.lt' (isH_lt hh (0 + 1) (by omega))) (rcv_HT hh 0 (by decide)) rfl rfl rfl hcs dX1_eggsAge_40 (fun M2 h2 => ?_)
      have h2 := h2.trans (tabPut_e (j := 0) (a := i) (b := 2) rfl rfl (by decide) hlt (by decide))
      have hk2 : tabAt M2 h 0 (nI i) 0 = eg (vw M1 h) i 0 := by rw [tabAt_e (j := 0) (a := i) (b := 0) (row := nI i) (col := 0) rfl rfl (by decide) hlt (by decide), h2, up_sn (by omega)]; exact vw_there hlt (by decide) c12x
      have hk6 : inB (eg (vw M1 h) i 0) 0 6 := by rw [hv, agesS_eg (Nat.le_refl i)]; exact okE_kind hlt o (by have := c12; unfold thr at this ⊢; rwa [agesS_eg (Nat.le_refl i)] at this)
      refine x_iload_n C dX1_eggsAge_43 rfl ?_
      refine x_aload_n C dX1_eggsAge_44 rfl ?_
      refine x_getf (k := h) C bk_X1 (C.lt' (isH_lt hh 0 (by decide))) rfl (ent_H0 hh) 0 fw_X1_21 rfl rfl dX1_eggsAge_45 ?_
      refine x_iload_n C dX1_eggsAge_48 rfl ?_
      refine x_iconst (v := 0) C dX1_eggsAge_49 (by decide) ?_
      refine x_cvE C (k := h + (0 + 1)) (c_X5_at l g (h := h) (j := 0) hh (by decide) _ _ _ ) o_X5_at mw_X1_75 rfl (C.lt' (isH_lt hh (0 + 1) (by omega))) (rcv_HT hh 0 (by decide)) rfl rfl rfl hcs dX1_eggsAge_50 ?_
      refine x_topE (y := eg (vw M1 h) i 0) (hk2) ?_
      refine x_csE C (c_X2_keeps l g _ hk6) o_X2_keeps mw_X1_124 rfl rfl rfl rfl hcs dX1_eggsAge_53 ?_
      refine x_icmp_le (tgt := 67) C dX1_eggsAge_56 (by decide) (fun c56 => ?_) (fun c56 => ?_)
      · skip
        refine x_iinc (v := nI (i + 1)) C dX1_eggsAge_67 rfl (nI_1 i) rfl ?_
        refine x_goto (tgt := 4) C dX1_eggsAge_70 (by decide) ?_
        refine X.le (ls' := [some (.ref (gad g (h))), some (.int (nI (agesC (vw M h) i))), some (.int (nI (i + 1))), none]) (lle_s rfl (lle_s rfl (lle_s rfl (lle_n lle_e)))) ?_
        obtain ⟨e1, e2⟩ := age_on (S := vw M h) c12 (by rw [← hv]; exact c56)
        rw [e2] at ih
        refine ih hlt M2 ?_ ?_
        · rw [e1, h2, vw_putf hlt (by decide) c12x (fun z => absurd z (by decide)), hv]
        · exact hs.tr (by rw [h2]; exact same.up (by simp))
      · skip
        refine x_aload_n C dX1_eggsAge_59 rfl ?_
        refine x_iload_n C dX1_eggsAge_60 rfl ?_
        refine x_cvv C (k := h) (c_X1_empty l g (h := h) hh _ (e := i) rfl hlt ) o_X1_empty mw_X1_113 rfl (C.lt' (isH_lt hh 0 (by decide))) (rcv_H hh) rfl rfl rfl hcs dX1_eggsAge_61 (fun M3 h3 => ?_)
        refine x_iinc (v := nI (agesC (vw M h) i + 1)) C dX1_eggsAge_64 rfl (nI_1 _) rfl ?_
        refine x_iinc (v := nI (i + 1)) C dX1_eggsAge_67 rfl (nI_1 i) rfl ?_
        refine x_goto (tgt := 4) C dX1_eggsAge_70 (by decide) ?_
        refine X.le (ls' := [some (.ref (gad g (h))), some (.int (nI (agesC (vw M h) i + 1))), some (.int (nI (i + 1))), none]) (lle_s rfl (lle_s rfl (lle_s rfl (lle_n lle_e)))) ?_
        obtain ⟨e1, e2⟩ := age_go (S := vw M h) c12 (by rw [← hv]; exact c56)
        rw [e2] at ih
        refine ih hlt M3 ?_ ?_
        · rw [e1, h3.1, h2, vw_putf hlt (by decide) c12x (fun z => absurd z (by decide)), goS_upd (by decide), hv]
        · exact hs.tr ((by rw [h2]; exact same.up (by simp) : same [h + (0 + 4)] M1 M2).tr h3.2)
    · skip
      have c12 : ¬ thr (agesS (vw M h) i) i := by rw [← hv]; exact fun z => c12 ((eggP_n hlt).mpr z)
      refine x_if_neF (tgt := 21) C dX1_eggsAge_15 (by decide) (by decide) ?_
      refine x_goto (tgt := 67) C dX1_eggsAge_18 (by decide) ?_
      refine x_iinc (v := nI (i + 1)) C dX1_eggsAge_67 rfl (nI_1 i) rfl ?_
      refine x_goto (tgt := 4) C dX1_eggsAge_70 (by decide) ?_
      obtain ⟨e1, e2⟩ := age_no (S := vw M h) c12
      rw [e2] at ih
      refine ih hlt M1 (by rw [e1]; exact hv) hs

theorem frI_lt {S : Row} (h : ¬ frI S < 0) : frN S 8 < 8 := by
  unfold frI at h
  by_cases q : frN S 8 < 8
  · exact q
  · rw [if_neg q] at h; exact absurd (by decide) h
theorem frI_ge {S : Row} (h : frI S < 0) : ¬ frN S 8 < 8 := by
  intro q
  unfold frI at h
  rw [if_pos q] at h
  exact nI_pos (by omega) h
theorem hen_none {S : Row} {i : Nat} (c : hn (hensS S i) i 0 ≤ 0) : hensS S (i + 1) = hensS S i := by
  show henS _ _ = _
  unfold henS
  rw [if_neg (fun z => absurd z.1 (by grind))]
theorem hen_rest {S : Row} {i : Nat} (c : ¬ hensS S i 0 - hensS S i 0 / hn (hensS S i) i 0 * hn (hensS S i) i 0 = 0) : hensS S (i + 1) = hensS S i := by
  show henS _ _ = _
  unfold henS
  rw [if_neg (fun z => c z.2)]
theorem hen_full {S : Row} {i : Nat} (c : ¬ frN (hensS S i) 8 < 8) : hensS S (i + 1) = hensS S i := by
  show henS _ _ = _
  unfold henS layS
  rw [if_neg c]
  split <;> rfl
theorem hen_lay {S : Row} {i : Nat} (c : ¬ hn (hensS S i) i 0 ≤ 0) (c2 : hensS S i 0 - hensS S i 0 / hn (hensS S i) i 0 * hn (hensS S i) i 0 = 0) (c3 : frN (hensS S i) 8 < 8) : hensS S (i + 1) = putE (hensS S i) (frN (hensS S i) 8) (hn (hensS S i) i 1) (hn (hensS S i) i 2) 0 (hn (hensS S i) i 3) := by
  show henS _ _ = _
  unfold henS layS
  rw [if_pos ⟨by grind, c2⟩, if_pos c3]
def rm_X1_hensLay : Room := { frames := 3, cells := 0, slots := 0, locals := 64 }
set_option maxRecDepth 100000 in
set_option maxHeartbeats 4000000 in
theorem c_X1_hensLay (l : Launch) (g : Gp) {h : Nat} (hh : isH h) (M : Mem) (o : okRow (vw M h)) : Kv l g yX1_hensLay cX1_hensLay 4 rm_X1_hensLay [.ref (gad g (h))] M (fun M' => vw M' h = hensS (vw M h) 4 ∧ same [h + (0 + 4)] M M') := by
  refine Kv.of rfl rfl rfl (fun q C hret hcs => ?_)
  refine x_iconst (v := 0) C dX1_hensLay_0 (by decide) ?_
  refine x_istore_n C dX1_hensLay_1 rfl ?_
  refine up_to 4 (P := fun i => ∀ M1 : Mem, vw M1 h = hensS (vw M h) i → same [h + (0 + 4)] M M1 → X (kmk l rm_X1_hensLay g 4 q) M1 2 [some (.ref (gad g (h))), some (.int (nI i)), none, none] []) (fun i hi ih M1 hv hs => ?_) 0 (by omega) M rfl same.rf
  refine x_iload_n C dX1_hensLay_2 rfl ?_
  refine x_iconst (v := 4) C dX1_hensLay_3 (by decide) ?_
  refine x_icmp_ge (tgt := 81) C dX1_hensLay_4 (by decide) (fun c4 => ?_) (fun c4 => ?_)
  · skip
    have hlt := lp_ge (N := 4) (by decide) hi c4
    refine hret _ _ _ dX1_hensLay_81 ?_
    subst hlt; exact ⟨hv, hs⟩
  · skip
    have hlt := lp_lt (N := 4) (by decide) hi c4
    have o1 : okRow (vw M1 h) := by rw [hv]; exact okRow_hens o i (by omega)
    have oh := o1.2.2.2.1 i hlt
    refine x_aload_n C dX1_hensLay_7 rfl ?_
    refine x_getf (k := h) C bk_X1 (C.lt' (isH_lt hh 0 (by decide))) rfl (ent_H0 hh) 1 fw_X1_35 rfl rfl dX1_hensLay_8 ?_
    refine x_iload_n C dX1_hensLay_11 rfl ?_
    refine x_iconst (v := 0) C dX1_hensLay_12 (by decide) ?_
    refine x_cvE C (k := h + (1 + 1)) (c_X5_at l g (h := h) (j := 1) hh (by decide) _ _ _ ) o_X5_at mw_X1_75 rfl (C.lt' (isH_lt hh (1 + 1) (by omega))) (rcv_HT hh 1 (by decide)) rfl rfl rfl hcs dX1_hensLay_13 ?_
    refine x_topE (y := hn (vw M1 h) i 0) (tab_hn rfl rfl hlt (by decide)) ?_
    refine x_istore_n C dX1_hensLay_16 rfl ?_
    refine x_iload_n C dX1_hensLay_17 rfl ?_
    refine x_if_le (tgt := 75) C dX1_hensLay_18 (by decide) (fun c18 => ?_) (fun c18 => ?_)
    · skip
      refine x_iinc (v := nI (i + 1)) C dX1_hensLay_75 rfl (nI_1 i) rfl ?_
      refine x_goto (tgt := 2) C dX1_hensLay_78 (by decide) ?_
      refine X.le (ls' := [some (.ref (gad g (h))), some (.int (nI (i + 1))), none, none]) (lle_s rfl (lle_s rfl (lle_n (lle_n lle_e)))) ?_
      refine ih hlt M1 ?_ hs
      first | rw [hen_full (by rw [← hv]; exact c39), hv] | rw [hen_rest (by rw [← hv]; exact c27), hv] | rw [hen_none (by rw [← hv]; exact c18), hv]
    · skip
      refine x_aload_n C dX1_hensLay_21 rfl ?_
      refine x_getf (k := h) C bk_X1 (C.lt' (isH_lt hh 0 (by decide))) rfl (ent_H0 hh) 4 fw_X1_51 rfl rfl dX1_hensLay_22 ?_
      refine x_iload_n C dX1_hensLay_25 rfl ?_
      refine x_irem C dX1_hensLay_26 (by clear hret hcs C ih; grind) ?_
      refine x_if_eq (tgt := 33) C dX1_hensLay_27 (by decide) (fun c27 => ?_) (fun c27 => ?_)
      · skip
        refine x_aload_n C dX1_hensLay_33 rfl ?_
        refine x_cvE C (k := h) (c_X1_emptyPlace l g (h := h) hh _ ) o_X1_emptyPlace mw_X1_127 rfl (C.lt' (isH_lt hh 0 (by decide))) (rcv_H hh) rfl rfl rfl hcs dX1_hensLay_34 ?_
        refine x_topi (fun x2 ex2 => ?_)
        refine x_istore_n C dX1_hensLay_37 rfl ?_
        refine x_iload_n C dX1_hensLay_38 rfl ?_
        refine x_if_lt (tgt := 75) C dX1_hensLay_39 (by decide) (fun c39 => ?_) (fun c39 => ?_)
        · skip
          have c39 : ¬ frN (vw M1 h) 8 < 8 := frI_ge (by rw [← ex2]; exact c39)
          refine x_iinc (v := nI (i + 1)) C dX1_hensLay_75 rfl (nI_1 i) rfl ?_
          refine x_goto (tgt := 2) C dX1_hensLay_78 (by decide) ?_
          refine X.le (ls' := [some (.ref (gad g (h))), some (.int (nI (i + 1))), none, none]) (lle_s rfl (lle_s rfl (lle_n (lle_n lle_e)))) ?_
          refine ih hlt M1 ?_ hs
          first | rw [hen_full (by rw [← hv]; exact c39), hv] | rw [hen_rest (by rw [← hv]; exact c27), hv] | rw [hen_none (by rw [← hv]; exact c18), hv]
        · skip
          have c39 : frN (vw M1 h) 8 < 8 := frI_lt (by rw [← ex2]; exact c39)
          have e39 : x2 = nI (frN (vw M1 h) 8) := by rw [ex2]; exact if_pos c39
          refine x_aload_n C dX1_hensLay_42 rfl ?_
          refine x_iload_n C dX1_hensLay_43 rfl ?_
          refine x_aload_n C dX1_hensLay_44 rfl ?_
          refine x_getf (k := h) C bk_X1 (C.lt' (isH_lt hh 0 (by decide))) rfl (ent_H0 hh) 1 fw_X1_35 rfl rfl dX1_hensLay_45 ?_
          refine x_iload_n C dX1_hensLay_48 rfl ?_
          refine x_iconst (v := 1) C dX1_hensLay_49 (by decide) ?_
          refine x_cvE C (k := h + (1 + 1)) (c_X5_at l g (h := h) (j := 1) hh (by decide) _ _ _ ) o_X5_at mw_X1_75 rfl (C.lt' (isH_lt hh (1 + 1) (by omega))) (rcv_HT hh 1 (by decide)) rfl rfl rfl hcs dX1_hensLay_50 ?_
          refine x_topE (y := hn (vw M1 h) i 1) (tab_hn rfl rfl hlt (by decide)) ?_
          refine x_aload_n C dX1_hensLay_53 rfl ?_
          refine x_getf (k := h) C bk_X1 (C.lt' (isH_lt hh 0 (by decide))) rfl (ent_H0 hh) 1 fw_X1_35 rfl rfl dX1_hensLay_54 ?_
          refine x_iload_n C dX1_hensLay_57 rfl ?_
          refine x_iconst (v := 2) C dX1_hensLay_58 (by decide) ?_
          refine x_cvE C (k := h + (1 + 1)) (c_X5_at l g (h := h) (j := 1) hh (by decide) _ _ _ ) o_X5_at mw_X1_75 rfl (C.lt' (isH_lt hh (1 + 1) (by omega))) (rcv_HT hh 1 (by decide)) rfl rfl rfl hcs dX1_hensLay_59 ?_
          refine x_topE (y := hn (vw M1 h) i 2) (tab_hn rfl rfl hlt (by decide)) ?_
          refine x_iconst (v := 0) C dX1_hensLay_62 (by decide) ?_
          refine x_aload_n C dX1_hensLay_63 rfl ?_
          refine x_getf (k := h) C bk_X1 (C.lt' (isH_lt hh 0 (by decide))) rfl (ent_H0 hh) 1 fw_X1_35 rfl rfl dX1_hensLay_64 ?_
          refine x_iload_n C dX1_hensLay_67 rfl ?_
          refine x_iconst (v := 3) C dX1_hensLay_68 (by decide) ?_
          refine x_cvE C (k := h + (1 + 1)) (c_X5_at l g (h := h) (j := 1) hh (by decide) _ _ _ ) o_X5_at mw_X1_75 rfl (C.lt' (isH_lt hh (1 + 1) (by omega))) (rcv_HT hh 1 (by decide)) rfl rfl rfl hcs dX1_hensLay_69 ?_
          refine x_topE (y := hn (vw M1 h) i 3) (tab_hn rfl rfl hlt (by decide)) ?_
          refine x_cvv C (k := h) (c_X1_layAt l g (h := h) hh _ (e := (frN (vw M1 h) 8)) e39 c39 _ _ _ _ (by have := oh.2.1.1; clear hret hcs C ih; grind) ) o_X1_layAt mw_X1_130 rfl (C.lt' (isH_lt hh 0 (by decide))) (rcv_H hh) rfl rfl rfl hcs dX1_hensLay_72 (fun M3 h3 => ?_)
          refine x_iinc (v := nI (i + 1)) C dX1_hensLay_75 rfl (nI_1 i) rfl ?_
          refine x_goto (tgt := 2) C dX1_hensLay_78 (by decide) ?_
          refine X.le (ls' := [some (.ref (gad g (h))), some (.int (nI (i + 1))), none, none]) (lle_s rfl (lle_s rfl (lle_n (lle_n lle_e)))) ?_
          refine ih hlt M3 ?_ (hs.tr h3.2)
          rw [hen_lay (by rw [← hv]; exact c18) (by rw [← hv]; exact c27) (by rw [← hv]; exact c39), h3.1, hv]
      · skip
        refine x_goto (tgt := 75) C dX1_hensLay_30 (by decide) ?_
        refine x_iinc (v := nI (i + 1)) C dX1_hensLay_75 rfl (nI_1 i) rfl ?_
        refine x_goto (tgt := 2) C dX1_hensLay_78 (by decide) ?_
        refine X.le (ls' := [some (.ref (gad g (h))), some (.int (nI (i + 1))), none, none]) (lle_s rfl (lle_s rfl (lle_n (lle_n lle_e)))) ?_
        refine ih hlt M1 ?_ hs
        first | rw [hen_full (by rw [← hv]; exact c39), hv] | rw [hen_rest (by rw [← hv]; exact c27), hv] | rw [hen_none (by rw [← hv]; exact c18), hv]

def rm_X1_daysGoBy : Room := { frames := 4, cells := 0, slots := 0, locals := 87 }
set_option maxRecDepth 100000 in
set_option maxHeartbeats 4000000 in
theorem c_X1_daysGoBy (l : Launch) (g : Gp) {h : Nat} (hh : isH h) (M : Mem) {n : Int32} {N : Nat} (hn : n = nI N) (hN : N < 1000) (o : okRow (vw M h)) : Ki l g yX1_daysGoBy cX1_daysGoBy 5 .int rm_X1_daysGoBy [.ref (gad g (h)), .int (n)] M (fun r M' => r = nI (dayC (vw M h) N) ∧ vw M' h = dayN (vw M h) N ∧ same [h, h + (0 + 4)] M M') := by
  refine Ki.of rfl rfl rfl (fun q C hret hcs => ?_)
  refine x_iconst (v := 0) C dX1_daysGoBy_0 (by decide) ?_
  refine x_istore_n C dX1_daysGoBy_1 rfl ?_
  refine x_iconst (v := 0) C dX1_daysGoBy_2 (by decide) ?_
  refine x_istore_n C dX1_daysGoBy_3 rfl ?_
  refine up_to N (P := fun i => ∀ M1 : Mem, vw M1 h = dayN (vw M h) i → same [h, h + (0 + 4)] M M1 → X (kmk l rm_X1_daysGoBy g 5 q) M1 4 [some (.ref (gad g (h))), some (.int (n)), some (.int (nI (dayC (vw M h) i))), some (.int (nI i)), none] []) (fun i hi ih M1 hv hs => ?_) 0 (by omega) M rfl same.rf
  refine x_iload_n C dX1_daysGoBy_4 rfl ?_
  refine x_iload_n C dX1_daysGoBy_5 rfl ?_
  refine x_icmp_ge (tgt := 61) C dX1_daysGoBy_6 (by decide) (fun c6 => ?_) (fun c6 => ?_)
  · skip
    have hlt := lp_ge (N := N) (by omega) hi (by rw [← hn]; exact c6)
    refine x_iload_n C dX1_daysGoBy_61 rfl ?_
    refine hret _ _ _ _ dX1_daysGoBy_62 rfl ?_
    subst hlt; exact ⟨rfl, hv, hs⟩
  · skip
    have hlt := lp_lt (N := N) (by omega) hi (by rw [← hn]; exact c6)
    have o1 : okRow (vw M1 h) := by rw [hv]; exact okRow_dayN o i
    refine x_aload_n C dX1_daysGoBy_9 rfl ?_
    refine x_cvi C (k := h) (c_X1_eggsAge l g (h := h) hh _ o1 ) o_X1_eggsAge mw_X1_117 rfl (C.lt' (isH_lt hh 0 (by decide))) (rcv_H hh) rfl rfl rfl hcs dX1_daysGoBy_10 (fun r2 M2 h2 => ?_)
    refine x_istore C dX1_daysGoBy_13 rfl ?_
    refine x_aload_n C dX1_daysGoBy_15 rfl ?_
    refine x_aload_n C dX1_daysGoBy_16 rfl ?_
    refine x_getf (k := h) C bk_X1 (C.lt' (isH_lt hh 0 (by decide))) rfl (ent_H0 hh) 5 fw_X1_55 rfl rfl dX1_daysGoBy_17 ?_
    refine x_iload C dX1_daysGoBy_20 rfl ?_
    refine x_iadd C dX1_daysGoBy_22 ?_
    refine x_ldc C kw_X1_47 dX1_daysGoBy_23 ?_
    refine x_min C mw_X1_92 sw_Math_min iw_J9 ow_Math_min rfl rfl hcs.1 hcs.2 dX1_daysGoBy_25 ?_
    refine x_topE (y := capD (vw M1 h 1 + nI (agesC (vw M1 h) 8))) (by rw [show M2 h 5 = vw M1 h 1 from (congrFun h2.2.1 1).trans (agesS_o _ _ _ (by decide)), h2.1]; rfl) ?_
    refine x_putf (k := h) C bk_X1 (C.lt' (isH_lt hh 0 (by decide))) rfl (ent_H0 hh) 5 fw_X1_55 rfl (fun _ => rfl) rfl rfl rfl rfl dX1_daysGoBy_28 ?_
    refine x_memI (fun M3 eM3 => ?_)
    refine x_iload_n C dX1_daysGoBy_31 rfl ?_
    refine x_iload C dX1_daysGoBy_32 rfl ?_
    refine x_iadd C dX1_daysGoBy_34 ?_
    refine x_topE (y := nI (dayC (vw M h) (i + 1))) (by rw [h2.1, nI_add, hv]; rfl) ?_
    refine x_istore_n C dX1_daysGoBy_35 rfl ?_
    refine x_aload_n C dX1_daysGoBy_36 rfl ?_
    refine x_aload_n C dX1_daysGoBy_37 rfl ?_
    refine x_getf (k := h) C bk_X1 (C.lt' (isH_lt hh 0 (by decide))) rfl (ent_H0 hh) 4 fw_X1_51 rfl rfl dX1_daysGoBy_38 ?_
    refine x_iconst (v := 1) C dX1_daysGoBy_41 (by decide) ?_
    refine x_iadd C dX1_daysGoBy_42 ?_
    refine x_ldc C kw_X1_47 dX1_daysGoBy_43 ?_
    refine x_min C mw_X1_92 sw_Math_min iw_J9 ow_Math_min rfl rfl hcs.1 hcs.2 dX1_daysGoBy_45 ?_
    refine x_topE (y := capD (vw M1 h 0 + 1)) (by rw [show M3 h 4 = vw M1 h 0 from (by rw [eM3]; exact up_sn (by decide) : M3 h 4 = M2 h 4).trans ((congrFun h2.2.1 0).trans (agesS_o _ _ _ (by decide)))]; rfl) ?_
    refine x_putf (k := h) C bk_X1 (C.lt' (isH_lt hh 0 (by decide))) rfl (ent_H0 hh) 4 fw_X1_51 rfl (fun _ => rfl) rfl rfl rfl rfl dX1_daysGoBy_48 ?_
    refine x_memI (fun M4 eM4 => ?_)
    have hv4 : vw M4 h = tickS (dayN (vw M h) i) := by rw [eM4, vw_d (by decide), eM3, vw_d (by decide), h2.2.1, ← hv]; rfl
    have o4 : okRow (vw M4 h) := by rw [hv4]; exact okRow_tick (okRow_dayN o i)
    refine x_aload_n C dX1_daysGoBy_51 rfl ?_
    refine x_cvv C (k := h) (c_X1_hensLay l g (h := h) hh _ o4 ) o_X1_hensLay mw_X1_121 rfl (C.lt' (isH_lt hh 0 (by decide))) (rcv_H hh) rfl rfl rfl hcs dX1_daysGoBy_52 (fun M5 h5 => ?_)
    refine x_iinc (v := nI (i + 1)) C dX1_daysGoBy_55 rfl (nI_1 i) rfl ?_
    refine x_goto (tgt := 4) C dX1_daysGoBy_58 (by decide) ?_
    refine X.le (ls' := [some (.ref (gad g (h))), some (.int (n)), some (.int (nI (dayC (vw M h) (i + 1)))), some (.int (nI (i + 1))), none]) (lle_s rfl (lle_s rfl (lle_s rfl (lle_s rfl (lle_n lle_e))))) ?_
    refine ih hlt M5 ?_ ?_
    · rw [h5.1, hv4]; rfl
    · refine hs.tr ((h2.2.2.mono (by simp)).tr (((by rw [eM3]; exact same.up (by simp) : same [h, h + (0 + 4)] M2 M3).tr (by rw [eM4]; exact same.up (by simp) : same [h, h + (0 + 4)] M3 M4)).tr (h5.2.mono (by simp))))

theorem fox_take {S : Row} {nest : Int32} {i : Nat} (h1 : thr (foxL S nest i) i) (h2 : eg (foxL S nest i) i 3 = nest) : foxL S nest (i + 1) = goS (foxL S nest i) i ∧ foxN S nest (i + 1) = foxN S nest i + 1 := by
  constructor
  · exact if_pos ⟨h1, h2⟩
  · show _ + _ = _
    rw [if_pos ⟨h1, h2⟩]
theorem fox_not {S : Row} {nest : Int32} {i : Nat} (h : ¬ (thr (foxL S nest i) i ∧ eg (foxL S nest i) i 3 = nest)) : foxL S nest (i + 1) = foxL S nest i ∧ foxN S nest (i + 1) = foxN S nest i := by
  constructor
  · exact if_neg h
  · show _ + _ = _
    rw [if_neg h]
    rfl
def rm_X1_foxComes : Room := { frames := 2, cells := 0, slots := 0, locals := 44 }
set_option maxRecDepth 100000 in
set_option maxHeartbeats 4000000 in
theorem c_X1_foxComes (l : Launch) (g : Gp) {h : Nat} (hh : isH h) (M : Mem) (o : okRow (vw M h)) : Ki l g yX1_foxComes cX1_foxComes 4 .int rm_X1_foxComes [.ref (gad g (h))] M (fun r M' => r = nI (foxC (vw M h)) ∧ vw M' h = foxS (vw M h) ∧ same [h, h + (0 + 4)] M M') := by
  refine Ki.of rfl rfl rfl (fun q C hret hcs => ?_)
  refine x_aload_n C dX1_foxComes_0 rfl ?_
  refine x_aload_n C dX1_foxComes_1 rfl ?_
  refine x_getf (k := h) C bk_X1 (C.lt' (isH_lt hh 0 (by decide))) rfl (ent_H0 hh) 6 fw_X1_58 rfl rfl dX1_foxComes_2 ?_
  refine x_ldc C kw_X1_134 dX1_foxComes_5 ?_
  refine x_imul C dX1_foxComes_7 ?_
  refine x_sipush (v := 12345) C dX1_foxComes_8 (by decide) ?_
  refine x_iadd C dX1_foxComes_11 ?_
  refine x_topE (y := foxZ (vw M h 2)) (rfl) ?_
  refine x_putf (k := h) C bk_X1 (C.lt' (isH_lt hh 0 (by decide))) rfl (ent_H0 hh) 6 fw_X1_58 rfl (fun _ => rfl) rfl rfl rfl rfl dX1_foxComes_12 ?_
  refine x_memI (fun M1 eM1 => ?_)
  refine x_aload_n C dX1_foxComes_15 rfl ?_
  refine x_getf (k := h) C bk_X1 (C.lt' (isH_lt hh 0 (by decide))) rfl (ent_H0 hh) 6 fw_X1_58 rfl rfl dX1_foxComes_16 ?_
  refine x_bipush (v := 8) C dX1_foxComes_19 (by decide) ?_
  refine x_iushr C dX1_foxComes_21 rfl ?_
  refine x_topE (y := foxU (foxZ (vw M h 2))) (by rw [eM1, up_ss]; rfl) ?_
  refine x_iconst (v := 4) C dX1_foxComes_22 (by decide) ?_
  refine x_irem C dX1_foxComes_23 (by decide) ?_
  refine x_topE (y := foxT (foxZ (vw M h 2))) (rfl) ?_
  refine x_istore_n C dX1_foxComes_24 rfl ?_
  refine x_iconst (v := 0) C dX1_foxComes_25 (by decide) ?_
  refine x_istore_n C dX1_foxComes_26 rfl ?_
  refine x_iconst (v := 0) C dX1_foxComes_27 (by decide) ?_
  refine x_istore_n C dX1_foxComes_28 rfl ?_
  refine up_to 8 (P := fun i => ∀ M2 : Mem, vw M2 h = foxL (vw M1 h) (foxT (foxZ (vw M h 2))) i → same [h + (0 + 4)] M1 M2 → X (kmk l rm_X1_foxComes g 4 q) M2 29 [some (.ref (gad g (h))), some (.int (foxT (foxZ (vw M h 2)))), some (.int (nI (foxN (vw M1 h) (foxT (foxZ (vw M h 2))) i))), some (.int (nI i))] []) (fun i hi ih M2 hv hs => ?_) 0 (by omega) M1 rfl same.rf
  refine x_iload_n C dX1_foxComes_29 rfl ?_
  refine x_bipush (v := 8) C dX1_foxComes_30 (by decide) ?_
  refine x_icmp_ge (tgt := 70) C dX1_foxComes_32 (by decide) (fun c32 => ?_) (fun c32 => ?_)
  · skip
    have hlt := lp_ge (N := 8) (by decide) hi c32
    refine x_iload_n C dX1_foxComes_70 rfl ?_
    refine hret _ _ _ _ dX1_foxComes_71 rfl ?_
    subst hlt
    have e1 : vw M1 h = upd (vw M h) 2 (foxZ (vw M h 2)) := by rw [eM1]; exact vw_d (by decide)
    rw [e1] at hv ⊢
    exact ⟨rfl, hv, (by rw [eM1]; exact same.up (by simp) : same [h, h + (0 + 4)] M M1).tr (hs.mono (by simp))⟩
  · skip
    have hlt := lp_lt (N := 8) (by decide) hi c32
    refine x_aload_n C dX1_foxComes_35 rfl ?_
    refine x_iload_n C dX1_foxComes_36 rfl ?_
    refine x_cvB C (k := h) (c_X1_hasEgg l g (h := h) hh _ _ ) o_X1_hasEgg mw_X1_79 rfl (C.lt' (isH_lt hh 0 (by decide))) (rcv_H hh) rfl rfl rfl hcs dX1_foxComes_37 (fun c37 => ?_) (fun c37 => ?_)
    · skip
      have c37x : thr (vw M2 h) i := (eggP_n hlt).mp c37
      refine x_if_eqF (tgt := 64) C dX1_foxComes_40 (by decide) (by decide) ?_
      refine x_aload_n C dX1_foxComes_43 rfl ?_
      refine x_getf (k := h) C bk_X1 (C.lt' (isH_lt hh 0 (by decide))) rfl (ent_H0 hh) 0 fw_X1_21 rfl rfl dX1_foxComes_44 ?_
      refine x_iload_n C dX1_foxComes_47 rfl ?_
      refine x_iconst (v := 3) C dX1_foxComes_48 (by decide) ?_
      refine x_cvE C (k := h + (0 + 1)) (c_X5_at l g (h := h) (j := 0) hh (by decide) _ _ _ ) o_X5_at mw_X1_75 rfl (C.lt' (isH_lt hh (0 + 1) (by omega))) (rcv_HT hh 0 (by decide)) rfl rfl rfl hcs dX1_foxComes_49 ?_
      refine x_iload_n C dX1_foxComes_52 rfl ?_
      refine x_icmp_ne (tgt := 64) C dX1_foxComes_53 (by decide) (fun c53 => ?_) (fun c53 => ?_)
      · skip
        refine x_iinc (v := nI (i + 1)) C dX1_foxComes_64 rfl (nI_1 i) rfl ?_
        refine x_goto (tgt := 29) C dX1_foxComes_67 (by decide) ?_
        obtain ⟨e1, e2⟩ := fox_not (S := vw M1 h) (nest := foxT (foxZ (vw M h 2))) (i := i) (by rw [← hv]; first | exact fun z => c37x z.1 | exact fun z => c53 (by rw [tab_eg (c := 3) rfl rfl hlt (by decide) c37x]; exact z.2))
        rw [e2] at ih
        refine ih hlt M2 (by rw [e1]; exact hv) hs
      · skip
        refine x_aload_n C dX1_foxComes_56 rfl ?_
        refine x_iload_n C dX1_foxComes_57 rfl ?_
        refine x_cvv C (k := h) (c_X1_empty l g (h := h) hh _ (e := i) rfl hlt ) o_X1_empty mw_X1_113 rfl (C.lt' (isH_lt hh 0 (by decide))) (rcv_H hh) rfl rfl rfl hcs dX1_foxComes_58 (fun M3 h3 => ?_)
        refine x_iinc (v := nI (foxN (vw M1 h) (foxT (foxZ (vw M h 2))) i + 1)) C dX1_foxComes_61 rfl (nI_1 _) rfl ?_
        refine x_iinc (v := nI (i + 1)) C dX1_foxComes_64 rfl (nI_1 i) rfl ?_
        refine x_goto (tgt := 29) C dX1_foxComes_67 (by decide) ?_
        obtain ⟨e1, e2⟩ := fox_take (by rw [← hv]; exact c37x) (by rw [← hv, ← tab_eg (c := 3) rfl rfl hlt (by decide) c37x]; clear hret hcs C ih; grind)
        rw [e2] at ih
        refine ih hlt M3 (by rw [e1, h3.1, hv]) (hs.tr h3.2)
    · skip
      have c37x : ¬ thr (vw M2 h) i := fun z => c37 ((eggP_n hlt).mpr z)
      refine x_if_eqT (tgt := 64) C dX1_foxComes_40 (by decide) (by decide) ?_
      refine x_iinc (v := nI (i + 1)) C dX1_foxComes_64 rfl (nI_1 i) rfl ?_
      refine x_goto (tgt := 29) C dX1_foxComes_67 (by decide) ?_
      obtain ⟨e1, e2⟩ := fox_not (S := vw M1 h) (nest := foxT (foxZ (vw M h 2))) (i := i) (by rw [← hv]; first | exact fun z => c37x z.1 | exact fun z => c53 (by rw [tab_eg (c := 3) rfl rfl hlt (by decide) c37x]; exact z.2))
      rw [e2] at ih
      refine ih hlt M2 (by rw [e1]; exact hv) hs

