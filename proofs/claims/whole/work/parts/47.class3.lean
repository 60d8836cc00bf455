/-! ===== contracts: the class's own calls, third part ===== -/
def rm_X4_hasWidth : Room := { frames := 0, cells := 0, slots := 0, locals := 0 }
set_option maxRecDepth 100000 in
set_option maxHeartbeats 4000000 in
theorem c_X4_hasWidth (l : Launch) (g : Gp) (M : Mem) (b : Int32) : Kp l g yX4_hasWidth cX4_hasWidth 1 .boolean rm_X4_hasWidth [.int (b)] M (bv (b = 8 ∨ b = 16 ∨ b = 32)) := by
  unfold Kp
  refine Ki.of rfl rfl rfl (fun q C hret hcs => ?_)
  refine x_iload_n C dX4_hasWidth_0 rfl ?_
  refine x_bipush (v := 8) C dX4_hasWidth_1 (by decide) ?_
  refine x_icmp_eq (tgt := 18) C dX4_hasWidth_3 (by decide) (fun c3 => ?_) (fun c3 => ?_)
  · skip
    refine x_iconst (v := 1) C dX4_hasWidth_18 (by decide) ?_
    refine x_goto (tgt := 23) C dX4_hasWidth_19 (by decide) ?_
    refine hret _ _ _ _ dX4_hasWidth_23 rfl ⟨Or.inl ⟨rfl, ?_⟩, rfl⟩
    clear hret hcs C; grind
  · skip
    refine x_iload_n C dX4_hasWidth_6 rfl ?_
    refine x_bipush (v := 16) C dX4_hasWidth_7 (by decide) ?_
    refine x_icmp_eq (tgt := 18) C dX4_hasWidth_9 (by decide) (fun c9 => ?_) (fun c9 => ?_)
    · skip
      refine x_iconst (v := 1) C dX4_hasWidth_18 (by decide) ?_
      refine x_goto (tgt := 23) C dX4_hasWidth_19 (by decide) ?_
      refine hret _ _ _ _ dX4_hasWidth_23 rfl ⟨Or.inl ⟨rfl, ?_⟩, rfl⟩
      clear hret hcs C; grind
    · skip
      refine x_iload_n C dX4_hasWidth_12 rfl ?_
      refine x_bipush (v := 32) C dX4_hasWidth_13 (by decide) ?_
      refine x_icmp_ne (tgt := 22) C dX4_hasWidth_15 (by decide) (fun c15 => ?_) (fun c15 => ?_)
      · skip
        refine x_iconst (v := 0) C dX4_hasWidth_22 (by decide) ?_
        refine hret _ _ _ _ dX4_hasWidth_23 rfl ⟨Or.inr ⟨rfl, ?_⟩, rfl⟩
        clear hret hcs C; grind
      · skip
        refine x_iconst (v := 1) C dX4_hasWidth_18 (by decide) ?_
        refine x_goto (tgt := 23) C dX4_hasWidth_19 (by decide) ?_
        refine hret _ _ _ _ dX4_hasWidth_23 rfl ⟨Or.inl ⟨rfl, ?_⟩, rfl⟩
        clear hret hcs C; grind

def rm_X4_makeNew : Room := { frames := 1, cells := 0, slots := 0, locals := 21 }
set_option maxRecDepth 100000 in
set_option maxHeartbeats 4000000 in
theorem c_X4_makeNew (l : Launch) (g : Gp) {s : Nat} (hs : s < 4) (M : Mem) (b n : Int32) (hn : inB n 0 40) : Kv l g yX4_makeNew cX4_makeNew 4 rm_X4_makeNew [.ref (gad g (29 + 2 * s)), .int (b), .int (n)] M (fun M' => M' (29 + 2 * s) 1 = b ∧ M' (29 + 2 * s) 2 = (if b = 0 then 0 else n) ∧ (∀ i, i < 40 → M' (29 + 2 * s + 1) i = 0) ∧ same [29 + 2 * s, 29 + 2 * s + 1] M M') := by
  refine Kv.of rfl rfl rfl (fun q C hret hcs => ?_)
  refine x_aload_n C dX4_makeNew_0 rfl ?_
  refine x_iload_n C dX4_makeNew_1 rfl ?_
  refine x_putf (k := 29 + 2 * s) C bk_X4 (C.lt' (by omega)) rfl (ent_SO hs) 1 fw_X4_13 rfl (fun _ => rfl) rfl rfl rfl rfl dX4_makeNew_2 ?_
  refine x_memI (fun M1 eM1 => ?_)
  refine x_aload_n C dX4_makeNew_5 rfl ?_
  have key : ∀ v : Int32, v = (if b = 0 then 0 else n) → X (kmk l rm_X4_makeNew g 4 q) M1 24 [some (.ref (gad g (29 + 2 * s))), some (.int (b)), some (.int (n)), none] [.int (v), .ref (gad g (29 + 2 * s))] := by
    intro v ev
    refine x_putf (k := 29 + 2 * s) C bk_X4 (C.lt' (by omega)) rfl (ent_SO hs) 2 fw_X4_26 rfl (fun _ => rfl) rfl rfl rfl rfl dX4_makeNew_24 ?_
    refine x_memI (fun M2 eM2 => ?_)
    refine x_iconst (v := 0) C dX4_makeNew_27 (by decide) ?_
    refine x_istore_n C dX4_makeNew_28 rfl ?_
    refine up_to 40 (P := fun i => ∀ M3 : Mem, M3 (29 + 2 * s) = M2 (29 + 2 * s) → (∀ j, j < i → M3 (29 + 2 * s + 1) j = 0) → same [29 + 2 * s, (29 + 2 * s + 1)] M M3 → X (kmk l rm_X4_makeNew g 4 q) M3 29 [some (.ref (gad g (29 + 2 * s))), some (.int (b)), some (.int (n)), some (.int (nI i))] []) (fun i hi ih M3 h1 h2 hs3 => ?_) 0 (by omega) M2 rfl (fun j hj => absurd hj (by omega)) (by rw [eM2, eM1]; exact (same.up (by simp)).tr (same.up (by simp)))
    refine x_iload_n C dX4_makeNew_29 rfl ?_
    refine x_bipush (v := 40) C dX4_makeNew_30 (by decide) ?_
    refine x_icmp_ge (tgt := 48) C dX4_makeNew_32 (by decide) (fun c32 => ?_) (fun c32 => ?_)
    · skip
      have hlt := lp_ge (N := 40) (by decide) hi c32
      refine hret _ _ _ dX4_makeNew_48 ?_
      subst hlt
      refine ⟨?_, ?_, h2, hs3⟩
      · rw [h1, eM2, up_sn (by decide), eM1]; exact up_ss
      · rw [h1, eM2, up_ss, ev]
    · skip
      have hlt := lp_lt (N := 40) (by decide) hi c32
      refine x_aload_n C dX4_makeNew_35 rfl ?_
      refine x_getf (k := 29 + 2 * s) C bk_X4 (C.lt' (by omega)) rfl (ent_SO hs) 0 fw_X4_9 rfl rfl dX4_makeNew_36 ?_
      refine x_iload_n C dX4_makeNew_39 rfl ?_
      refine x_iconst (v := 0) C dX4_makeNew_40 (by decide) ?_
      refine x_iast (j := i) (k := 29 + 2 * s + 1) C (C.lt' (by omega)) rfl (ent_SN hs) (rfl) (by omega) rfl dX4_makeNew_41 ?_
      refine x_memI (fun M4 eM4 => ?_)
      refine x_iinc (v := nI (i + 1)) C dX4_makeNew_42 rfl (nI_1 i) rfl ?_
      refine x_goto (tgt := 29) C dX4_makeNew_45 (by decide) ?_
      refine ih hlt M4 (by rw [eM4, up_n (by omega)]; exact h1) (fun j hj => ?_) (hs3.tr (by rw [eM4]; exact same.up (by simp)))
      rw [eM4]
      by_cases q : j = i
      · subst q; exact up_ss
      · rw [up_sn q]; exact h2 j (by omega)
  refine x_iload_n C dX4_makeNew_6 rfl ?_
  refine x_if_ne (tgt := 14) C dX4_makeNew_7 (by decide) (fun c7 => ?_) (fun c7 => ?_)
  · skip
    refine x_iconst (v := 0) C dX4_makeNew_14 (by decide) ?_
    refine x_iload_n C dX4_makeNew_15 rfl ?_
    refine x_bipush (v := 40) C dX4_makeNew_16 (by decide) ?_
    refine x_min C mw_X4_17 sw_Math_min iw_J9 ow_Math_min rfl rfl hcs.1 hcs.2 dX4_makeNew_18 ?_
    refine x_max C mw_X4_23 sw_Math_max iw_J9 ow_Math_max rfl rfl hcs.1 hcs.2 dX4_makeNew_21 ?_
    exact key _ (by unfold inB at hn; clear hret hcs C; grind)
  · skip
    refine x_iconst (v := 0) C dX4_makeNew_10 (by decide) ?_
    refine x_goto (tgt := 24) C dX4_makeNew_11 (by decide) ?_
    exact key _ (by unfold inB at hn; clear hret hcs C; grind)

def rm_X4_hasNumbers : Room := { frames := 0, cells := 0, slots := 0, locals := 0 }
set_option maxRecDepth 100000 in
set_option maxHeartbeats 4000000 in
theorem c_X4_hasNumbers (l : Launch) (g : Gp) {s : Nat} (hs : s < 4) (M : Mem) (x n : Int32) : Kp l g yX4_hasNumbers cX4_hasNumbers 3 .boolean rm_X4_hasNumbers [.ref (gad g (29 + 2 * s)), .int (x), .int (n)] M (bv (0 ≤ x ∧ 0 ≤ n ∧ x ≤ M (29 + 2 * s) 2 ∧ n ≤ M (29 + 2 * s) 2 - x)) := by
  unfold Kp
  refine Ki.of rfl rfl rfl (fun q C hret hcs => ?_)
  refine x_iload_n C dX4_hasNumbers_0 rfl ?_
  refine x_if_lt (tgt := 30) C dX4_hasNumbers_1 (by decide) (fun c1 => ?_) (fun c1 => ?_)
  · skip
    refine x_iconst (v := 0) C dX4_hasNumbers_30 (by decide) ?_
    refine hret _ _ _ _ dX4_hasNumbers_31 rfl ⟨Or.inr ⟨rfl, ?_⟩, rfl⟩
    clear hret hcs C; grind
  · skip
    refine x_iload_n C dX4_hasNumbers_4 rfl ?_
    refine x_if_lt (tgt := 30) C dX4_hasNumbers_5 (by decide) (fun c5 => ?_) (fun c5 => ?_)
    · skip
      refine x_iconst (v := 0) C dX4_hasNumbers_30 (by decide) ?_
      refine hret _ _ _ _ dX4_hasNumbers_31 rfl ⟨Or.inr ⟨rfl, ?_⟩, rfl⟩
      clear hret hcs C; grind
    · skip
      refine x_iload_n C dX4_hasNumbers_8 rfl ?_
      refine x_aload_n C dX4_hasNumbers_9 rfl ?_
      refine x_getf (k := 29 + 2 * s) C bk_X4 (C.lt' (by omega)) rfl (ent_SO hs) 2 fw_X4_26 rfl rfl dX4_hasNumbers_10 ?_
      refine x_icmp_gt (tgt := 30) C dX4_hasNumbers_13 (by decide) (fun c13 => ?_) (fun c13 => ?_)
      · skip
        refine x_iconst (v := 0) C dX4_hasNumbers_30 (by decide) ?_
        refine hret _ _ _ _ dX4_hasNumbers_31 rfl ⟨Or.inr ⟨rfl, ?_⟩, rfl⟩
        clear hret hcs C; grind
      · skip
        refine x_iload_n C dX4_hasNumbers_16 rfl ?_
        refine x_aload_n C dX4_hasNumbers_17 rfl ?_
        refine x_getf (k := 29 + 2 * s) C bk_X4 (C.lt' (by omega)) rfl (ent_SO hs) 2 fw_X4_26 rfl rfl dX4_hasNumbers_18 ?_
        refine x_iload_n C dX4_hasNumbers_21 rfl ?_
        refine x_isub C dX4_hasNumbers_22 ?_
        refine x_icmp_gt (tgt := 30) C dX4_hasNumbers_23 (by decide) (fun c23 => ?_) (fun c23 => ?_)
        · skip
          refine x_iconst (v := 0) C dX4_hasNumbers_30 (by decide) ?_
          refine hret _ _ _ _ dX4_hasNumbers_31 rfl ⟨Or.inr ⟨rfl, ?_⟩, rfl⟩
          clear hret hcs C; grind
        · skip
          refine x_iconst (v := 1) C dX4_hasNumbers_26 (by decide) ?_
          refine x_goto (tgt := 31) C dX4_hasNumbers_27 (by decide) ?_
          refine hret _ _ _ _ dX4_hasNumbers_31 rfl ⟨Or.inl ⟨rfl, ?_⟩, rfl⟩
          clear hret hcs C; grind

def rm_X4_at : Room := { frames := 0, cells := 0, slots := 0, locals := 0 }
set_option maxRecDepth 100000 in
set_option maxHeartbeats 4000000 in
theorem c_X4_at (l : Launch) (g : Gp) {s : Nat} (hs : s < 4) (M : Mem) {x : Int32} {i : Nat} (hx : x = nI i) (hi : i < 40) : Kp l g yX4_at cX4_at 2 .int rm_X4_at [.ref (gad g (29 + 2 * s)), .int (x)] M (fun r => r = M (29 + 2 * s + 1) i) := by
  unfold Kp
  refine Ki.of rfl rfl rfl (fun q C hret hcs => ?_)
  refine x_iload_n C dX4_at_0 rfl ?_
  refine x_if_lt (tgt := 22) C dX4_at_1 (by decide) (fun c1 => ?_) (fun c1 => ?_)
  · skip
    exact absurd c1 (by rw [hx]; exact nI_pos (by omega))
  · skip
    refine x_iload_n C dX4_at_4 rfl ?_
    refine x_aload_n C dX4_at_5 rfl ?_
    refine x_getf (k := 29 + 2 * s) C bk_X4 (C.lt' (by omega)) rfl (ent_SO hs) 0 fw_X4_9 rfl rfl dX4_at_6 ?_
    refine x_alenI (k := 29 + 2 * s + 1) (v := 40) C (C.lt' (by omega)) rfl (ent_SN hs) rfl dX4_at_9 ?_
    refine x_icmp_ge (tgt := 22) C dX4_at_10 (by decide) (fun c10 => ?_) (fun c10 => ?_)
    · skip
      exact absurd c10 (by rw [hx]; exact nI_ge hi (by decide))
    · skip
      refine x_aload_n C dX4_at_13 rfl ?_
      refine x_getf (k := 29 + 2 * s) C bk_X4 (C.lt' (by omega)) rfl (ent_SO hs) 0 fw_X4_9 rfl rfl dX4_at_14 ?_
      refine x_iload_n C dX4_at_17 rfl ?_
      refine x_iald (j := i) (k := 29 + 2 * s + 1) C (C.lt' (by omega)) rfl (ent_SN hs) (hx) (hi) rfl dX4_at_18 ?_
      refine x_goto (tgt := 23) C dX4_at_19 (by decide) ?_
      refine hret _ _ _ _ dX4_at_23 rfl ⟨?_, rfl⟩
      rfl

def rm_X4_put : Room := { frames := 0, cells := 0, slots := 0, locals := 0 }
set_option maxRecDepth 100000 in
set_option maxHeartbeats 4000000 in
theorem c_X4_put (l : Launch) (g : Gp) {s : Nat} (hs : s < 4) (M : Mem) {x : Int32} {i : Nat} (hx : x = nI i) (hi : i < 40) (v : Int32) : Kv l g yX4_put cX4_put 3 rm_X4_put [.ref (gad g (29 + 2 * s)), .int (x), .int (v)] M (fun M' => M' = up M (29 + 2 * s + 1) i (bitsV (M (29 + 2 * s) 1) v)) := by
  refine Kv.of rfl rfl rfl (fun q C hret hcs => ?_)
  refine x_iload_n C dX4_put_0 rfl ?_
  refine x_if_lt (tgt := 13) C dX4_put_1 (by decide) (fun c1 => ?_) (fun c1 => ?_)
  · skip
    exact absurd c1 (by rw [hx]; exact nI_pos (by omega))
  · skip
    refine x_iload_n C dX4_put_4 rfl ?_
    refine x_aload_n C dX4_put_5 rfl ?_
    refine x_getf (k := 29 + 2 * s) C bk_X4 (C.lt' (by omega)) rfl (ent_SO hs) 0 fw_X4_9 rfl rfl dX4_put_6 ?_
    refine x_alenI (k := 29 + 2 * s + 1) (v := 40) C (C.lt' (by omega)) rfl (ent_SN hs) rfl dX4_put_9 ?_
    refine x_icmp_lt (tgt := 14) C dX4_put_10 (by decide) (fun c10 => ?_) (fun c10 => ?_)
    · skip
      refine x_aload_n C dX4_put_14 rfl ?_
      refine x_getf (k := 29 + 2 * s) C bk_X4 (C.lt' (by omega)) rfl (ent_SO hs) 1 fw_X4_13 rfl rfl dX4_put_15 ?_
      refine x_bipush (v := 8) C dX4_put_18 (by decide) ?_
      refine x_icmp_ne (tgt := 34) C dX4_put_20 (by decide) (fun c20 => ?_) (fun c20 => ?_)
      · skip
        refine x_aload_n C dX4_put_34 rfl ?_
        refine x_getf (k := 29 + 2 * s) C bk_X4 (C.lt' (by omega)) rfl (ent_SO hs) 1 fw_X4_13 rfl rfl dX4_put_35 ?_
        refine x_bipush (v := 16) C dX4_put_38 (by decide) ?_
        refine x_icmp_ne (tgt := 54) C dX4_put_40 (by decide) (fun c40 => ?_) (fun c40 => ?_)
        · skip
          refine x_aload_n C dX4_put_54 rfl ?_
          refine x_getf (k := 29 + 2 * s) C bk_X4 (C.lt' (by omega)) rfl (ent_SO hs) 0 fw_X4_9 rfl rfl dX4_put_55 ?_
          refine x_iload_n C dX4_put_58 rfl ?_
          refine x_iload_n C dX4_put_59 rfl ?_
          refine x_iast (j := i) (k := 29 + 2 * s + 1) C (C.lt' (by omega)) rfl (ent_SN hs) (hx) (hi) rfl dX4_put_60 ?_
          refine x_memI (fun M1 eM1 => ?_)
          refine hret _ _ _ dX4_put_61 ?_
          rw [eM1]; unfold bitsV
          first | (rw [if_pos c20]; done) | (rw [if_neg c20, if_pos c40]; done) | (rw [if_neg c20, if_neg c40]; done)
        · skip
          refine x_aload_n C dX4_put_43 rfl ?_
          refine x_getf (k := 29 + 2 * s) C bk_X4 (C.lt' (by omega)) rfl (ent_SO hs) 0 fw_X4_9 rfl rfl dX4_put_44 ?_
          refine x_iload_n C dX4_put_47 rfl ?_
          refine x_iload_n C dX4_put_48 rfl ?_
          refine x_i2s C dX4_put_49 rfl ?_
          refine x_iast (j := i) (k := 29 + 2 * s + 1) C (C.lt' (by omega)) rfl (ent_SN hs) (hx) (hi) rfl dX4_put_50 ?_
          refine x_memI (fun M1 eM1 => ?_)
          refine x_goto (tgt := 61) C dX4_put_51 (by decide) ?_
          refine hret _ _ _ dX4_put_61 ?_
          rw [eM1]; unfold bitsV
          first | (rw [if_pos c20]; done) | (rw [if_neg c20, if_pos c40]; done) | (rw [if_neg c20, if_neg c40]; done)
      · skip
        refine x_aload_n C dX4_put_23 rfl ?_
        refine x_getf (k := 29 + 2 * s) C bk_X4 (C.lt' (by omega)) rfl (ent_SO hs) 0 fw_X4_9 rfl rfl dX4_put_24 ?_
        refine x_iload_n C dX4_put_27 rfl ?_
        refine x_iload_n C dX4_put_28 rfl ?_
        refine x_i2b C dX4_put_29 rfl ?_
        refine x_iast (j := i) (k := 29 + 2 * s + 1) C (C.lt' (by omega)) rfl (ent_SN hs) (hx) (hi) rfl dX4_put_30 ?_
        refine x_memI (fun M1 eM1 => ?_)
        refine x_goto (tgt := 61) C dX4_put_31 (by decide) ?_
        refine hret _ _ _ dX4_put_61 ?_
        rw [eM1]; unfold bitsV
        first | (rw [if_pos c20]; done) | (rw [if_neg c20, if_pos c40]; done) | (rw [if_neg c20, if_neg c40]; done)
    · skip
      exact absurd (by rw [hx]; exact nI_lt hi (by decide)) c10

def rm_X6_append : Room := { frames := 0, cells := 0, slots := 0, locals := 0 }
set_option maxRecDepth 100000 in
set_option maxHeartbeats 4000000 in
theorem c_X6_append (l : Launch) (g : Gp) (M : Mem) (b : Int32) {L : Nat} (hL : M 37 1 = nI L) (h : L < 120) : Kv l g yX6_append cX6_append 2 rm_X6_append [.ref (gad g (37)), .int (b)] M (fun M' => M' = up (up M 38 L (b &&& 255)) 37 1 (nI (L + 1))) := by
  refine Kv.of rfl rfl rfl (fun q C hret hcs => ?_)
  refine x_aload_n C dX6_append_0 rfl ?_
  refine x_getf (k := 37) C bk_X6 (C.lt rfl) rfl ent_37 1 fw_X6_13 rfl rfl dX6_append_1 ?_
  refine x_if_lt (tgt := 40) C dX6_append_4 (by decide) (fun c4 => ?_) (fun c4 => ?_)
  · skip
    exact absurd c4 (by rw [hL]; exact nI_pos (by omega))
  · skip
    refine x_aload_n C dX6_append_7 rfl ?_
    refine x_getf (k := 37) C bk_X6 (C.lt rfl) rfl ent_37 1 fw_X6_13 rfl rfl dX6_append_8 ?_
    refine x_bipush (v := 120) C dX6_append_11 (by decide) ?_
    refine x_icmp_ge (tgt := 40) C dX6_append_13 (by decide) (fun c13 => ?_) (fun c13 => ?_)
    · skip
      exact absurd c13 (by rw [hL]; exact nI_ge h (by decide))
    · skip
      refine x_aload_n C dX6_append_16 rfl ?_
      refine x_getf (k := 37) C bk_X6 (C.lt rfl) rfl ent_37 0 fw_X6_9 rfl rfl dX6_append_17 ?_
      refine x_aload_n C dX6_append_20 rfl ?_
      refine x_getf (k := 37) C bk_X6 (C.lt rfl) rfl ent_37 1 fw_X6_13 rfl rfl dX6_append_21 ?_
      refine x_iload_n C dX6_append_24 rfl ?_
      refine x_sipush (v := 255) C dX6_append_25 (by decide) ?_
      refine x_iand C dX6_append_28 ?_
      refine x_iast (j := L) (k := 38) C (C.lt rfl) rfl ent_38 (hL) (h) rfl dX6_append_29 ?_
      refine x_memI (fun M1 eM1 => ?_)
      refine x_aload_n C dX6_append_30 rfl ?_
      refine x_dup C dX6_append_31 rfl ?_
      refine x_getf (k := 37) C bk_X6 (C.lt rfl) rfl ent_37 1 fw_X6_13 rfl rfl dX6_append_32 ?_
      refine x_iconst (v := 1) C dX6_append_35 (by decide) ?_
      refine x_iadd C dX6_append_36 ?_
      refine x_topE (y := nI (L + 1)) (by rw [eM1, up_n (by decide), hL]; exact nI_add L 1) ?_
      refine x_putf (k := 37) C bk_X6 (C.lt rfl) rfl ent_37 1 fw_X6_13 rfl (fun _ => rfl) rfl rfl rfl rfl dX6_append_37 ?_
      refine x_memI (fun M2 eM2 => ?_)
      refine hret _ _ _ dX6_append_40 ?_
      rw [eM2, eM1]

def rm_X2_isUnder : Room := { frames := 0, cells := 0, slots := 0, locals := 0 }
set_option maxRecDepth 100000 in
set_option maxHeartbeats 4000000 in
theorem c_X2_isUnder (l : Launch) (g : Gp) (M : Mem) {k w : Int32} {a b : Nat} (hk : k = nI a) (ha : a < 7) (hw : w = nI b) (hb : b < 7) : Kp l g yX2_isUnder cX2_isUnder 4 .boolean rm_X2_isUnder [.int (k), .int (w)] M (bv (undB k w)) := by
  unfold Kp
  refine Ki.of rfl rfl rfl (fun q C hret hcs => ?_)
  refine x_iload_n C dX2_isUnder_0 rfl ?_
  refine x_istore_n C dX2_isUnder_1 rfl ?_
  refine x_iconst (v := 0) C dX2_isUnder_2 (by decide) ?_
  refine x_istore_n C dX2_isUnder_3 rfl ?_
  refine up_to 7 (P := fun i => (∀ j, j < i → ¬ uppN k j < 0 ∧ ¬ uppN k j = w) → X (kmk l rm_X2_isUnder g 4 q) M 4 [some (.int (k)), some (.int (w)), some (.int (uppN k i)), some (.int (nI i))] []) (fun i hi ih hst => ?_) 0 (by omega) (fun j hj => absurd hj (by omega))
  refine x_iload_n C dX2_isUnder_4 rfl ?_
  refine x_bipush (v := 7) C dX2_isUnder_5 (by decide) ?_
  refine x_icmp_ge (tgt := 41) C dX2_isUnder_7 (by decide) (fun c7 => ?_) (fun c7 => ?_)
  · skip
    have hlt := lp_ge (N := 7) (by decide) hi c7
    refine x_iconst (v := 0) C dX2_isUnder_41 (by decide) ?_
    refine hret _ _ _ _ dX2_isUnder_42 rfl ⟨Or.inr ⟨rfl, ?_⟩, rfl⟩
    subst hk; subst hw; exact und_no ha hb hst (by first | exact Or.inl hlt | exact Or.inr c11)
  · skip
    have hlt := lp_lt (N := 7) (by decide) hi c7
    refine x_iload_n C dX2_isUnder_10 rfl ?_
    refine x_if_lt (tgt := 41) C dX2_isUnder_11 (by decide) (fun c11 => ?_) (fun c11 => ?_)
    · skip
      refine x_iconst (v := 0) C dX2_isUnder_41 (by decide) ?_
      refine hret _ _ _ _ dX2_isUnder_42 rfl ⟨Or.inr ⟨rfl, ?_⟩, rfl⟩
      subst hk; subst hw; exact und_no ha hb hst (by first | exact Or.inl hlt | exact Or.inr c11)
    · skip
      refine x_iload_n C dX2_isUnder_14 rfl ?_
      refine x_gets C (i := 6) (by decide) fw_X2_26 dX2_isUnder_15 ?_
      refine x_tabN (v := 7) C (i := 6) (by omega) rfl (rfl) dX2_isUnder_18 ?_
      refine x_icmp_ge (tgt := 41) C dX2_isUnder_19 (by decide) (fun c19 => ?_) (fun c19 => ?_)
      · skip
        exact absurd ((uppN_r a ha i (by omega)).resolve_left (by rw [← hk]; exact c11)) (by rw [← hk]; exact Int32.not_lt.mpr c19)
      · skip
        refine x_iload_n C dX2_isUnder_22 rfl ?_
        refine x_iload_n C dX2_isUnder_23 rfl ?_
        refine x_icmp_ne (tgt := 29) C dX2_isUnder_24 (by decide) (fun c24 => ?_) (fun c24 => ?_)
        · skip
          refine x_gets C (i := 6) (by decide) fw_X2_26 dX2_isUnder_29 ?_
          refine x_iload_n C dX2_isUnder_32 rfl ?_
          refine x_tab (j := (tn (uppN k i))) C (i := 6) (by decide) rfl (nI_tn c11) (tn_lt' (n := 7) c11 c19 (by decide)) dX2_isUnder_33 ?_
          refine x_topE (y := uppN k (i + 1)) (rfl) ?_
          refine x_istore_n C dX2_isUnder_34 rfl ?_
          refine x_iinc (v := nI (i + 1)) C dX2_isUnder_35 rfl (nI_1 i) rfl ?_
          refine x_goto (tgt := 4) C dX2_isUnder_38 (by decide) ?_
          exact ih hlt (fun j hj => by rcases Nat.lt_or_ge j i with z | z; exact hst j z; rw [show j = i by omega]; exact ⟨c11, c24⟩)
        · skip
          refine x_iconst (v := 1) C dX2_isUnder_27 (by decide) ?_
          refine hret _ _ _ _ dX2_isUnder_28 rfl ⟨Or.inl ⟨rfl, ?_⟩, rfl⟩
          subst hk; subst hw; exact und_yes ha hb hlt (fun j hj => (hst j hj).1) c24

def rm_X7_fits : Room := { frames := 3, cells := 0, slots := 0, locals := 71 }
set_option maxRecDepth 100000 in
set_option maxHeartbeats 4000000 in
theorem c_X7_fits (l : Launch) (g : Gp) {s : Nat} (hs : s < 4) (M : Mem) (oa : okA (aC M)) {x : Int32} {e : Nat} (hx : x = nI e) (he : e < 8) (ht : thr (vw M 1) e) (age : Int32) : Kp l g yX7_fits cX7_fits 7 .boolean rm_X7_fits [.ref (gad g (0)), .ref (gad g (29 + 2 * s)), .int (x), .int (age)] M (bv (fitP (aC M) s e age)) := by
  unfold Kp
  refine Ki.of rfl rfl rfl (fun q C hret hcs => ?_)
  have o : okRow (vw M 1) := oa.1
  have hk := okE_kind he o ht
  have hl := inB_tn (n := 40) (by decide) (okSh_C oa hs).1
  have hN : tn (aN (aC M) s) = tn (M (29 + 2 * s) 2) := by rw [aN_C hs]
  refine x_aload_n C dX7_fits_0 rfl ?_
  refine x_ifnonnull (tgt := 6) C dX7_fits_1 (by decide) ?_
  refine x_aload_n C dX7_fits_6 rfl ?_
  refine x_getf (k := 0) C bk_X7 (C.lt rfl) rfl ent_0 0 fw_X7_10 rfl rfl dX7_fits_7 ?_
  refine x_getf (k := 1) C bk_X1 (C.lt' (isH_lt (Or.inl rfl) 0 (by decide))) rfl (ent_H0 (Or.inl rfl)) 0 fw_X7_51 rfl rfl dX7_fits_10 ?_
  refine x_iload_n C dX7_fits_13 rfl ?_
  refine x_iconst (v := 0) C dX7_fits_14 (by decide) ?_
  refine x_cvE C (k := 1 + (0 + 1)) (c_X5_at l g (h := 1) (j := 0) (Or.inl rfl) (by decide) _ _ _ ) o_X5_at mw_X7_84 rfl (C.lt' (isH_lt (Or.inl rfl) (0 + 1) (by omega))) (rcv_HT (Or.inl rfl) 0 (by decide)) rfl rfl rfl hcs dX7_fits_15 ?_
  refine x_topE (y := eg (vw M 1) e 0) (tab_eg hx rfl he (by decide) ht) ?_
  refine x_istore C dX7_fits_18 rfl ?_
  refine x_iconst (v := 0) C dX7_fits_20 (by decide) ?_
  refine x_istore C dX7_fits_21 rfl ?_
  refine up_to (tn (M (29 + 2 * s) 2)) (P := fun i => (∀ n, n < i → aX (aC M) s n = -1 ∨ aX (aC M) s n = thenE (vw M 1) e (eg (vw M 1) e 0) age (nI n)) → X (kmk l rm_X7_fits g 7 q) M 23 [some (.ref (gad g (0))), some (.ref (gad g (29 + 2 * s))), some (.int (x)), some (.int (age)), some (.int (eg (vw M 1) e 0)), some (.int (nI i)), none] []) (fun i hi ih hst => ?_) 0 (Nat.zero_le _) (fun j hj => absurd hj (by omega))
  refine x_iload C dX7_fits_23 rfl ?_
  refine x_aload_n C dX7_fits_25 rfl ?_
  refine x_getf (k := 29 + 2 * s) C bk_X4 (C.lt' (by omega)) rfl (ent_SO hs) 2 fw_X7_215 rfl rfl dX7_fits_26 ?_
  refine x_icmp_ge (tgt := 72) C dX7_fits_29 (by decide) (fun c29 => ?_) (fun c29 => ?_)
  · skip
    have hlt := lp_ge (N := tn (M (29 + 2 * s) 2)) (by omega) hi (by rw [← hl.2]; exact c29)
    refine x_iconst (v := 1) C dX7_fits_72 (by decide) ?_
    refine hret _ _ _ _ dX7_fits_73 rfl ⟨Or.inl ⟨rfl, ?_⟩, rfl⟩
    exact fun n hn => hst n (by rw [hN] at hn; omega)
  · skip
    have hlt := lp_lt (N := tn (M (29 + 2 * s) 2)) (by omega) hi (by rw [← hl.2]; exact c29)
    refine x_aload_n C dX7_fits_32 rfl ?_
    refine x_iload C dX7_fits_33 rfl ?_
    refine x_cvE C (k := 29 + 2 * s) (c_X4_at l g (s := s) hs _ (i := i) rfl (by omega) ) o_X4_at mw_X7_218 rfl (C.lt' (by omega)) (rcv_S hs) rfl rfl rfl hcs dX7_fits_35 ?_
    refine x_topE (y := aX (aC M) s i) ((aX_C hs (by omega)).symm) ?_
    refine x_istore C dX7_fits_38 rfl ?_
    refine x_iload C dX7_fits_40 rfl ?_
    refine x_iconst (v := -1) C dX7_fits_42 (by decide) ?_
    refine x_icmp_eq (tgt := 66) C dX7_fits_43 (by decide) (fun c43 => ?_) (fun c43 => ?_)
    · skip
      refine x_iinc (v := nI (i + 1)) C dX7_fits_66 rfl (nI_1 i) rfl ?_
      refine x_goto (tgt := 23) C dX7_fits_69 (by decide) ?_
      refine X.le (ls' := [some (.ref (gad g (0))), some (.ref (gad g (29 + 2 * s))), some (.int (x)), some (.int (age)), some (.int (eg (vw M 1) e 0)), some (.int (nI (i + 1))), none]) (lle_s rfl (lle_s rfl (lle_s rfl (lle_s rfl (lle_s rfl (lle_s rfl (lle_n lle_e))))))) ?_
      exact ih hlt (fun j hj => by rcases Nat.lt_or_ge j i with z | z; exact hst j z; rw [show j = i by omega]; first | exact Or.inl c43 | exact Or.inr c61)
    · skip
      refine x_iload C dX7_fits_46 rfl ?_
      refine x_aload_n C dX7_fits_48 rfl ?_
      refine x_getf (k := 0) C bk_X7 (C.lt rfl) rfl ent_0 0 fw_X7_10 rfl rfl dX7_fits_49 ?_
      refine x_iload_n C dX7_fits_52 rfl ?_
      refine x_iload C dX7_fits_53 rfl ?_
      refine x_iload_n C dX7_fits_55 rfl ?_
      refine x_iload C dX7_fits_56 rfl ?_
      refine x_cvE C (k := 1) (c_X1_minutesBehind l g (h := 1) (Or.inl rfl) _ (e := e) hx he _ _ _ ht hk ) o_X1_minutesBehind mw_X7_154 rfl (C.lt' (isH_lt (Or.inl rfl) 0 (by decide))) (rcv_H (Or.inl rfl)) rfl rfl rfl hcs dX7_fits_58 ?_
      refine x_icmp_eq (tgt := 66) C dX7_fits_61 (by decide) (fun c61 => ?_) (fun c61 => ?_)
      · skip
        refine x_iinc (v := nI (i + 1)) C dX7_fits_66 rfl (nI_1 i) rfl ?_
        refine x_goto (tgt := 23) C dX7_fits_69 (by decide) ?_
        refine X.le (ls' := [some (.ref (gad g (0))), some (.ref (gad g (29 + 2 * s))), some (.int (x)), some (.int (age)), some (.int (eg (vw M 1) e 0)), some (.int (nI (i + 1))), none]) (lle_s rfl (lle_s rfl (lle_s rfl (lle_s rfl (lle_s rfl (lle_s rfl (lle_n lle_e))))))) ?_
        exact ih hlt (fun j hj => by rcases Nat.lt_or_ge j i with z | z; exact hst j z; rw [show j = i by omega]; first | exact Or.inl c43 | exact Or.inr c61)
      · skip
        refine x_iconst (v := 0) C dX7_fits_64 (by decide) ?_
        refine hret _ _ _ _ dX7_fits_65 rfl ⟨Or.inr ⟨rfl, ?_⟩, rfl⟩
        exact fun z => (z i (by rw [hN]; exact hlt)).elim c43 c61

def rm_X7_ages : Room := { frames := 4, cells := 0, slots := 0, locals := 97 }
set_option maxRecDepth 100000 in
set_option maxHeartbeats 4000000 in
theorem c_X7_ages (l : Launch) (g : Gp) (M : Mem) (oa : okA (aC M))  (x e : Int32) : Ki l g yX7_ages cX7_ages 6 .int rm_X7_ages [.ref (gad g (0)), .int (x), .int (e)] M (fun r M' => (r, aC M') = F_ages x e (aC M) ∧ sameC M M') := by
  refine Ki.of rfl rfl rfl (fun q C hret hcs => ?_)
  have o : okRow (vw M 1) := oa.1
  refine x_aload_n C dX7_ages_0 rfl ?_
  refine x_iload_n C dX7_ages_1 rfl ?_
  refine x_iload_n C dX7_ages_2 rfl ?_
  refine x_cvE C (k := 0) (c_X7_wrongTold l g _ _ _ ) o_X7_wrongTold mw_X7_201 rfl (C.lt rfl) rcv_0 rfl rfl rfl hcs dX7_ages_3 ?_
  refine x_topi (fun x3 ex3 => ?_)
  refine x_istore_n C dX7_ages_6 rfl ?_
  refine x_iload_n C dX7_ages_7 rfl ?_
  refine x_if_lt (tgt := 17) C dX7_ages_8 (by decide) (fun c8 => ?_) (fun c8 => ?_)
  · skip
    have qq := wrgT_lt (by rw [← ex3]; exact c8)
    obtain ⟨he, ex, ht⟩ := eggP_tn qq.2.2
    refine x_iconst (v := 0) C dX7_ages_17 (by decide) ?_
    refine x_istore C dX7_ages_18 rfl ?_
    refine x_iconst (v := 0) C dX7_ages_20 (by decide) ?_
    refine x_istore C dX7_ages_21 rfl ?_
    refine up_to 100 (P := fun i => X (kmk l rm_X7_ages g 6 q) M 23 [some (.ref (gad g (0))), some (.int (x)), some (.int (e)), some (.int (x3)), some (.int (nI (ageN (aC M) (tn x) (tn e) i))), some (.int (nI i))] []) (fun i hi ih => ?_) 0 (by omega)
    refine x_iload C dX7_ages_23 rfl ?_
    refine x_bipush (v := 99) C dX7_ages_25 (by decide) ?_
    refine x_icmp_gt (tgt := 54) C dX7_ages_27 (by decide) (fun c27 => ?_) (fun c27 => ?_)
    · skip
      have hlt := lp_ge (N := 100) (by decide) hi (by have := c27; clear hret hcs C ih; grind [nI])
      refine x_iload C dX7_ages_54 rfl ?_
      refine hret _ _ _ _ dX7_ages_56 rfl ?_
      subst hlt
      exact pu_C0 (ifp_t (by rw [← ex3]; exact c8))
    · skip
      have hlt := lp_lt (N := 100) (by decide) hi (by have := c27; clear hret hcs C ih; grind [nI])
      refine x_aload_n C dX7_ages_30 rfl ?_
      refine x_aload_n C dX7_ages_31 rfl ?_
      refine x_iload_n C dX7_ages_32 rfl ?_
      refine x_cvq C (k := 0) (c_X7_sheetAt l g _ _ ) o_X7_sheetAt mw_X7_204 rfl (C.lt rfl) rcv_0 rfl rfl rfl hcs dX7_ages_33 (fun r33 M1 hr33 => ?_)
      obtain ⟨rfl, hr33⟩ := hr33
      rcases hr33 with ⟨cr33, rfl⟩ | ⟨s, hs, es, cr33, rfl⟩
      · skip
        exact absurd qq.1 cr33
      · skip
        have ets : tn x = s := by rw [es]; exact tn_nI (by omega)
        refine x_iload_n C dX7_ages_36 rfl ?_
        refine x_iload C dX7_ages_37 rfl ?_
        refine x_cvB C (k := 0) (c_X7_fits l g (s := s) hs _ oa (e := (tn e)) ex he ht _ ) o_X7_fits mw_X7_208 rfl (C.lt rfl) rcv_0 rfl rfl rfl hcs dX7_ages_39 (fun c39 => ?_) (fun c39 => ?_)
        · skip
          refine x_if_eqF (tgt := 48) C dX7_ages_42 (by decide) (by decide) ?_
          refine x_iinc (v := nI (ageN (aC M) (tn x) (tn e) i + 1)) C dX7_ages_45 rfl (nI_1 _) rfl ?_
          refine x_iinc (v := nI (i + 1)) C dX7_ages_48 rfl (nI_1 i) rfl ?_
          refine x_goto (tgt := 23) C dX7_ages_51 (by decide) ?_
          have e1 : ageN (aC M) (tn x) (tn e) (i + 1) = ageN (aC M) (tn x) (tn e) i + 1 := by show _ + ifp _ _ _ = _; rw [ifp_t (by rw [ets]; exact c39)]
          rw [e1] at ih
          exact ih hlt
        · skip
          refine x_if_eqT (tgt := 48) C dX7_ages_42 (by decide) (by decide) ?_
          refine x_iinc (v := nI (i + 1)) C dX7_ages_48 rfl (nI_1 i) rfl ?_
          refine x_goto (tgt := 23) C dX7_ages_51 (by decide) ?_
          have e1 : ageN (aC M) (tn x) (tn e) (i + 1) = ageN (aC M) (tn x) (tn e) i := by show _ + ifp _ _ _ = _; rw [ifp_f (by rw [ets]; exact c39)]; rfl
          rw [e1] at ih
          exact ih hlt
  · skip
    have qq := wrgT_ge (by rw [← ex3]; exact Int32.not_lt.mpr (Int32.not_lt.mp c8))
    refine x_aload_n C dX7_ages_11 rfl ?_
    refine x_iload_n C dX7_ages_12 rfl ?_
    refine x_cvi C (k := 0) (c_X7_finding l g _ (k := (tn (wrgT (aC M) x e))) (ex3.trans qq.1) qq.2 ) o_X7_finding mw_X7_61 rfl (C.lt rfl) rcv_0 rfl rfl rfl hcs dX7_ages_13 (fun rf M2 hf => ?_)
    refine hret _ _ _ _ dX7_ages_16 rfl ?_
    exact fi_C (k := tn (wrgT (aC M) x e)) (ifp_f (by rw [← ex3]; exact c8)) hf (ex3.trans qq.1) qq.2 same.rf

def rm_X7_youngest : Room := { frames := 4, cells := 0, slots := 0, locals := 97 }
set_option maxRecDepth 100000 in
set_option maxHeartbeats 4000000 in
theorem c_X7_youngest (l : Launch) (g : Gp) (M : Mem) (oa : okA (aC M))  (x e : Int32) : Ki l g yX7_youngest cX7_youngest 5 .int rm_X7_youngest [.ref (gad g (0)), .int (x), .int (e)] M (fun r M' => (r, aC M') = F_youngest x e (aC M) ∧ sameC M M') := by
  refine Ki.of rfl rfl rfl (fun q C hret hcs => ?_)
  have o : okRow (vw M 1) := oa.1
  refine x_aload_n C dX7_youngest_0 rfl ?_
  refine x_iload_n C dX7_youngest_1 rfl ?_
  refine x_iload_n C dX7_youngest_2 rfl ?_
  refine x_cvE C (k := 0) (c_X7_wrongTold l g _ _ _ ) o_X7_wrongTold mw_X7_201 rfl (C.lt rfl) rcv_0 rfl rfl rfl hcs dX7_youngest_3 ?_
  refine x_topi (fun x3 ex3 => ?_)
  refine x_istore_n C dX7_youngest_6 rfl ?_
  refine x_iload_n C dX7_youngest_7 rfl ?_
  refine x_if_lt (tgt := 17) C dX7_youngest_8 (by decide) (fun c8 => ?_) (fun c8 => ?_)
  · skip
    have qq := wrgT_lt (by rw [← ex3]; exact c8)
    obtain ⟨he, ex, ht⟩ := eggP_tn qq.2.2
    refine x_iconst (v := 0) C dX7_youngest_17 (by decide) ?_
    refine x_istore C dX7_youngest_18 rfl ?_
    refine up_to 100 (P := fun i => (∀ j, j < i → ¬ fitP (aC M) (tn x) (tn e) (nI j)) → X (kmk l rm_X7_youngest g 5 q) M 20 [some (.ref (gad g (0))), some (.int (x)), some (.int (e)), some (.int (x3)), some (.int (nI i))] []) (fun i hi ih hst => ?_) 0 (by omega) (fun j hj => absurd hj (by omega))
    refine x_iload C dX7_youngest_20 rfl ?_
    refine x_bipush (v := 99) C dX7_youngest_22 (by decide) ?_
    refine x_icmp_gt (tgt := 51) C dX7_youngest_24 (by decide) (fun c24 => ?_) (fun c24 => ?_)
    · skip
      have hlt := lp_ge (N := 100) (by decide) hi (by have := c24; clear hret hcs C ih; grind [nI])
      refine x_aload_n C dX7_youngest_51 rfl ?_
      refine x_iconst (v := 3) C dX7_youngest_52 (by decide) ?_
      refine x_cvi C (k := 0) (c_X7_finding l g _ (k := 3) rfl (by decide) ) o_X7_finding mw_X7_61 rfl (C.lt rfl) rcv_0 rfl rfl rfl hcs dX7_youngest_53 (fun rg M1 hg => ?_)
      refine hret _ _ _ _ dX7_youngest_56 rfl ?_
      subst hlt
      have eF : fstN (fun i => ¬ fitP (aC M) (tn x) (tn e) (nI i)) 100 = 100 := fstN_all hst
      exact fi_C (k := 3) ((ifp_t (by rw [← ex3]; exact c8)).trans (ifp_f (show ¬ fstN (fun i => ¬ fitP (aC M) (tn x) (tn e) (nI i)) 100 < 100 by omega))) hg rfl (by decide) (same.rf)
    · skip
      have hlt := lp_lt (N := 100) (by decide) hi (by have := c24; clear hret hcs C ih; grind [nI])
      refine x_aload_n C dX7_youngest_27 rfl ?_
      refine x_aload_n C dX7_youngest_28 rfl ?_
      refine x_iload_n C dX7_youngest_29 rfl ?_
      refine x_cvq C (k := 0) (c_X7_sheetAt l g _ _ ) o_X7_sheetAt mw_X7_204 rfl (C.lt rfl) rcv_0 rfl rfl rfl hcs dX7_youngest_30 (fun r33 M2 hr33 => ?_)
      obtain ⟨rfl, hr33⟩ := hr33
      rcases hr33 with ⟨cr33, rfl⟩ | ⟨s, hs, es, cr33, rfl⟩
      · skip
        exact absurd qq.1 cr33
      · skip
        have ets : tn x = s := by rw [es]; exact tn_nI (by omega)
        refine x_iload_n C dX7_youngest_33 rfl ?_
        refine x_iload C dX7_youngest_34 rfl ?_
        refine x_cvB C (k := 0) (c_X7_fits l g (s := s) hs _ oa (e := (tn e)) ex he ht _ ) o_X7_fits mw_X7_208 rfl (C.lt rfl) rcv_0 rfl rfl rfl hcs dX7_youngest_36 (fun c36 => ?_) (fun c36 => ?_)
        · skip
          refine x_if_eqF (tgt := 45) C dX7_youngest_39 (by decide) (by decide) ?_
          refine x_iload C dX7_youngest_42 rfl ?_
          refine hret _ _ _ _ dX7_youngest_44 rfl ?_
          have eF : fstN (fun i => ¬ fitP (aC M) (tn x) (tn e) (nI i)) 100 = i := fstN_hit hst (fun z => z (by rw [ets]; exact c36)) hlt
          exact pu_C0 ((ifp_t (by rw [← ex3]; exact c8)).trans ((ifp_t (show fstN (fun i => ¬ fitP (aC M) (tn x) (tn e) (nI i)) 100 < 100 by omega)).trans (congrArg (fun z => (nI z, aC M)) eF)))
        · skip
          refine x_if_eqT (tgt := 45) C dX7_youngest_39 (by decide) (by decide) ?_
          refine x_iinc (v := nI (i + 1)) C dX7_youngest_45 rfl (nI_1 i) rfl ?_
          refine x_goto (tgt := 20) C dX7_youngest_48 (by decide) ?_
          exact ih hlt (fun j hj => by rcases Nat.lt_or_ge j i with z | z; exact hst j z; rw [show j = i by omega]; exact (by rw [ets]; exact c36))
  · skip
    have qq := wrgT_ge (by rw [← ex3]; exact Int32.not_lt.mpr (Int32.not_lt.mp c8))
    refine x_aload_n C dX7_youngest_11 rfl ?_
    refine x_iload_n C dX7_youngest_12 rfl ?_
    refine x_cvi C (k := 0) (c_X7_finding l g _ (k := (tn (wrgT (aC M) x e))) (ex3.trans qq.1) qq.2 ) o_X7_finding mw_X7_61 rfl (C.lt rfl) rcv_0 rfl rfl rfl hcs dX7_youngest_13 (fun rf M3 hf => ?_)
    refine hret _ _ _ _ dX7_youngest_16 rfl ?_
    exact fi_C (k := tn (wrgT (aC M) x e)) (ifp_f (by rw [← ex3]; exact c8)) hf (ex3.trans qq.1) qq.2 same.rf

def rm_X7_foxes : Room := { frames := 5, cells := 0, slots := 0, locals := 111 }
set_option maxRecDepth 100000 in
set_option maxHeartbeats 4000000 in
theorem c_X7_foxes (l : Launch) (g : Gp) (M : Mem) (oa : okA (aC M))  (n : Int32) : Ki l g yX7_foxes cX7_foxes 4 .int rm_X7_foxes [.ref (gad g (0)), .int (n)] M (fun r M' => (r, aC M') = F_foxes n (aC M) ∧ sameC M M') := by
  refine Ki.of rfl rfl rfl (fun q C hret hcs => ?_)
  have o : okRow (vw M 1) := oa.1
  refine x_iload_n C dX7_foxes_0 rfl ?_
  refine x_iconst (v := 1) C dX7_foxes_1 (by decide) ?_
  refine x_bipush (v := 20) C dX7_foxes_2 (by decide) ?_
  refine x_csB C (c_X7_within l g _ _ _ _ ) o_X7_within mw_X7_77 rfl rfl rfl rfl hcs dX7_foxes_4 (fun c4 => ?_) (fun c4 => ?_)
  · skip
    have qn := inB_tn (n := 20) (by decide) (show inB n 0 20 from ⟨by have := c4.1; clear hret hcs C; grind, c4.2⟩)
    refine x_if_neT (tgt := 16) C dX7_foxes_7 (by decide) (by decide) ?_
    refine x_aload_n C dX7_foxes_16 rfl ?_
    refine x_getf (k := 0) C bk_X7 (C.lt rfl) rfl ent_0 0 fw_X7_10 rfl rfl dX7_foxes_17 ?_
    refine x_getf (k := 1) C bk_X1 (C.lt' (isH_lt (Or.inl rfl) 0 (by decide))) rfl (ent_H0 (Or.inl rfl)) 4 fw_X7_122 rfl rfl dX7_foxes_20 ?_
    refine x_iload_n C dX7_foxes_23 rfl ?_
    refine x_iadd C dX7_foxes_24 ?_
    refine x_ldc C kw_X7_126 dX7_foxes_25 ?_
    refine x_icmp_le (tgt := 36) C dX7_foxes_27 (by decide) (fun c27 => ?_) (fun c27 => ?_)
    · skip
      refine x_iconst (v := 0) C dX7_foxes_36 (by decide) ?_
      refine x_istore_n C dX7_foxes_37 rfl ?_
      refine x_iconst (v := 0) C dX7_foxes_38 (by decide) ?_
      refine x_istore_n C dX7_foxes_39 rfl ?_
      refine up_to (tn n) (P := fun i => ∀ M1 : Mem, vw M1 1 = foxsS (vw M 1) i → same (HOU ++ SCR) M M1 → X (kmk l rm_X7_foxes g 4 q) M1 40 [some (.ref (gad g (0))), some (.int (n)), some (.int (nI (foxsC (vw M 1) i))), some (.int (nI i))] []) (fun i hi ih M1 hv hs => ?_) 0 (Nat.zero_le _) M rfl same.rf
      have o1 : okRow (vw M1 1) := by rw [hv]; exact okRow_foxs o i
      refine x_iload_n C dX7_foxes_40 rfl ?_
      refine x_iload_n C dX7_foxes_41 rfl ?_
      refine x_icmp_ge (tgt := 70) C dX7_foxes_42 (by decide) (fun c42 => ?_) (fun c42 => ?_)
      · skip
        have hlt := lp_ge (N := tn n) (by omega) hi (by rw [← qn.2]; exact c42)
        refine x_iload_n C dX7_foxes_70 rfl ?_
        refine hret _ _ _ _ dX7_foxes_71 rfl ?_
        subst hlt; exact st_C ((ifp_t c4).trans (ifp_f (Int32.not_lt.mpr c27))) hv hs
      · skip
        have hlt := lp_lt (N := tn n) (by omega) hi (by rw [← qn.2]; exact c42)
        refine x_iload_n C dX7_foxes_45 rfl ?_
        refine x_aload_n C dX7_foxes_46 rfl ?_
        refine x_getf (k := 0) C bk_X7 (C.lt rfl) rfl ent_0 0 fw_X7_10 rfl rfl dX7_foxes_47 ?_
        refine x_cvi C (k := 1) (c_X1_foxComes l g (h := 1) (Or.inl rfl) _ o1 ) o_X1_foxComes mw_X7_220 rfl (C.lt' (isH_lt (Or.inl rfl) 0 (by decide))) (rcv_H (Or.inl rfl)) rfl rfl rfl hcs dX7_foxes_50 (fun r2 M2 h2 => ?_)
        refine x_iadd C dX7_foxes_53 ?_
        refine x_topE (y := nI (foxsC (vw M 1) (i + 1))) (by rw [h2.1, nI_add, hv]; rfl) ?_
        refine x_istore_n C dX7_foxes_54 rfl ?_
        refine x_aload_n C dX7_foxes_55 rfl ?_
        refine x_getf (k := 0) C bk_X7 (C.lt rfl) rfl ent_0 0 fw_X7_10 rfl rfl dX7_foxes_56 ?_
        refine x_iconst (v := 1) C dX7_foxes_59 (by decide) ?_
        refine x_cvi C (k := 1) (c_X1_daysGoBy l g (h := 1) (Or.inl rfl) _ (N := 1) rfl (by decide) (by rw [h2.2.1]; exact okRow_fox o1) ) o_X1_daysGoBy mw_X7_127 rfl (C.lt' (isH_lt (Or.inl rfl) 0 (by decide))) (rcv_H (Or.inl rfl)) rfl rfl rfl hcs dX7_foxes_60 (fun r3 M3 h3 => ?_)
        refine x_pop C dX7_foxes_63 rfl ?_
        refine x_iinc (v := nI (i + 1)) C dX7_foxes_64 rfl (nI_1 i) rfl ?_
        refine x_goto (tgt := 40) C dX7_foxes_67 (by decide) ?_
        refine ih hlt M3 ?_ (hs.tr ((h2.2.2.mono (by simp [HOU])).tr (h3.2.2.mono (by simp [HOU]))))
        rw [h3.2.1, h2.2.1, hv]; rfl
    · skip
      refine x_aload_n C dX7_foxes_30 rfl ?_
      refine x_iconst (v := 4) C dX7_foxes_31 (by decide) ?_
      refine x_cvi C (k := 0) (c_X7_finding l g _ (k := 4) rfl (by decide) ) o_X7_finding mw_X7_61 rfl (C.lt rfl) rcv_0 rfl rfl rfl hcs dX7_foxes_32 (fun rg M1 hg => ?_)
      refine hret _ _ _ _ dX7_foxes_35 rfl ?_
      exact fi_C (k := 4) ((ifp_t c4).trans (ifp_t (Int32.not_le.mp c27))) hg rfl (by decide) same.rf
  · skip
    refine x_if_neF (tgt := 16) C dX7_foxes_7 (by decide) (by decide) ?_
    refine x_aload_n C dX7_foxes_10 rfl ?_
    refine x_iconst (v := 0) C dX7_foxes_11 (by decide) ?_
    refine x_cvi C (k := 0) (c_X7_finding l g _ (k := 0) rfl (by decide) ) o_X7_finding mw_X7_61 rfl (C.lt rfl) rcv_0 rfl rfl rfl hcs dX7_foxes_12 (fun rf M2 hf => ?_)
    refine hret _ _ _ _ dX7_foxes_15 rfl ?_
    exact fi_C (k := 0) (ifp_f c4) hf rfl (by decide) same.rf

def rm_X7_odds : Room := { frames := 1, cells := 0, slots := 0, locals := 22 }
set_option maxRecDepth 100000 in
set_option maxHeartbeats 4000000 in
theorem c_X7_odds (l : Launch) (g : Gp) (M : Mem) (oa : okA (aC M))  (n w : Int32) : Kl l g yX7_odds cX7_odds 6 rm_X7_odds [.ref (gad g (0)), .int (n), .int (w)] M (fun r M' => (r, aC M') = F_odds n w (aC M) ∧ sameC M M') := by
  refine Kl.of rfl rfl rfl (fun q C hret hcs => ?_)
  have o : okRow (vw M 1) := oa.1
  refine x_iload_n C dX7_odds_0 rfl ?_
  refine x_iconst (v := 0) C dX7_odds_1 (by decide) ?_
  refine x_bipush (v := 20) C dX7_odds_2 (by decide) ?_
  refine x_csB C (c_X7_within l g _ _ _ _ ) o_X7_within mw_X7_77 rfl rfl rfl rfl hcs dX7_odds_4 (fun c4 => ?_) (fun c4 => ?_)
  · skip
    have qn := inB_tn (n := 20) (by decide) c4
    refine x_if_eqF (tgt := 19) C dX7_odds_7 (by decide) (by decide) ?_
    refine x_iload_n C dX7_odds_10 rfl ?_
    refine x_iconst (v := 0) C dX7_odds_11 (by decide) ?_
    refine x_iconst (v := 1) C dX7_odds_12 (by decide) ?_
    refine x_csB C (c_X7_within l g _ _ _ _ ) o_X7_within mw_X7_77 rfl rfl rfl rfl hcs dX7_odds_13 (fun c13 => ?_) (fun c13 => ?_)
    · skip
      refine x_if_neT (tgt := 26) C dX7_odds_16 (by decide) (by decide) ?_
      refine x_lconst (v := 1) C dX7_odds_26 rfl ?_
      refine x_lstore_n C dX7_odds_27 rfl ?_
      refine x_iconst (v := 0) C dX7_odds_28 (by decide) ?_
      refine x_istore C dX7_odds_29 rfl ?_
      refine X.le (ls' := [some (.ref (gad g (0))), some (.int (n)), some (.int (w)), some (.long (powL (if w = 0 then 3 else 4) 0)), none, some (.int (nI 0))]) (lle_s rfl (lle_s rfl (lle_s rfl (lle_s rfl (lle_n (lle_s rfl lle_e)))))) ?_
      refine up_to (tn n) (P := fun i => X (kmk l rm_X7_odds g 6 q) M 31 [some (.ref (gad g (0))), some (.int (n)), some (.int (w)), some (.long (powL (if w = 0 then 3 else 4) i)), none, some (.int (nI i))] []) (fun i hi ih => ?_) 0 (Nat.zero_le _)
      refine x_iload C dX7_odds_31 rfl ?_
      refine x_iload_n C dX7_odds_33 rfl ?_
      refine x_icmp_ge (tgt := 59) C dX7_odds_34 (by decide) (fun c34 => ?_) (fun c34 => ?_)
      · skip
        have hlt := lp_ge (N := tn n) (by omega) hi (by rw [← qn.2]; exact c34)
        refine x_lload_n C dX7_odds_59 rfl ?_
        refine hret _ _ _ _ dX7_odds_60 ?_
        subst hlt
        refine ⟨?_, sameC.rf⟩
        rw [show F_odds n w (aC M) = _ from ifp_t ⟨c4, c13⟩]
        by_cases q0 : w = 0
        · rw [if_pos q0, if_pos q0]
        · rw [if_neg q0, if_neg q0]
      · skip
        have hlt := lp_lt (N := tn n) (by omega) hi (by rw [← qn.2]; exact c34)
        refine x_lload_n C dX7_odds_37 rfl ?_
        refine x_iload_n C dX7_odds_38 rfl ?_
        refine x_if_ne (tgt := 48) C dX7_odds_39 (by decide) (fun c39 => ?_) (fun c39 => ?_)
        · skip
          refine x_ldc2 C kw_X7_225 dX7_odds_48 ?_
          refine x_lmul C dX7_odds_51 ?_
          refine x_topl (fun y ey => ?_)
          refine x_lstore_n C dX7_odds_52 rfl ?_
          refine x_iinc (v := nI (i + 1)) C dX7_odds_53 rfl (nI_1 i) rfl ?_
          refine x_goto (tgt := 31) C dX7_odds_56 (by decide) ?_
          have e1 : y = powL (if w = 0 then 3 else 4) (i + 1) := by rw [ey]; show _ = _ * _; first | rw [if_pos c39] | rw [if_neg c39]
          rw [e1]
          exact ih hlt
        · skip
          refine x_ldc2 C kw_X7_223 dX7_odds_42 ?_
          refine x_goto (tgt := 51) C dX7_odds_45 (by decide) ?_
          refine x_lmul C dX7_odds_51 ?_
          refine x_topl (fun y ey => ?_)
          refine x_lstore_n C dX7_odds_52 rfl ?_
          refine x_iinc (v := nI (i + 1)) C dX7_odds_53 rfl (nI_1 i) rfl ?_
          refine x_goto (tgt := 31) C dX7_odds_56 (by decide) ?_
          have e1 : y = powL (if w = 0 then 3 else 4) (i + 1) := by rw [ey]; show _ = _ * _; first | rw [if_pos c39] | rw [if_neg c39]
          rw [e1]
          exact ih hlt
    · skip
      refine x_if_neF (tgt := 26) C dX7_odds_16 (by decide) (by decide) ?_
      refine x_aload_n C dX7_odds_19 rfl ?_
      refine x_iconst (v := 0) C dX7_odds_20 (by decide) ?_
      refine x_cvi C (k := 0) (c_X7_finding l g _ (k := 0) rfl (by decide) ) o_X7_finding mw_X7_61 rfl (C.lt rfl) rcv_0 rfl rfl rfl hcs dX7_odds_21 (fun rf M1 hf => ?_)
      refine x_i2l C dX7_odds_24 rfl ?_
      refine hret _ _ _ _ dX7_odds_25 ?_
      have q := fi_C (M := M) (k := 0) (P := noA (aC M) 0) rfl hf rfl (by decide) same.rf; refine ⟨?_, q.2⟩; rw [show F_odds n w (aC M) = ((noA (aC M) 0).1.toInt64, (noA (aC M) 0).2) from ifp_f (fun z => by first | exact c13 z.2 | exact c4 z.1), ← q.1]
  · skip
    refine x_if_eqT (tgt := 19) C dX7_odds_7 (by decide) (by decide) ?_
    refine x_aload_n C dX7_odds_19 rfl ?_
    refine x_iconst (v := 0) C dX7_odds_20 (by decide) ?_
    refine x_cvi C (k := 0) (c_X7_finding l g _ (k := 0) rfl (by decide) ) o_X7_finding mw_X7_61 rfl (C.lt rfl) rcv_0 rfl rfl rfl hcs dX7_odds_21 (fun rf M2 hf => ?_)
    refine x_i2l C dX7_odds_24 rfl ?_
    refine hret _ _ _ _ dX7_odds_25 ?_
    have q := fi_C (M := M) (k := 0) (P := noA (aC M) 0) rfl hf rfl (by decide) same.rf; refine ⟨?_, q.2⟩; rw [show F_odds n w (aC M) = ((noA (aC M) 0).1.toInt64, (noA (aC M) 0).2) from ifp_f (fun z => by first | exact c13 z.2 | exact c4 z.1), ← q.1]

def rm_X7_seed : Room := { frames := 0, cells := 0, slots := 0, locals := 0 }
set_option maxRecDepth 100000 in
set_option maxHeartbeats 4000000 in
theorem c_X7_seed (l : Launch) (g : Gp) (M : Mem) (oa : okA (aC M))  (v : Int32) : Ki l g yX7_seed cX7_seed 3 .int rm_X7_seed [.ref (gad g (0)), .int (v)] M (fun r M' => (r, aC M') = F_seed v (aC M) ∧ sameC M M') := by
  refine Ki.of rfl rfl rfl (fun q C hret hcs => ?_)
  have o : okRow (vw M 1) := oa.1
  refine x_aload_n C dX7_seed_0 rfl ?_
  refine x_getf (k := 0) C bk_X7 (C.lt rfl) rfl ent_0 0 fw_X7_10 rfl rfl dX7_seed_1 ?_
  refine x_getf (k := 1) C bk_X1 (C.lt' (isH_lt (Or.inl rfl) 0 (by decide))) rfl (ent_H0 (Or.inl rfl)) 6 fw_X7_227 rfl rfl dX7_seed_4 ?_
  refine x_istore_n C dX7_seed_7 rfl ?_
  refine x_aload_n C dX7_seed_8 rfl ?_
  refine x_getf (k := 0) C bk_X7 (C.lt rfl) rfl ent_0 0 fw_X7_10 rfl rfl dX7_seed_9 ?_
  refine x_iload_n C dX7_seed_12 rfl ?_
  refine x_putf (k := 1) C bk_X1 (C.lt' (isH_lt (Or.inl rfl) 0 (by decide))) rfl (ent_H0 (Or.inl rfl)) 6 fw_X7_227 rfl (fun _ => rfl) rfl rfl rfl rfl dX7_seed_13 ?_
  refine x_memI (fun M1 eM1 => ?_)
  refine x_iload_n C dX7_seed_16 rfl ?_
  refine hret _ _ _ _ dX7_seed_17 rfl ?_
  exact st_C rfl (by rw [eM1]; exact vw_d (by decide)) (by rw [eM1]; exact same.up (by simp [HOU]))

def rm_X7_wipe : Room := { frames := 0, cells := 0, slots := 0, locals := 0 }
set_option maxRecDepth 100000 in
set_option maxHeartbeats 4000000 in
theorem c_X7_wipe (l : Launch) (g : Gp) (M : Mem) (oa : okA (aC M))  : Ki l g yX7_wipe cX7_wipe 2 .int rm_X7_wipe [.ref (gad g (0))] M (fun r M' => (r, aC M') = F_wipe (aC M) ∧ sameC M M') := by
  refine Ki.of rfl rfl rfl (fun q C hret hcs => ?_)
  have o : okRow (vw M 1) := oa.1
  refine x_aload_n C dX7_wipe_0 rfl ?_
  refine x_getf (k := 0) C bk_X7 (C.lt rfl) rfl ent_0 5 fw_X7_39 rfl rfl dX7_wipe_1 ?_
  refine x_getf (k := 37) C bk_X6 (C.lt rfl) rfl ent_37 1 fw_X7_230 rfl rfl dX7_wipe_4 ?_
  refine x_istore_n C dX7_wipe_7 rfl ?_
  refine x_aload_n C dX7_wipe_8 rfl ?_
  refine x_getf (k := 0) C bk_X7 (C.lt rfl) rfl ent_0 5 fw_X7_39 rfl rfl dX7_wipe_9 ?_
  refine x_iconst (v := 0) C dX7_wipe_12 (by decide) ?_
  refine x_putf (k := 37) C bk_X6 (C.lt rfl) rfl ent_37 1 fw_X7_230 rfl (fun _ => rfl) rfl rfl rfl rfl dX7_wipe_13 ?_
  refine x_memI (fun M1 eM1 => ?_)
  refine x_iload_n C dX7_wipe_16 rfl ?_
  refine hret _ _ _ _ dX7_wipe_17 rfl ?_
  exact ta_C rfl (by rw [eM1, up_n (by decide)]; rfl) (by rw [eM1]; exact up_ss) (by rw [eM1]; exact same.up (by simp))

def rm_X7_hold : Room := { frames := 1, cells := 0, slots := 0, locals := 22 }
set_option maxRecDepth 100000 in
set_option maxHeartbeats 4000000 in
theorem c_X7_hold (l : Launch) (g : Gp) (M : Mem) (oa : okA (aC M))  (k e : Int32) : Ki l g yX7_hold cX7_hold 3 .int rm_X7_hold [.ref (gad g (0)), .int (k), .int (e)] M (fun r M' => (r, aC M') = F_hold k e (aC M) ∧ sameC M M') := by
  refine Ki.of rfl rfl rfl (fun q C hret hcs => ?_)
  have o : okRow (vw M 1) := oa.1
  refine x_iload_n C dX7_hold_0 rfl ?_
  refine x_iconst (v := 0) C dX7_hold_1 (by decide) ?_
  refine x_bipush (v := 9) C dX7_hold_2 (by decide) ?_
  refine x_csB C (c_X7_within l g _ _ _ _ ) o_X7_within mw_X7_77 rfl rfl rfl rfl hcs dX7_hold_4 (fun c4 => ?_) (fun c4 => ?_)
  · skip
    have qk := inB_tn (n := 9) (by decide) c4
    refine x_if_eqF (tgt := 20) C dX7_hold_7 (by decide) (by decide) ?_
    refine x_iload_n C dX7_hold_10 rfl ?_
    refine x_iconst (v := -1) C dX7_hold_11 (by decide) ?_
    refine x_bipush (v := 7) C dX7_hold_12 (by decide) ?_
    refine x_csB C (c_X7_within l g _ _ _ _ ) o_X7_within mw_X7_77 rfl rfl rfl rfl hcs dX7_hold_14 (fun c14 => ?_) (fun c14 => ?_)
    · skip
      refine x_if_neT (tgt := 26) C dX7_hold_17 (by decide) (by decide) ?_
      refine x_aload_n C dX7_hold_26 rfl ?_
      refine x_getf (k := 0) C bk_X7 (C.lt rfl) rfl ent_0 0 fw_X7_10 rfl rfl dX7_hold_27 ?_
      refine x_iload_n C dX7_hold_30 rfl ?_
      refine x_iload_n C dX7_hold_31 rfl ?_
      refine x_cvv C (k := 1) (c_X1_setSpot l g (h := 1) (Or.inl rfl) _ (k := (tn k)) qk.2 qk.1 ) o_X1_setSpot mw_X7_242 rfl (C.lt' (isH_lt (Or.inl rfl) 0 (by decide))) (rcv_H (Or.inl rfl)) rfl rfl rfl hcs dX7_hold_32 (fun M1 h1 => ?_)
      refine x_iconst (v := 1) C dX7_hold_35 (by decide) ?_
      refine hret _ _ _ _ dX7_hold_36 rfl ?_
      exact st_C (ifp_t ⟨c4, c14⟩) h1.1 (h1.2.mono (by simp [HOU]))
    · skip
      refine x_if_neF (tgt := 26) C dX7_hold_17 (by decide) (by decide) ?_
      refine x_aload_n C dX7_hold_20 rfl ?_
      refine x_iconst (v := 0) C dX7_hold_21 (by decide) ?_
      refine x_cvi C (k := 0) (c_X7_finding l g _ (k := 0) rfl (by decide) ) o_X7_finding mw_X7_61 rfl (C.lt rfl) rcv_0 rfl rfl rfl hcs dX7_hold_22 (fun rf M1 hf => ?_)
      refine hret _ _ _ _ dX7_hold_25 rfl ?_
      exact fi_C (k := 0) (ifp_f (fun z => by first | exact c14 z.2 | exact c4 z.1)) hf rfl (by decide) same.rf
  · skip
    refine x_if_eqT (tgt := 20) C dX7_hold_7 (by decide) (by decide) ?_
    refine x_aload_n C dX7_hold_20 rfl ?_
    refine x_iconst (v := 0) C dX7_hold_21 (by decide) ?_
    refine x_cvi C (k := 0) (c_X7_finding l g _ (k := 0) rfl (by decide) ) o_X7_finding mw_X7_61 rfl (C.lt rfl) rcv_0 rfl rfl rfl hcs dX7_hold_22 (fun rf M2 hf => ?_)
    refine hret _ _ _ _ dX7_hold_25 rfl ?_
    exact fi_C (k := 0) (ifp_f (fun z => by first | exact c14 z.2 | exact c4 z.1)) hf rfl (by decide) same.rf

def rm_X7_as : Room := { frames := 2, cells := 0, slots := 0, locals := 43 }
set_option maxRecDepth 100000 in
set_option maxHeartbeats 4000000 in
theorem c_X7_as (l : Launch) (g : Gp) (M : Mem) (oa : okA (aC M))  (k w : Int32) : Ki l g yX7_as cX7_as 4 .int rm_X7_as [.ref (gad g (0)), .int (k), .int (w)] M (fun r M' => (r, aC M') = F_as k w (aC M) ∧ sameC M M') := by
  refine Ki.of rfl rfl rfl (fun q C hret hcs => ?_)
  have o : okRow (vw M 1) := oa.1
  refine x_iload_n C dX7_as_0 rfl ?_
  refine x_iconst (v := 0) C dX7_as_1 (by decide) ?_
  refine x_bipush (v := 9) C dX7_as_2 (by decide) ?_
  refine x_csB C (c_X7_within l g _ _ _ _ ) o_X7_within mw_X7_77 rfl rfl rfl rfl hcs dX7_as_4 (fun c4 => ?_) (fun c4 => ?_)
  · skip
    have qk := inB_tn (n := 9) (by decide) c4
    refine x_if_eqF (tgt := 20) C dX7_as_7 (by decide) (by decide) ?_
    refine x_iload_n C dX7_as_10 rfl ?_
    refine x_iconst (v := 0) C dX7_as_11 (by decide) ?_
    refine x_bipush (v := 6) C dX7_as_12 (by decide) ?_
    refine x_csB C (c_X7_within l g _ _ _ _ ) o_X7_within mw_X7_77 rfl rfl rfl rfl hcs dX7_as_14 (fun c14 => ?_) (fun c14 => ?_)
    · skip
      have qw := inB_tn (n := 6) (by decide) c14
      refine x_if_neT (tgt := 26) C dX7_as_17 (by decide) (by decide) ?_
      refine x_aload_n C dX7_as_26 rfl ?_
      refine x_getf (k := 0) C bk_X7 (C.lt rfl) rfl ent_0 0 fw_X7_10 rfl rfl dX7_as_27 ?_
      refine x_iload_n C dX7_as_30 rfl ?_
      refine x_cvE C (k := 1) (c_X1_spotAt l g (h := 1) (Or.inl rfl) _ (k := (tn k)) qk.2 qk.1 ) o_X1_spotAt mw_X7_246 rfl (C.lt' (isH_lt (Or.inl rfl) 0 (by decide))) (rcv_H (Or.inl rfl)) rfl rfl rfl hcs dX7_as_31 ?_
      refine x_topE (y := vw M 1 (83 + tn k)) (rfl) ?_
      refine x_istore_n C dX7_as_34 rfl ?_
      refine x_aload_n C dX7_as_35 rfl ?_
      refine x_getf (k := 0) C bk_X7 (C.lt rfl) rfl ent_0 0 fw_X7_10 rfl rfl dX7_as_36 ?_
      refine x_iload_n C dX7_as_39 rfl ?_
      refine x_cvB C (k := 1) (c_X1_hasEgg l g (h := 1) (Or.inl rfl) _ _ ) o_X1_hasEgg mw_X7_73 rfl (C.lt' (isH_lt (Or.inl rfl) 0 (by decide))) (rcv_H (Or.inl rfl)) rfl rfl rfl hcs dX7_as_40 (fun c40 => ?_) (fun c40 => ?_)
      · skip
        obtain ⟨he, ex, ht⟩ := eggP_tn c40
        have qe := inB_tn (n := 6) (by decide) (okE_kind he o ht)
        refine x_if_neT (tgt := 52) C dX7_as_43 (by decide) (by decide) ?_
        refine x_aload_n C dX7_as_52 rfl ?_
        refine x_getf (k := 0) C bk_X7 (C.lt rfl) rfl ent_0 0 fw_X7_10 rfl rfl dX7_as_53 ?_
        refine x_getf (k := 1) C bk_X1 (C.lt' (isH_lt (Or.inl rfl) 0 (by decide))) rfl (ent_H0 (Or.inl rfl)) 0 fw_X7_51 rfl rfl dX7_as_56 ?_
        refine x_iload_n C dX7_as_59 rfl ?_
        refine x_iconst (v := 0) C dX7_as_60 (by decide) ?_
        refine x_cvE C (k := 1 + (0 + 1)) (c_X5_at l g (h := 1) (j := 0) (Or.inl rfl) (by decide) _ _ _ ) o_X5_at mw_X7_84 rfl (C.lt' (isH_lt (Or.inl rfl) (0 + 1) (by omega))) (rcv_HT (Or.inl rfl) 0 (by decide)) rfl rfl rfl hcs dX7_as_61 ?_
        refine x_topE (y := eg (vw M 1) (tn (vw M 1 (83 + tn k))) 0) (tab_eg ex rfl he (by decide) ht) ?_
        refine x_iload_n C dX7_as_64 rfl ?_
        refine x_csB C (c_X2_isUnder l g _ (a := (tn (eg (vw M 1) (tn (vw M 1 (83 + tn k))) 0))) (b := (tn w)) qe.2 qe.1 qw.2 qw.1 ) o_X2_isUnder mw_X7_249 rfl rfl rfl rfl hcs dX7_as_65 (fun c65 => ?_) (fun c65 => ?_)
        · skip
          refine x_if_eqF (tgt := 75) C dX7_as_68 (by decide) (by decide) ?_
          refine x_iload_n C dX7_as_71 rfl ?_
          refine x_goto (tgt := 80) C dX7_as_72 (by decide) ?_
          refine hret _ _ _ _ dX7_as_80 rfl ?_
          exact pu_C0 ((ifp_t ⟨c4, c14⟩).trans ((ifp_t c40).trans (ifp_t c65)))
        · skip
          refine x_if_eqT (tgt := 75) C dX7_as_68 (by decide) (by decide) ?_
          refine x_aload_n C dX7_as_75 rfl ?_
          refine x_iconst (v := 2) C dX7_as_76 (by decide) ?_
          refine x_cvi C (k := 0) (c_X7_finding l g _ (k := 2) rfl (by decide) ) o_X7_finding mw_X7_61 rfl (C.lt rfl) rcv_0 rfl rfl rfl hcs dX7_as_77 (fun ru M1 hu => ?_)
          refine hret _ _ _ _ dX7_as_80 rfl ?_
          exact fi_C (k := 2) ((ifp_t ⟨c4, c14⟩).trans ((ifp_t c40).trans (ifp_f c65))) hu rfl (by decide) same.rf
      · skip
        refine x_if_neF (tgt := 52) C dX7_as_43 (by decide) (by decide) ?_
        refine x_aload_n C dX7_as_46 rfl ?_
        refine x_iconst (v := 5) C dX7_as_47 (by decide) ?_
        refine x_cvi C (k := 0) (c_X7_finding l g _ (k := 5) rfl (by decide) ) o_X7_finding mw_X7_61 rfl (C.lt rfl) rcv_0 rfl rfl rfl hcs dX7_as_48 (fun rg M2 hg => ?_)
        refine hret _ _ _ _ dX7_as_51 rfl ?_
        exact fi_C (k := 5) ((ifp_t ⟨c4, c14⟩).trans (ifp_f c40)) hg rfl (by decide) same.rf
    · skip
      refine x_if_neF (tgt := 26) C dX7_as_17 (by decide) (by decide) ?_
      refine x_aload_n C dX7_as_20 rfl ?_
      refine x_iconst (v := 0) C dX7_as_21 (by decide) ?_
      refine x_cvi C (k := 0) (c_X7_finding l g _ (k := 0) rfl (by decide) ) o_X7_finding mw_X7_61 rfl (C.lt rfl) rcv_0 rfl rfl rfl hcs dX7_as_22 (fun rf M3 hf => ?_)
      refine hret _ _ _ _ dX7_as_25 rfl ?_
      exact fi_C (k := 0) (ifp_f (fun z => by first | exact c14 z.2 | exact c4 z.1)) hf rfl (by decide) same.rf
  · skip
    refine x_if_eqT (tgt := 20) C dX7_as_7 (by decide) (by decide) ?_
    refine x_aload_n C dX7_as_20 rfl ?_
    refine x_iconst (v := 0) C dX7_as_21 (by decide) ?_
    refine x_cvi C (k := 0) (c_X7_finding l g _ (k := 0) rfl (by decide) ) o_X7_finding mw_X7_61 rfl (C.lt rfl) rcv_0 rfl rfl rfl hcs dX7_as_22 (fun rf M4 hf => ?_)
    refine hret _ _ _ _ dX7_as_25 rfl ?_
    exact fi_C (k := 0) (ifp_f (fun z => by first | exact c14 z.2 | exact c4 z.1)) hf rfl (by decide) same.rf

theorem tapS_n {T : Row × Int32} {b : Int32} {L n : Nat} (hL : T.2 = nI L) : ∀ i, (tapS T b n i).2 = nI (L + i)
  | 0 => hL
  | i + 1 => by
    show (tapS T b n i).2 + 1 = _
    rw [tapS_n hL i]; exact nI_add _ 1
theorem i_down {n i : Nat} (h : i ≤ n) (hn : n < 2 ^ 31) : nI n - 1 - nI i = (if i < n then nI (n - 1 - i) else -1) := by
  by_cases q : i < n
  · rw [if_pos q]
    have e : nI n = nI (n - 1 - i) + 1 + nI i := by rw [show (1 : Int32) = nI 1 from rfl, nI_add, nI_add]; congr 1; omega
    rw [e]
    generalize nI (n - 1 - i) = a
    generalize nI i = b
    clear e
    grind
  · rw [if_neg q, show i = n by omega]
    generalize nI n = a
    grind
def rm_X7_feed : Room := { frames := 1, cells := 0, slots := 0, locals := 22 }
set_option maxRecDepth 100000 in
set_option maxHeartbeats 4000000 in
theorem c_X7_feed (l : Launch) (g : Gp) (M : Mem) (oa : okA (aC M))  (b n : Int32) : Ki l g yX7_feed cX7_feed 4 .int rm_X7_feed [.ref (gad g (0)), .int (b), .int (n)] M (fun r M' => (r, aC M') = F_feed b n (aC M) ∧ sameC M M') := by
  refine Ki.of rfl rfl rfl (fun q C hret hcs => ?_)
  have o : okRow (vw M 1) := oa.1
  refine x_iload_n C dX7_feed_0 rfl ?_
  refine x_iconst (v := 1) C dX7_feed_1 (by decide) ?_
  refine x_iconst (v := 4) C dX7_feed_2 (by decide) ?_
  refine x_csB C (c_X7_within l g _ _ _ _ ) o_X7_within mw_X7_77 rfl rfl rfl rfl hcs dX7_feed_3 (fun c3 => ?_) (fun c3 => ?_)
  · skip
    have qn := inB_tn (n := 4) (by decide) (show inB n 0 4 from ⟨by have := c3.1; clear hret hcs C; grind, c3.2⟩)
    have hn1 : 1 ≤ tn n := by have := c3.1; rw [qn.2] at this; rcases Nat.eq_zero_or_pos (tn n) with z | z; rw [z] at this; exact absurd this (by decide); exact z
    have qL := inB_tn (n := 120) (by decide) (okL_C oa)
    refine x_if_neT (tgt := 15) C dX7_feed_6 (by decide) (by decide) ?_
    refine x_aload_n C dX7_feed_15 rfl ?_
    refine x_getf (k := 0) C bk_X7 (C.lt rfl) rfl ent_0 5 fw_X7_39 rfl rfl dX7_feed_16 ?_
    refine x_getf (k := 37) C bk_X6 (C.lt rfl) rfl ent_37 1 fw_X7_230 rfl rfl dX7_feed_19 ?_
    refine x_iload_n C dX7_feed_22 rfl ?_
    refine x_iadd C dX7_feed_23 ?_
    refine x_bipush (v := 120) C dX7_feed_24 (by decide) ?_
    refine x_icmp_le (tgt := 35) C dX7_feed_26 (by decide) (fun c26 => ?_) (fun c26 => ?_)
    · skip
      have hLn : tn (M 37 1) + tn n ≤ 120 := by have := c26; rw [qL.2, qn.2, nI_add] at this; rcases Nat.lt_or_ge 120 (tn (M 37 1) + tn n) with z | z; exact absurd this (nI_ge z (by omega)); exact z
      generalize eT : (cut 120 (M 38), M 37 1) = T at *
      refine x_iload_n C dX7_feed_35 rfl ?_
      refine x_iconst (v := 1) C dX7_feed_36 (by decide) ?_
      refine x_isub C dX7_feed_37 ?_
      refine x_topE (y := nI (tn n) - 1 - nI 0) (by rw [← qn.2]; exact (Int32.sub_zero _).symm) ?_
      refine x_istore_n C dX7_feed_38 rfl ?_
      refine up_to (tn n) (P := fun i => ∀ M1 : Mem, cut 120 (M1 38) = (tapS T b (tn n) i).1 → M1 37 1 = nI (tn (M 37 1) + i) → same [37, 38] M M1 → X (kmk l rm_X7_feed g 4 q) M1 39 [some (.ref (gad g (0))), some (.int (b)), some (.int (n)), some (.int (nI (tn n) - 1 - nI i))] []) (fun i hi ih M1 hb1 hl1 hs => ?_) 0 (Nat.zero_le _) M (by rw [← eT]; rfl) qL.2 same.rf
      refine x_iload_n C dX7_feed_39 rfl ?_
      refine x_if_lt (tgt := 62) C dX7_feed_40 (by decide) (fun c40 => ?_) (fun c40 => ?_)
      · skip
        have hlt : i = tn n := by rw [i_down hi (by omega)] at c40; rcases Nat.lt_or_ge i (tn n) with z | z; rw [if_pos z] at c40; exact absurd c40 (nI_pos (by omega)); omega
        refine x_aload_n C dX7_feed_62 rfl ?_
        refine x_getf (k := 0) C bk_X7 (C.lt rfl) rfl ent_0 5 fw_X7_39 rfl rfl dX7_feed_63 ?_
        refine x_getf (k := 37) C bk_X6 (C.lt rfl) rfl ent_37 1 fw_X7_230 rfl rfl dX7_feed_66 ?_
        refine hret _ _ _ _ dX7_feed_69 rfl ?_
        subst hlt
        refine ta_C (T := tapS T b (tn n) (tn n)) ?_ hb1 (hl1.trans (tapS_n (by rw [← eT]; exact qL.2) _).symm) hs
        rw [show F_feed b n (aC M) = _ from (ifp_t c3).trans (ifp_f (Int32.not_lt.mpr c26)), show (aT (aC M), aL (aC M)) = T from eT, hl1, tapS_n (by rw [← eT]; exact qL.2)]
      · skip
        have hlt : i < tn n := by rw [i_down hi (by omega)] at c40; rcases Nat.lt_or_ge i (tn n) with z | z; exact z; rw [if_neg (by omega)] at c40; exact absurd (by decide) c40
        refine x_aload_n C dX7_feed_43 rfl ?_
        refine x_getf (k := 0) C bk_X7 (C.lt rfl) rfl ent_0 5 fw_X7_39 rfl rfl dX7_feed_44 ?_
        refine x_iload_n C dX7_feed_47 rfl ?_
        refine x_bipush (v := 8) C dX7_feed_48 (by decide) ?_
        refine x_iload_n C dX7_feed_50 rfl ?_
        refine x_imul C dX7_feed_51 ?_
        refine x_iushr C dX7_feed_52 rfl ?_
        refine x_topE (y := (b.toUInt32 >>> ((nI (8 * (tn n - 1 - i))).toUInt32 &&& Int32.toUInt32 31)).toInt32) (by rw [i_down hi (by omega), if_pos hlt, show (8 : Int32) = nI 8 from rfl, pk_mul]) ?_
        refine x_cvv C (k := 37) (c_X6_append l g _ _ (L := (tn (M 37 1) + i)) hl1 (by omega) ) o_X6_append mw_X7_231 rfl (C.lt rfl) rcv_37 rfl rfl rfl hcs dX7_feed_53 (fun M2 h2 => ?_)
        refine x_iinc (v := nI (tn n) - 1 - nI (i + 1)) C dX7_feed_56 rfl (by rw [← nI_1 i]; generalize nI (tn n) = p; generalize nI i = q; clear hret hcs C ih; grind) rfl ?_
        refine x_goto (tgt := 39) C dX7_feed_59 (by decide) ?_
        refine ih hlt M2 ?_ (by rw [h2]; exact up_ss) (hs.tr (by rw [h2]; exact (same.up (by simp)).tr (same.up (by simp))))
        rw [h2, up_n (by decide), up_s, cut_upd (by omega), hb1, byte_u (by omega)]
        show _ = upd (tapS T b (tn n) i).1 (tn (tapS T b (tn n) i).2) _
        rw [tapS_n (by rw [← eT]; exact qL.2) i, tn_nI (by omega)]
    · skip
      refine x_aload_n C dX7_feed_29 rfl ?_
      refine x_iconst (v := 1) C dX7_feed_30 (by decide) ?_
      refine x_cvi C (k := 0) (c_X7_finding l g _ (k := 1) rfl (by decide) ) o_X7_finding mw_X7_61 rfl (C.lt rfl) rcv_0 rfl rfl rfl hcs dX7_feed_31 (fun rg M1 hg => ?_)
      refine hret _ _ _ _ dX7_feed_34 rfl ?_
      exact fi_C (k := 1) ((ifp_t c3).trans (ifp_t (Int32.not_le.mp c26))) hg rfl (by decide) same.rf
  · skip
    refine x_if_neF (tgt := 15) C dX7_feed_6 (by decide) (by decide) ?_
    refine x_aload_n C dX7_feed_9 rfl ?_
    refine x_iconst (v := 0) C dX7_feed_10 (by decide) ?_
    refine x_cvi C (k := 0) (c_X7_finding l g _ (k := 0) rfl (by decide) ) o_X7_finding mw_X7_61 rfl (C.lt rfl) rcv_0 rfl rfl rfl hcs dX7_feed_11 (fun rf M2 hf => ?_)
    refine hret _ _ _ _ dX7_feed_14 rfl ?_
    exact fi_C (k := 0) (ifp_f c3) hf rfl (by decide) same.rf

