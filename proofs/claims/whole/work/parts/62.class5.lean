/-! ===== contracts: the class's best works ===== -/
def rm_X0_markOf : Room := { frames := 0, cells := 0, slots := 0, locals := 0 }
set_option maxRecDepth 100000 in
set_option maxHeartbeats 4000000 in
theorem c_X0_markOf (l : Launch) (g : Gp) (M : Mem) {x : Int32} {s : Nat} (hx : x = nI s) (hs : s < 256) : Kp l g yX0_markOf cX0_markOf 2 .int rm_X0_markOf [.ref (gad g (25)), .int (x)] M (fun r => r = M 27 s) := by
  unfold Kp
  refine Ki.of rfl rfl rfl (fun q C hret hcs => ?_)
  refine x_iload_n C dX0_markOf_0 rfl ?_
  refine x_if_lt (tgt := 20) C dX0_markOf_1 (by decide) (fun c1 => ?_) (fun c1 => ?_)
  · skip
    exact absurd c1 (by rw [hx]; exact nI_pos (by omega))
  · skip
    refine x_iload_n C dX0_markOf_4 rfl ?_
    refine x_sipush (v := 256) C dX0_markOf_5 (by decide) ?_
    refine x_icmp_ge (tgt := 20) C dX0_markOf_8 (by decide) (fun c8 => ?_) (fun c8 => ?_)
    · skip
      exact absurd c8 (by rw [hx]; exact nI_ge hs (by decide))
    · skip
      refine x_aload_n C dX0_markOf_11 rfl ?_
      refine x_getf (k := 25) C bk_X0 (C.lt rfl) rfl ent_25 1 fw_X0_15 rfl rfl dX0_markOf_12 ?_
      refine x_iload_n C dX0_markOf_15 rfl ?_
      refine x_iald (j := s) (k := 27) C (C.lt rfl) rfl ent_27 (hx) (hs) rfl dX0_markOf_16 ?_
      refine x_goto (tgt := 21) C dX0_markOf_17 (by decide) ?_
      refine hret _ _ _ _ dX0_markOf_21 rfl ⟨?_, rfl⟩
      rfl

def rm_X0_worthOf : Room := { frames := 0, cells := 0, slots := 0, locals := 0 }
set_option maxRecDepth 100000 in
set_option maxHeartbeats 4000000 in
theorem c_X0_worthOf (l : Launch) (g : Gp) (M : Mem) (x : Int32) : Kp l g yX0_worthOf cX0_worthOf 1 .int rm_X0_worthOf [.int (x)] M (fun r => r = (x + 64 - 1) / 64) := by
  unfold Kp
  refine Ki.of rfl rfl rfl (fun q C hret hcs => ?_)
  refine x_iload_n C dX0_worthOf_0 rfl ?_
  refine x_bipush (v := 64) C dX0_worthOf_1 (by decide) ?_
  refine x_iadd C dX0_worthOf_3 ?_
  refine x_iconst (v := 1) C dX0_worthOf_4 (by decide) ?_
  refine x_isub C dX0_worthOf_5 ?_
  refine x_bipush (v := 64) C dX0_worthOf_6 (by decide) ?_
  refine x_idiv C dX0_worthOf_8 (by decide) ?_
  refine hret _ _ _ _ dX0_worthOf_9 rfl ⟨?_, rfl⟩
  rfl

def rm_X0_worksOf : Room := { frames := 1, cells := 0, slots := 0, locals := 20 }
set_option maxRecDepth 100000 in
set_option maxHeartbeats 4000000 in
theorem c_X0_worksOf (l : Launch) (g : Gp) (M : Mem) (x : Int32) : Kp l g yX0_worksOf cX0_worksOf 1 .int rm_X0_worksOf [.int (x)] M (fun r => r = (x + 64 - 1) / 64 * 64 - x) := by
  unfold Kp
  refine Ki.of rfl rfl rfl (fun q C hret hcs => ?_)
  refine x_iload_n C dX0_worksOf_0 rfl ?_
  refine x_csE C (c_X0_worthOf l g _ _ ) o_X0_worthOf mw_X0_80 rfl rfl rfl rfl hcs dX0_worksOf_1 ?_
  refine x_bipush (v := 64) C dX0_worksOf_4 (by decide) ?_
  refine x_imul C dX0_worksOf_6 ?_
  refine x_iload_n C dX0_worksOf_7 rfl ?_
  refine x_isub C dX0_worksOf_8 ?_
  refine hret _ _ _ _ dX0_worksOf_9 rfl ⟨?_, rfl⟩
  rfl

def rm_X0_bestWithOneMore : Room := { frames := 1, cells := 0, slots := 0, locals := 21 }
set_option maxRecDepth 100000 in
set_option maxHeartbeats 4000000 in
theorem c_X0_bestWithOneMore (l : Launch) (g : Gp) (M : Mem) {S : Row} (hc : chO M S) {x : Int32} {E : Nat} (hx : x = nI E) (hE : E < 256) (y z : Int32) (hb : ∀ u, sbt u E → 0 ≤ (M 27 u).toInt ∧ (M 27 u).toInt ≤ 40000) (hz : 0 ≤ z.toInt ∧ z.toInt ≤ 6400) : Kp l g yX0_bestWithOneMore cX0_bestWithOneMore 6 .int rm_X0_bestWithOneMore [.ref (gad g (25)), .int (x), .int (y), .int (z)] M (fun r => ((r.toInt = (M 27 E).toInt ∨ ∃ u, 0 < u ∧ sbt u E ∧ y ≤ sumN S u 8 ∧ r.toInt = (M 27 (lft E u)).toInt + z.toInt) ∧ (M 27 E).toInt ≤ r.toInt ∧ ∀ u, 0 < u → sbt u E → y ≤ sumN S u 8 → (M 27 (lft E u)).toInt + z.toInt ≤ r.toInt)) := by
  unfold Kp
  refine Ki.of rfl rfl rfl (fun q C hret hcs => ?_)
  refine x_aload_n C dX0_bestWithOneMore_0 rfl ?_
  refine x_iload_n C dX0_bestWithOneMore_1 rfl ?_
  refine x_cvE C (k := 25) (c_X0_markOf l g _ (s := E) hx hE ) o_X0_markOf mw_X0_68 rfl (C.lt rfl) rcv_25 rfl rfl rfl hcs dX0_bestWithOneMore_2 ?_
  refine x_topE (y := M 27 E) (rfl) ?_
  refine x_istore C dX0_bestWithOneMore_5 rfl ?_
  refine x_iload_n C dX0_bestWithOneMore_7 rfl ?_
  refine x_istore C dX0_bestWithOneMore_8 rfl ?_
  have keyL := dn_to (P := fun p => ∀ b : Int32, ((b.toInt = (M 27 E).toInt ∨ ∃ u, 0 < u ∧ sbt u E ∧ y ≤ sumN S u 8 ∧ b.toInt = (M 27 (lft E u)).toInt + z.toInt) ∧ (M 27 E).toInt ≤ b.toInt ∧ ∀ u, p < u → sbt u E → y ≤ sumN S u 8 → (M 27 (lft E u)).toInt + z.toInt ≤ b.toInt) → sbt p E → X (kmk l rm_X0_bestWithOneMore g 6 q) M 10 [some (.ref (gad g (25))), some (.int (x)), some (.int (y)), some (.int (z)), some (.int (b)), some (.int (nI p))] []) (fun p ih b hi hp => ?_)
  · have := keyL E (M 27 E) ⟨Or.inl rfl, Int.le_refl _, fun u hu hs => absurd (sbt_le hs) (by omega)⟩ (fun i h => h)
    rw [← hx] at this
    exact this
  refine x_iload C dX0_bestWithOneMore_10 rfl ?_
  refine x_if_le (tgt := 53) C dX0_bestWithOneMore_12 (by decide) (fun c12 => ?_) (fun c12 => ?_)
  · skip
    have hp0 : p = 0 := by rcases Nat.eq_zero_or_pos p with q | q; exact q; exact absurd c12 (Int32.not_le.mpr ((nI_ltI (a := 0) (by decide) (by have := sbt_le hp; omega)).mpr q))
    refine x_iload C dX0_bestWithOneMore_53 rfl ?_
    refine hret _ _ _ _ dX0_bestWithOneMore_55 rfl ⟨?_, rfl⟩
    subst hp0; exact hi
  · skip
    have hp0 : 0 < p := by rcases Nat.eq_zero_or_pos p with q | q; exact absurd (by rw [q]; decide) c12; exact q
    have hp256 : p < 256 := by have := sbt_le hp; omega
    refine x_aload_n C dX0_bestWithOneMore_15 rfl ?_
    refine x_iload C dX0_bestWithOneMore_16 rfl ?_
    refine x_cvE C (k := 25) (c_X0_sumOf l g _ hc (s := p) rfl hp256 ) o_X0_sumOf mw_X0_36 rfl (C.lt rfl) rcv_25 rfl rfl rfl hcs dX0_bestWithOneMore_18 ?_
    refine x_iload_n C dX0_bestWithOneMore_21 rfl ?_
    refine x_icmp_lt (tgt := 42) C dX0_bestWithOneMore_22 (by decide) (fun c22 => ?_) (fun c22 => ?_)
    · skip
      refine x_iload C dX0_bestWithOneMore_42 rfl ?_
      refine x_iconst (v := 1) C dX0_bestWithOneMore_44 (by decide) ?_
      refine x_isub C dX0_bestWithOneMore_45 ?_
      refine x_iload_n C dX0_bestWithOneMore_46 rfl ?_
      refine x_iand C dX0_bestWithOneMore_47 ?_
      refine x_topE (y := nI ((p - 1) &&& E)) (by rw [hx, nI_pr hp0, fa_and]) ?_
      refine x_istore C dX0_bestWithOneMore_48 rfl ?_
      refine x_goto (tgt := 10) C dX0_bestWithOneMore_50 (by decide) ?_
      refine ih _ (prev_lt hp0) b ⟨hi.1, hi.2.1, fun u hu hs hy => ?_⟩ sub_prev
      rcases Nat.lt_trichotomy u p with q | q | q
      · exact absurd (sub_next hE hp hs q) (by omega)
      · subst q; exact absurd hy (Int32.not_le.mpr c22)
      · exact hi.2.2 u q hs hy
    · skip
      refine x_iload C dX0_bestWithOneMore_25 rfl ?_
      refine x_aload_n C dX0_bestWithOneMore_27 rfl ?_
      refine x_iload_n C dX0_bestWithOneMore_28 rfl ?_
      refine x_iload C dX0_bestWithOneMore_29 rfl ?_
      refine x_ixor C dX0_bestWithOneMore_31 ?_
      refine x_topE (y := nI (lft E p)) (by rw [hx, fa_xor, xor_lft hp]) ?_
      refine x_cvE C (k := 25) (c_X0_markOf l g _ (s := (lft E p)) rfl (by have := sbt_le (lft_sub E p); omega) ) o_X0_markOf mw_X0_68 rfl (C.lt rfl) rcv_25 rfl rfl rfl hcs dX0_bestWithOneMore_32 ?_
      refine x_iload_n C dX0_bestWithOneMore_35 rfl ?_
      refine x_iadd C dX0_bestWithOneMore_36 ?_
      refine x_max C mw_X0_75 sw_Math_max iw_J9 ow_Math_max rfl rfl hcs.1 hcs.2 dX0_bestWithOneMore_37 ?_
      refine x_topi (fun w4 ew4 => ?_)
      refine x_istore C dX0_bestWithOneMore_40 rfl ?_
      refine x_iload C dX0_bestWithOneMore_42 rfl ?_
      refine x_iconst (v := 1) C dX0_bestWithOneMore_44 (by decide) ?_
      refine x_isub C dX0_bestWithOneMore_45 ?_
      refine x_iload_n C dX0_bestWithOneMore_46 rfl ?_
      refine x_iand C dX0_bestWithOneMore_47 ?_
      refine x_topE (y := nI ((p - 1) &&& E)) (by rw [hx, nI_pr hp0, fa_and]) ?_
      refine x_istore C dX0_bestWithOneMore_48 rfl ?_
      refine x_goto (tgt := 10) C dX0_bestWithOneMore_50 (by decide) ?_
      have hbl := hb (lft E p) (lft_sub E p)
      have eA : (M 27 (lft E p) + z).toInt = (M 27 (lft E p)).toInt + z.toInt := add_toInt (m := 40000) (n := 6400) ⟨by omega, by omega⟩ ⟨by omega, by omega⟩ (by omega)
      have hw4 : (w4.toInt = b.toInt ∨ w4.toInt = (M 27 (lft E p)).toInt + z.toInt) ∧ b.toInt ≤ w4.toInt ∧ (M 27 (lft E p)).toInt + z.toInt ≤ w4.toInt := by
        rw [ew4]
        by_cases q : b < M 27 (lft E p) + z
        · rw [if_pos q]; have := Int32.lt_iff_toInt_lt.mp q; rw [eA] at this ⊢; exact ⟨Or.inr rfl, by omega, by omega⟩
        · rw [if_neg q]; have := Int32.le_iff_toInt_le.mp (Int32.not_lt.mp q); rw [eA] at this; exact ⟨Or.inl rfl, by omega, by omega⟩
      refine ih _ (prev_lt hp0) w4 ⟨?_, by have := hi.2.1; omega, fun u hu hs hy => ?_⟩ sub_prev
      · rcases hw4.1 with q | q
        · rw [q]; exact hi.1
        · exact Or.inr ⟨p, hp0, hp, Int32.not_lt.mp c22, q⟩
      · rcases Nat.lt_trichotomy u p with q | q | q
        · exact absurd (sub_next hE hp hs q) (by omega)
        · subst q; exact hw4.2.2
        · exact Int.le_trans (hi.2.2 u q hs hy) hw4.2.1

