/-! ===== contracts: String's own methods over the words ===== -/
def rm_J3_checkIndex_8e157 : Room := { frames := 0, cells := 0, slots := 0, locals := 0 }
set_option maxRecDepth 100000 in
set_option maxHeartbeats 4000000 in
theorem c_J3_checkIndexN (l : Launch) (g : Gp) (M : Mem) {x n : Int32} (h0 : ¬ x < 0) (h1 : x < n) : Kp l g yJ3_checkIndex_8e157 cJ3_checkIndex_8e157 3 .int rm_J3_checkIndex_8e157 [.int (x), .int (n), .null] M (fun r => r = x) := by
  unfold Kp
  refine Ki.of rfl rfl rfl (fun q C hret hcs => ?_)
  refine x_iload_n C dJ3_checkIndex_8e157_0 rfl ?_
  refine x_if_lt (tgt := 9) C dJ3_checkIndex_8e157_1 (by decide) (fun c1 => ?_) (fun c1 => ?_)
  · skip
    exact absurd c1 h0
  · skip
    refine x_iload_n C dJ3_checkIndex_8e157_4 rfl ?_
    refine x_iload_n C dJ3_checkIndex_8e157_5 rfl ?_
    refine x_icmp_lt (tgt := 16) C dJ3_checkIndex_8e157_6 (by decide) (fun c6 => ?_) (fun c6 => ?_)
    · skip
      refine x_iload_n C dJ3_checkIndex_8e157_16 rfl ?_
      refine hret _ _ _ _ dJ3_checkIndex_8e157_17 rfl ⟨?_, rfl⟩
      rfl
    · skip
      exact absurd h1 c6

set_option maxRecDepth 100000 in
set_option maxHeartbeats 4000000 in
theorem c_J3_checkIndexR (l : Launch) (g : Gp) (M : Mem) (t9 : Nat) {x n : Int32} (h0 : ¬ x < 0) (h1 : x < n) : Kp l g yJ3_checkIndex_8e157 cJ3_checkIndex_8e157 3 .int rm_J3_checkIndex_8e157 [.int (x), .int (n), .ref t9] M (fun r => r = x) := by
  unfold Kp
  refine Ki.of rfl rfl rfl (fun q C hret hcs => ?_)
  refine x_iload_n C dJ3_checkIndex_8e157_0 rfl ?_
  refine x_if_lt (tgt := 9) C dJ3_checkIndex_8e157_1 (by decide) (fun c1 => ?_) (fun c1 => ?_)
  · skip
    exact absurd c1 h0
  · skip
    refine x_iload_n C dJ3_checkIndex_8e157_4 rfl ?_
    refine x_iload_n C dJ3_checkIndex_8e157_5 rfl ?_
    refine x_icmp_lt (tgt := 16) C dJ3_checkIndex_8e157_6 (by decide) (fun c6 => ?_) (fun c6 => ?_)
    · skip
      refine x_iload_n C dJ3_checkIndex_8e157_16 rfl ?_
      refine hret _ _ _ _ dJ3_checkIndex_8e157_17 rfl ⟨?_, rfl⟩
      rfl
    · skip
      exact absurd h1 c6

def rm_J0_checkIndex_df160 : Room := { frames := 1, cells := 0, slots := 0, locals := 22 }
set_option maxRecDepth 100000 in
set_option maxHeartbeats 4000000 in
theorem c_J0_checkIndex_df160 (l : Launch) (g : Gp) (M : Mem) {x n : Int32} (h0 : ¬ x < 0) (h1 : x < n) : Kv l g yJ0_checkIndex_df160 cJ0_checkIndex_df160 2 rm_J0_checkIndex_df160 [.int (x), .int (n)] M (fun M' => M' = M) := by
  refine Kv.of rfl rfl rfl (fun q C hret hcs => ?_)
  refine x_iload_n C dJ0_checkIndex_df160_0 rfl ?_
  refine x_iload_n C dJ0_checkIndex_df160_1 rfl ?_
  refine x_gZq C fw_J0_1053 dJ0_checkIndex_df160_2 ?_ (fun t9 => ?_)
  · skip
    refine x_csE C (c_J3_checkIndexN l g _ h0 h1 ) o_J3_checkIndex_8e157 mw_J0_1059 rfl rfl rfl rfl hcs dJ0_checkIndex_df160_5 ?_
    refine x_pop C dJ0_checkIndex_df160_8 rfl ?_
    refine hret _ _ _ dJ0_checkIndex_df160_9 ?_
    rfl
  · skip
    refine x_csE C (c_J3_checkIndexR l g _ _ h0 h1 ) o_J3_checkIndex_8e157 mw_J0_1059 rfl rfl rfl rfl hcs dJ0_checkIndex_df160_5 ?_
    refine x_pop C dJ0_checkIndex_df160_8 rfl ?_
    refine hret _ _ _ dJ0_checkIndex_df160_9 ?_
    rfl

def rm_J1_charAt_3b067 : Room := { frames := 2, cells := 0, slots := 0, locals := 43 }
set_option maxRecDepth 100000 in
set_option maxHeartbeats 4000000 in
theorem c_J1_charAt_3b067 (l : Launch) (g : Gp) (M : Mem) {i : Nat} (hi : i < 13) {x : Int32} {k : Nat} (hx : x = nI k) (hk : k < sLn.getD i 0) : Kp l g yJ1_charAt_3b067 cJ1_charAt_3b067 2 .char rm_J1_charAt_3b067 [.ref (gsa g (21 + i)), .int (x)] M (fun r => r = (sBy.getD i []).getD k 0) := by
  unfold Kp
  refine Ki.of rfl rfl rfl (fun q C hret hcs => ?_)
  have hk8 : k < 8 := Nat.lt_of_lt_of_le hk (wln_8 i hi)
  refine x_iload_n C dJ1_charAt_3b067_0 rfl ?_
  refine x_aload_n C dJ1_charAt_3b067_1 rfl ?_
  refine x_strN C (i := i) (hi) dJ1_charAt_3b067_2 ?_
  refine x_csv C (c_J0_checkIndex_df160 l g _ (by rw [hx]; exact nI_pos (by omega)) (by rw [hx]; exact nI_lt hk (by have := wln_8 i hi; omega)) ) o_J0_checkIndex_df160 mw_J1_9 rfl rfl rfl rfl hcs dJ1_charAt_3b067_3 (fun M1 h1m => ?_)
  rw [h1m]
  refine x_aload_n C dJ1_charAt_3b067_6 rfl ?_
  refine x_iload_n C dJ1_charAt_3b067_7 rfl ?_
  refine x_strB C (i := i) (hi) (j := k) (hx) (hk) (by omega) (by have := wln_8 i hi; omega) dJ1_charAt_3b067_8 ?_
  refine x_sipush (v := 255) C dJ1_charAt_3b067_9 (by decide) ?_
  refine x_iand C dJ1_charAt_3b067_12 ?_
  refine x_i2c C dJ1_charAt_3b067_13 rfl ?_
  refine x_topE (y := (sBy.getD i []).getD k 0) (chr_k i hi k hk8) ?_
  refine hret _ _ _ _ dJ1_charAt_3b067_14 (chr_nar hi hk8) ⟨?_, rfl⟩
  rfl

def rm_J0_isLatin1_aae02 : Room := { frames := 0, cells := 0, slots := 0, locals := 0 }
set_option maxRecDepth 100000 in
set_option maxHeartbeats 4000000 in
theorem c_J0_isLatin1_aae02 (l : Launch) (g : Gp) (M : Mem) {i : Nat} (hi : i < 13)  : Kp l g yJ0_isLatin1_aae02 cJ0_isLatin1_aae02 1 .boolean rm_J0_isLatin1_aae02 [.ref (gsa g (8 + i))] M (fun r => r = 1) := by
  unfold Kp
  refine Ki.of rfl rfl rfl (fun q C hret hcs => ?_)
  refine x_gCS C fw_J0_38 dJ0_isLatin1_aae02_0 ?_
  refine x_if_eqF (tgt := 17) C dJ0_isLatin1_aae02_3 (by decide) (by decide) ?_
  refine x_aload_n C dJ0_isLatin1_aae02_6 rfl ?_
  refine x_strC C (i := i) (hi) fw_J0_15 dJ0_isLatin1_aae02_7 ?_
  refine x_if_neF (tgt := 17) C dJ0_isLatin1_aae02_10 (by decide) (by decide) ?_
  refine x_iconst (v := 1) C dJ0_isLatin1_aae02_13 (by decide) ?_
  refine x_goto (tgt := 18) C dJ0_isLatin1_aae02_14 (by decide) ?_
  refine hret _ _ _ _ dJ0_isLatin1_aae02_18 rfl ⟨?_, rfl⟩
  rfl

def rm_J0_coder_7d493 : Room := { frames := 0, cells := 0, slots := 0, locals := 0 }
set_option maxRecDepth 100000 in
set_option maxHeartbeats 4000000 in
theorem c_J0_coder_7d493 (l : Launch) (g : Gp) (M : Mem) {i : Nat} (hi : i < 13)  : Kp l g yJ0_coder_7d493 cJ0_coder_7d493 1 .byte rm_J0_coder_7d493 [.ref (gsa g (8 + i))] M (fun r => r = 0) := by
  unfold Kp
  refine Ki.of rfl rfl rfl (fun q C hret hcs => ?_)
  refine x_gCS C fw_J0_38 dJ0_coder_7d493_0 ?_
  refine x_if_eqF (tgt := 13) C dJ0_coder_7d493_3 (by decide) (by decide) ?_
  refine x_aload_n C dJ0_coder_7d493_6 rfl ?_
  refine x_strC C (i := i) (hi) fw_J0_15 dJ0_coder_7d493_7 ?_
  refine x_goto (tgt := 14) C dJ0_coder_7d493_10 (by decide) ?_
  refine hret _ _ _ _ dJ0_coder_7d493_14 rfl ⟨?_, rfl⟩
  rfl

def rm_J0_length_8abf5 : Room := { frames := 1, cells := 0, slots := 0, locals := 20 }
set_option maxRecDepth 100000 in
set_option maxHeartbeats 4000000 in
theorem c_J0_length_8abf5 (l : Launch) (g : Gp) (M : Mem) {i : Nat} (hi : i < 13)  : Kp l g yJ0_length_8abf5 cJ0_length_8abf5 1 .int rm_J0_length_8abf5 [.ref (gsa g (8 + i))] M (fun r => r = nI (sLn.getD i 0)) := by
  unfold Kp
  refine Ki.of rfl rfl rfl (fun q C hret hcs => ?_)
  refine x_aload_n C dJ0_length_8abf5_0 rfl ?_
  refine x_strF C (i := i) (hi) fw_J0_9 dJ0_length_8abf5_1 ?_
  refine x_strN C (i := i) (hi) dJ0_length_8abf5_4 ?_
  refine x_aload_n C dJ0_length_8abf5_5 rfl ?_
  refine x_ctE C (c_J0_coder_7d493 l g _ (i := i) (hi) ) (hi) rfl o_J0_coder_7d493 mw_J0_335 rfl rfl rfl rfl hcs dJ0_length_8abf5_6 ?_
  refine x_ishr C dJ0_length_8abf5_9 ?_
  refine x_topE (y := nI (sLn.getD i 0)) (shr_0 i hi) ?_
  refine hret _ _ _ _ dJ0_length_8abf5_10 rfl ⟨?_, rfl⟩
  rfl

def rm_J0_charAt_5068e : Room := { frames := 4, cells := 0, slots := 0, locals := 85 }
set_option maxRecDepth 100000 in
set_option maxHeartbeats 4000000 in
theorem c_J0_charAt_5068e (l : Launch) (g : Gp) (M : Mem) {i : Nat} (hi : i < 13) {x : Int32} {k : Nat} (hx : x = nI k) (hk : k < sLn.getD i 0) : Kp l g yJ0_charAt_5068e cJ0_charAt_5068e 2 .char rm_J0_charAt_5068e [.ref (gsa g (8 + i)), .int (x)] M (fun r => r = (sBy.getD i []).getD k 0) := by
  unfold Kp
  refine Ki.of rfl rfl rfl (fun q C hret hcs => ?_)
  refine x_aload_n C dJ0_charAt_5068e_0 rfl ?_
  refine x_ctE C (c_J0_isLatin1_aae02 l g _ (i := i) (hi) ) (hi) rfl o_J0_isLatin1_aae02 mw_J0_492 rfl rfl rfl rfl hcs dJ0_charAt_5068e_1 ?_
  refine x_if_eqF (tgt := 16) C dJ0_charAt_5068e_4 (by decide) (by decide) ?_
  refine x_aload_n C dJ0_charAt_5068e_7 rfl ?_
  refine x_strF C (i := i) (hi) fw_J0_9 dJ0_charAt_5068e_8 ?_
  refine x_iload_n C dJ0_charAt_5068e_11 rfl ?_
  refine x_csE C (c_J1_charAt_3b067 l g _ (i := i) (hi) (k := k) hx hk ) o_J1_charAt_3b067 mw_J0_495 rfl rfl rfl rfl hcs dJ0_charAt_5068e_12 ?_
  refine hret _ _ _ _ dJ0_charAt_5068e_15 (chr_nar hi (Nat.lt_of_lt_of_le hk (wln_8 i hi))) ⟨?_, rfl⟩
  rfl

