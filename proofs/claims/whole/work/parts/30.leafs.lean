/-! ===== contracts: Kinds, Table, a House's reads ===== -/
theorem minB_out {k size age day : Int32} (h : k.toInt < 1 ∨ 6 < k.toInt) : plainB size age = minB k size age day := by
  unfold minB
  have key : ∀ z : Int32, 1 ≤ z.toInt → z.toInt ≤ 6 → ¬ k = z := fun z h1 h2 e => by subst e; omega
  rw [if_neg (key 1 (by decide) (by decide)), if_neg (key 2 (by decide) (by decide)), if_neg (key 3 (by decide) (by decide)), if_neg (key 4 (by decide) (by decide)), if_neg (key 5 (by decide) (by decide)), if_neg (key 6 (by decide) (by decide))]
theorem keep_tab : ∀ n, n < 7 → tabV 7 n = keepB (nI n) := by decide +kernel
def rm_X2_keeps : Room := { frames := 0, cells := 0, slots := 0, locals := 0 }
set_option maxRecDepth 100000 in
set_option maxHeartbeats 4000000 in
theorem c_X2_keeps (l : Launch) (g : Gp) (M : Mem) {k : Int32} (hk : inB k 0 6) : Kp l g yX2_keeps cX2_keeps 1 .int rm_X2_keeps [.int (k)] M (fun r => r = keepB k) := by
  unfold Kp
  refine Ki.of rfl rfl rfl (fun q C hret hcs => ?_)
  obtain ⟨h0, h6⟩ := hk
  refine x_iload_n C dX2_keeps_0 rfl ?_
  refine x_if_lt (tgt := 20) C dX2_keeps_1 (by decide) (fun c1 => ?_) (fun c1 => ?_)
  · skip
    exact absurd h0 (by clear hret hcs C; grind)
  · skip
    refine x_iload_n C dX2_keeps_4 rfl ?_
    refine x_gets C (i := 7) (by decide) fw_X2_16 dX2_keeps_5 ?_
    refine x_tabN (v := 7) C (i := 7) (by omega) rfl (rfl) dX2_keeps_8 ?_
    refine x_icmp_ge (tgt := 20) C dX2_keeps_9 (by decide) (fun c9 => ?_) (fun c9 => ?_)
    · skip
      exact absurd h6 (by clear hret hcs C; grind)
    · skip
      refine x_gets C (i := 7) (by decide) fw_X2_16 dX2_keeps_12 ?_
      refine x_iload_n C dX2_keeps_15 rfl ?_
      refine x_tab (j := k.toNatClampNeg) C (i := 7) (by decide) rfl (nI_tn c1) (tn_lt' (n := 7) c1 c9 (by decide)) dX2_keeps_16 ?_
      refine x_goto (tgt := 21) C dX2_keeps_17 (by decide) ?_
      refine hret _ _ _ _ dX2_keeps_21 rfl ⟨?_, rfl⟩
      have e := nI_tn c1
      have h7 : k.toNatClampNeg < 7 := tn_lt' (n := 7) c1 c9 (by decide)
      generalize k.toNatClampNeg = n at e h7
      subst e
      exact keep_tab n h7

def rm_X2_stays : Room := { frames := 1, cells := 0, slots := 0, locals := 20 }
set_option maxRecDepth 100000 in
set_option maxHeartbeats 4000000 in
theorem c_X2_stays (l : Launch) (g : Gp) (M : Mem) {k age n : Int32} (hk : inB k 0 6) : Kp l g yX2_stays cX2_stays 3 .boolean rm_X2_stays [.int (k), .int (age), .int (n)] M (bv (¬ (0 < n ∧ keepB k < age + n))) := by
  unfold Kp
  refine Ki.of rfl rfl rfl (fun q C hret hcs => ?_)
  refine x_iload_n C dX2_stays_0 rfl ?_
  refine x_if_le (tgt := 14) C dX2_stays_1 (by decide) (fun c1 => ?_) (fun c1 => ?_)
  · skip
    refine x_iconst (v := 1) C dX2_stays_14 (by decide) ?_
    refine x_goto (tgt := 19) C dX2_stays_15 (by decide) ?_
    refine hret _ _ _ _ dX2_stays_19 rfl ⟨Or.inl ⟨rfl, ?_⟩, rfl⟩
    clear hret hcs C; grind
  · skip
    refine x_iload_n C dX2_stays_4 rfl ?_
    refine x_iload_n C dX2_stays_5 rfl ?_
    refine x_iadd C dX2_stays_6 ?_
    refine x_iload_n C dX2_stays_7 rfl ?_
    refine x_csE C (c_X2_keeps l g _ hk) o_X2_keeps mw_X2_22 rfl rfl rfl rfl hcs dX2_stays_8 ?_
    refine x_icmp_gt (tgt := 18) C dX2_stays_11 (by decide) (fun c11 => ?_) (fun c11 => ?_)
    · skip
      refine x_iconst (v := 0) C dX2_stays_18 (by decide) ?_
      refine hret _ _ _ _ dX2_stays_19 rfl ⟨Or.inr ⟨rfl, ?_⟩, rfl⟩
      clear hret hcs C; grind
    · skip
      refine x_iconst (v := 1) C dX2_stays_14 (by decide) ?_
      refine x_goto (tgt := 19) C dX2_stays_15 (by decide) ?_
      refine hret _ _ _ _ dX2_stays_19 rfl ⟨Or.inl ⟨rfl, ?_⟩, rfl⟩
      clear hret hcs C; grind

def rm_X2_minutes : Room := { frames := 1, cells := 0, slots := 0, locals := 21 }
set_option maxRecDepth 100000 in
set_option maxHeartbeats 4000000 in
theorem c_X2_minutes (l : Launch) (g : Gp) (M : Mem) (k size age day : Int32) : Kp l g yX2_minutes cX2_minutes 7 .int rm_X2_minutes [.int (k), .int (size), .int (age), .int (day)] M (fun r => r = minB k size age day) := by
  unfold Kp
  refine Ki.of rfl rfl rfl (fun q C hret hcs => ?_)
  refine x_iconst (v := 0) C dX2_minutes_0 (by decide) ?_
  refine x_iload_n C dX2_minutes_1 rfl ?_
  refine x_iload_n C dX2_minutes_2 rfl ?_
  refine x_isub C dX2_minutes_3 ?_
  refine x_max C mw_X2_7 sw_Math_max iw_J9 ow_Math_max rfl rfl hcs.1 hcs.2 dX2_minutes_4 ?_
  refine x_topE (y := plainB size age) (rfl) ?_
  refine x_istore C dX2_minutes_7 rfl ?_
  refine x_iload_n C dX2_minutes_9 rfl ?_
  refine x_iconst (v := 4) C dX2_minutes_10 (by decide) ?_
  refine x_irem C dX2_minutes_11 (by decide) ?_
  refine x_if_ne (tgt := 23) C dX2_minutes_12 (by decide) (fun c12 => ?_) (fun c12 => ?_)
  · skip
    refine x_iload C dX2_minutes_23 rfl ?_
    refine x_topE (y := leapB size age day) (by unfold leapB; grind) ?_
    refine x_istore C dX2_minutes_25 rfl ?_
    refine x_iload C dX2_minutes_27 rfl ?_
    refine x_iconst (v := 2) C dX2_minutes_29 (by decide) ?_
    refine x_iload_n C dX2_minutes_30 rfl ?_
    refine x_imul C dX2_minutes_31 ?_
    refine x_bipush (v := 30) C dX2_minutes_32 (by decide) ?_
    refine x_min C mw_X2_13 sw_Math_min iw_J9 ow_Math_min rfl rfl hcs.1 hcs.2 dX2_minutes_34 ?_
    refine x_iadd C dX2_minutes_37 ?_
    refine x_bipush (v := 15) C dX2_minutes_38 (by decide) ?_
    refine x_isub C dX2_minutes_40 ?_
    refine x_topE (y := warmB size age - 15) (by unfold warmB; grind) ?_
    refine x_istore C dX2_minutes_41 rfl ?_
    refine x_iload_n C dX2_minutes_43 rfl ?_
    rcases sw_split (k) 1 6 with c44 | c44
    · skip
      refine x_tableOut (tgt := 110) C dX2_minutes_44 c44 (by decide) ?_
      refine x_iload C dX2_minutes_110 rfl ?_
      refine hret _ _ _ _ dX2_minutes_112 rfl ⟨?_, rfl⟩
      exact minB_out c44
    · skip
      by_cases c44_1 : k = 1
      · skip
        refine x_tableIn (tgt := 84) (off := 40) C dX2_minutes_44 c44.1 c44.2 (by rw [c44_1]; decide) (by decide) ?_
        refine x_iload C dX2_minutes_84 rfl ?_
        refine hret _ _ _ _ dX2_minutes_86 rfl ⟨?_, rfl⟩
        unfold minB; rw [if_pos c44_1]
      by_cases c44_2 : k = 2
      · skip
        refine x_tableIn (tgt := 87) (off := 43) C dX2_minutes_44 c44.1 c44.2 (by rw [c44_2]; decide) (by decide) ?_
        refine x_iload C dX2_minutes_87 rfl ?_
        refine x_bipush (v := 15) C dX2_minutes_89 (by decide) ?_
        refine x_iadd C dX2_minutes_91 ?_
        refine hret _ _ _ _ dX2_minutes_92 rfl ⟨?_, rfl⟩
        unfold minB; rw [if_neg c44_1, if_pos c44_2]; exact Int32.sub_add_cancel _ _
      by_cases c44_3 : k = 3
      · skip
        refine x_tableIn (tgt := 93) (off := 49) C dX2_minutes_44 c44.1 c44.2 (by rw [c44_3]; decide) (by decide) ?_
        refine x_iload C dX2_minutes_93 rfl ?_
        refine hret _ _ _ _ dX2_minutes_95 rfl ⟨?_, rfl⟩
        unfold minB; rw [if_neg c44_1, if_neg c44_2, if_pos c44_3]
      by_cases c44_4 : k = 4
      · skip
        refine x_tableIn (tgt := 96) (off := 52) C dX2_minutes_44 c44.1 c44.2 (by rw [c44_4]; decide) (by decide) ?_
        refine x_iload C dX2_minutes_96 rfl ?_
        refine x_ineg C dX2_minutes_98 ?_
        refine hret _ _ _ _ dX2_minutes_99 rfl ⟨?_, rfl⟩
        unfold minB; rw [if_neg c44_1, if_neg c44_2, if_neg c44_3, if_pos c44_4]; grind
      by_cases c44_5 : k = 5
      · skip
        refine x_tableIn (tgt := 100) (off := 56) C dX2_minutes_44 c44.1 c44.2 (by rw [c44_5]; decide) (by decide) ?_
        refine x_iload C dX2_minutes_100 rfl ?_
        refine x_iconst (v := 2) C dX2_minutes_102 (by decide) ?_
        refine x_idiv C dX2_minutes_103 (by decide) ?_
        refine hret _ _ _ _ dX2_minutes_104 rfl ⟨?_, rfl⟩
        unfold minB; rw [if_neg c44_1, if_neg c44_2, if_neg c44_3, if_neg c44_4, if_pos c44_5]
      by_cases c44_6 : k = 6
      · skip
        refine x_tableIn (tgt := 105) (off := 61) C dX2_minutes_44 c44.1 c44.2 (by rw [c44_6]; decide) (by decide) ?_
        refine x_iconst (v := 2) C dX2_minutes_105 (by decide) ?_
        refine x_iload C dX2_minutes_106 rfl ?_
        refine x_imul C dX2_minutes_108 ?_
        refine hret _ _ _ _ dX2_minutes_109 rfl ⟨?_, rfl⟩
        unfold minB; rw [if_neg c44_1, if_neg c44_2, if_neg c44_3, if_neg c44_4, if_neg c44_5, if_pos c44_6]
      exfalso
      have h1 := c44.1; have h2 := c44.2
      simp only [fa_eq] at c44_1 c44_2 c44_3 c44_4 c44_5 c44_6
      simp at c44_1 c44_2 c44_3 c44_4 c44_5 c44_6
      omega
  · skip
    refine x_iload C dX2_minutes_15 rfl ?_
    refine x_bipush (v := 10) C dX2_minutes_17 (by decide) ?_
    refine x_iadd C dX2_minutes_19 ?_
    refine x_goto (tgt := 25) C dX2_minutes_20 (by decide) ?_
    refine x_topE (y := leapB size age day) (by unfold leapB; grind) ?_
    refine x_istore C dX2_minutes_25 rfl ?_
    refine x_iload C dX2_minutes_27 rfl ?_
    refine x_iconst (v := 2) C dX2_minutes_29 (by decide) ?_
    refine x_iload_n C dX2_minutes_30 rfl ?_
    refine x_imul C dX2_minutes_31 ?_
    refine x_bipush (v := 30) C dX2_minutes_32 (by decide) ?_
    refine x_min C mw_X2_13 sw_Math_min iw_J9 ow_Math_min rfl rfl hcs.1 hcs.2 dX2_minutes_34 ?_
    refine x_iadd C dX2_minutes_37 ?_
    refine x_bipush (v := 15) C dX2_minutes_38 (by decide) ?_
    refine x_isub C dX2_minutes_40 ?_
    refine x_topE (y := warmB size age - 15) (by unfold warmB; grind) ?_
    refine x_istore C dX2_minutes_41 rfl ?_
    refine x_iload_n C dX2_minutes_43 rfl ?_
    rcases sw_split (k) 1 6 with c44 | c44
    · skip
      refine x_tableOut (tgt := 110) C dX2_minutes_44 c44 (by decide) ?_
      refine x_iload C dX2_minutes_110 rfl ?_
      refine hret _ _ _ _ dX2_minutes_112 rfl ⟨?_, rfl⟩
      exact minB_out c44
    · skip
      by_cases c44_1 : k = 1
      · skip
        refine x_tableIn (tgt := 84) (off := 40) C dX2_minutes_44 c44.1 c44.2 (by rw [c44_1]; decide) (by decide) ?_
        refine x_iload C dX2_minutes_84 rfl ?_
        refine hret _ _ _ _ dX2_minutes_86 rfl ⟨?_, rfl⟩
        unfold minB; rw [if_pos c44_1]
      by_cases c44_2 : k = 2
      · skip
        refine x_tableIn (tgt := 87) (off := 43) C dX2_minutes_44 c44.1 c44.2 (by rw [c44_2]; decide) (by decide) ?_
        refine x_iload C dX2_minutes_87 rfl ?_
        refine x_bipush (v := 15) C dX2_minutes_89 (by decide) ?_
        refine x_iadd C dX2_minutes_91 ?_
        refine hret _ _ _ _ dX2_minutes_92 rfl ⟨?_, rfl⟩
        unfold minB; rw [if_neg c44_1, if_pos c44_2]; exact Int32.sub_add_cancel _ _
      by_cases c44_3 : k = 3
      · skip
        refine x_tableIn (tgt := 93) (off := 49) C dX2_minutes_44 c44.1 c44.2 (by rw [c44_3]; decide) (by decide) ?_
        refine x_iload C dX2_minutes_93 rfl ?_
        refine hret _ _ _ _ dX2_minutes_95 rfl ⟨?_, rfl⟩
        unfold minB; rw [if_neg c44_1, if_neg c44_2, if_pos c44_3]
      by_cases c44_4 : k = 4
      · skip
        refine x_tableIn (tgt := 96) (off := 52) C dX2_minutes_44 c44.1 c44.2 (by rw [c44_4]; decide) (by decide) ?_
        refine x_iload C dX2_minutes_96 rfl ?_
        refine x_ineg C dX2_minutes_98 ?_
        refine hret _ _ _ _ dX2_minutes_99 rfl ⟨?_, rfl⟩
        unfold minB; rw [if_neg c44_1, if_neg c44_2, if_neg c44_3, if_pos c44_4]; grind
      by_cases c44_5 : k = 5
      · skip
        refine x_tableIn (tgt := 100) (off := 56) C dX2_minutes_44 c44.1 c44.2 (by rw [c44_5]; decide) (by decide) ?_
        refine x_iload C dX2_minutes_100 rfl ?_
        refine x_iconst (v := 2) C dX2_minutes_102 (by decide) ?_
        refine x_idiv C dX2_minutes_103 (by decide) ?_
        refine hret _ _ _ _ dX2_minutes_104 rfl ⟨?_, rfl⟩
        unfold minB; rw [if_neg c44_1, if_neg c44_2, if_neg c44_3, if_neg c44_4, if_pos c44_5]
      by_cases c44_6 : k = 6
      · skip
        refine x_tableIn (tgt := 105) (off := 61) C dX2_minutes_44 c44.1 c44.2 (by rw [c44_6]; decide) (by decide) ?_
        refine x_iconst (v := 2) C dX2_minutes_105 (by decide) ?_
        refine x_iload C dX2_minutes_106 rfl ?_
        refine x_imul C dX2_minutes_108 ?_
        refine hret _ _ _ _ dX2_minutes_109 rfl ⟨?_, rfl⟩
        unfold minB; rw [if_neg c44_1, if_neg c44_2, if_neg c44_3, if_neg c44_4, if_neg c44_5, if_pos c44_6]
      exfalso
      have h1 := c44.1; have h2 := c44.2
      simp only [fa_eq] at c44_1 c44_2 c44_3 c44_4 c44_5 c44_6
      simp at c44_1 c44_2 c44_3 c44_4 c44_5 c44_6
      omega

def rm_X5_hasRow : Room := { frames := 0, cells := 0, slots := 0, locals := 0 }
set_option maxRecDepth 100000 in
set_option maxHeartbeats 4000000 in
theorem c_X5_hasRow (l : Launch) (g : Gp) {h : Nat} (hh : isH h) {j : Nat} (hj : j < 3) (M : Mem) (row : Int32) : Kp l g yX5_hasRow cX5_hasRow 2 .boolean rm_X5_hasRow [.ref (gad g (h + (j + 1))), .int (row)] M (bv (¬ row < 0 ∧ row < rowsT j)) := by
  unfold Kp
  refine Ki.of rfl rfl rfl (fun q C hret hcs => ?_)
  refine x_iload_n C dX5_hasRow_0 rfl ?_
  refine x_if_lt (tgt := 16) C dX5_hasRow_1 (by decide) (fun c1 => ?_) (fun c1 => ?_)
  · skip
    refine x_iconst (v := 0) C dX5_hasRow_16 (by decide) ?_
    refine hret _ _ _ _ dX5_hasRow_17 rfl ⟨Or.inr ⟨rfl, ?_⟩, rfl⟩
    clear hret hcs C; grind
  · skip
    refine x_iload_n C dX5_hasRow_4 rfl ?_
    refine x_aload_n C dX5_hasRow_5 rfl ?_
    refine x_getf (k := h + (j + 1)) C bk_X5 (C.lt' (isH_lt hh (j + 1) (by omega))) rfl (ent_HT hh j hj) 0 fw_X5_15 rfl rfl dX5_hasRow_6 ?_
    refine x_icmp_ge (tgt := 16) C dX5_hasRow_9 (by decide) (fun c9 => ?_) (fun c9 => ?_)
    · skip
      refine x_iconst (v := 0) C dX5_hasRow_16 (by decide) ?_
      refine hret _ _ _ _ dX5_hasRow_17 rfl ⟨Or.inr ⟨rfl, ?_⟩, rfl⟩
      clear hret hcs C; grind
    · skip
      refine x_iconst (v := 1) C dX5_hasRow_12 (by decide) ?_
      refine x_goto (tgt := 17) C dX5_hasRow_13 (by decide) ?_
      refine hret _ _ _ _ dX5_hasRow_17 rfl ⟨Or.inl ⟨rfl, ?_⟩, rfl⟩
      clear hret hcs C; grind

def rm_X5_hasColumn : Room := { frames := 0, cells := 0, slots := 0, locals := 0 }
set_option maxRecDepth 100000 in
set_option maxHeartbeats 4000000 in
theorem c_X5_hasColumn (l : Launch) (g : Gp) {h : Nat} (hh : isH h) {j : Nat} (hj : j < 3) (M : Mem) (col : Int32) : Kp l g yX5_hasColumn cX5_hasColumn 2 .boolean rm_X5_hasColumn [.ref (gad g (h + (j + 1))), .int (col)] M (bv (¬ col < 0 ∧ col < 4)) := by
  unfold Kp
  refine Ki.of rfl rfl rfl (fun q C hret hcs => ?_)
  refine x_iload_n C dX5_hasColumn_0 rfl ?_
  refine x_if_lt (tgt := 13) C dX5_hasColumn_1 (by decide) (fun c1 => ?_) (fun c1 => ?_)
  · skip
    refine x_iconst (v := 0) C dX5_hasColumn_13 (by decide) ?_
    refine hret _ _ _ _ dX5_hasColumn_14 rfl ⟨Or.inr ⟨rfl, ?_⟩, rfl⟩
    clear hret hcs C; grind
  · skip
    refine x_iload_n C dX5_hasColumn_4 rfl ?_
    refine x_iconst (v := 4) C dX5_hasColumn_5 (by decide) ?_
    refine x_icmp_ge (tgt := 13) C dX5_hasColumn_6 (by decide) (fun c6 => ?_) (fun c6 => ?_)
    · skip
      refine x_iconst (v := 0) C dX5_hasColumn_13 (by decide) ?_
      refine hret _ _ _ _ dX5_hasColumn_14 rfl ⟨Or.inr ⟨rfl, ?_⟩, rfl⟩
      clear hret hcs C; grind
    · skip
      refine x_iconst (v := 1) C dX5_hasColumn_9 (by decide) ?_
      refine x_goto (tgt := 14) C dX5_hasColumn_10 (by decide) ?_
      refine hret _ _ _ _ dX5_hasColumn_14 rfl ⟨Or.inl ⟨rfl, ?_⟩, rfl⟩
      clear hret hcs C; grind

def rm_X5_at : Room := { frames := 0, cells := 0, slots := 0, locals := 0 }
set_option maxRecDepth 100000 in
set_option maxHeartbeats 4000000 in
theorem c_X5_at (l : Launch) (g : Gp) {h : Nat} (hh : isH h) {j : Nat} (hj : j < 3) (M : Mem) (row col : Int32) : Kp l g yX5_at cX5_at 3 .int rm_X5_at [.ref (gad g (h + (j + 1))), .int (row), .int (col)] M (fun r => r = tabAt M h j row col) := by
  unfold Kp
  refine Ki.of rfl rfl rfl (fun q C hret hcs => ?_)
  refine x_iload_n C dX5_at_0 rfl ?_
  refine x_if_lt (tgt := 21) C dX5_at_1 (by decide) (fun c1 => ?_) (fun c1 => ?_)
  · skip
    refine x_iconst (v := 0) C dX5_at_21 (by decide) ?_
    refine hret _ _ _ _ dX5_at_22 rfl ⟨?_, rfl⟩
    exact (if_neg (by unfold inT; grind)).symm
  · skip
    refine x_iload_n C dX5_at_4 rfl ?_
    refine x_aload_n C dX5_at_5 rfl ?_
    refine x_getf (k := h + (j + 1)) C bk_X5 (C.lt' (isH_lt hh (j + 1) (by omega))) rfl (ent_HT hh j hj) 0 fw_X5_15 rfl rfl dX5_at_6 ?_
    refine x_icmp_ge (tgt := 21) C dX5_at_9 (by decide) (fun c9 => ?_) (fun c9 => ?_)
    · skip
      refine x_iconst (v := 0) C dX5_at_21 (by decide) ?_
      refine hret _ _ _ _ dX5_at_22 rfl ⟨?_, rfl⟩
      exact (if_neg (by unfold inT; grind)).symm
    · skip
      refine x_iload_n C dX5_at_12 rfl ?_
      refine x_if_lt (tgt := 21) C dX5_at_13 (by decide) (fun c13 => ?_) (fun c13 => ?_)
      · skip
        refine x_iconst (v := 0) C dX5_at_21 (by decide) ?_
        refine hret _ _ _ _ dX5_at_22 rfl ⟨?_, rfl⟩
        exact (if_neg (by unfold inT; grind)).symm
      · skip
        refine x_iload_n C dX5_at_16 rfl ?_
        refine x_iconst (v := 4) C dX5_at_17 (by decide) ?_
        refine x_icmp_lt (tgt := 23) C dX5_at_18 (by decide) (fun c18 => ?_) (fun c18 => ?_)
        · skip
          refine x_aload_n C dX5_at_23 rfl ?_
          refine x_getf (k := h + (j + 1)) C bk_X5 (C.lt' (isH_lt hh (j + 1) (by omega))) rfl (ent_HT hh j hj) 3 fw_X5_26 rfl rfl dX5_at_24 ?_
          refine x_iload_n C dX5_at_27 rfl ?_
          refine x_iconst (v := 4) C dX5_at_28 (by decide) ?_
          refine x_imul C dX5_at_29 ?_
          refine x_iload_n C dX5_at_30 rfl ?_
          refine x_iadd C dX5_at_31 ?_
          refine x_iald (j := 4 * row.toNatClampNeg + col.toNatClampNeg) (k := h + (j + 4)) C (C.lt' (isH_lt hh (j + 4) (by omega))) rfl (ent_HC hh j hj) (ix_rc c1 c13) (by have := inT_lt hj (show inT j row col from ⟨⟨c1, by clear hret hcs C; grind⟩, c13, c18⟩); have := @rowsN_le j; omega) rfl dX5_at_32 ?_
          refine hret _ _ _ _ dX5_at_33 rfl ⟨?_, rfl⟩
          exact (if_pos (show inT j row col from ⟨⟨c1, by clear hret hcs C; grind⟩, c13, c18⟩)).symm
        · skip
          refine x_iconst (v := 0) C dX5_at_21 (by decide) ?_
          refine hret _ _ _ _ dX5_at_22 rfl ⟨?_, rfl⟩
          exact (if_neg (by unfold inT; grind)).symm

def rm_X5_put : Room := { frames := 0, cells := 0, slots := 0, locals := 0 }
set_option maxRecDepth 100000 in
set_option maxHeartbeats 4000000 in
theorem c_X5_put (l : Launch) (g : Gp) {h : Nat} (hh : isH h) {j : Nat} (hj : j < 3) (M : Mem) (row col v : Int32) : Kv l g yX5_put cX5_put 4 rm_X5_put [.ref (gad g (h + (j + 1))), .int (row), .int (col), .int (v)] M (fun M' => M' = tabPut M h j row col v) := by
  refine Kv.of rfl rfl rfl (fun q C hret hcs => ?_)
  refine x_iload_n C dX5_put_0 rfl ?_
  refine x_if_lt (tgt := 32) C dX5_put_1 (by decide) (fun c1 => ?_) (fun c1 => ?_)
  · skip
    refine hret _ _ _ dX5_put_32 ?_
    exact (if_neg (by unfold inT; grind)).symm
  · skip
    refine x_iload_n C dX5_put_4 rfl ?_
    refine x_aload_n C dX5_put_5 rfl ?_
    refine x_getf (k := h + (j + 1)) C bk_X5 (C.lt' (isH_lt hh (j + 1) (by omega))) rfl (ent_HT hh j hj) 0 fw_X5_15 rfl rfl dX5_put_6 ?_
    refine x_icmp_ge (tgt := 32) C dX5_put_9 (by decide) (fun c9 => ?_) (fun c9 => ?_)
    · skip
      refine hret _ _ _ dX5_put_32 ?_
      exact (if_neg (by unfold inT; grind)).symm
    · skip
      refine x_iload_n C dX5_put_12 rfl ?_
      refine x_if_lt (tgt := 32) C dX5_put_13 (by decide) (fun c13 => ?_) (fun c13 => ?_)
      · skip
        refine hret _ _ _ dX5_put_32 ?_
        exact (if_neg (by unfold inT; grind)).symm
      · skip
        refine x_iload_n C dX5_put_16 rfl ?_
        refine x_iconst (v := 4) C dX5_put_17 (by decide) ?_
        refine x_icmp_ge (tgt := 32) C dX5_put_18 (by decide) (fun c18 => ?_) (fun c18 => ?_)
        · skip
          refine hret _ _ _ dX5_put_32 ?_
          exact (if_neg (by unfold inT; grind)).symm
        · skip
          refine x_aload_n C dX5_put_21 rfl ?_
          refine x_getf (k := h + (j + 1)) C bk_X5 (C.lt' (isH_lt hh (j + 1) (by omega))) rfl (ent_HT hh j hj) 3 fw_X5_26 rfl rfl dX5_put_22 ?_
          refine x_iload_n C dX5_put_25 rfl ?_
          refine x_iconst (v := 4) C dX5_put_26 (by decide) ?_
          refine x_imul C dX5_put_27 ?_
          refine x_iload_n C dX5_put_28 rfl ?_
          refine x_iadd C dX5_put_29 ?_
          refine x_iload_n C dX5_put_30 rfl ?_
          refine x_iast (j := 4 * row.toNatClampNeg + col.toNatClampNeg) (k := h + (j + 4)) C (C.lt' (isH_lt hh (j + 4) (by omega))) rfl (ent_HC hh j hj) (ix_rc c1 c13) (by have := inT_lt hj (show inT j row col from ⟨⟨c1, by clear hret hcs C; grind⟩, c13, by clear hret hcs C; grind⟩); have := @rowsN_le j; omega) rfl dX5_put_31 ?_
          refine x_memI (fun M1 eM1 => ?_)
          refine hret _ _ _ dX5_put_32 ?_
          rw [eM1]
          exact (if_pos (show inT j row col from ⟨⟨c1, by clear hret hcs C; grind⟩, c13, by clear hret hcs C; grind⟩)).symm

def rm_X5_takes : Room := { frames := 0, cells := 0, slots := 0, locals := 0 }
set_option maxRecDepth 100000 in
set_option maxHeartbeats 4000000 in
theorem c_X5_takes (l : Launch) (g : Gp) {h : Nat} (hh : isH h) {j : Nat} (hj : j < 3) (M : Mem) (col v : Int32) : Kp l g yX5_takes cX5_takes 3 .boolean rm_X5_takes [.ref (gad g (h + (j + 1))), .int (col), .int (v)] M (bv ((¬ col < 0 ∧ col < 4) ∧ tabV (2 * j) col.toNatClampNeg ≤ v ∧ v ≤ tabV (2 * j + 1) col.toNatClampNeg)) := by
  unfold Kp
  refine Ki.of rfl rfl rfl (fun q C hret hcs => ?_)
  refine x_iload_n C dX5_takes_0 rfl ?_
  refine x_if_lt (tgt := 46) C dX5_takes_1 (by decide) (fun c1 => ?_) (fun c1 => ?_)
  · skip
    refine x_iconst (v := 0) C dX5_takes_46 (by decide) ?_
    refine hret _ _ _ _ dX5_takes_47 rfl ⟨Or.inr ⟨rfl, ?_⟩, rfl⟩
    clear hret hcs C; grind
  · skip
    refine x_iload_n C dX5_takes_4 rfl ?_
    refine x_aload_n C dX5_takes_5 rfl ?_
    refine x_getf (k := h + (j + 1)) C bk_X5 (C.lt' (isH_lt hh (j + 1) (by omega))) rfl (ent_HT hh j hj) 1 fw_X5_19 rfl rfl dX5_takes_6 ?_
    refine x_tabN (v := 4) C (i := 2 * j) (by omega) rfl (by rw [tabL4 hj]; rfl) dX5_takes_9 ?_
    refine x_icmp_ge (tgt := 46) C dX5_takes_10 (by decide) (fun c10 => ?_) (fun c10 => ?_)
    · skip
      refine x_iconst (v := 0) C dX5_takes_46 (by decide) ?_
      refine hret _ _ _ _ dX5_takes_47 rfl ⟨Or.inr ⟨rfl, ?_⟩, rfl⟩
      clear hret hcs C; grind
    · skip
      refine x_iload_n C dX5_takes_13 rfl ?_
      refine x_aload_n C dX5_takes_14 rfl ?_
      refine x_getf (k := h + (j + 1)) C bk_X5 (C.lt' (isH_lt hh (j + 1) (by omega))) rfl (ent_HT hh j hj) 2 fw_X5_23 rfl rfl dX5_takes_15 ?_
      refine x_tabN (v := 4) C (i := 2 * j + 1) (by omega) rfl (by rw [tabL4' hj]; rfl) dX5_takes_18 ?_
      refine x_icmp_ge (tgt := 46) C dX5_takes_19 (by decide) (fun c19 => ?_) (fun c19 => ?_)
      · skip
        refine x_iconst (v := 0) C dX5_takes_46 (by decide) ?_
        refine hret _ _ _ _ dX5_takes_47 rfl ⟨Or.inr ⟨rfl, ?_⟩, rfl⟩
        clear hret hcs C; grind
      · skip
        refine x_iload_n C dX5_takes_22 rfl ?_
        refine x_aload_n C dX5_takes_23 rfl ?_
        refine x_getf (k := h + (j + 1)) C bk_X5 (C.lt' (isH_lt hh (j + 1) (by omega))) rfl (ent_HT hh j hj) 1 fw_X5_19 rfl rfl dX5_takes_24 ?_
        refine x_iload_n C dX5_takes_27 rfl ?_
        refine x_tab (j := col.toNatClampNeg) C (i := 2 * j) (by omega) rfl (nI_tn c1) (by rw [tabL4 hj]; exact tn_lt' (n := 4) c1 c10 (by decide)) dX5_takes_28 ?_
        refine x_icmp_lt (tgt := 46) C dX5_takes_29 (by decide) (fun c29 => ?_) (fun c29 => ?_)
        · skip
          refine x_iconst (v := 0) C dX5_takes_46 (by decide) ?_
          refine hret _ _ _ _ dX5_takes_47 rfl ⟨Or.inr ⟨rfl, ?_⟩, rfl⟩
          clear hret hcs C; grind
        · skip
          refine x_iload_n C dX5_takes_32 rfl ?_
          refine x_aload_n C dX5_takes_33 rfl ?_
          refine x_getf (k := h + (j + 1)) C bk_X5 (C.lt' (isH_lt hh (j + 1) (by omega))) rfl (ent_HT hh j hj) 2 fw_X5_23 rfl rfl dX5_takes_34 ?_
          refine x_iload_n C dX5_takes_37 rfl ?_
          refine x_tab (j := col.toNatClampNeg) C (i := 2 * j + 1) (by omega) rfl (nI_tn c1) (by rw [tabL4' hj]; exact tn_lt' (n := 4) c1 c10 (by decide)) dX5_takes_38 ?_
          refine x_icmp_gt (tgt := 46) C dX5_takes_39 (by decide) (fun c39 => ?_) (fun c39 => ?_)
          · skip
            refine x_iconst (v := 0) C dX5_takes_46 (by decide) ?_
            refine hret _ _ _ _ dX5_takes_47 rfl ⟨Or.inr ⟨rfl, ?_⟩, rfl⟩
            clear hret hcs C; grind
          · skip
            refine x_iconst (v := 1) C dX5_takes_42 (by decide) ?_
            refine x_goto (tgt := 47) C dX5_takes_43 (by decide) ?_
            refine hret _ _ _ _ dX5_takes_47 rfl ⟨Or.inl ⟨rfl, ?_⟩, rfl⟩
            clear hret hcs C; grind

theorem hasEgg_1 {M : Mem} {h : Nat} {x : Int32} (h1 : ¬ x < 0 ∧ x < rowsT 0) (h2 : ¬ tabAt M h 0 x 0 = -1) : eggP (vw M h) x := by
  have e := nI_tn h1.1
  have h8 : x.toNatClampNeg < 8 := tn_lt (n := 8) h1.1 h1.2 (by decide)
  refine ⟨h1, (vw_thr h8).mpr ?_⟩
  rw [tabAt_e (j := 0) (b := 0) (col := 0) e rfl (by decide) h8 (by decide)] at h2
  exact h2
theorem hasEgg_0 {M : Mem} {h : Nat} {x : Int32} (h0 : ¬ (¬ x < 0 ∧ x < rowsT 0) ∨ tabAt M h 0 x 0 = -1) : ¬ eggP (vw M h) x := by
  intro q
  rcases h0 with h0 | h0
  · exact h0 q.1
  · have e := nI_tn q.1.1
    have h8 : x.toNatClampNeg < 8 := tn_lt (n := 8) q.1.1 q.1.2 (by decide)
    rw [tabAt_e (j := 0) (b := 0) (col := 0) e rfl (by decide) h8 (by decide)] at h0
    exact (vw_thr h8).mp q.2 h0
def rm_X1_hasEgg : Room := { frames := 1, cells := 0, slots := 0, locals := 22 }
set_option maxRecDepth 100000 in
set_option maxHeartbeats 4000000 in
theorem c_X1_hasEgg (l : Launch) (g : Gp) {h : Nat} (hh : isH h) (M : Mem) (x : Int32) : Kp l g yX1_hasEgg cX1_hasEgg 2 .boolean rm_X1_hasEgg [.ref (gad g (h)), .int (x)] M (bv (eggP (vw M h) x)) := by
  unfold Kp
  refine Ki.of rfl rfl rfl (fun q C hret hcs => ?_)
  refine x_aload_n C dX1_hasEgg_0 rfl ?_
  refine x_getf (k := h) C bk_X1 (C.lt' (isH_lt hh 0 (by decide))) rfl (ent_H0 hh) 0 fw_X1_21 rfl rfl dX1_hasEgg_1 ?_
  refine x_iload_n C dX1_hasEgg_4 rfl ?_
  refine x_cvB C (k := h + (0 + 1)) (c_X5_hasRow l g (h := h) (j := 0) hh (by decide) _ _ ) o_X5_hasRow mw_X1_71 rfl (C.lt' (isH_lt hh (0 + 1) (by omega))) (rcv_HT hh 0 (by decide)) rfl rfl rfl hcs dX1_hasEgg_5 (fun c5 => ?_) (fun c5 => ?_)
  · skip
    refine x_if_eqF (tgt := 28) C dX1_hasEgg_8 (by decide) (by decide) ?_
    refine x_aload_n C dX1_hasEgg_11 rfl ?_
    refine x_getf (k := h) C bk_X1 (C.lt' (isH_lt hh 0 (by decide))) rfl (ent_H0 hh) 0 fw_X1_21 rfl rfl dX1_hasEgg_12 ?_
    refine x_iload_n C dX1_hasEgg_15 rfl ?_
    refine x_iconst (v := 0) C dX1_hasEgg_16 (by decide) ?_
    refine x_cvE C (k := h + (0 + 1)) (c_X5_at l g (h := h) (j := 0) hh (by decide) _ _ _ ) o_X5_at mw_X1_75 rfl (C.lt' (isH_lt hh (0 + 1) (by omega))) (rcv_HT hh 0 (by decide)) rfl rfl rfl hcs dX1_hasEgg_17 ?_
    refine x_iconst (v := -1) C dX1_hasEgg_20 (by decide) ?_
    refine x_icmp_eq (tgt := 28) C dX1_hasEgg_21 (by decide) (fun c21 => ?_) (fun c21 => ?_)
    · skip
      refine x_iconst (v := 0) C dX1_hasEgg_28 (by decide) ?_
      refine hret _ _ _ _ dX1_hasEgg_29 rfl ⟨Or.inr ⟨rfl, ?_⟩, rfl⟩
      exact hasEgg_0 (by clear hret hcs C; grind)
    · skip
      refine x_iconst (v := 1) C dX1_hasEgg_24 (by decide) ?_
      refine x_goto (tgt := 29) C dX1_hasEgg_25 (by decide) ?_
      refine hret _ _ _ _ dX1_hasEgg_29 rfl ⟨Or.inl ⟨rfl, ?_⟩, rfl⟩
      exact hasEgg_1 c5 c21
  · skip
    refine x_if_eqT (tgt := 28) C dX1_hasEgg_8 (by decide) (by decide) ?_
    refine x_iconst (v := 0) C dX1_hasEgg_28 (by decide) ?_
    refine hret _ _ _ _ dX1_hasEgg_29 rfl ⟨Or.inr ⟨rfl, ?_⟩, rfl⟩
    exact hasEgg_0 (by clear hret hcs C; grind)

def rm_X1_emptyPlace : Room := { frames := 2, cells := 0, slots := 0, locals := 43 }
set_option maxRecDepth 100000 in
set_option maxHeartbeats 4000000 in
theorem c_X1_emptyPlace (l : Launch) (g : Gp) {h : Nat} (hh : isH h) (M : Mem) : Kp l g yX1_emptyPlace cX1_emptyPlace 2 .int rm_X1_emptyPlace [.ref (gad g (h))] M (fun r => r = frI (vw M h)) := by
  unfold Kp
  refine Ki.of rfl rfl rfl (fun q C hret hcs => ?_)
  refine x_iconst (v := 0) C dX1_emptyPlace_0 (by decide) ?_
  refine x_istore_n C dX1_emptyPlace_1 rfl ?_
  refine up_to 8 (P := fun i => (∀ e, e < i → thr (vw M h) e) → X (kmk l rm_X1_emptyPlace g 2 q) M 2 [some (.ref (gad g h)), some (.int (nI i))] []) (fun i hi ih hthr => ?_) 0 (by omega) (fun e he => absurd he (by omega))
  refine x_iload_n C dX1_emptyPlace_2 rfl ?_
  refine x_bipush (v := 8) C dX1_emptyPlace_3 (by decide) ?_
  refine x_icmp_ge (tgt := 24) C dX1_emptyPlace_5 (by decide) (fun c5 => ?_) (fun c5 => ?_)
  · skip
    have hlt : i = 8 := by rcases Nat.lt_or_ge i 8 with z | z; exact absurd c5 (nI_ge z (by decide)); omega
    refine x_iconst (v := -1) C dX1_emptyPlace_24 (by decide) ?_
    refine hret _ _ _ _ dX1_emptyPlace_25 rfl ⟨?_, rfl⟩
    subst hlt; unfold frI; rw [frN_all hthr, if_neg (by decide)]
  · skip
    have hlt : i < 8 := by rcases Nat.lt_or_ge i 8 with z | z; exact z; exact absurd (nI_le z (by omega)) c5
    refine x_aload_n C dX1_emptyPlace_8 rfl ?_
    refine x_iload_n C dX1_emptyPlace_9 rfl ?_
    refine x_cvB C (k := h) (c_X1_hasEgg l g (h := h) hh _ _ ) o_X1_hasEgg mw_X1_79 rfl (C.lt' (isH_lt hh 0 (by decide))) (rcv_H hh) rfl rfl rfl hcs dX1_emptyPlace_10 (fun c10 => ?_) (fun c10 => ?_)
    · skip
      refine x_if_neT (tgt := 18) C dX1_emptyPlace_13 (by decide) (by decide) ?_
      refine x_iinc (v := nI (i + 1)) C dX1_emptyPlace_18 rfl (nI_1 i) rfl ?_
      refine x_goto (tgt := 2) C dX1_emptyPlace_21 (by decide) ?_
      exact ih hlt (fun e he => by rcases Nat.lt_or_ge e i with z | z; exact hthr e z; rw [show e = i by omega]; exact (eggP_n hlt).mp c10)
    · skip
      refine x_if_neF (tgt := 18) C dX1_emptyPlace_13 (by decide) (by decide) ?_
      refine x_iload_n C dX1_emptyPlace_16 rfl ?_
      refine hret _ _ _ _ dX1_emptyPlace_17 rfl ⟨?_, rfl⟩
      unfold frI; rw [frN_hit hthr (fun z => c10 ((eggP_n hlt).mpr z)) hlt, if_pos hlt]

def rm_X1_places : Room := { frames := 2, cells := 0, slots := 0, locals := 43 }
set_option maxRecDepth 100000 in
set_option maxHeartbeats 4000000 in
theorem c_X1_places (l : Launch) (g : Gp) {h : Nat} (hh : isH h) (M : Mem) : Kp l g yX1_places cX1_places 3 .int rm_X1_places [.ref (gad g (h))] M (fun r => r = nI (eggN (vw M h) 8)) := by
  unfold Kp
  refine Ki.of rfl rfl rfl (fun q C hret hcs => ?_)
  refine x_iconst (v := 0) C dX1_places_0 (by decide) ?_
  refine x_istore_n C dX1_places_1 rfl ?_
  refine x_iconst (v := 0) C dX1_places_2 (by decide) ?_
  refine x_istore_n C dX1_places_3 rfl ?_
  refine up_to 8 (P := fun i => X (kmk l rm_X1_places g 3 q) M 4 [some (.ref (gad g h)), some (.int (nI (eggN (vw M h) i))), some (.int (nI i))] []) (fun i hi ih => ?_) 0 (by omega)
  refine x_iload_n C dX1_places_4 rfl ?_
  refine x_bipush (v := 8) C dX1_places_5 (by decide) ?_
  refine x_icmp_ge (tgt := 30) C dX1_places_7 (by decide) (fun c7 => ?_) (fun c7 => ?_)
  · skip
    have hlt : i = 8 := by rcases Nat.lt_or_ge i 8 with z | z; exact absurd c7 (nI_ge z (by decide)); omega
    refine x_iload_n C dX1_places_30 rfl ?_
    refine hret _ _ _ _ dX1_places_31 rfl ⟨?_, rfl⟩
    subst hlt; rfl
  · skip
    have hlt : i < 8 := by rcases Nat.lt_or_ge i 8 with z | z; exact z; exact absurd (nI_le z (by omega)) c7
    refine x_aload_n C dX1_places_10 rfl ?_
    refine x_iload_n C dX1_places_11 rfl ?_
    refine x_cvB C (k := h) (c_X1_hasEgg l g (h := h) hh _ _ ) o_X1_hasEgg mw_X1_79 rfl (C.lt' (isH_lt hh 0 (by decide))) (rcv_H hh) rfl rfl rfl hcs dX1_places_12 (fun c12 => ?_) (fun c12 => ?_)
    · skip
      refine x_if_eqF (tgt := 24) C dX1_places_15 (by decide) (by decide) ?_
      refine x_iload_n C dX1_places_18 rfl ?_
      refine x_iconst (v := 1) C dX1_places_19 (by decide) ?_
      refine x_iload_n C dX1_places_20 rfl ?_
      refine x_ishl C dX1_places_21 ?_
      refine x_ior C dX1_places_22 ?_
      refine x_topE (y := nI (eggN (vw M h) (i + 1))) (by rw [or_bit (eggN_lt _ i) hlt]; show _ = nI (_ + _); rw [if_pos ((eggP_n hlt).mp c12)]) ?_
      refine x_istore_n C dX1_places_23 rfl ?_
      refine x_iinc (v := nI (i + 1)) C dX1_places_24 rfl (nI_1 i) rfl ?_
      refine x_goto (tgt := 4) C dX1_places_27 (by decide) ?_
      exact ih hlt
    · skip
      refine x_if_eqT (tgt := 24) C dX1_places_15 (by decide) (by decide) ?_
      refine x_iinc (v := nI (i + 1)) C dX1_places_24 rfl (nI_1 i) rfl ?_
      refine x_goto (tgt := 4) C dX1_places_27 (by decide) ?_
      have e : eggN (vw M h) (i + 1) = eggN (vw M h) i := by show _ + _ = _; rw [if_neg (fun z => c12 ((eggP_n hlt).mpr z))]; rfl
      rw [e] at ih
      exact ih hlt

