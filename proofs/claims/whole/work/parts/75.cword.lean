/-! ===== contracts: the class's words ===== -/
def rm_X6_at : Room := { frames := 0, cells := 0, slots := 0, locals := 0 }
set_option maxRecDepth 100000 in
set_option maxHeartbeats 4000000 in
theorem c_X6_at (l : Launch) (g : Gp) (M : Mem) {T : Row} {L : Nat} (ht : tpC M T L) {x : Int32} {k : Nat} (hx : x = nI k) (hk : k ≤ 120) : Kp l g yX6_at cX6_at 2 .int rm_X6_at [.ref (gad g (37)), .int (x)] M (fun r => r = atV T L k) := by
  unfold Kp
  refine Ki.of rfl rfl rfl (fun q C hret hcs => ?_)
  refine x_iload_n C dX6_at_0 rfl ?_
  refine x_if_lt (tgt := 27) C dX6_at_1 (by decide) (fun c1 => ?_) (fun c1 => ?_)
  · skip
    exact absurd c1 (by rw [hx]; exact nI_pos (by omega))
  · skip
    refine x_iload_n C dX6_at_4 rfl ?_
    refine x_aload_n C dX6_at_5 rfl ?_
    refine x_getf (k := 37) C bk_X6 (C.lt rfl) rfl ent_37 1 fw_X6_13 rfl rfl dX6_at_6 ?_
    refine x_icmp_ge (tgt := 27) C dX6_at_9 (by decide) (fun c9 => ?_) (fun c9 => ?_)
    · skip
      have hz : ¬ k < L := fun z => nI_ge z (by have := ht.2.1; omega) (by rw [← hx, ← ht.1]; exact c9)
      refine x_iconst (v := -1) C dX6_at_27 (by decide) ?_
      refine hret _ _ _ _ dX6_at_28 rfl ⟨?_, rfl⟩
      unfold atV; rw [if_neg hz]
    · skip
      have hz : k < L := by rcases Nat.lt_or_ge k L with z | z; exact z; exact absurd (by rw [ht.1, hx]; exact nI_le z (by omega)) c9
      refine x_iload_n C dX6_at_12 rfl ?_
      refine x_bipush (v := 120) C dX6_at_13 (by decide) ?_
      refine x_icmp_ge (tgt := 27) C dX6_at_15 (by decide) (fun c15 => ?_) (fun c15 => ?_)
      · skip
        exact absurd c15 (by rw [hx]; exact nI_ge (a := k) (b := 120) (by have := ht.2.1; omega) (by decide))
      · skip
        refine x_aload_n C dX6_at_18 rfl ?_
        refine x_getf (k := 37) C bk_X6 (C.lt rfl) rfl ent_37 0 fw_X6_9 rfl rfl dX6_at_19 ?_
        refine x_iload_n C dX6_at_22 rfl ?_
        refine x_iald (j := k) (k := 38) C (C.lt rfl) rfl ent_38 (hx) (by have := ht.2.1; omega) rfl dX6_at_23 ?_
        refine x_goto (tgt := 28) C dX6_at_24 (by decide) ?_
        refine hret _ _ _ _ dX6_at_28 rfl ⟨?_, rfl⟩
        unfold atV; rw [if_pos hz]; exact ht.2.2.1 k (by have := ht.2.1; omega)

def rm_X3_sortOf : Room := { frames := 0, cells := 0, slots := 0, locals := 0 }
set_option maxRecDepth 100000 in
set_option maxHeartbeats 4000000 in
theorem c_X3_sortOf (l : Launch) (g : Gp) (M : Mem) (b : Int32) : Kp l g yX3_sortOf cX3_sortOf 1 .int rm_X3_sortOf [.int (b)] M (fun r => r = sIf b) := by
  unfold Kp
  refine Ki.of rfl rfl rfl (fun q C hret hcs => ?_)
  refine x_iload_n C dX3_sortOf_0 rfl ?_
  refine x_bipush (v := 97) C dX3_sortOf_1 (by decide) ?_
  refine x_icmp_lt (tgt := 14) C dX3_sortOf_3 (by decide) (fun c3 => ?_) (fun c3 => ?_)
  · skip
    refine x_iload_n C dX3_sortOf_14 rfl ?_
    refine x_bipush (v := 48) C dX3_sortOf_15 (by decide) ?_
    refine x_icmp_lt (tgt := 28) C dX3_sortOf_17 (by decide) (fun c17 => ?_) (fun c17 => ?_)
    · skip
      refine x_iload_n C dX3_sortOf_28 rfl ?_
      refine x_if_ge (tgt := 34) C dX3_sortOf_29 (by decide) (fun c29 => ?_) (fun c29 => ?_)
      · skip
        refine x_iload_n C dX3_sortOf_34 rfl ?_
        refine x_bipush (v := 59) C dX3_sortOf_35 (by decide) ?_
        refine x_icmp_ne (tgt := 44) C dX3_sortOf_37 (by decide) (fun c37 => ?_) (fun c37 => ?_)
        · skip
          refine x_iconst (v := 4) C dX3_sortOf_44 (by decide) ?_
          refine hret _ _ _ _ dX3_sortOf_45 rfl ⟨?_, rfl⟩
          unfold sIf; clear hret hcs C; grind
        · skip
          refine x_iconst (v := 3) C dX3_sortOf_40 (by decide) ?_
          refine x_goto (tgt := 45) C dX3_sortOf_41 (by decide) ?_
          refine hret _ _ _ _ dX3_sortOf_45 rfl ⟨?_, rfl⟩
          unfold sIf; clear hret hcs C; grind
      · skip
        refine x_iconst (v := 0) C dX3_sortOf_32 (by decide) ?_
        refine hret _ _ _ _ dX3_sortOf_33 rfl ⟨?_, rfl⟩
        unfold sIf; clear hret hcs C; grind
    · skip
      refine x_iload_n C dX3_sortOf_20 rfl ?_
      refine x_bipush (v := 57) C dX3_sortOf_21 (by decide) ?_
      refine x_icmp_gt (tgt := 28) C dX3_sortOf_23 (by decide) (fun c23 => ?_) (fun c23 => ?_)
      · skip
        refine x_iload_n C dX3_sortOf_28 rfl ?_
        refine x_if_ge (tgt := 34) C dX3_sortOf_29 (by decide) (fun c29 => ?_) (fun c29 => ?_)
        · skip
          refine x_iload_n C dX3_sortOf_34 rfl ?_
          refine x_bipush (v := 59) C dX3_sortOf_35 (by decide) ?_
          refine x_icmp_ne (tgt := 44) C dX3_sortOf_37 (by decide) (fun c37 => ?_) (fun c37 => ?_)
          · skip
            refine x_iconst (v := 4) C dX3_sortOf_44 (by decide) ?_
            refine hret _ _ _ _ dX3_sortOf_45 rfl ⟨?_, rfl⟩
            unfold sIf; clear hret hcs C; grind
          · skip
            refine x_iconst (v := 3) C dX3_sortOf_40 (by decide) ?_
            refine x_goto (tgt := 45) C dX3_sortOf_41 (by decide) ?_
            refine hret _ _ _ _ dX3_sortOf_45 rfl ⟨?_, rfl⟩
            unfold sIf; clear hret hcs C; grind
        · skip
          refine x_iconst (v := 0) C dX3_sortOf_32 (by decide) ?_
          refine hret _ _ _ _ dX3_sortOf_33 rfl ⟨?_, rfl⟩
          unfold sIf; clear hret hcs C; grind
      · skip
        refine x_iconst (v := 2) C dX3_sortOf_26 (by decide) ?_
        refine hret _ _ _ _ dX3_sortOf_27 rfl ⟨?_, rfl⟩
        unfold sIf; clear hret hcs C; grind
  · skip
    refine x_iload_n C dX3_sortOf_6 rfl ?_
    refine x_bipush (v := 122) C dX3_sortOf_7 (by decide) ?_
    refine x_icmp_gt (tgt := 14) C dX3_sortOf_9 (by decide) (fun c9 => ?_) (fun c9 => ?_)
    · skip
      refine x_iload_n C dX3_sortOf_14 rfl ?_
      refine x_bipush (v := 48) C dX3_sortOf_15 (by decide) ?_
      refine x_icmp_lt (tgt := 28) C dX3_sortOf_17 (by decide) (fun c17 => ?_) (fun c17 => ?_)
      · skip
        refine x_iload_n C dX3_sortOf_28 rfl ?_
        refine x_if_ge (tgt := 34) C dX3_sortOf_29 (by decide) (fun c29 => ?_) (fun c29 => ?_)
        · skip
          refine x_iload_n C dX3_sortOf_34 rfl ?_
          refine x_bipush (v := 59) C dX3_sortOf_35 (by decide) ?_
          refine x_icmp_ne (tgt := 44) C dX3_sortOf_37 (by decide) (fun c37 => ?_) (fun c37 => ?_)
          · skip
            refine x_iconst (v := 4) C dX3_sortOf_44 (by decide) ?_
            refine hret _ _ _ _ dX3_sortOf_45 rfl ⟨?_, rfl⟩
            unfold sIf; clear hret hcs C; grind
          · skip
            refine x_iconst (v := 3) C dX3_sortOf_40 (by decide) ?_
            refine x_goto (tgt := 45) C dX3_sortOf_41 (by decide) ?_
            refine hret _ _ _ _ dX3_sortOf_45 rfl ⟨?_, rfl⟩
            unfold sIf; clear hret hcs C; grind
        · skip
          refine x_iconst (v := 0) C dX3_sortOf_32 (by decide) ?_
          refine hret _ _ _ _ dX3_sortOf_33 rfl ⟨?_, rfl⟩
          unfold sIf; clear hret hcs C; grind
      · skip
        refine x_iload_n C dX3_sortOf_20 rfl ?_
        refine x_bipush (v := 57) C dX3_sortOf_21 (by decide) ?_
        refine x_icmp_gt (tgt := 28) C dX3_sortOf_23 (by decide) (fun c23 => ?_) (fun c23 => ?_)
        · skip
          refine x_iload_n C dX3_sortOf_28 rfl ?_
          refine x_if_ge (tgt := 34) C dX3_sortOf_29 (by decide) (fun c29 => ?_) (fun c29 => ?_)
          · skip
            refine x_iload_n C dX3_sortOf_34 rfl ?_
            refine x_bipush (v := 59) C dX3_sortOf_35 (by decide) ?_
            refine x_icmp_ne (tgt := 44) C dX3_sortOf_37 (by decide) (fun c37 => ?_) (fun c37 => ?_)
            · skip
              refine x_iconst (v := 4) C dX3_sortOf_44 (by decide) ?_
              refine hret _ _ _ _ dX3_sortOf_45 rfl ⟨?_, rfl⟩
              unfold sIf; clear hret hcs C; grind
            · skip
              refine x_iconst (v := 3) C dX3_sortOf_40 (by decide) ?_
              refine x_goto (tgt := 45) C dX3_sortOf_41 (by decide) ?_
              refine hret _ _ _ _ dX3_sortOf_45 rfl ⟨?_, rfl⟩
              unfold sIf; clear hret hcs C; grind
          · skip
            refine x_iconst (v := 0) C dX3_sortOf_32 (by decide) ?_
            refine hret _ _ _ _ dX3_sortOf_33 rfl ⟨?_, rfl⟩
            unfold sIf; clear hret hcs C; grind
        · skip
          refine x_iconst (v := 2) C dX3_sortOf_26 (by decide) ?_
          refine hret _ _ _ _ dX3_sortOf_27 rfl ⟨?_, rfl⟩
          unfold sIf; clear hret hcs C; grind
    · skip
      refine x_iconst (v := 1) C dX3_sortOf_12 (by decide) ?_
      refine hret _ _ _ _ dX3_sortOf_13 rfl ⟨?_, rfl⟩
      unfold sIf; clear hret hcs C; grind

def rm_X3_isAhead : Room := { frames := 5, cells := 0, slots := 0, locals := 106 }
set_option maxRecDepth 100000 in
set_option maxHeartbeats 4000000 in
theorem c_X3_isAhead (l : Launch) (g : Gp) (hrd : 56 < gn g) (M : Mem) {T : Row} {L p : Nat} (ht : tpC M T L) (hr : rdC T L M p) {i : Nat} (hi : i < 13) : Kp l g yX3_isAhead cX3_isAhead 3 .boolean rm_X3_isAhead [.ref (gad g (56)), .ref (gsa g (8 + i))] M (bv (isW T L p i)) := by
  unfold Kp
  refine Ki.of rfl rfl rfl (fun q C hret hcs => ?_)
  refine x_aload_n C dX3_isAhead_0 rfl ?_
  refine x_getf (k := 56) C bk_X3 hrd rfl ent_56 2 fw_X3_45 rfl rfl dX3_isAhead_1 ?_
  refine x_iconst (v := 1) C dX3_isAhead_4 (by decide) ?_
  refine x_icmp_ne (tgt := 28) C dX3_isAhead_5 (by decide) (fun c5 => ?_) (fun c5 => ?_)
  · skip
    have hz : ¬ isW T L p i := fun z => c5 (by rw [hr.2.1, z.1]; rfl)
    refine x_iconst (v := 0) C dX3_isAhead_28 (by decide) ?_
    refine hret _ _ _ _ dX3_isAhead_29 rfl ⟨Or.inr ⟨rfl, ?_⟩, rfl⟩
    exact hz
  · skip
    have h1 := sor_is (k := 1) (by decide) hr.2.1 c5
    refine x_aload_n C dX3_isAhead_8 rfl ?_
    refine x_ifnull C dX3_isAhead_9 ?_
    refine x_aload_n C dX3_isAhead_12 rfl ?_
    refine x_ctE C (c_J0_length_8abf5 l g _ (i := i) (hi) ) (hi) rfl o_J0_length_8abf5 mw_X3_119 rfl rfl rfl rfl hcs dX3_isAhead_13 ?_
    refine x_aload_n C dX3_isAhead_16 rfl ?_
    refine x_getf (k := 56) C bk_X3 hrd rfl ent_56 4 fw_X3_124 rfl rfl dX3_isAhead_17 ?_
    refine x_aload_n C dX3_isAhead_20 rfl ?_
    refine x_getf (k := 56) C bk_X3 hrd rfl ent_56 3 fw_X3_49 rfl rfl dX3_isAhead_21 ?_
    refine x_isub C dX3_isAhead_24 ?_
    refine x_topE (y := nI (enn T L p - stt T L p)) (by rw [hr.2.2.2.1, hr.2.2.1]; exact nI_subN (enn_b hr.1).1) ?_
    refine x_icmp_eq (tgt := 30) C dX3_isAhead_25 (by decide) (fun c25 => ?_) (fun c25 => ?_)
    · skip
      have hlen := (nI_eq (a := sLn.getD i 0) (b := enn T L p - stt T L p) (by have := wln_8 i hi; omega) (by have := (enn_b (T := T) hr.1).2.1; have := ht.2.1; omega)).mp c25
      refine x_iconst (v := 0) C dX3_isAhead_30 (by decide) ?_
      refine x_istore_n C dX3_isAhead_31 rfl ?_
      refine up_to (sLn.getD i 0) (P := fun k => (∀ j, j < k → T (stt T L p + j) = wBy i j) → X (kmk l rm_X3_isAhead g 3 q) M 32 [some (.ref (gad g (56))), some (.ref (gsa g (8 + i))), some (.int (nI k))] []) (fun k hk jh hal => ?_) 0 (Nat.zero_le _) (fun j hj => absurd hj (Nat.not_lt_zero j))
      refine x_iload_n C dX3_isAhead_32 rfl ?_
      refine x_aload_n C dX3_isAhead_33 rfl ?_
      refine x_ctE C (c_J0_length_8abf5 l g _ (i := i) (hi) ) (hi) rfl o_J0_length_8abf5 mw_X3_119 rfl rfl rfl rfl hcs dX3_isAhead_34 ?_
      refine x_icmp_ge (tgt := 69) C dX3_isAhead_37 (by decide) (fun c37 => ?_) (fun c37 => ?_)
      · skip
        have hkt := lp_ge (N := sLn.getD i 0) (by have := wln_8 i hi; omega) hk c37
        refine x_iconst (v := 1) C dX3_isAhead_69 (by decide) ?_
        refine hret _ _ _ _ dX3_isAhead_70 rfl ⟨Or.inl ⟨rfl, ?_⟩, rfl⟩
        exact ⟨h1, hlen.symm, fun j hj => hal j (by have hj2 : j < sLn.getD i 0 := hj; omega)⟩
      · skip
        have hkt := lp_lt (N := sLn.getD i 0) (by have := wln_8 i hi; omega) hk c37
        have hsk : stt T L p + k < L := by have h9 := (enn_b (T := T) hr.1).2.1; omega
        refine x_aload_n C dX3_isAhead_40 rfl ?_
        refine x_iload_n C dX3_isAhead_41 rfl ?_
        refine x_ctE C (c_J0_charAt_5068e l g _ (i := i) (hi) (k := k) rfl hkt ) (hi) rfl o_J0_charAt_5068e mw_X3_127 rfl rfl rfl rfl hcs dX3_isAhead_42 ?_
        refine x_aload_n C dX3_isAhead_45 rfl ?_
        refine x_getf (k := 56) C bk_X3 hrd rfl ent_56 0 fw_X3_9 rfl rfl dX3_isAhead_46 ?_
        refine x_aload_n C dX3_isAhead_49 rfl ?_
        refine x_getf (k := 56) C bk_X3 hrd rfl ent_56 3 fw_X3_49 rfl rfl dX3_isAhead_50 ?_
        refine x_iload_n C dX3_isAhead_53 rfl ?_
        refine x_iadd C dX3_isAhead_54 ?_
        refine x_topE (y := nI (stt T L p + k)) (by rw [hr.2.2.1]; exact nI_add _ _) ?_
        refine x_cvE C (k := 37) (c_X6_at l g _ (T := T) (L := L) ht (k := (stt T L p + k)) rfl (by have := ht.2.1; omega) ) o_X6_at mw_X3_131 rfl (C.lt rfl) rcv_37 rfl rfl rfl hcs dX3_isAhead_55 ?_
        refine x_icmp_eq (tgt := 63) C dX3_isAhead_58 (by decide) (fun c58 => ?_) (fun c58 => ?_)
        · skip
          have hTk : T (stt T L p + k) = wBy i k := by unfold atV at c58; rw [if_pos hsk] at c58; exact c58.symm
          refine x_iinc (v := nI (k + 1)) C dX3_isAhead_63 rfl (nI_1 k) rfl ?_
          refine x_goto (tgt := 32) C dX3_isAhead_66 (by decide) ?_
          exact jh hkt (fun j hj => by rcases Nat.lt_or_ge j k with z | z; exact hal j z; rw [show j = k by omega]; exact hTk)
        · skip
          have hz : ¬ isW T L p i := fun z => c58 (by unfold atV; rw [if_pos hsk]; exact (z.2.2 k hkt).symm)
          refine x_iconst (v := 0) C dX3_isAhead_61 (by decide) ?_
          refine hret _ _ _ _ dX3_isAhead_62 rfl ⟨Or.inr ⟨rfl, ?_⟩, rfl⟩
          exact hz
    · skip
      have hz : ¬ isW T L p i := fun z => c25 (by rw [z.2.1])
      refine x_iconst (v := 0) C dX3_isAhead_28 (by decide) ?_
      refine hret _ _ _ _ dX3_isAhead_29 rfl ⟨Or.inr ⟨rfl, ?_⟩, rfl⟩
      exact hz

def rm_X3_wordOf : Room := { frames := 0, cells := 0, slots := 0, locals := 0 }
set_option maxRecDepth 100000 in
set_option maxHeartbeats 4000000 in
theorem c_X3_wordOf (l : Launch) (g : Gp) (M : Mem) {x : Int32} {k : Nat} (hx : x = nI k) (hk : k < 7) : Kq l g yX3_wordOf cX3_wordOf 1 ((.object "java/lang/String")) rm_X3_wordOf [.int (x)] M (fun r M' => M = M' ∧ r = some (gsa g (8 + k))) := by
  refine Kq.of rfl rfl rfl (Or.inl ⟨_, rfl⟩) (fun q C hret hcs => ?_)
  refine x_iload_n C dX3_wordOf_0 rfl ?_
  rcases sw_split (x) 1 6 with c1 | c1
  · skip
    refine x_tableOut (tgt := 58) C dX3_wordOf_1 c1 (by decide) ?_
    refine x_ldcS C (i := 0) (by decide) dX3_wordOf_58 ?_
    refine hret _ _ _ (some (gsa g (8 + 0))) dX3_wordOf_60 ?_
    refine ⟨rfl, ?_⟩
    have e : k = 0 := by rw [hx, nI_toInt (by omega)] at c1; omega
    rw [e]
  · skip
    by_cases c1_1 : x = 1
    · skip
      refine x_tableIn (tgt := 40) (off := 39) C dX3_wordOf_1 c1.1 c1.2 (by rw [c1_1]; decide) (by decide) ?_
      refine x_ldcS C (i := 1) (by decide) dX3_wordOf_40 ?_
      refine hret _ _ _ (some (gsa g (8 + 1))) dX3_wordOf_42 ?_
      refine ⟨rfl, ?_⟩
      have e : k = 1 := (nI_eq (by omega) (by decide)).mp (hx.symm.trans c1_1)
      rw [e]
    by_cases c1_2 : x = 2
    · skip
      refine x_tableIn (tgt := 43) (off := 42) C dX3_wordOf_1 c1.1 c1.2 (by rw [c1_2]; decide) (by decide) ?_
      refine x_ldcS C (i := 2) (by decide) dX3_wordOf_43 ?_
      refine hret _ _ _ (some (gsa g (8 + 2))) dX3_wordOf_45 ?_
      refine ⟨rfl, ?_⟩
      have e : k = 2 := (nI_eq (by omega) (by decide)).mp (hx.symm.trans c1_2)
      rw [e]
    by_cases c1_3 : x = 3
    · skip
      refine x_tableIn (tgt := 46) (off := 45) C dX3_wordOf_1 c1.1 c1.2 (by rw [c1_3]; decide) (by decide) ?_
      refine x_ldcS C (i := 3) (by decide) dX3_wordOf_46 ?_
      refine hret _ _ _ (some (gsa g (8 + 3))) dX3_wordOf_48 ?_
      refine ⟨rfl, ?_⟩
      have e : k = 3 := (nI_eq (by omega) (by decide)).mp (hx.symm.trans c1_3)
      rw [e]
    by_cases c1_4 : x = 4
    · skip
      refine x_tableIn (tgt := 49) (off := 48) C dX3_wordOf_1 c1.1 c1.2 (by rw [c1_4]; decide) (by decide) ?_
      refine x_ldcS C (i := 4) (by decide) dX3_wordOf_49 ?_
      refine hret _ _ _ (some (gsa g (8 + 4))) dX3_wordOf_51 ?_
      refine ⟨rfl, ?_⟩
      have e : k = 4 := (nI_eq (by omega) (by decide)).mp (hx.symm.trans c1_4)
      rw [e]
    by_cases c1_5 : x = 5
    · skip
      refine x_tableIn (tgt := 52) (off := 51) C dX3_wordOf_1 c1.1 c1.2 (by rw [c1_5]; decide) (by decide) ?_
      refine x_ldcS C (i := 5) (by decide) dX3_wordOf_52 ?_
      refine hret _ _ _ (some (gsa g (8 + 5))) dX3_wordOf_54 ?_
      refine ⟨rfl, ?_⟩
      have e : k = 5 := (nI_eq (by omega) (by decide)).mp (hx.symm.trans c1_5)
      rw [e]
    by_cases c1_6 : x = 6
    · skip
      refine x_tableIn (tgt := 55) (off := 54) C dX3_wordOf_1 c1.1 c1.2 (by rw [c1_6]; decide) (by decide) ?_
      refine x_ldcS C (i := 6) (by decide) dX3_wordOf_55 ?_
      refine hret _ _ _ (some (gsa g (8 + 6))) dX3_wordOf_57 ?_
      refine ⟨rfl, ?_⟩
      have e : k = 6 := (nI_eq (by omega) (by decide)).mp (hx.symm.trans c1_6)
      rw [e]
    exfalso
    have h1 := c1.1; have h2 := c1.2
    simp only [fa_eq] at c1_1 c1_2 c1_3 c1_4 c1_5 c1_6
    simp at c1_1 c1_2 c1_3 c1_4 c1_5 c1_6
    omega

def rm_X3_kindAhead : Room := { frames := 6, cells := 0, slots := 0, locals := 128 }
set_option maxRecDepth 100000 in
set_option maxHeartbeats 4000000 in
theorem c_X3_kindAhead (l : Launch) (g : Gp) (hrd : 56 < gn g) (M : Mem) {T : Row} {L p : Nat} (ht : tpC M T L) (hr : rdC T L M p)  : Kp l g yX3_kindAhead cX3_kindAhead 2 .int rm_X3_kindAhead [.ref (gad g (56))] M (fun r => r = kdI T L p) := by
  unfold Kp
  refine Ki.of rfl rfl rfl (fun q C hret hcs => ?_)
  refine x_iconst (v := 0) C dX3_kindAhead_0 (by decide) ?_
  refine x_istore_n C dX3_kindAhead_1 rfl ?_
  refine up_to 7 (P := fun i => (∀ w, w < i → ¬ isW T L p w) → X (kmk l rm_X3_kindAhead g 2 q) M 2 [some (.ref (gad g (56))), some (.int (nI i))] []) (fun i hi jh hno => ?_) 0 (by omega) (fun w hw => absurd hw (Nat.not_lt_zero w))
  refine x_iload_n C dX3_kindAhead_2 rfl ?_
  refine x_bipush (v := 7) C dX3_kindAhead_3 (by decide) ?_
  refine x_icmp_ge (tgt := 27) C dX3_kindAhead_5 (by decide) (fun c5 => ?_) (fun c5 => ?_)
  · skip
    have hlt := lp_ge (N := 7) (by decide) hi c5
    refine x_iconst (v := -1) C dX3_kindAhead_27 (by decide) ?_
    refine hret _ _ _ _ dX3_kindAhead_28 rfl ⟨?_, rfl⟩
    have hz : ¬ kdN T L p < 7 := fun z => hno _ (by omega) (kdN_is z)
    unfold kdI; rw [if_neg hz]
  · skip
    have hlt := lp_lt (N := 7) (by decide) hi c5
    refine x_aload_n C dX3_kindAhead_8 rfl ?_
    refine x_iload_n C dX3_kindAhead_9 rfl ?_
    refine x_csq C (c_X3_wordOf l g _ (k := i) rfl hlt ) o_X3_wordOf mw_X3_101 rfl rfl rfl rfl hcs dX3_kindAhead_10 (fun r1 M2 hr1 => ?_)
    obtain ⟨rfl, rfl⟩ := hr1
    · skip
      refine x_cvB C (k := 56) (c_X3_isAhead l g hrd _ (T := T) (L := L) (p := p) ht hr (i := i) (by omega) ) o_X3_isAhead mw_X3_34 rfl hrd rcv_56 rfl rfl rfl hcs dX3_kindAhead_13 (fun c13 => ?_) (fun c13 => ?_)
      · skip
        refine x_if_eqF (tgt := 21) C dX3_kindAhead_16 (by decide) (by decide) ?_
        refine x_iload_n C dX3_kindAhead_19 rfl ?_
        refine hret _ _ _ _ dX3_kindAhead_20 rfl ⟨?_, rfl⟩
        unfold kdI; rw [kdN_eq hlt c13, if_pos hlt]
      · skip
        refine x_if_eqT (tgt := 21) C dX3_kindAhead_16 (by decide) (by decide) ?_
        refine x_iinc (v := nI (i + 1)) C dX3_kindAhead_21 rfl (nI_1 i) rfl ?_
        refine x_goto (tgt := 2) C dX3_kindAhead_24 (by decide) ?_
        exact jh hlt (fun w hw => by rcases Nat.lt_or_ge w i with z | z; exact hno w z; rw [show w = i by omega]; exact c13)

