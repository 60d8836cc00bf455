/-! ===== contracts: the model's calls, second part ===== -/
theorem eveN_r (S : Row) (h n : Nat) : ∀ i, 1 ≤ eveN S h n i ∧ eveN S h n i ≤ i + 1
  | 0 => ⟨Nat.le_refl 1, Nat.le_refl 1⟩
  | i + 1 => by
    have q := eveN_r S h n i
    unfold eveN
    split <;> omega
noncomputable def bstN (S : Row) (h n : Nat) : Nat → Nat
  | 0 => 0
  | i + 1 => eveN S h n i
noncomputable def mstN (S : Row) (h n : Nat) : Nat → Int32
  | 0 => 0
  | i + 1 => eveM S h n (eveN S h n i)
theorem ev_more {S : Row} {h n i : Nat} (hi : i < 30) (hm : nI (bstN S h n i) = 0 ∨ mstN S h n i < eveM S h n (i + 1)) : bstN S h n (i + 1) = i + 1 ∧ mstN S h n (i + 1) = eveM S h n (i + 1) := by
  cases i with
  | zero => exact ⟨rfl, rfl⟩
  | succ k =>
    have hk := eveN_r S h n k
    have e : eveN S h n (k + 1) = k + 2 := if_pos (hm.resolve_left (fun z => by have := (nI_eq (a := eveN S h n k) (b := 0) (by omega) (by decide)).mp z; omega))
    exact ⟨e, congrArg (fun z => eveM S h n z) e⟩
theorem ev_less {S : Row} {h n i : Nat} (hi : i < 30) (hm : ¬ (nI (bstN S h n i) = 0 ∨ mstN S h n i < eveM S h n (i + 1))) : bstN S h n (i + 1) = bstN S h n i ∧ mstN S h n (i + 1) = mstN S h n i := by
  cases i with
  | zero => exact absurd (Or.inl rfl) hm
  | succ k =>
    have e : eveN S h n (k + 1) = eveN S h n k := if_neg (fun z => hm (Or.inr z))
    exact ⟨e, congrArg (fun z => eveM S h n z) e⟩
theorem aW_M {M : Mem} {s : Nat} (h : s < 4) : aW (aM M) s = M 52 s := if_pos h
theorem aN_M {M : Mem} {s : Nat} (h : s < 4) : aN (aM M) s = M 53 s := if_pos h
theorem aX_M {M : Mem} {s i : Nat} (h : s < 4) (hi : i < 40) : aX (aM M) s i = M 54 (40 * s + i) := by
  show (if s < 4 then cut 40 (fun i => M 54 (40 * s + i)) else fun _ => 0) i = _
  rw [if_pos h]
  exact if_pos hi
theorem okSh_M {M : Mem} (oa : okA (aM M)) {s : Nat} (hs : s < 4) : inB (M 53 s) 0 40 := by
  have := (oa.2.2.2 s hs).2.1
  rwa [show (aM M).2.2.2.2.2.1 s = M 53 s from aN_M hs] at this
def rm_X8_does : Room := { frames := 4, cells := 0, slots := 0, locals := 91 }
set_option maxRecDepth 100000 in
set_option maxHeartbeats 4000000 in
theorem c_X8_does (l : Launch) (g : Gp) (M : Mem) (o : okRow (vm M)) {x y : Int32} {s w : Nat} (hx : x = nI s) (hs : s < 256) (hy : y = nI w) (hw : w < 6) : Kp l g yX8_does cX8_does 3 .boolean rm_X8_does [.ref (gad g (40)), .int (x), .int (y)] M (bv (doesP (vm M) w s)) := by
  unfold Kp
  refine Ki.of rfl rfl rfl (fun q C hret hcs => ?_)
  refine x_iload_n C dX8_does_0 rfl ?_
  refine x_aload_n C dX8_does_1 rfl ?_
  refine x_cvE C (k := 40) (c_X8_eggs l g _ ) o_X8_eggs mw_X8_95 rfl (C.lt rfl) rcv_40 rfl rfl rfl hcs dX8_does_2 ?_
  refine x_iconst (v := -1) C dX8_does_5 (by decide) ?_
  refine x_ixor C dX8_does_6 ?_
  refine x_iand C dX8_does_7 ?_
  refine x_if_ne (tgt := 48) C dX8_does_8 (by decide) (fun c8 => ?_) (fun c8 => ?_)
  · skip
    have ce : ¬ ofEg (vm M) s := fun z => c8 (by rw [hx]; exact (ofEg_i hs).mpr z)
    refine x_iconst (v := 0) C dX8_does_48 (by decide) ?_
    refine hret _ _ _ _ dX8_does_49 rfl ⟨Or.inr ⟨rfl, ?_⟩, rfl⟩
    first | exact fun z => Int32.not_lt.mpr z.2.2 c41 | exact fun z => (z.2.1.elim hs0 (fun q => q c17)) | exact fun z => ce z.1
  · skip
    have ce : ofEg (vm M) s := (ofEg_i hs).mp (by rw [← hx]; first | exact c8 | exact Classical.not_not.mp c8)
    refine x_iload_n C dX8_does_11 rfl ?_
    refine x_if_eq (tgt := 23) C dX8_does_12 (by decide) (fun c12 => ?_) (fun c12 => ?_)
    · skip
      have hs0 : s = 0 := (nI_eq (a := s) (b := 0) (by omega) (by decide)).mp (hx ▸ c12)
      refine x_aload_n C dX8_does_23 rfl ?_
      refine x_iload_n C dX8_does_24 rfl ?_
      refine x_iconst (v := 3) C dX8_does_25 (by decide) ?_
      refine x_cvE C (k := 40) (c_X8_works l g _ (e := w) (f := 3) hy hw rfl (by decide) ) o_X8_works mw_X8_131 rfl (C.lt rfl) rcv_40 rfl rfl rfl hcs dX8_does_26 ?_
      refine x_aload_n C dX8_does_29 rfl ?_
      refine x_iload_n C dX8_does_30 rfl ?_
      refine x_cvE C (k := 40) (c_X8_sumOf l g _ (s := s) hx hs ) o_X8_sumOf mw_X8_99 rfl (C.lt rfl) rcv_40 rfl rfl rfl hcs dX8_does_31 ?_
      refine x_iadd C dX8_does_34 ?_
      refine x_aload_n C dX8_does_35 rfl ?_
      refine x_iload_n C dX8_does_36 rfl ?_
      refine x_iconst (v := 0) C dX8_does_37 (by decide) ?_
      refine x_cvE C (k := 40) (c_X8_works l g _ (e := w) (f := 0) hy hw rfl (by decide) ) o_X8_works mw_X8_131 rfl (C.lt rfl) rcv_40 rfl rfl rfl hcs dX8_does_38 ?_
      refine x_icmp_lt (tgt := 48) C dX8_does_41 (by decide) (fun c41 => ?_) (fun c41 => ?_)
      · skip
        refine x_iconst (v := 0) C dX8_does_48 (by decide) ?_
        refine hret _ _ _ _ dX8_does_49 rfl ⟨Or.inr ⟨rfl, ?_⟩, rfl⟩
        first | exact fun z => Int32.not_lt.mpr z.2.2 c41 | exact fun z => (z.2.1.elim hs0 (fun q => q c17)) | exact fun z => ce z.1
      · skip
        refine x_iconst (v := 1) C dX8_does_44 (by decide) ?_
        refine x_goto (tgt := 49) C dX8_does_45 (by decide) ?_
        refine hret _ _ _ _ dX8_does_49 rfl ⟨Or.inl ⟨rfl, ?_⟩, rfl⟩
        first | exact ⟨ce, Or.inl hs0, Int32.not_lt.mp c41⟩ | exact ⟨ce, Or.inr c17, Int32.not_lt.mp c41⟩
    · skip
      have hs0 : ¬ s = 0 := fun z => c12 (by rw [hx, z]; rfl)
      refine x_aload_n C dX8_does_15 rfl ?_
      refine x_iload_n C dX8_does_16 rfl ?_
      refine x_cvB C (k := 40) (c_X8_isOver l g _ (w := w) hy hw ) o_X8_isOver mw_X8_137 rfl (C.lt rfl) rcv_40 rfl rfl rfl hcs dX8_does_17 (fun c17 => ?_) (fun c17 => ?_)
      · skip
        refine x_if_neT (tgt := 48) C dX8_does_20 (by decide) (by decide) ?_
        refine x_iconst (v := 0) C dX8_does_48 (by decide) ?_
        refine hret _ _ _ _ dX8_does_49 rfl ⟨Or.inr ⟨rfl, ?_⟩, rfl⟩
        first | exact fun z => Int32.not_lt.mpr z.2.2 c41 | exact fun z => (z.2.1.elim hs0 (fun q => q c17)) | exact fun z => ce z.1
      · skip
        refine x_if_neF (tgt := 48) C dX8_does_20 (by decide) (by decide) ?_
        refine x_aload_n C dX8_does_23 rfl ?_
        refine x_iload_n C dX8_does_24 rfl ?_
        refine x_iconst (v := 3) C dX8_does_25 (by decide) ?_
        refine x_cvE C (k := 40) (c_X8_works l g _ (e := w) (f := 3) hy hw rfl (by decide) ) o_X8_works mw_X8_131 rfl (C.lt rfl) rcv_40 rfl rfl rfl hcs dX8_does_26 ?_
        refine x_aload_n C dX8_does_29 rfl ?_
        refine x_iload_n C dX8_does_30 rfl ?_
        refine x_cvE C (k := 40) (c_X8_sumOf l g _ (s := s) hx hs ) o_X8_sumOf mw_X8_99 rfl (C.lt rfl) rcv_40 rfl rfl rfl hcs dX8_does_31 ?_
        refine x_iadd C dX8_does_34 ?_
        refine x_aload_n C dX8_does_35 rfl ?_
        refine x_iload_n C dX8_does_36 rfl ?_
        refine x_iconst (v := 0) C dX8_does_37 (by decide) ?_
        refine x_cvE C (k := 40) (c_X8_works l g _ (e := w) (f := 0) hy hw rfl (by decide) ) o_X8_works mw_X8_131 rfl (C.lt rfl) rcv_40 rfl rfl rfl hcs dX8_does_38 ?_
        refine x_icmp_lt (tgt := 48) C dX8_does_41 (by decide) (fun c41 => ?_) (fun c41 => ?_)
        · skip
          refine x_iconst (v := 0) C dX8_does_48 (by decide) ?_
          refine hret _ _ _ _ dX8_does_49 rfl ⟨Or.inr ⟨rfl, ?_⟩, rfl⟩
          first | exact fun z => Int32.not_lt.mpr z.2.2 c41 | exact fun z => (z.2.1.elim hs0 (fun q => q c17)) | exact fun z => ce z.1
        · skip
          refine x_iconst (v := 1) C dX8_does_44 (by decide) ?_
          refine x_goto (tgt := 49) C dX8_does_45 (by decide) ?_
          refine hret _ _ _ _ dX8_does_49 rfl ⟨Or.inl ⟨rfl, ?_⟩, rfl⟩
          first | exact ⟨ce, Or.inl hs0, Int32.not_lt.mp c41⟩ | exact ⟨ce, Or.inr c17, Int32.not_lt.mp c41⟩

def rm_X8_apartBy : Room := { frames := 5, cells := 0, slots := 0, locals := 111 }
set_option maxRecDepth 100000 in
set_option maxHeartbeats 4000000 in
theorem c_X8_apartBy (l : Launch) (g : Gp) (M : Mem) {x : Int32} {s : Nat} (hx : x = nI s) (hs : s < 256) : Kp l g yX8_apartBy cX8_apartBy 3 .int rm_X8_apartBy [.ref (gad g (40)), .int (x)] M (fun r => r = aparN (vm M) s) := by
  unfold Kp
  refine Ki.of rfl rfl rfl (fun q C hret hcs => ?_)
  refine x_iconst (v := 2) C dX8_apartBy_0 (by decide) ?_
  refine x_aload_n C dX8_apartBy_1 rfl ?_
  refine x_iload_n C dX8_apartBy_2 rfl ?_
  refine x_cvE C (k := 40) (c_X8_sumOf l g _ (s := s) hx hs ) o_X8_sumOf mw_X8_99 rfl (C.lt rfl) rcv_40 rfl rfl rfl hcs dX8_apartBy_3 ?_
  refine x_imul C dX8_apartBy_6 ?_
  refine x_aload_n C dX8_apartBy_7 rfl ?_
  refine x_cvE C (k := 40) (c_X8_allMinutes l g _ ) o_X8_allMinutes mw_X8_146 rfl (C.lt rfl) rcv_40 rfl rfl rfl hcs dX8_apartBy_8 ?_
  refine x_isub C dX8_apartBy_11 ?_
  refine x_topE (y := 2 * sumN (vm M) s 8 - allM (vm M) 8) (rfl) ?_
  refine x_istore_n C dX8_apartBy_12 rfl ?_
  refine x_iload_n C dX8_apartBy_13 rfl ?_
  refine x_if_ge (tgt := 22) C dX8_apartBy_14 (by decide) (fun c14 => ?_) (fun c14 => ?_)
  · skip
    refine x_iload_n C dX8_apartBy_22 rfl ?_
    refine hret _ _ _ _ dX8_apartBy_23 rfl ⟨?_, rfl⟩
    unfold aparN; first | rw [if_neg (Int32.not_lt.mpr c14)] | rw [if_pos (Int32.not_le.mp c14)]
  · skip
    refine x_iload_n C dX8_apartBy_17 rfl ?_
    refine x_ineg C dX8_apartBy_18 ?_
    refine x_goto (tgt := 23) C dX8_apartBy_19 (by decide) ?_
    refine hret _ _ _ _ dX8_apartBy_23 rfl ⟨?_, rfl⟩
    unfold aparN; first | rw [if_neg (Int32.not_lt.mpr c14)] | rw [if_pos (Int32.not_le.mp c14)]

def rm_X8_bestHalf : Room := { frames := 6, cells := 0, slots := 0, locals := 133 }
set_option maxRecDepth 100000 in
set_option maxHeartbeats 4000000 in
theorem c_X8_bestHalf (l : Launch) (g : Gp) (M : Mem) : Kp l g yX8_bestHalf cX8_bestHalf 3 .int rm_X8_bestHalf [.ref (gad g (40))] M (fun r => r = nI (halN (vm M) 255)) := by
  unfold Kp
  refine Ki.of rfl rfl rfl (fun q C hret hcs => ?_)
  refine x_iconst (v := 0) C dX8_bestHalf_0 (by decide) ?_
  refine x_istore_n C dX8_bestHalf_1 rfl ?_
  refine x_iconst (v := 1) C dX8_bestHalf_2 (by decide) ?_
  refine x_istore_n C dX8_bestHalf_3 rfl ?_
  refine up_to 255 (P := fun i => X (kmk l rm_X8_bestHalf g 3 q) M 4 [some (.ref (gad g (40))), some (.int (nI (halN (vm M) i))), some (.int (nI (i + 1)))] []) (fun i hi ih => ?_) 0 (by omega)
  refine x_iload_n C dX8_bestHalf_4 rfl ?_
  refine x_sipush (v := 256) C dX8_bestHalf_5 (by decide) ?_
  refine x_icmp_ge (tgt := 47) C dX8_bestHalf_8 (by decide) (fun c8 => ?_) (fun c8 => ?_)
  · skip
    have hlt := lp_ge (N := 256) (by decide) (show i + 1 ≤ 256 by omega) c8
    refine x_iload_n C dX8_bestHalf_47 rfl ?_
    refine hret _ _ _ _ dX8_bestHalf_48 rfl ⟨?_, rfl⟩
    have hlt : i = 255 := by omega
    subst hlt; rfl
  · skip
    have hlt := lp_lt (N := 256) (by decide) (show i + 1 ≤ 256 by omega) c8
    have hb := halN_lt (vm M) i
    refine x_iload_n C dX8_bestHalf_11 rfl ?_
    refine x_aload_n C dX8_bestHalf_12 rfl ?_
    refine x_cvE C (k := 40) (c_X8_eggs l g _ ) o_X8_eggs mw_X8_95 rfl (C.lt rfl) rcv_40 rfl rfl rfl hcs dX8_bestHalf_13 ?_
    refine x_iconst (v := -1) C dX8_bestHalf_16 (by decide) ?_
    refine x_ixor C dX8_bestHalf_17 ?_
    refine x_iand C dX8_bestHalf_18 ?_
    refine x_if_ne (tgt := 39) C dX8_bestHalf_19 (by decide) (fun c19 => ?_) (fun c19 => ?_)
    · skip
      have ce : ¬ ofEg (vm M) (i + 1) := fun z => c19 ((ofEg_i hlt).mpr z)
      refine x_iload_n C dX8_bestHalf_39 rfl ?_
      refine x_istore_n C dX8_bestHalf_40 rfl ?_
      refine x_iinc (v := nI (i + 1 + 1)) C dX8_bestHalf_41 rfl (nI_1 _) rfl ?_
      refine x_goto (tgt := 4) C dX8_bestHalf_44 (by decide) ?_
      have e : halN (vm M) (i + 1) = halN (vm M) i := by first | exact ifp_f (fun z => ce z.1) | exact ifp_f (fun z => Int32.not_lt.mpr c32 z.2)
      rw [e] at ih
      exact ih (by omega)
    · skip
      have ce : ofEg (vm M) (i + 1) := (ofEg_i hlt).mp (by first | exact c19 | exact Classical.not_not.mp c19)
      refine x_aload_n C dX8_bestHalf_22 rfl ?_
      refine x_iload_n C dX8_bestHalf_23 rfl ?_
      refine x_cvE C (k := 40) (c_X8_apartBy l g _ (s := (i + 1)) rfl hlt ) o_X8_apartBy mw_X8_179 rfl (C.lt rfl) rcv_40 rfl rfl rfl hcs dX8_bestHalf_24 ?_
      refine x_aload_n C dX8_bestHalf_27 rfl ?_
      refine x_iload_n C dX8_bestHalf_28 rfl ?_
      refine x_cvE C (k := 40) (c_X8_apartBy l g _ (s := (halN (vm M) i)) rfl (by omega) ) o_X8_apartBy mw_X8_179 rfl (C.lt rfl) rcv_40 rfl rfl rfl hcs dX8_bestHalf_29 ?_
      refine x_icmp_ge (tgt := 39) C dX8_bestHalf_32 (by decide) (fun c32 => ?_) (fun c32 => ?_)
      · skip
        refine x_iload_n C dX8_bestHalf_39 rfl ?_
        refine x_istore_n C dX8_bestHalf_40 rfl ?_
        refine x_iinc (v := nI (i + 1 + 1)) C dX8_bestHalf_41 rfl (nI_1 _) rfl ?_
        refine x_goto (tgt := 4) C dX8_bestHalf_44 (by decide) ?_
        have e : halN (vm M) (i + 1) = halN (vm M) i := by first | exact ifp_f (fun z => ce z.1) | exact ifp_f (fun z => Int32.not_lt.mpr c32 z.2)
        rw [e] at ih
        exact ih (by omega)
      · skip
        refine x_iload_n C dX8_bestHalf_35 rfl ?_
        refine x_goto (tgt := 40) C dX8_bestHalf_36 (by decide) ?_
        refine x_istore_n C dX8_bestHalf_40 rfl ?_
        refine x_iinc (v := nI (i + 1 + 1)) C dX8_bestHalf_41 rfl (nI_1 _) rfl ?_
        refine x_goto (tgt := 4) C dX8_bestHalf_44 (by decide) ?_
        have e : halN (vm M) (i + 1) = i + 1 := ifp_t ⟨ce, Int32.not_le.mp c32⟩
        rw [e] at ih
        exact ih (by omega)

def rm_X8_isSheet : Room := { frames := 1, cells := 0, slots := 0, locals := 22 }
set_option maxRecDepth 100000 in
set_option maxHeartbeats 4000000 in
theorem c_X8_isSheet (l : Launch) (g : Gp) (M : Mem) (x : Int32) : Kp l g yX8_isSheet cX8_isSheet 1 .boolean rm_X8_isSheet [.int (x)] M (bv (inB x 0 3)) := by
  unfold Kp
  refine Ki.of rfl rfl rfl (fun q C hret hcs => ?_)
  refine x_iload_n C dX8_isSheet_0 rfl ?_
  refine x_iconst (v := 0) C dX8_isSheet_1 (by decide) ?_
  refine x_iconst (v := 3) C dX8_isSheet_2 (by decide) ?_
  refine x_csB C (c_X8_in1 l g _ _ _ _ ) o_X8_in1 mw_X8_59 rfl rfl rfl rfl hcs dX8_isSheet_3 (fun c3 => ?_) (fun c3 => ?_)
  · skip
    refine hret _ _ _ _ dX8_isSheet_6 rfl ⟨Or.inl ⟨rfl, ?_⟩, rfl⟩
    unfold inB; clear hret hcs C; grind
  · skip
    refine hret _ _ _ _ dX8_isSheet_6 rfl ⟨Or.inr ⟨rfl, ?_⟩, rfl⟩
    unfold inB; clear hret hcs C; grind

def rm_X8_isSpot : Room := { frames := 1, cells := 0, slots := 0, locals := 22 }
set_option maxRecDepth 100000 in
set_option maxHeartbeats 4000000 in
theorem c_X8_isSpot (l : Launch) (g : Gp) (M : Mem) (x : Int32) : Kp l g yX8_isSpot cX8_isSpot 1 .boolean rm_X8_isSpot [.int (x)] M (bv (inB x 0 9)) := by
  unfold Kp
  refine Ki.of rfl rfl rfl (fun q C hret hcs => ?_)
  refine x_iload_n C dX8_isSpot_0 rfl ?_
  refine x_iconst (v := 0) C dX8_isSpot_1 (by decide) ?_
  refine x_bipush (v := 9) C dX8_isSpot_2 (by decide) ?_
  refine x_csB C (c_X8_in1 l g _ _ _ _ ) o_X8_in1 mw_X8_59 rfl rfl rfl rfl hcs dX8_isSpot_4 (fun c4 => ?_) (fun c4 => ?_)
  · skip
    refine hret _ _ _ _ dX8_isSpot_7 rfl ⟨Or.inl ⟨rfl, ?_⟩, rfl⟩
    unfold inB; clear hret hcs C; grind
  · skip
    refine hret _ _ _ _ dX8_isSpot_7 rfl ⟨Or.inr ⟨rfl, ?_⟩, rfl⟩
    unfold inB; clear hret hcs C; grind

def rm_X8_wrongSheet : Room := { frames := 2, cells := 0, slots := 0, locals := 42 }
set_option maxRecDepth 100000 in
set_option maxHeartbeats 4000000 in
theorem c_X8_wrongSheet (l : Launch) (g : Gp) (M : Mem) (x : Int32) : Kp l g yX8_wrongSheet cX8_wrongSheet 2 .int rm_X8_wrongSheet [.ref (gad g (40)), .int (x)] M (fun r => r = wrgS (aM M) x) := by
  unfold Kp
  refine Ki.of rfl rfl rfl (fun q C hret hcs => ?_)
  refine x_iload_n C dX8_wrongSheet_0 rfl ?_
  refine x_csB C (c_X8_isSheet l g _ _ ) o_X8_isSheet mw_X8_185 rfl rfl rfl rfl hcs dX8_wrongSheet_1 (fun c1 => ?_) (fun c1 => ?_)
  · skip
    have qx := inB_tn (n := 3) (by decide) c1
    refine x_if_neT (tgt := 11) C dX8_wrongSheet_4 (by decide) (by decide) ?_
    refine x_aload_n C dX8_wrongSheet_11 rfl ?_
    refine x_getf (k := 40) C bk_X8 (C.lt rfl) rfl ent_40 17 fw_X8_45 rfl rfl dX8_wrongSheet_12 ?_
    refine x_iload_n C dX8_wrongSheet_15 rfl ?_
    refine x_iald (j := (tn x)) (k := 52) C (C.lt rfl) rfl ent_52 (qx.2) (qx.1) rfl dX8_wrongSheet_16 ?_
    refine x_if_ne (tgt := 24) C dX8_wrongSheet_17 (by decide) (fun c17 => ?_) (fun c17 => ?_)
    · skip
      refine x_iconst (v := -1) C dX8_wrongSheet_24 (by decide) ?_
      refine hret _ _ _ _ dX8_wrongSheet_25 rfl ⟨?_, rfl⟩
      unfold wrgS; rw [ifp_t c1, aW_M qx.1]; first | rw [if_pos c17] | rw [if_neg c17]
    · skip
      refine x_iconst (v := 5) C dX8_wrongSheet_20 (by decide) ?_
      refine x_goto (tgt := 25) C dX8_wrongSheet_21 (by decide) ?_
      refine hret _ _ _ _ dX8_wrongSheet_25 rfl ⟨?_, rfl⟩
      unfold wrgS; rw [ifp_t c1, aW_M qx.1]; first | rw [if_pos c17] | rw [if_neg c17]
  · skip
    refine x_if_neF (tgt := 11) C dX8_wrongSheet_4 (by decide) (by decide) ?_
    refine x_iconst (v := 0) C dX8_wrongSheet_7 (by decide) ?_
    refine x_goto (tgt := 25) C dX8_wrongSheet_8 (by decide) ?_
    refine hret _ _ _ _ dX8_wrongSheet_25 rfl ⟨?_, rfl⟩
    unfold wrgS; rw [ifp_f c1]

def rm_X8_wrongAges : Room := { frames := 3, cells := 0, slots := 0, locals := 64 }
set_option maxRecDepth 100000 in
set_option maxHeartbeats 4000000 in
theorem c_X8_wrongAges (l : Launch) (g : Gp) (M : Mem) (x e : Int32) : Kp l g yX8_wrongAges cX8_wrongAges 4 .int rm_X8_wrongAges [.ref (gad g (40)), .int (x), .int (e)] M (fun r => r = wrgT (aM M) x e) := by
  unfold Kp
  refine Ki.of rfl rfl rfl (fun q C hret hcs => ?_)
  refine x_aload_n C dX8_wrongAges_0 rfl ?_
  refine x_iload_n C dX8_wrongAges_1 rfl ?_
  refine x_cvE C (k := 40) (c_X8_wrongSheet l g _ _ ) o_X8_wrongSheet mw_X8_188 rfl (C.lt rfl) rcv_40 rfl rfl rfl hcs dX8_wrongAges_2 ?_
  refine x_topi (fun x3 ex3 => ?_)
  refine x_istore_n C dX8_wrongAges_5 rfl ?_
  refine x_iload_n C dX8_wrongAges_6 rfl ?_
  refine x_if_lt (tgt := 14) C dX8_wrongAges_7 (by decide) (fun c7 => ?_) (fun c7 => ?_)
  · skip
    refine x_aload_n C dX8_wrongAges_14 rfl ?_
    refine x_iload_n C dX8_wrongAges_15 rfl ?_
    refine x_cvB C (k := 40) (c_X8_isEgg l g _ _ ) o_X8_isEgg mw_X8_122 rfl (C.lt rfl) rcv_40 rfl rfl rfl hcs dX8_wrongAges_16 (fun c16 => ?_) (fun c16 => ?_)
    · skip
      refine x_if_eqF (tgt := 26) C dX8_wrongAges_19 (by decide) (by decide) ?_
      refine x_iconst (v := -1) C dX8_wrongAges_22 (by decide) ?_
      refine x_goto (tgt := 27) C dX8_wrongAges_23 (by decide) ?_
      refine hret _ _ _ _ dX8_wrongAges_27 rfl ⟨?_, rfl⟩
      unfold wrgT; rw [ex3] at c7; rw [ifp_t c7]; exact (ifp_t c16).symm
    · skip
      refine x_if_eqT (tgt := 26) C dX8_wrongAges_19 (by decide) (by decide) ?_
      refine x_iconst (v := 0) C dX8_wrongAges_26 (by decide) ?_
      refine hret _ _ _ _ dX8_wrongAges_27 rfl ⟨?_, rfl⟩
      unfold wrgT; rw [ex3] at c7; rw [ifp_t c7]; exact (ifp_f c16).symm
  · skip
    refine x_iload_n C dX8_wrongAges_10 rfl ?_
    refine x_goto (tgt := 27) C dX8_wrongAges_11 (by decide) ?_
    refine hret _ _ _ _ dX8_wrongAges_27 rfl ⟨?_, rfl⟩
    unfold wrgT; rw [ex3] at c7; rw [ifp_f (by first | exact c7 | exact Int32.not_lt.mpr c7)]; exact ex3

def rm_X8_agesSo : Room := { frames := 3, cells := 0, slots := 0, locals := 72 }
set_option maxRecDepth 100000 in
set_option maxHeartbeats 4000000 in
theorem c_X8_agesSo (l : Launch) (g : Gp) (M : Mem) (oa : okA (aM M)) {x : Int32} {s : Nat} (hx : x = nI s) (hs : s < 4) (e age : Int32) (hE : e = nI (tn e)) (he : tn e < 8) : Kp l g yX8_agesSo cX8_agesSo 7 .boolean rm_X8_agesSo [.ref (gad g (40)), .int (x), .int (e), .int (age)] M (bv (fitP (aM M) s (tn e) age)) := by
  unfold Kp
  refine Ki.of rfl rfl rfl (fun q C hret hcs => ?_)
  have hl := inB_tn (n := 40) (by decide) (okSh_M oa hs)
  have hN : tn (aN (aM M) s) = tn (M 53 s) := by rw [aN_M hs]
  refine x_iconst (v := 1) C dX8_agesSo_0 (by decide) ?_
  refine x_istore C dX8_agesSo_1 rfl ?_
  refine x_iconst (v := 0) C dX8_agesSo_3 (by decide) ?_
  refine x_istore C dX8_agesSo_4 rfl ?_
  refine up_to (tn (M 53 s)) (P := fun i => ∀ b : Int32, ((b = 1 ∧ ∀ j, j < i → (aX (aM M) s j = -1 ∨ aX (aM M) s j = thenE (vm M) (tn e) (eg (vm M) (tn e) 0) age (nI j))) ∨ (b = 0 ∧ ∃ j, j < i ∧ ¬ (aX (aM M) s j = -1 ∨ aX (aM M) s j = thenE (vm M) (tn e) (eg (vm M) (tn e) 0) age (nI j)))) → X (kmk l rm_X8_agesSo g 7 q) M 6 [some (.ref (gad g (40))), some (.int (x)), some (.int (e)), some (.int (age)), some (.int (b)), some (.int (nI i)), none] []) (fun i hi ih b hb => ?_) 0 (Nat.zero_le _) 1 (Or.inl ⟨rfl, fun j hj => absurd hj (by omega)⟩)
  refine x_iload C dX8_agesSo_6 rfl ?_
  refine x_aload_n C dX8_agesSo_8 rfl ?_
  refine x_getf (k := 40) C bk_X8 (C.lt rfl) rfl ent_40 18 fw_X8_48 rfl rfl dX8_agesSo_9 ?_
  refine x_iload_n C dX8_agesSo_12 rfl ?_
  refine x_iald (j := s) (k := 53) C (C.lt rfl) rfl ent_53 (hx) (hs) rfl dX8_agesSo_13 ?_
  refine x_icmp_ge (tgt := 74) C dX8_agesSo_14 (by decide) (fun c14 => ?_) (fun c14 => ?_)
  · skip
    have hlt := lp_ge (N := tn (M 53 s)) (by omega) hi (by rw [← hl.2]; exact c14)
    refine x_iload C dX8_agesSo_74 rfl ?_
    refine hret _ _ _ _ dX8_agesSo_76 (by rcases hb with hb | hb <;> rw [hb.1] <;> rfl) ⟨?_, rfl⟩
    subst hlt
    rcases hb with hb | hb
    · exact Or.inl ⟨hb.1, fun n hn => hb.2 n (by rw [hN] at hn; exact hn)⟩
    · refine Or.inr ⟨hb.1, fun z => ?_⟩
      obtain ⟨j, hj, h⟩ := hb.2
      exact h (z j (by rw [hN]; exact hj))
  · skip
    have hlt := lp_lt (N := tn (M 53 s)) (by omega) hi (by rw [← hl.2]; exact c14)
    refine x_aload_n C dX8_agesSo_17 rfl ?_
    refine x_getf (k := 40) C bk_X8 (C.lt rfl) rfl ent_40 19 fw_X8_51 rfl rfl dX8_agesSo_18 ?_
    refine x_bipush (v := 40) C dX8_agesSo_21 (by decide) ?_
    refine x_iload_n C dX8_agesSo_23 rfl ?_
    refine x_imul C dX8_agesSo_24 ?_
    refine x_iload C dX8_agesSo_25 rfl ?_
    refine x_iadd C dX8_agesSo_27 ?_
    refine x_iald (j := 40 * s + i) (k := 54) C (C.lt rfl) rfl ent_54 (by rw [hx, show (40 : Int32) = nI 40 from rfl, pk_mul, nI_add]) (by omega) rfl dX8_agesSo_28 ?_
    refine x_topE (y := aX (aM M) s i) ((aX_M hs (by omega)).symm) ?_
    refine x_istore C dX8_agesSo_29 rfl ?_
    refine x_iload C dX8_agesSo_31 rfl ?_
    refine x_if_eq (tgt := 65) C dX8_agesSo_33 (by decide) (fun c33 => ?_) (fun c33 => ?_)
    · skip
      refine x_iconst (v := 0) C dX8_agesSo_65 (by decide) ?_
      refine x_istore C dX8_agesSo_66 rfl ?_
      refine x_iinc (v := nI (i + 1)) C dX8_agesSo_68 rfl (nI_1 i) rfl ?_
      refine x_goto (tgt := 6) C dX8_agesSo_71 (by decide) ?_
      refine X.le (ls' := [some (.ref (gad g (40))), some (.int (x)), some (.int (e)), some (.int (age)), some (.int (0)), some (.int (nI (i + 1))), none]) (lle_s rfl (lle_s rfl (lle_s rfl (lle_s rfl (lle_s rfl (lle_s rfl (lle_n lle_e))))))) ?_
      refine ih hlt 0 (Or.inr ⟨rfl, ?_⟩)
      rcases hb with hb | hb
      · first
        | exact absurd (hb.1 ▸ c33) (by decide)
        | exact ⟨i, Nat.lt_succ_self i, fun z => z.elim c39 c58⟩
      · obtain ⟨j, hj, h⟩ := hb.2; exact ⟨j, Nat.lt_succ_of_lt hj, h⟩
    · skip
      refine x_iload C dX8_agesSo_36 rfl ?_
      refine x_iconst (v := -1) C dX8_agesSo_38 (by decide) ?_
      refine x_icmp_eq (tgt := 61) C dX8_agesSo_39 (by decide) (fun c39 => ?_) (fun c39 => ?_)
      · skip
        refine x_iconst (v := 1) C dX8_agesSo_61 (by decide) ?_
        refine x_goto (tgt := 66) C dX8_agesSo_62 (by decide) ?_
        refine x_istore C dX8_agesSo_66 rfl ?_
        refine x_iinc (v := nI (i + 1)) C dX8_agesSo_68 rfl (nI_1 i) rfl ?_
        refine x_goto (tgt := 6) C dX8_agesSo_71 (by decide) ?_
        refine X.le (ls' := [some (.ref (gad g (40))), some (.int (x)), some (.int (e)), some (.int (age)), some (.int (1)), some (.int (nI (i + 1))), none]) (lle_s rfl (lle_s rfl (lle_s rfl (lle_s rfl (lle_s rfl (lle_s rfl (lle_n lle_e))))))) ?_
        refine ih hlt 1 (Or.inl ⟨rfl, fun j hj => ?_⟩)
        rcases hb with hb | hb
        · rcases Nat.lt_or_ge j i with z | z
          · exact hb.2 j z
          · rw [show j = i by omega]; first | exact Or.inl c39 | exact Or.inr c58 | exact Or.inr (Classical.not_not.mp c58)
        · exact absurd hb.1 c33
      · skip
        refine x_iload C dX8_agesSo_42 rfl ?_
        refine x_aload_n C dX8_agesSo_44 rfl ?_
        refine x_iload_n C dX8_agesSo_45 rfl ?_
        refine x_aload_n C dX8_agesSo_46 rfl ?_
        refine x_iload_n C dX8_agesSo_47 rfl ?_
        refine x_iconst (v := 0) C dX8_agesSo_48 (by decide) ?_
        refine x_cvE C (k := 40) (c_X8_get l g _ (e := (tn e)) (f := 0) hE he rfl (by decide) ) o_X8_get mw_X8_63 rfl (C.lt rfl) rcv_40 rfl rfl rfl hcs dX8_agesSo_49 ?_
        refine x_iload_n C dX8_agesSo_52 rfl ?_
        refine x_iload C dX8_agesSo_53 rfl ?_
        refine x_cvE C (k := 40) (c_X8_then l g _ (e := (tn e)) hE he _ _ _ ) o_X8_then mw_X8_158 rfl (C.lt rfl) rcv_40 rfl rfl rfl hcs dX8_agesSo_55 ?_
        refine x_icmp_ne (tgt := 65) C dX8_agesSo_58 (by decide) (fun c58 => ?_) (fun c58 => ?_)
        · skip
          refine x_iconst (v := 0) C dX8_agesSo_65 (by decide) ?_
          refine x_istore C dX8_agesSo_66 rfl ?_
          refine x_iinc (v := nI (i + 1)) C dX8_agesSo_68 rfl (nI_1 i) rfl ?_
          refine x_goto (tgt := 6) C dX8_agesSo_71 (by decide) ?_
          refine X.le (ls' := [some (.ref (gad g (40))), some (.int (x)), some (.int (e)), some (.int (age)), some (.int (0)), some (.int (nI (i + 1))), none]) (lle_s rfl (lle_s rfl (lle_s rfl (lle_s rfl (lle_s rfl (lle_s rfl (lle_n lle_e))))))) ?_
          refine ih hlt 0 (Or.inr ⟨rfl, ?_⟩)
          rcases hb with hb | hb
          · first
            | exact absurd (hb.1 ▸ c33) (by decide)
            | exact ⟨i, Nat.lt_succ_self i, fun z => z.elim c39 c58⟩
          · obtain ⟨j, hj, h⟩ := hb.2; exact ⟨j, Nat.lt_succ_of_lt hj, h⟩
        · skip
          refine x_iconst (v := 1) C dX8_agesSo_61 (by decide) ?_
          refine x_goto (tgt := 66) C dX8_agesSo_62 (by decide) ?_
          refine x_istore C dX8_agesSo_66 rfl ?_
          refine x_iinc (v := nI (i + 1)) C dX8_agesSo_68 rfl (nI_1 i) rfl ?_
          refine x_goto (tgt := 6) C dX8_agesSo_71 (by decide) ?_
          refine X.le (ls' := [some (.ref (gad g (40))), some (.int (x)), some (.int (e)), some (.int (age)), some (.int (1)), some (.int (nI (i + 1))), none]) (lle_s rfl (lle_s rfl (lle_s rfl (lle_s rfl (lle_s rfl (lle_s rfl (lle_n lle_e))))))) ?_
          refine ih hlt 1 (Or.inl ⟨rfl, fun j hj => ?_⟩)
          rcases hb with hb | hb
          · rcases Nat.lt_or_ge j i with z | z
            · exact hb.2 j z
            · rw [show j = i by omega]; first | exact Or.inl c39 | exact Or.inr c58 | exact Or.inr (Classical.not_not.mp c58)
          · exact absurd hb.1 c33

