/-! ===== contracts: the model's small methods ===== -/
def rm_X8_no : Room := { frames := 0, cells := 0, slots := 0, locals := 0 }
set_option maxRecDepth 100000 in
set_option maxHeartbeats 4000000 in
theorem c_X8_no (l : Launch) (g : Gp) (M : Mem) {x : Int32} {k : Nat} (hx : x = nI k) (hk : k < 7) : Ki l g yX8_no cX8_no 2 .int rm_X8_no [.ref (gad g (40)), .int (x)] M (fun r M' => r = -1000001 - x ∧ M' = up M 44 k (M 44 k + 1)) := by
  refine Ki.of rfl rfl rfl (fun q C hret hcs => ?_)
  refine x_aload_n C dX8_no_0 rfl ?_
  refine x_getf (k := 40) C bk_X8 (C.lt rfl) rfl ent_40 4 fw_X8_19 rfl rfl dX8_no_1 ?_
  refine x_iload_n C dX8_no_4 rfl ?_
  refine x_dup2 C dX8_no_5 rfl rfl ?_
  refine x_iald (j := k) (k := 44) C (C.lt rfl) rfl ent_44 (hx) (hk) rfl dX8_no_6 ?_
  refine x_iconst (v := 1) C dX8_no_7 (by decide) ?_
  refine x_iadd C dX8_no_8 ?_
  refine x_iast (j := k) (k := 44) C (C.lt rfl) rfl ent_44 (hx) (hk) rfl dX8_no_9 ?_
  refine x_memI (fun M1 eM1 => ?_)
  refine x_ldc C kw_X8_58 dX8_no_10 ?_
  refine x_iload_n C dX8_no_12 rfl ?_
  refine x_isub C dX8_no_13 ?_
  refine hret _ _ _ _ dX8_no_14 rfl ?_
  exact ⟨rfl, eM1⟩

def rm_X8_in1 : Room := { frames := 0, cells := 0, slots := 0, locals := 0 }
set_option maxRecDepth 100000 in
set_option maxHeartbeats 4000000 in
theorem c_X8_in1 (l : Launch) (g : Gp) (M : Mem) (v a b : Int32) : Kp l g yX8_in1 cX8_in1 3 .boolean rm_X8_in1 [.int (v), .int (a), .int (b)] M (bv (a ≤ v ∧ v ≤ b)) := by
  unfold Kp
  refine Ki.of rfl rfl rfl (fun q C hret hcs => ?_)
  refine x_iload_n C dX8_in1_0 rfl ?_
  refine x_iload_n C dX8_in1_1 rfl ?_
  refine x_icmp_lt (tgt := 14) C dX8_in1_2 (by decide) (fun c2 => ?_) (fun c2 => ?_)
  · skip
    refine x_iconst (v := 0) C dX8_in1_14 (by decide) ?_
    refine hret _ _ _ _ dX8_in1_15 rfl ⟨Or.inr ⟨rfl, ?_⟩, rfl⟩
    clear hret hcs C; grind
  · skip
    refine x_iload_n C dX8_in1_5 rfl ?_
    refine x_iload_n C dX8_in1_6 rfl ?_
    refine x_icmp_gt (tgt := 14) C dX8_in1_7 (by decide) (fun c7 => ?_) (fun c7 => ?_)
    · skip
      refine x_iconst (v := 0) C dX8_in1_14 (by decide) ?_
      refine hret _ _ _ _ dX8_in1_15 rfl ⟨Or.inr ⟨rfl, ?_⟩, rfl⟩
      clear hret hcs C; grind
    · skip
      refine x_iconst (v := 1) C dX8_in1_10 (by decide) ?_
      refine x_goto (tgt := 15) C dX8_in1_11 (by decide) ?_
      refine hret _ _ _ _ dX8_in1_15 rfl ⟨Or.inl ⟨rfl, ?_⟩, rfl⟩
      clear hret hcs C; grind

def rm_X8_less : Room := { frames := 0, cells := 0, slots := 0, locals := 0 }
set_option maxRecDepth 100000 in
set_option maxHeartbeats 4000000 in
theorem c_X8_less (l : Launch) (g : Gp) (M : Mem) (a b : Int32) : Kp l g yX8_less cX8_less 2 .int rm_X8_less [.int (a), .int (b)] M (fun r => r = if b < a then b else a) := by
  unfold Kp
  refine Ki.of rfl rfl rfl (fun q C hret hcs => ?_)
  refine x_iload_n C dX8_less_0 rfl ?_
  refine x_iload_n C dX8_less_1 rfl ?_
  refine x_icmp_ge (tgt := 9) C dX8_less_2 (by decide) (fun c2 => ?_) (fun c2 => ?_)
  · skip
    refine x_iload_n C dX8_less_9 rfl ?_
    refine hret _ _ _ _ dX8_less_10 rfl ⟨?_, rfl⟩
    clear hret hcs C; grind
  · skip
    refine x_iload_n C dX8_less_5 rfl ?_
    refine x_goto (tgt := 10) C dX8_less_6 (by decide) ?_
    refine hret _ _ _ _ dX8_less_10 rfl ⟨?_, rfl⟩
    clear hret hcs C; grind

def rm_X8_greater : Room := { frames := 0, cells := 0, slots := 0, locals := 0 }
set_option maxRecDepth 100000 in
set_option maxHeartbeats 4000000 in
theorem c_X8_greater (l : Launch) (g : Gp) (M : Mem) (a b : Int32) : Kp l g yX8_greater cX8_greater 2 .int rm_X8_greater [.int (a), .int (b)] M (fun r => r = if a < b then b else a) := by
  unfold Kp
  refine Ki.of rfl rfl rfl (fun q C hret hcs => ?_)
  refine x_iload_n C dX8_greater_0 rfl ?_
  refine x_iload_n C dX8_greater_1 rfl ?_
  refine x_icmp_le (tgt := 9) C dX8_greater_2 (by decide) (fun c2 => ?_) (fun c2 => ?_)
  · skip
    refine x_iload_n C dX8_greater_9 rfl ?_
    refine hret _ _ _ _ dX8_greater_10 rfl ⟨?_, rfl⟩
    clear hret hcs C; grind
  · skip
    refine x_iload_n C dX8_greater_5 rfl ?_
    refine x_goto (tgt := 10) C dX8_greater_6 (by decide) ?_
    refine hret _ _ _ _ dX8_greater_10 rfl ⟨?_, rfl⟩
    clear hret hcs C; grind

def rm_X8_bits : Room := { frames := 0, cells := 0, slots := 0, locals := 0 }
set_option maxRecDepth 100000 in
set_option maxHeartbeats 4000000 in
theorem c_X8_bits (l : Launch) (g : Gp) (M : Mem) {x : Int32} {s : Nat} (hx : x = nI s) (hs : s < 256) : Kp l g yX8_bits cX8_bits 3 .int rm_X8_bits [.int (x)] M (fun r => r = nI (popT s)) := by
  unfold Kp
  refine Ki.of rfl rfl rfl (fun q C hret hcs => ?_)
  refine x_iconst (v := 0) C dX8_bits_0 (by decide) ?_
  refine x_istore_n C dX8_bits_1 rfl ?_
  refine x_iload_n C dX8_bits_2 rfl ?_
  refine x_istore_n C dX8_bits_3 rfl ?_
  subst hx
  refine dn_to (P := fun t => ∀ n, t < 256 → n + popT t = popT s → X (kmk l rm_X8_bits g 3 q) M 4 [some (.int (nI s)), some (.int (nI n)), some (.int (nI t))] []) (fun t ih n ht hp => ?_) s 0 hs (by omega)
  refine x_iload_n C dX8_bits_4 rfl ?_
  refine x_if_eq (tgt := 20) C dX8_bits_5 (by decide) (fun c5 => ?_) (fun c5 => ?_)
  · skip
    have h0 : t = 0 := by have := (nI_eq (a := t) (b := 0) (by omega) (by decide)).mp c5; exact this
    refine x_iload_n C dX8_bits_20 rfl ?_
    refine hret _ _ _ _ dX8_bits_21 rfl ⟨?_, rfl⟩
    subst h0
    have : n = popT s := by rw [← hp]; rfl
    rw [this]
  · skip
    have h0 : 0 < t := by rcases Nat.eq_zero_or_pos t with z | z; exact absurd (by rw [z]; rfl) c5; exact z
    refine x_iinc (v := nI (n + 1)) C dX8_bits_8 rfl (nI_1 n) rfl ?_
    refine x_iload_n C dX8_bits_11 rfl ?_
    refine x_iload_n C dX8_bits_12 rfl ?_
    refine x_iconst (v := 1) C dX8_bits_13 (by decide) ?_
    refine x_isub C dX8_bits_14 ?_
    refine x_iand C dX8_bits_15 ?_
    refine x_topE (y := nI (t &&& (t - 1))) (by obtain ⟨u, hu⟩ : ∃ u, t = u + 1 := ⟨t - 1, by omega⟩; rw [hu, nI_pred, fa_and]; rfl) ?_
    refine x_istore_n C dX8_bits_16 rfl ?_
    refine x_goto (tgt := 4) C dX8_bits_17 (by decide) ?_
    exact ih _ (pop_step t ht h0).2 (n + 1) (by have := (pop_step t ht h0).2; omega) (by have := (pop_step t ht h0).1; omega)

def rm_X8_isIn : Room := { frames := 0, cells := 0, slots := 0, locals := 0 }
set_option maxRecDepth 100000 in
set_option maxHeartbeats 4000000 in
theorem c_X8_isIn (l : Launch) (g : Gp) (M : Mem) {x y : Int32} {s k : Nat} (hx : x = nI s) (hs : s < 2 ^ 31) (hy : y = nI k) (hk : k < 31) : Kp l g yX8_isIn cX8_isIn 2 .boolean rm_X8_isIn [.int (x), .int (y)] M (bv (s.testBit k = true)) := by
  unfold Kp
  refine Ki.of rfl rfl rfl (fun q C hret hcs => ?_)
  refine x_iload_n C dX8_isIn_0 rfl ?_
  refine x_iload_n C dX8_isIn_1 rfl ?_
  refine x_ishr C dX8_isIn_2 ?_
  refine x_iconst (v := 1) C dX8_isIn_3 (by decide) ?_
  refine x_iand C dX8_isIn_4 ?_
  refine x_iconst (v := 1) C dX8_isIn_5 (by decide) ?_
  refine x_icmp_ne (tgt := 13) C dX8_isIn_6 (by decide) (fun c6 => ?_) (fun c6 => ?_)
  · skip
    refine x_iconst (v := 0) C dX8_isIn_13 (by decide) ?_
    refine hret _ _ _ _ dX8_isIn_14 rfl ⟨Or.inr ⟨rfl, ?_⟩, rfl⟩
    subst hx; subst hy; exact fun z => c6 ((bitP hs hk).mpr z)
  · skip
    refine x_iconst (v := 1) C dX8_isIn_9 (by decide) ?_
    refine x_goto (tgt := 14) C dX8_isIn_10 (by decide) ?_
    refine hret _ _ _ _ dX8_isIn_14 rfl ⟨Or.inl ⟨rfl, ?_⟩, rfl⟩
    subst hx; subst hy; exact (bitP hs hk).mp c6

def rm_X8_isPlace : Room := { frames := 1, cells := 0, slots := 0, locals := 22 }
set_option maxRecDepth 100000 in
set_option maxHeartbeats 4000000 in
theorem c_X8_isPlace (l : Launch) (g : Gp) (M : Mem) (x : Int32) : Kp l g yX8_isPlace cX8_isPlace 1 .boolean rm_X8_isPlace [.int (x)] M (bv (¬ x < 0 ∧ x < 8)) := by
  unfold Kp
  refine Ki.of rfl rfl rfl (fun q C hret hcs => ?_)
  refine x_iload_n C dX8_isPlace_0 rfl ?_
  refine x_iconst (v := 0) C dX8_isPlace_1 (by decide) ?_
  refine x_bipush (v := 7) C dX8_isPlace_2 (by decide) ?_
  refine x_csB C (c_X8_in1 l g _ _ _ _ ) o_X8_in1 mw_X8_59 rfl rfl rfl rfl hcs dX8_isPlace_4 (fun c4 => ?_) (fun c4 => ?_)
  · skip
    refine hret _ _ _ _ dX8_isPlace_7 rfl ⟨Or.inl ⟨rfl, ?_⟩, rfl⟩
    clear hret hcs C; grind
  · skip
    refine hret _ _ _ _ dX8_isPlace_7 rfl ⟨Or.inr ⟨rfl, ?_⟩, rfl⟩
    clear hret hcs C; grind

def rm_X8_isHen : Room := { frames := 1, cells := 0, slots := 0, locals := 22 }
set_option maxRecDepth 100000 in
set_option maxHeartbeats 4000000 in
theorem c_X8_isHen (l : Launch) (g : Gp) (M : Mem) (x : Int32) : Kp l g yX8_isHen cX8_isHen 1 .boolean rm_X8_isHen [.int (x)] M (bv (¬ x < 0 ∧ x < 4)) := by
  unfold Kp
  refine Ki.of rfl rfl rfl (fun q C hret hcs => ?_)
  refine x_iload_n C dX8_isHen_0 rfl ?_
  refine x_iconst (v := 0) C dX8_isHen_1 (by decide) ?_
  refine x_iconst (v := 3) C dX8_isHen_2 (by decide) ?_
  refine x_csB C (c_X8_in1 l g _ _ _ _ ) o_X8_in1 mw_X8_59 rfl rfl rfl rfl hcs dX8_isHen_3 (fun c3 => ?_) (fun c3 => ?_)
  · skip
    refine hret _ _ _ _ dX8_isHen_6 rfl ⟨Or.inl ⟨rfl, ?_⟩, rfl⟩
    clear hret hcs C; grind
  · skip
    refine hret _ _ _ _ dX8_isHen_6 rfl ⟨Or.inr ⟨rfl, ?_⟩, rfl⟩
    clear hret hcs C; grind

def rm_X8_isWork : Room := { frames := 1, cells := 0, slots := 0, locals := 22 }
set_option maxRecDepth 100000 in
set_option maxHeartbeats 4000000 in
theorem c_X8_isWork (l : Launch) (g : Gp) (M : Mem) (x : Int32) : Kp l g yX8_isWork cX8_isWork 1 .boolean rm_X8_isWork [.int (x)] M (bv (¬ x < 0 ∧ x < 6)) := by
  unfold Kp
  refine Ki.of rfl rfl rfl (fun q C hret hcs => ?_)
  refine x_iload_n C dX8_isWork_0 rfl ?_
  refine x_iconst (v := 0) C dX8_isWork_1 (by decide) ?_
  refine x_iconst (v := 5) C dX8_isWork_2 (by decide) ?_
  refine x_csB C (c_X8_in1 l g _ _ _ _ ) o_X8_in1 mw_X8_59 rfl rfl rfl rfl hcs dX8_isWork_3 (fun c3 => ?_) (fun c3 => ?_)
  · skip
    refine hret _ _ _ _ dX8_isWork_6 rfl ⟨Or.inl ⟨rfl, ?_⟩, rfl⟩
    clear hret hcs C; grind
  · skip
    refine hret _ _ _ _ dX8_isWork_6 rfl ⟨Or.inr ⟨rfl, ?_⟩, rfl⟩
    clear hret hcs C; grind

def rm_X8_get : Room := { frames := 0, cells := 0, slots := 0, locals := 0 }
set_option maxRecDepth 100000 in
set_option maxHeartbeats 4000000 in
theorem c_X8_get (l : Launch) (g : Gp) (M : Mem) {x y : Int32} {e f : Nat} (hx : x = nI e) (he : e < 8) (hy : y = nI f) (hf : f < 5) : Kp l g yX8_get cX8_get 3 .int rm_X8_get [.ref (gad g (40)), .int (x), .int (y)] M (fun r => r = eg (vm M) e f) := by
  unfold Kp
  refine Ki.of rfl rfl rfl (fun q C hret hcs => ?_)
  refine x_aload_n C dX8_get_0 rfl ?_
  refine x_getf (k := 40) C bk_X8 (C.lt rfl) rfl ent_40 0 fw_X8_9 rfl rfl dX8_get_1 ?_
  refine x_iconst (v := 3) C dX8_get_4 (by decide) ?_
  refine x_iconst (v := 5) C dX8_get_5 (by decide) ?_
  refine x_iload_n C dX8_get_6 rfl ?_
  refine x_imul C dX8_get_7 ?_
  refine x_iadd C dX8_get_8 ?_
  refine x_iload_n C dX8_get_9 rfl ?_
  refine x_iadd C dX8_get_10 ?_
  refine x_iald (j := 3 + 5 * e + f) (k := 41) C (C.lt rfl) rfl ent_41 (ix_e hx hy) (by omega) rfl dX8_get_11 ?_
  refine hret _ _ _ _ dX8_get_12 rfl ⟨?_, rfl⟩
  exact vm_eg he hf

def rm_X8_puts : Room := { frames := 0, cells := 0, slots := 0, locals := 0 }
set_option maxRecDepth 100000 in
set_option maxHeartbeats 4000000 in
theorem c_X8_puts (l : Launch) (g : Gp) (M : Mem) {x y v : Int32} {e f : Nat} (hx : x = nI e) (he : e < 8) (hy : y = nI f) (hf : f < 5) : Kv l g yX8_puts cX8_puts 4 rm_X8_puts [.ref (gad g (40)), .int (x), .int (y), .int (v)] M (fun M' => vm M' = upd (vm M) (3 + 5 * e + f) v ∧ same [41] M M') := by
  refine Kv.of rfl rfl rfl (fun q C hret hcs => ?_)
  refine x_aload_n C dX8_puts_0 rfl ?_
  refine x_getf (k := 40) C bk_X8 (C.lt rfl) rfl ent_40 0 fw_X8_9 rfl rfl dX8_puts_1 ?_
  refine x_iconst (v := 3) C dX8_puts_4 (by decide) ?_
  refine x_iconst (v := 5) C dX8_puts_5 (by decide) ?_
  refine x_iload_n C dX8_puts_6 rfl ?_
  refine x_imul C dX8_puts_7 ?_
  refine x_iadd C dX8_puts_8 ?_
  refine x_iload_n C dX8_puts_9 rfl ?_
  refine x_iadd C dX8_puts_10 ?_
  refine x_iload_n C dX8_puts_11 rfl ?_
  refine x_iast (j := 3 + 5 * e + f) (k := 41) C (C.lt rfl) rfl ent_41 (ix_e hx hy) (by omega) rfl dX8_puts_12 ?_
  refine x_memI (fun M1 eM1 => ?_)
  refine hret _ _ _ dX8_puts_13 ?_
  rw [eM1]; exact ⟨vm_up (by omega), same.up (by simp)⟩

def rm_X8_isThere : Room := { frames := 1, cells := 0, slots := 0, locals := 22 }
set_option maxRecDepth 100000 in
set_option maxHeartbeats 4000000 in
theorem c_X8_isThere (l : Launch) (g : Gp) (M : Mem) {x : Int32} {e : Nat} (hx : x = nI e) (he : e < 8) : Kp l g yX8_isThere cX8_isThere 2 .boolean rm_X8_isThere [.ref (gad g (40)), .int (x)] M (bv (thr (vm M) e)) := by
  unfold Kp
  refine Ki.of rfl rfl rfl (fun q C hret hcs => ?_)
  refine x_aload_n C dX8_isThere_0 rfl ?_
  refine x_iload_n C dX8_isThere_1 rfl ?_
  refine x_iconst (v := 4) C dX8_isThere_2 (by decide) ?_
  refine x_cvE C (k := 40) (c_X8_get l g _ (e := e) (f := 4) hx he rfl (by decide) ) o_X8_get mw_X8_63 rfl (C.lt rfl) rcv_40 rfl rfl rfl hcs dX8_isThere_3 ?_
  refine x_iconst (v := 1) C dX8_isThere_6 (by decide) ?_
  refine x_icmp_ne (tgt := 14) C dX8_isThere_7 (by decide) (fun c7 => ?_) (fun c7 => ?_)
  · skip
    refine x_iconst (v := 0) C dX8_isThere_14 (by decide) ?_
    refine hret _ _ _ _ dX8_isThere_15 rfl ⟨Or.inr ⟨rfl, ?_⟩, rfl⟩
    exact c7
  · skip
    refine x_iconst (v := 1) C dX8_isThere_10 (by decide) ?_
    refine x_goto (tgt := 15) C dX8_isThere_11 (by decide) ?_
    refine hret _ _ _ _ dX8_isThere_15 rfl ⟨Or.inl ⟨rfl, ?_⟩, rfl⟩
    exact c7

def rm_X8_isEgg : Room := { frames := 2, cells := 0, slots := 0, locals := 43 }
set_option maxRecDepth 100000 in
set_option maxHeartbeats 4000000 in
theorem c_X8_isEgg (l : Launch) (g : Gp) (M : Mem) (x : Int32) : Kp l g yX8_isEgg cX8_isEgg 2 .boolean rm_X8_isEgg [.ref (gad g (40)), .int (x)] M (bv (eggP (vm M) x)) := by
  unfold Kp
  refine Ki.of rfl rfl rfl (fun q C hret hcs => ?_)
  refine x_iload_n C dX8_isEgg_0 rfl ?_
  refine x_csB C (c_X8_isPlace l g _ _ ) o_X8_isPlace mw_X8_67 rfl rfl rfl rfl hcs dX8_isEgg_1 (fun c1 => ?_) (fun c1 => ?_)
  · skip
    refine x_if_eqF (tgt := 19) C dX8_isEgg_4 (by decide) (by decide) ?_
    refine x_aload_n C dX8_isEgg_7 rfl ?_
    refine x_iload_n C dX8_isEgg_8 rfl ?_
    refine x_cvB C (k := 40) (c_X8_isThere l g _ (e := x.toNatClampNeg) (nI_tn c1.1) (tn_lt (n := 8) c1.1 c1.2 (by decide)) ) o_X8_isThere mw_X8_71 rfl (C.lt rfl) rcv_40 rfl rfl rfl hcs dX8_isEgg_9 (fun c9 => ?_) (fun c9 => ?_)
    · skip
      refine x_if_eqF (tgt := 19) C dX8_isEgg_12 (by decide) (by decide) ?_
      refine x_iconst (v := 1) C dX8_isEgg_15 (by decide) ?_
      refine x_goto (tgt := 20) C dX8_isEgg_16 (by decide) ?_
      refine hret _ _ _ _ dX8_isEgg_20 rfl ⟨Or.inl ⟨rfl, ?_⟩, rfl⟩
      exact ⟨c1, c9⟩
    · skip
      refine x_if_eqT (tgt := 19) C dX8_isEgg_12 (by decide) (by decide) ?_
      refine x_iconst (v := 0) C dX8_isEgg_19 (by decide) ?_
      refine hret _ _ _ _ dX8_isEgg_20 rfl ⟨Or.inr ⟨rfl, ?_⟩, rfl⟩
      first | exact fun z => c9 z.2 | exact fun z => c1 z.1
  · skip
    refine x_if_eqT (tgt := 19) C dX8_isEgg_4 (by decide) (by decide) ?_
    refine x_iconst (v := 0) C dX8_isEgg_19 (by decide) ?_
    refine hret _ _ _ _ dX8_isEgg_20 rfl ⟨Or.inr ⟨rfl, ?_⟩, rfl⟩
    first | exact fun z => c9 z.2 | exact fun z => c1 z.1

def rm_X8_hens : Room := { frames := 0, cells := 0, slots := 0, locals := 0 }
set_option maxRecDepth 100000 in
set_option maxHeartbeats 4000000 in
theorem c_X8_hens (l : Launch) (g : Gp) (M : Mem) {x y : Int32} {e f : Nat} (hx : x = nI e) (he : e < 4) (hy : y = nI f) (hf : f < 4) : Kp l g yX8_hens cX8_hens 3 .int rm_X8_hens [.ref (gad g (40)), .int (x), .int (y)] M (fun r => r = hn (vm M) e f) := by
  unfold Kp
  refine Ki.of rfl rfl rfl (fun q C hret hcs => ?_)
  refine x_aload_n C dX8_hens_0 rfl ?_
  refine x_getf (k := 40) C bk_X8 (C.lt rfl) rfl ent_40 0 fw_X8_9 rfl rfl dX8_hens_1 ?_
  refine x_bipush (v := 43) C dX8_hens_4 (by decide) ?_
  refine x_iconst (v := 4) C dX8_hens_6 (by decide) ?_
  refine x_iload_n C dX8_hens_7 rfl ?_
  refine x_imul C dX8_hens_8 ?_
  refine x_iadd C dX8_hens_9 ?_
  refine x_iload_n C dX8_hens_10 rfl ?_
  refine x_iadd C dX8_hens_11 ?_
  refine x_iald (j := 43 + 4 * e + f) (k := 41) C (C.lt rfl) rfl ent_41 (ix_h hx hy) (by omega) rfl dX8_hens_12 ?_
  refine hret _ _ _ _ dX8_hens_13 rfl ⟨?_, rfl⟩
  exact vm_hn he hf

def rm_X8_works : Room := { frames := 0, cells := 0, slots := 0, locals := 0 }
set_option maxRecDepth 100000 in
set_option maxHeartbeats 4000000 in
theorem c_X8_works (l : Launch) (g : Gp) (M : Mem) {x y : Int32} {e f : Nat} (hx : x = nI e) (he : e < 6) (hy : y = nI f) (hf : f < 4) : Kp l g yX8_works cX8_works 3 .int rm_X8_works [.ref (gad g (40)), .int (x), .int (y)] M (fun r => r = wk (vm M) e f) := by
  unfold Kp
  refine Ki.of rfl rfl rfl (fun q C hret hcs => ?_)
  refine x_aload_n C dX8_works_0 rfl ?_
  refine x_getf (k := 40) C bk_X8 (C.lt rfl) rfl ent_40 0 fw_X8_9 rfl rfl dX8_works_1 ?_
  refine x_bipush (v := 59) C dX8_works_4 (by decide) ?_
  refine x_iconst (v := 4) C dX8_works_6 (by decide) ?_
  refine x_iload_n C dX8_works_7 rfl ?_
  refine x_imul C dX8_works_8 ?_
  refine x_iadd C dX8_works_9 ?_
  refine x_iload_n C dX8_works_10 rfl ?_
  refine x_iadd C dX8_works_11 ?_
  refine x_iald (j := 59 + 4 * e + f) (k := 41) C (C.lt rfl) rfl ent_41 (ix_w hx hy) (by omega) rfl dX8_works_12 ?_
  refine hret _ _ _ _ dX8_works_13 rfl ⟨?_, rfl⟩
  exact vm_wk he hf

def rm_X8_setsAside : Room := { frames := 0, cells := 0, slots := 0, locals := 0 }
set_option maxRecDepth 100000 in
set_option maxHeartbeats 4000000 in
theorem c_X8_setsAside (l : Launch) (g : Gp) (M : Mem) : Kv l g yX8_setsAside cX8_setsAside 2 rm_X8_setsAside [.ref (gad g (40))] M (fun M' => (∀ k, k < 93 → M' 43 k = M 41 k) ∧ same [43] M M') := by
  refine Kv.of rfl rfl rfl (fun q C hret hcs => ?_)
  refine x_iconst (v := 0) C dX8_setsAside_0 (by decide) ?_
  refine x_istore_n C dX8_setsAside_1 rfl ?_
  refine up_to 93 (P := fun i => ∀ M1 : Mem, (∀ k, k < i → M1 43 k = M 41 k) → same [43] M M1 → X (kmk l rm_X8_setsAside g 2 q) M1 2 [some (.ref (gad g (40))), some (.int (nI i))] []) (fun i hi ih M1 hv hs => ?_) 0 (by omega) M (fun k hk => absurd hk (by omega)) same.rf
  refine x_iload_n C dX8_setsAside_2 rfl ?_
  refine x_bipush (v := 93) C dX8_setsAside_3 (by decide) ?_
  refine x_icmp_ge (tgt := 26) C dX8_setsAside_5 (by decide) (fun c5 => ?_) (fun c5 => ?_)
  · skip
    have hlt := lp_ge (N := 93) (by decide) hi c5
    refine hret _ _ _ dX8_setsAside_26 ?_
    subst hlt; exact ⟨hv, hs⟩
  · skip
    have hlt := lp_lt (N := 93) (by decide) hi c5
    refine x_aload_n C dX8_setsAside_8 rfl ?_
    refine x_getf (k := 40) C bk_X8 (C.lt rfl) rfl ent_40 2 fw_X8_16 rfl rfl dX8_setsAside_9 ?_
    refine x_iload_n C dX8_setsAside_12 rfl ?_
    refine x_aload_n C dX8_setsAside_13 rfl ?_
    refine x_getf (k := 40) C bk_X8 (C.lt rfl) rfl ent_40 0 fw_X8_9 rfl rfl dX8_setsAside_14 ?_
    refine x_iload_n C dX8_setsAside_17 rfl ?_
    refine x_iald (j := i) (k := 41) C (C.lt rfl) rfl ent_41 (rfl) (by omega) rfl dX8_setsAside_18 ?_
    refine x_iast (j := i) (k := 43) C (C.lt rfl) rfl ent_43 (rfl) (by omega) rfl dX8_setsAside_19 ?_
    refine x_memI (fun M2 eM2 => ?_)
    refine x_iinc (v := nI (i + 1)) C dX8_setsAside_20 rfl (nI_1 i) rfl ?_
    refine x_goto (tgt := 2) C dX8_setsAside_23 (by decide) ?_
    refine ih hlt M2 (fun k hk => ?_) (by rw [eM2]; exact hs.tr (same.up (by simp)))
    rw [eM2]
    by_cases q : k = i
    · subst q; rw [up_ss, hs 41 (by simp)]
    · rw [up_sn q]; exact hv k (by omega)

def rm_X8_laysBack : Room := { frames := 0, cells := 0, slots := 0, locals := 0 }
set_option maxRecDepth 100000 in
set_option maxHeartbeats 4000000 in
theorem c_X8_laysBack (l : Launch) (g : Gp) (M : Mem) : Kv l g yX8_laysBack cX8_laysBack 2 rm_X8_laysBack [.ref (gad g (40))] M (fun M' => (∀ k, k < 93 → M' 41 k = M 43 k) ∧ same [41] M M') := by
  refine Kv.of rfl rfl rfl (fun q C hret hcs => ?_)
  refine x_iconst (v := 0) C dX8_laysBack_0 (by decide) ?_
  refine x_istore_n C dX8_laysBack_1 rfl ?_
  refine up_to 93 (P := fun i => ∀ M1 : Mem, (∀ k, k < i → M1 41 k = M 43 k) → same [41] M M1 → X (kmk l rm_X8_laysBack g 2 q) M1 2 [some (.ref (gad g (40))), some (.int (nI i))] []) (fun i hi ih M1 hv hs => ?_) 0 (by omega) M (fun k hk => absurd hk (by omega)) same.rf
  refine x_iload_n C dX8_laysBack_2 rfl ?_
  refine x_bipush (v := 93) C dX8_laysBack_3 (by decide) ?_
  refine x_icmp_ge (tgt := 26) C dX8_laysBack_5 (by decide) (fun c5 => ?_) (fun c5 => ?_)
  · skip
    have hlt := lp_ge (N := 93) (by decide) hi c5
    refine hret _ _ _ dX8_laysBack_26 ?_
    subst hlt; exact ⟨hv, hs⟩
  · skip
    have hlt := lp_lt (N := 93) (by decide) hi c5
    refine x_aload_n C dX8_laysBack_8 rfl ?_
    refine x_getf (k := 40) C bk_X8 (C.lt rfl) rfl ent_40 0 fw_X8_9 rfl rfl dX8_laysBack_9 ?_
    refine x_iload_n C dX8_laysBack_12 rfl ?_
    refine x_aload_n C dX8_laysBack_13 rfl ?_
    refine x_getf (k := 40) C bk_X8 (C.lt rfl) rfl ent_40 2 fw_X8_16 rfl rfl dX8_laysBack_14 ?_
    refine x_iload_n C dX8_laysBack_17 rfl ?_
    refine x_iald (j := i) (k := 43) C (C.lt rfl) rfl ent_43 (rfl) (by omega) rfl dX8_laysBack_18 ?_
    refine x_iast (j := i) (k := 41) C (C.lt rfl) rfl ent_41 (rfl) (by omega) rfl dX8_laysBack_19 ?_
    refine x_memI (fun M2 eM2 => ?_)
    refine x_iinc (v := nI (i + 1)) C dX8_laysBack_20 rfl (nI_1 i) rfl ?_
    refine x_goto (tgt := 2) C dX8_laysBack_23 (by decide) ?_
    refine ih hlt M2 (fun k hk => ?_) (by rw [eM2]; exact hs.tr (same.up (by simp)))
    rw [eM2]
    by_cases q : k = i
    · subst q; rw [up_ss, hs 43 (by simp)]
    · rw [up_sn q]; exact hv k (by omega)

def rm_X8_minutesBy : Room := { frames := 1, cells := 0, slots := 0, locals := 21 }
set_option maxRecDepth 100000 in
set_option maxHeartbeats 4000000 in
theorem c_X8_minutesBy (l : Launch) (g : Gp) (M : Mem) (k size age day : Int32) : Kp l g yX8_minutesBy cX8_minutesBy 7 .int rm_X8_minutesBy [.int (k), .int (size), .int (age), .int (day)] M (fun r => r = minB k size age day) := by
  unfold Kp
  refine Ki.of rfl rfl rfl (fun q C hret hcs => ?_)
  refine x_iconst (v := 0) C dX8_minutesBy_0 (by decide) ?_
  refine x_iload_n C dX8_minutesBy_1 rfl ?_
  refine x_iload_n C dX8_minutesBy_2 rfl ?_
  refine x_isub C dX8_minutesBy_3 ?_
  refine x_csE C (c_X8_greater l g _ _ _ ) o_X8_greater mw_X8_74 rfl rfl rfl rfl hcs dX8_minutesBy_4 ?_
  refine x_topE (y := plainB size age) (by unfold plainB; clear hret hcs C; grind) ?_
  refine x_istore C dX8_minutesBy_7 rfl ?_
  refine x_iload C dX8_minutesBy_9 rfl ?_
  refine x_iload_n C dX8_minutesBy_11 rfl ?_
  refine x_iconst (v := 4) C dX8_minutesBy_12 (by decide) ?_
  refine x_irem C dX8_minutesBy_13 (by decide) ?_
  refine x_if_ne (tgt := 22) C dX8_minutesBy_14 (by decide) (fun c14 => ?_) (fun c14 => ?_)
  · skip
    refine x_iconst (v := 0) C dX8_minutesBy_22 (by decide) ?_
    refine x_iadd C dX8_minutesBy_23 ?_
    refine x_topE (y := leapB size age day) (by unfold leapB; clear hret hcs C; grind) ?_
    refine x_istore C dX8_minutesBy_24 rfl ?_
    refine x_iload C dX8_minutesBy_26 rfl ?_
    refine x_bipush (v := 30) C dX8_minutesBy_28 (by decide) ?_
    refine x_iconst (v := 2) C dX8_minutesBy_30 (by decide) ?_
    refine x_iload_n C dX8_minutesBy_31 rfl ?_
    refine x_imul C dX8_minutesBy_32 ?_
    refine x_csE C (c_X8_less l g _ _ _ ) o_X8_less mw_X8_77 rfl rfl rfl rfl hcs dX8_minutesBy_33 ?_
    refine x_iadd C dX8_minutesBy_36 ?_
    refine x_topE (y := warmB size age) (by unfold warmB; clear hret hcs C; grind) ?_
    refine x_istore C dX8_minutesBy_37 rfl ?_
    refine x_iload_n C dX8_minutesBy_39 rfl ?_
    rcases sw_split (k) 1 6 with c40 | c40
    · skip
      refine x_tableOut (tgt := 108) C dX8_minutesBy_40 c40 (by decide) ?_
      refine x_iload C dX8_minutesBy_108 rfl ?_
      refine hret _ _ _ _ dX8_minutesBy_110 rfl ⟨?_, rfl⟩
      exact minB_out c40
    · skip
      by_cases c40_1 : k = 1
      · skip
        refine x_tableIn (tgt := 80) (off := 40) C dX8_minutesBy_40 c40.1 c40.2 (by rw [c40_1]; decide) (by decide) ?_
        refine x_iload C dX8_minutesBy_80 rfl ?_
        refine hret _ _ _ _ dX8_minutesBy_82 rfl ⟨?_, rfl⟩
        unfold minB; rw [if_pos c40_1]
      by_cases c40_2 : k = 2
      · skip
        refine x_tableIn (tgt := 83) (off := 43) C dX8_minutesBy_40 c40.1 c40.2 (by rw [c40_2]; decide) (by decide) ?_
        refine x_iload C dX8_minutesBy_83 rfl ?_
        refine hret _ _ _ _ dX8_minutesBy_85 rfl ⟨?_, rfl⟩
        unfold minB; rw [if_neg c40_1, if_pos c40_2]
      by_cases c40_3 : k = 3
      · skip
        refine x_tableIn (tgt := 86) (off := 46) C dX8_minutesBy_40 c40.1 c40.2 (by rw [c40_3]; decide) (by decide) ?_
        refine x_iload C dX8_minutesBy_86 rfl ?_
        refine x_bipush (v := 15) C dX8_minutesBy_88 (by decide) ?_
        refine x_isub C dX8_minutesBy_90 ?_
        refine hret _ _ _ _ dX8_minutesBy_91 rfl ⟨?_, rfl⟩
        unfold minB; rw [if_neg c40_1, if_neg c40_2, if_pos c40_3]
      by_cases c40_4 : k = 4
      · skip
        refine x_tableIn (tgt := 92) (off := 52) C dX8_minutesBy_40 c40.1 c40.2 (by rw [c40_4]; decide) (by decide) ?_
        refine x_bipush (v := 15) C dX8_minutesBy_92 (by decide) ?_
        refine x_iload C dX8_minutesBy_94 rfl ?_
        refine x_isub C dX8_minutesBy_96 ?_
        refine hret _ _ _ _ dX8_minutesBy_97 rfl ⟨?_, rfl⟩
        unfold minB; rw [if_neg c40_1, if_neg c40_2, if_neg c40_3, if_pos c40_4]
      by_cases c40_5 : k = 5
      · skip
        refine x_tableIn (tgt := 98) (off := 58) C dX8_minutesBy_40 c40.1 c40.2 (by rw [c40_5]; decide) (by decide) ?_
        refine x_iload C dX8_minutesBy_98 rfl ?_
        refine x_iconst (v := 2) C dX8_minutesBy_100 (by decide) ?_
        refine x_idiv C dX8_minutesBy_101 (by decide) ?_
        refine hret _ _ _ _ dX8_minutesBy_102 rfl ⟨?_, rfl⟩
        unfold minB; rw [if_neg c40_1, if_neg c40_2, if_neg c40_3, if_neg c40_4, if_pos c40_5]
      by_cases c40_6 : k = 6
      · skip
        refine x_tableIn (tgt := 103) (off := 63) C dX8_minutesBy_40 c40.1 c40.2 (by rw [c40_6]; decide) (by decide) ?_
        refine x_iconst (v := 2) C dX8_minutesBy_103 (by decide) ?_
        refine x_iload C dX8_minutesBy_104 rfl ?_
        refine x_imul C dX8_minutesBy_106 ?_
        refine hret _ _ _ _ dX8_minutesBy_107 rfl ⟨?_, rfl⟩
        unfold minB; rw [if_neg c40_1, if_neg c40_2, if_neg c40_3, if_neg c40_4, if_neg c40_5, if_pos c40_6]
      exfalso
      have h1 := c40.1; have h2 := c40.2
      simp only [fa_eq] at c40_1 c40_2 c40_3 c40_4 c40_5 c40_6
      simp at c40_1 c40_2 c40_3 c40_4 c40_5 c40_6
      omega
  · skip
    refine x_bipush (v := 10) C dX8_minutesBy_17 (by decide) ?_
    refine x_goto (tgt := 23) C dX8_minutesBy_19 (by decide) ?_
    refine x_iadd C dX8_minutesBy_23 ?_
    refine x_topE (y := leapB size age day) (by unfold leapB; clear hret hcs C; grind) ?_
    refine x_istore C dX8_minutesBy_24 rfl ?_
    refine x_iload C dX8_minutesBy_26 rfl ?_
    refine x_bipush (v := 30) C dX8_minutesBy_28 (by decide) ?_
    refine x_iconst (v := 2) C dX8_minutesBy_30 (by decide) ?_
    refine x_iload_n C dX8_minutesBy_31 rfl ?_
    refine x_imul C dX8_minutesBy_32 ?_
    refine x_csE C (c_X8_less l g _ _ _ ) o_X8_less mw_X8_77 rfl rfl rfl rfl hcs dX8_minutesBy_33 ?_
    refine x_iadd C dX8_minutesBy_36 ?_
    refine x_topE (y := warmB size age) (by unfold warmB; clear hret hcs C; grind) ?_
    refine x_istore C dX8_minutesBy_37 rfl ?_
    refine x_iload_n C dX8_minutesBy_39 rfl ?_
    rcases sw_split (k) 1 6 with c40 | c40
    · skip
      refine x_tableOut (tgt := 108) C dX8_minutesBy_40 c40 (by decide) ?_
      refine x_iload C dX8_minutesBy_108 rfl ?_
      refine hret _ _ _ _ dX8_minutesBy_110 rfl ⟨?_, rfl⟩
      exact minB_out c40
    · skip
      by_cases c40_1 : k = 1
      · skip
        refine x_tableIn (tgt := 80) (off := 40) C dX8_minutesBy_40 c40.1 c40.2 (by rw [c40_1]; decide) (by decide) ?_
        refine x_iload C dX8_minutesBy_80 rfl ?_
        refine hret _ _ _ _ dX8_minutesBy_82 rfl ⟨?_, rfl⟩
        unfold minB; rw [if_pos c40_1]
      by_cases c40_2 : k = 2
      · skip
        refine x_tableIn (tgt := 83) (off := 43) C dX8_minutesBy_40 c40.1 c40.2 (by rw [c40_2]; decide) (by decide) ?_
        refine x_iload C dX8_minutesBy_83 rfl ?_
        refine hret _ _ _ _ dX8_minutesBy_85 rfl ⟨?_, rfl⟩
        unfold minB; rw [if_neg c40_1, if_pos c40_2]
      by_cases c40_3 : k = 3
      · skip
        refine x_tableIn (tgt := 86) (off := 46) C dX8_minutesBy_40 c40.1 c40.2 (by rw [c40_3]; decide) (by decide) ?_
        refine x_iload C dX8_minutesBy_86 rfl ?_
        refine x_bipush (v := 15) C dX8_minutesBy_88 (by decide) ?_
        refine x_isub C dX8_minutesBy_90 ?_
        refine hret _ _ _ _ dX8_minutesBy_91 rfl ⟨?_, rfl⟩
        unfold minB; rw [if_neg c40_1, if_neg c40_2, if_pos c40_3]
      by_cases c40_4 : k = 4
      · skip
        refine x_tableIn (tgt := 92) (off := 52) C dX8_minutesBy_40 c40.1 c40.2 (by rw [c40_4]; decide) (by decide) ?_
        refine x_bipush (v := 15) C dX8_minutesBy_92 (by decide) ?_
        refine x_iload C dX8_minutesBy_94 rfl ?_
        refine x_isub C dX8_minutesBy_96 ?_
        refine hret _ _ _ _ dX8_minutesBy_97 rfl ⟨?_, rfl⟩
        unfold minB; rw [if_neg c40_1, if_neg c40_2, if_neg c40_3, if_pos c40_4]
      by_cases c40_5 : k = 5
      · skip
        refine x_tableIn (tgt := 98) (off := 58) C dX8_minutesBy_40 c40.1 c40.2 (by rw [c40_5]; decide) (by decide) ?_
        refine x_iload C dX8_minutesBy_98 rfl ?_
        refine x_iconst (v := 2) C dX8_minutesBy_100 (by decide) ?_
        refine x_idiv C dX8_minutesBy_101 (by decide) ?_
        refine hret _ _ _ _ dX8_minutesBy_102 rfl ⟨?_, rfl⟩
        unfold minB; rw [if_neg c40_1, if_neg c40_2, if_neg c40_3, if_neg c40_4, if_pos c40_5]
      by_cases c40_6 : k = 6
      · skip
        refine x_tableIn (tgt := 103) (off := 63) C dX8_minutesBy_40 c40.1 c40.2 (by rw [c40_6]; decide) (by decide) ?_
        refine x_iconst (v := 2) C dX8_minutesBy_103 (by decide) ?_
        refine x_iload C dX8_minutesBy_104 rfl ?_
        refine x_imul C dX8_minutesBy_106 ?_
        refine hret _ _ _ _ dX8_minutesBy_107 rfl ⟨?_, rfl⟩
        unfold minB; rw [if_neg c40_1, if_neg c40_2, if_neg c40_3, if_neg c40_4, if_neg c40_5, if_pos c40_6]
      exfalso
      have h1 := c40.1; have h2 := c40.2
      simp only [fa_eq] at c40_1 c40_2 c40_3 c40_4 c40_5 c40_6
      simp at c40_1 c40_2 c40_3 c40_4 c40_5 c40_6
      omega

def rm_X8_keepsBy : Room := { frames := 0, cells := 0, slots := 0, locals := 0 }
set_option maxRecDepth 100000 in
set_option maxHeartbeats 4000000 in
theorem c_X8_keepsBy (l : Launch) (g : Gp) (M : Mem) (k : Int32) : Kp l g yX8_keepsBy cX8_keepsBy 1 .int rm_X8_keepsBy [.int (k)] M (fun r => r = keepB k) := by
  unfold Kp
  refine Ki.of rfl rfl rfl (fun q C hret hcs => ?_)
  refine x_iload_n C dX8_keepsBy_0 rfl ?_
  refine x_iconst (v := 2) C dX8_keepsBy_1 (by decide) ?_
  refine x_icmp_eq (tgt := 10) C dX8_keepsBy_2 (by decide) (fun c2 => ?_) (fun c2 => ?_)
  · skip
    refine x_bipush (v := 60) C dX8_keepsBy_10 (by decide) ?_
    refine x_goto (tgt := 47) C dX8_keepsBy_12 (by decide) ?_
    refine hret _ _ _ _ dX8_keepsBy_47 rfl ⟨?_, rfl⟩
    unfold keepB; clear hret hcs C; grind
  · skip
    refine x_iload_n C dX8_keepsBy_5 rfl ?_
    refine x_iconst (v := 3) C dX8_keepsBy_6 (by decide) ?_
    refine x_icmp_ne (tgt := 15) C dX8_keepsBy_7 (by decide) (fun c7 => ?_) (fun c7 => ?_)
    · skip
      refine x_iload_n C dX8_keepsBy_15 rfl ?_
      refine x_iconst (v := 4) C dX8_keepsBy_16 (by decide) ?_
      refine x_icmp_ne (tgt := 25) C dX8_keepsBy_17 (by decide) (fun c17 => ?_) (fun c17 => ?_)
      · skip
        refine x_iload_n C dX8_keepsBy_25 rfl ?_
        refine x_iconst (v := 5) C dX8_keepsBy_26 (by decide) ?_
        refine x_icmp_ne (tgt := 34) C dX8_keepsBy_27 (by decide) (fun c27 => ?_) (fun c27 => ?_)
        · skip
          refine x_iload_n C dX8_keepsBy_34 rfl ?_
          refine x_bipush (v := 6) C dX8_keepsBy_35 (by decide) ?_
          refine x_icmp_ne (tgt := 45) C dX8_keepsBy_37 (by decide) (fun c37 => ?_) (fun c37 => ?_)
          · skip
            refine x_bipush (v := 30) C dX8_keepsBy_45 (by decide) ?_
            refine hret _ _ _ _ dX8_keepsBy_47 rfl ⟨?_, rfl⟩
            unfold keepB; clear hret hcs C; grind
          · skip
            refine x_bipush (v := 20) C dX8_keepsBy_40 (by decide) ?_
            refine x_goto (tgt := 47) C dX8_keepsBy_42 (by decide) ?_
            refine hret _ _ _ _ dX8_keepsBy_47 rfl ⟨?_, rfl⟩
            unfold keepB; clear hret hcs C; grind
        · skip
          refine x_iconst (v := 5) C dX8_keepsBy_30 (by decide) ?_
          refine x_goto (tgt := 47) C dX8_keepsBy_31 (by decide) ?_
          refine hret _ _ _ _ dX8_keepsBy_47 rfl ⟨?_, rfl⟩
          unfold keepB; clear hret hcs C; grind
      · skip
        refine x_bipush (v := 9) C dX8_keepsBy_20 (by decide) ?_
        refine x_goto (tgt := 47) C dX8_keepsBy_22 (by decide) ?_
        refine hret _ _ _ _ dX8_keepsBy_47 rfl ⟨?_, rfl⟩
        unfold keepB; clear hret hcs C; grind
    · skip
      refine x_bipush (v := 60) C dX8_keepsBy_10 (by decide) ?_
      refine x_goto (tgt := 47) C dX8_keepsBy_12 (by decide) ?_
      refine hret _ _ _ _ dX8_keepsBy_47 rfl ⟨?_, rfl⟩
      unfold keepB; clear hret hcs C; grind

def rm_X8_minutes : Room := { frames := 2, cells := 0, slots := 0, locals := 47 }
set_option maxRecDepth 100000 in
set_option maxHeartbeats 4000000 in
theorem c_X8_minutes (l : Launch) (g : Gp) (M : Mem) {x : Int32} {e : Nat} (hx : x = nI e) (he : e < 8) : Kp l g yX8_minutes cX8_minutes 2 .int rm_X8_minutes [.ref (gad g (40)), .int (x)] M (fun r => r = minE (vm M) e) := by
  unfold Kp
  refine Ki.of rfl rfl rfl (fun q C hret hcs => ?_)
  refine x_aload_n C dX8_minutes_0 rfl ?_
  refine x_iload_n C dX8_minutes_1 rfl ?_
  refine x_iconst (v := 0) C dX8_minutes_2 (by decide) ?_
  refine x_cvE C (k := 40) (c_X8_get l g _ (e := e) (f := 0) hx he rfl (by decide) ) o_X8_get mw_X8_63 rfl (C.lt rfl) rcv_40 rfl rfl rfl hcs dX8_minutes_3 ?_
  refine x_aload_n C dX8_minutes_6 rfl ?_
  refine x_iload_n C dX8_minutes_7 rfl ?_
  refine x_iconst (v := 1) C dX8_minutes_8 (by decide) ?_
  refine x_cvE C (k := 40) (c_X8_get l g _ (e := e) (f := 1) hx he rfl (by decide) ) o_X8_get mw_X8_63 rfl (C.lt rfl) rcv_40 rfl rfl rfl hcs dX8_minutes_9 ?_
  refine x_aload_n C dX8_minutes_12 rfl ?_
  refine x_iload_n C dX8_minutes_13 rfl ?_
  refine x_iconst (v := 2) C dX8_minutes_14 (by decide) ?_
  refine x_cvE C (k := 40) (c_X8_get l g _ (e := e) (f := 2) hx he rfl (by decide) ) o_X8_get mw_X8_63 rfl (C.lt rfl) rcv_40 rfl rfl rfl hcs dX8_minutes_15 ?_
  refine x_aload_n C dX8_minutes_18 rfl ?_
  refine x_getf (k := 40) C bk_X8 (C.lt rfl) rfl ent_40 0 fw_X8_9 rfl rfl dX8_minutes_19 ?_
  refine x_iconst (v := 0) C dX8_minutes_22 (by decide) ?_
  refine x_iald (j := 0) (k := 41) C (C.lt rfl) rfl ent_41 (rfl) (by decide) rfl dX8_minutes_23 ?_
  refine x_csE C (c_X8_minutesBy l g _ _ _ _ _ ) o_X8_minutesBy mw_X8_80 rfl rfl rfl rfl hcs dX8_minutes_24 ?_
  refine hret _ _ _ _ dX8_minutes_27 rfl ⟨?_, rfl⟩
  rfl

def rm_X8_then : Room := { frames := 2, cells := 0, slots := 0, locals := 47 }
set_option maxRecDepth 100000 in
set_option maxHeartbeats 4000000 in
theorem c_X8_then (l : Launch) (g : Gp) (M : Mem) {x : Int32} {e : Nat} (hx : x = nI e) (he : e < 8) (k age n : Int32) : Kp l g yX8_then cX8_then 6 .int rm_X8_then [.ref (gad g (40)), .int (x), .int (k), .int (age), .int (n)] M (fun r => r = thenE (vm M) e k age n) := by
  unfold Kp
  refine Ki.of rfl rfl rfl (fun q C hret hcs => ?_)
  refine x_iload C dX8_then_0 rfl ?_
  refine x_if_le (tgt := 20) C dX8_then_2 (by decide) (fun c2 => ?_) (fun c2 => ?_)
  · skip
    refine x_iconst (v := 0) C dX8_then_20 (by decide) ?_
    refine x_istore C dX8_then_21 rfl ?_
    refine x_iload C dX8_then_23 rfl ?_
    refine x_if_eqT (tgt := 32) C dX8_then_25 (by decide) (by decide) ?_
    refine x_iload_n C dX8_then_32 rfl ?_
    refine x_aload_n C dX8_then_33 rfl ?_
    refine x_iload_n C dX8_then_34 rfl ?_
    refine x_iconst (v := 1) C dX8_then_35 (by decide) ?_
    refine x_cvE C (k := 40) (c_X8_get l g _ (e := e) (f := 1) hx he rfl (by decide) ) o_X8_get mw_X8_63 rfl (C.lt rfl) rcv_40 rfl rfl rfl hcs dX8_then_36 ?_
    refine x_iload_n C dX8_then_39 rfl ?_
    refine x_iload C dX8_then_40 rfl ?_
    refine x_iadd C dX8_then_42 ?_
    refine x_ldc C kw_X8_57 dX8_then_43 ?_
    refine x_aload_n C dX8_then_45 rfl ?_
    refine x_getf (k := 40) C bk_X8 (C.lt rfl) rfl ent_40 0 fw_X8_9 rfl rfl dX8_then_46 ?_
    refine x_iconst (v := 0) C dX8_then_49 (by decide) ?_
    refine x_iald (j := 0) (k := 41) C (C.lt rfl) rfl ent_41 (rfl) (by decide) rfl dX8_then_50 ?_
    refine x_iload C dX8_then_51 rfl ?_
    refine x_iadd C dX8_then_53 ?_
    refine x_csE C (c_X8_less l g _ _ _ ) o_X8_less mw_X8_77 rfl rfl rfl rfl hcs dX8_then_54 ?_
    refine x_topE (y := capD (vm M 0 + n)) (capD_l) ?_
    refine x_csE C (c_X8_minutesBy l g _ _ _ _ _ ) o_X8_minutesBy mw_X8_80 rfl rfl rfl rfl hcs dX8_then_57 ?_
    refine hret _ _ _ _ dX8_then_60 rfl ⟨?_, rfl⟩
    unfold thenE; rw [if_neg (by clear hret hcs C; grind)]
  · skip
    refine x_iload_n C dX8_then_5 rfl ?_
    refine x_iload C dX8_then_6 rfl ?_
    refine x_iadd C dX8_then_8 ?_
    refine x_iload_n C dX8_then_9 rfl ?_
    refine x_csE C (c_X8_keepsBy l g _ _ ) o_X8_keepsBy mw_X8_84 rfl rfl rfl rfl hcs dX8_then_10 ?_
    refine x_icmp_le (tgt := 20) C dX8_then_13 (by decide) (fun c13 => ?_) (fun c13 => ?_)
    · skip
      refine x_iconst (v := 0) C dX8_then_20 (by decide) ?_
      refine x_istore C dX8_then_21 rfl ?_
      refine x_iload C dX8_then_23 rfl ?_
      refine x_if_eqT (tgt := 32) C dX8_then_25 (by decide) (by decide) ?_
      refine x_iload_n C dX8_then_32 rfl ?_
      refine x_aload_n C dX8_then_33 rfl ?_
      refine x_iload_n C dX8_then_34 rfl ?_
      refine x_iconst (v := 1) C dX8_then_35 (by decide) ?_
      refine x_cvE C (k := 40) (c_X8_get l g _ (e := e) (f := 1) hx he rfl (by decide) ) o_X8_get mw_X8_63 rfl (C.lt rfl) rcv_40 rfl rfl rfl hcs dX8_then_36 ?_
      refine x_iload_n C dX8_then_39 rfl ?_
      refine x_iload C dX8_then_40 rfl ?_
      refine x_iadd C dX8_then_42 ?_
      refine x_ldc C kw_X8_57 dX8_then_43 ?_
      refine x_aload_n C dX8_then_45 rfl ?_
      refine x_getf (k := 40) C bk_X8 (C.lt rfl) rfl ent_40 0 fw_X8_9 rfl rfl dX8_then_46 ?_
      refine x_iconst (v := 0) C dX8_then_49 (by decide) ?_
      refine x_iald (j := 0) (k := 41) C (C.lt rfl) rfl ent_41 (rfl) (by decide) rfl dX8_then_50 ?_
      refine x_iload C dX8_then_51 rfl ?_
      refine x_iadd C dX8_then_53 ?_
      refine x_csE C (c_X8_less l g _ _ _ ) o_X8_less mw_X8_77 rfl rfl rfl rfl hcs dX8_then_54 ?_
      refine x_topE (y := capD (vm M 0 + n)) (capD_l) ?_
      refine x_csE C (c_X8_minutesBy l g _ _ _ _ _ ) o_X8_minutesBy mw_X8_80 rfl rfl rfl rfl hcs dX8_then_57 ?_
      refine hret _ _ _ _ dX8_then_60 rfl ⟨?_, rfl⟩
      unfold thenE; rw [if_neg (by clear hret hcs C; grind)]
    · skip
      refine x_iconst (v := 1) C dX8_then_16 (by decide) ?_
      refine x_goto (tgt := 21) C dX8_then_17 (by decide) ?_
      refine x_istore C dX8_then_21 rfl ?_
      refine x_iload C dX8_then_23 rfl ?_
      refine x_if_eqF (tgt := 32) C dX8_then_25 (by decide) (by decide) ?_
      refine x_iconst (v := 0) C dX8_then_28 (by decide) ?_
      refine x_goto (tgt := 60) C dX8_then_29 (by decide) ?_
      refine hret _ _ _ _ dX8_then_60 rfl ⟨?_, rfl⟩
      unfold thenE; rw [if_pos (by clear hret hcs C; grind)]

def rm_X8_eggs : Room := { frames := 2, cells := 0, slots := 0, locals := 43 }
set_option maxRecDepth 100000 in
set_option maxHeartbeats 4000000 in
theorem c_X8_eggs (l : Launch) (g : Gp) (M : Mem) : Kp l g yX8_eggs cX8_eggs 3 .int rm_X8_eggs [.ref (gad g (40))] M (fun r => r = nI (eggN (vm M) 8)) := by
  unfold Kp
  refine Ki.of rfl rfl rfl (fun q C hret hcs => ?_)
  refine x_iconst (v := 0) C dX8_eggs_0 (by decide) ?_
  refine x_istore_n C dX8_eggs_1 rfl ?_
  refine x_iconst (v := 0) C dX8_eggs_2 (by decide) ?_
  refine x_istore_n C dX8_eggs_3 rfl ?_
  refine up_to 8 (P := fun i => X (kmk l rm_X8_eggs g 3 q) M 4 [some (.ref (gad g (40))), some (.int (nI (eggN (vm M) i))), some (.int (nI i))] []) (fun i hi ih => ?_) 0 (by omega)
  refine x_iload_n C dX8_eggs_4 rfl ?_
  refine x_bipush (v := 8) C dX8_eggs_5 (by decide) ?_
  refine x_icmp_ge (tgt := 34) C dX8_eggs_7 (by decide) (fun c7 => ?_) (fun c7 => ?_)
  · skip
    have hlt := lp_ge (N := 8) (by decide) hi c7
    refine x_iload_n C dX8_eggs_34 rfl ?_
    refine hret _ _ _ _ dX8_eggs_35 rfl ⟨?_, rfl⟩
    subst hlt; rfl
  · skip
    have hlt := lp_lt (N := 8) (by decide) hi c7
    refine x_iload_n C dX8_eggs_10 rfl ?_
    refine x_aload_n C dX8_eggs_11 rfl ?_
    refine x_iload_n C dX8_eggs_12 rfl ?_
    refine x_cvB C (k := 40) (c_X8_isThere l g _ (e := i) rfl hlt ) o_X8_isThere mw_X8_71 rfl (C.lt rfl) rcv_40 rfl rfl rfl hcs dX8_eggs_13 (fun c13 => ?_) (fun c13 => ?_)
    · skip
      refine x_if_eqF (tgt := 25) C dX8_eggs_16 (by decide) (by decide) ?_
      refine x_iconst (v := 1) C dX8_eggs_19 (by decide) ?_
      refine x_iload_n C dX8_eggs_20 rfl ?_
      refine x_ishl C dX8_eggs_21 ?_
      refine x_goto (tgt := 26) C dX8_eggs_22 (by decide) ?_
      refine x_ior C dX8_eggs_26 ?_
      refine x_topE (y := nI (eggN (vm M) (i + 1))) (by first | (rw [or_bit (eggN_lt _ i) hlt]; show _ = nI (_ + _); rw [if_pos c13]; done) | (rw [or_0]; show _ = nI (_ + _); rw [if_neg c13]; rfl)) ?_
      refine x_istore_n C dX8_eggs_27 rfl ?_
      refine x_iinc (v := nI (i + 1)) C dX8_eggs_28 rfl (nI_1 i) rfl ?_
      refine x_goto (tgt := 4) C dX8_eggs_31 (by decide) ?_
      exact ih hlt
    · skip
      refine x_if_eqT (tgt := 25) C dX8_eggs_16 (by decide) (by decide) ?_
      refine x_iconst (v := 0) C dX8_eggs_25 (by decide) ?_
      refine x_ior C dX8_eggs_26 ?_
      refine x_topE (y := nI (eggN (vm M) (i + 1))) (by first | (rw [or_bit (eggN_lt _ i) hlt]; show _ = nI (_ + _); rw [if_pos c13]; done) | (rw [or_0]; show _ = nI (_ + _); rw [if_neg c13]; rfl)) ?_
      refine x_istore_n C dX8_eggs_27 rfl ?_
      refine x_iinc (v := nI (i + 1)) C dX8_eggs_28 rfl (nI_1 i) rfl ?_
      refine x_goto (tgt := 4) C dX8_eggs_31 (by decide) ?_
      exact ih hlt

def rm_X8_sumOf : Room := { frames := 3, cells := 0, slots := 0, locals := 68 }
set_option maxRecDepth 100000 in
set_option maxHeartbeats 4000000 in
theorem c_X8_sumOf (l : Launch) (g : Gp) (M : Mem) {x : Int32} {s : Nat} (hx : x = nI s) (hs : s < 256) : Kp l g yX8_sumOf cX8_sumOf 4 .int rm_X8_sumOf [.ref (gad g (40)), .int (x)] M (fun r => r = sumN (vm M) s 8) := by
  unfold Kp
  refine Ki.of rfl rfl rfl (fun q C hret hcs => ?_)
  refine x_iconst (v := 0) C dX8_sumOf_0 (by decide) ?_
  refine x_istore_n C dX8_sumOf_1 rfl ?_
  refine x_iconst (v := 0) C dX8_sumOf_2 (by decide) ?_
  refine x_istore_n C dX8_sumOf_3 rfl ?_
  refine up_to 8 (P := fun i => X (kmk l rm_X8_sumOf g 4 q) M 4 [some (.ref (gad g (40))), some (.int (x)), some (.int (sumN (vm M) s i)), some (.int (nI i))] []) (fun i hi ih => ?_) 0 (by omega)
  refine x_iload_n C dX8_sumOf_4 rfl ?_
  refine x_bipush (v := 8) C dX8_sumOf_5 (by decide) ?_
  refine x_icmp_ge (tgt := 36) C dX8_sumOf_7 (by decide) (fun c7 => ?_) (fun c7 => ?_)
  · skip
    have hlt := lp_ge (N := 8) (by decide) hi c7
    refine x_iload_n C dX8_sumOf_36 rfl ?_
    refine hret _ _ _ _ dX8_sumOf_37 rfl ⟨?_, rfl⟩
    subst hlt; rfl
  · skip
    have hlt := lp_lt (N := 8) (by decide) hi c7
    refine x_iload_n C dX8_sumOf_10 rfl ?_
    refine x_iload_n C dX8_sumOf_11 rfl ?_
    refine x_iload_n C dX8_sumOf_12 rfl ?_
    refine x_csB C (c_X8_isIn l g _ (s := s) (k := i) hx (by omega) rfl (by omega) ) o_X8_isIn mw_X8_88 rfl rfl rfl rfl hcs dX8_sumOf_13 (fun c13 => ?_) (fun c13 => ?_)
    · skip
      refine x_if_eqF (tgt := 27) C dX8_sumOf_16 (by decide) (by decide) ?_
      refine x_aload_n C dX8_sumOf_19 rfl ?_
      refine x_iload_n C dX8_sumOf_20 rfl ?_
      refine x_cvE C (k := 40) (c_X8_minutes l g _ (e := i) rfl hlt ) o_X8_minutes mw_X8_92 rfl (C.lt rfl) rcv_40 rfl rfl rfl hcs dX8_sumOf_21 ?_
      refine x_goto (tgt := 28) C dX8_sumOf_24 (by decide) ?_
      refine x_iadd C dX8_sumOf_28 ?_
      refine x_topE (y := sumN (vm M) s (i + 1)) (by show _ = sumN (vm M) s i + _; first | rw [if_pos c13] | rw [if_neg c13]) ?_
      refine x_istore_n C dX8_sumOf_29 rfl ?_
      refine x_iinc (v := nI (i + 1)) C dX8_sumOf_30 rfl (nI_1 i) rfl ?_
      refine x_goto (tgt := 4) C dX8_sumOf_33 (by decide) ?_
      exact ih hlt
    · skip
      refine x_if_eqT (tgt := 27) C dX8_sumOf_16 (by decide) (by decide) ?_
      refine x_iconst (v := 0) C dX8_sumOf_27 (by decide) ?_
      refine x_iadd C dX8_sumOf_28 ?_
      refine x_topE (y := sumN (vm M) s (i + 1)) (by show _ = sumN (vm M) s i + _; first | rw [if_pos c13] | rw [if_neg c13]) ?_
      refine x_istore_n C dX8_sumOf_29 rfl ?_
      refine x_iinc (v := nI (i + 1)) C dX8_sumOf_30 rfl (nI_1 i) rfl ?_
      refine x_goto (tgt := 4) C dX8_sumOf_33 (by decide) ?_
      exact ih hlt

def rm_X8_allMinutes : Room := { frames := 4, cells := 0, slots := 0, locals := 91 }
set_option maxRecDepth 100000 in
set_option maxHeartbeats 4000000 in
theorem c_X8_allMinutes (l : Launch) (g : Gp) (M : Mem) : Kp l g yX8_allMinutes cX8_allMinutes 1 .int rm_X8_allMinutes [.ref (gad g (40))] M (fun r => r = allM (vm M) 8) := by
  unfold Kp
  refine Ki.of rfl rfl rfl (fun q C hret hcs => ?_)
  refine x_aload_n C dX8_allMinutes_0 rfl ?_
  refine x_aload_n C dX8_allMinutes_1 rfl ?_
  refine x_cvE C (k := 40) (c_X8_eggs l g _ ) o_X8_eggs mw_X8_95 rfl (C.lt rfl) rcv_40 rfl rfl rfl hcs dX8_allMinutes_2 ?_
  refine x_cvE C (k := 40) (c_X8_sumOf l g _ (s := (eggN (vm M) 8)) rfl (eggN_lt _ 8) ) o_X8_sumOf mw_X8_99 rfl (C.lt rfl) rcv_40 rfl rfl rfl hcs dX8_allMinutes_5 ?_
  refine hret _ _ _ _ dX8_allMinutes_8 rfl ⟨?_, rfl⟩
  exact sum_all _ 8 (by decide)

def rm_X8_free : Room := { frames := 2, cells := 0, slots := 0, locals := 43 }
set_option maxRecDepth 100000 in
set_option maxHeartbeats 4000000 in
theorem c_X8_free (l : Launch) (g : Gp) (M : Mem) : Kp l g yX8_free cX8_free 2 .int rm_X8_free [.ref (gad g (40))] M (fun r => r = frI (vm M)) := by
  unfold Kp
  refine Ki.of rfl rfl rfl (fun q C hret hcs => ?_)
  refine x_iconst (v := 0) C dX8_free_0 (by decide) ?_
  refine x_istore_n C dX8_free_1 rfl ?_
  refine up_to 8 (P := fun i => (∀ e, e < i → thr (vm M) e) → X (kmk l rm_X8_free g 2 q) M 2 [some (.ref (gad g (40))), some (.int (nI i))] []) (fun i hi ih hthr => ?_) 0 (by omega) (fun e he => absurd he (by omega))
  refine x_iload_n C dX8_free_2 rfl ?_
  refine x_bipush (v := 8) C dX8_free_3 (by decide) ?_
  refine x_icmp_ge (tgt := 22) C dX8_free_5 (by decide) (fun c5 => ?_) (fun c5 => ?_)
  · skip
    have hlt := lp_ge (N := 8) (by decide) hi c5
    refine x_iload_n C dX8_free_22 rfl ?_
    refine x_bipush (v := 8) C dX8_free_23 (by decide) ?_
    refine x_icmp_ge (tgt := 32) C dX8_free_25 (by decide) (fun c25 => ?_) (fun c25 => ?_)
    · skip
      refine x_iconst (v := -1) C dX8_free_32 (by decide) ?_
      refine hret _ _ _ _ dX8_free_33 rfl ⟨?_, rfl⟩
      first | (subst hlt; unfold frI; rw [frN_all hthr, if_neg (by decide)]; done) | exact absurd c25 c5
    · skip
      refine x_iload_n C dX8_free_28 rfl ?_
      refine x_goto (tgt := 33) C dX8_free_29 (by decide) ?_
      refine hret _ _ _ _ dX8_free_33 rfl ⟨?_, rfl⟩
      first | (unfold frI; rw [frN_hit hthr c10 hlt, if_pos hlt]; done) | exact absurd c5 c25
  · skip
    have hlt := lp_lt (N := 8) (by decide) hi c5
    refine x_aload_n C dX8_free_8 rfl ?_
    refine x_iload_n C dX8_free_9 rfl ?_
    refine x_cvB C (k := 40) (c_X8_isThere l g _ (e := i) rfl hlt ) o_X8_isThere mw_X8_71 rfl (C.lt rfl) rcv_40 rfl rfl rfl hcs dX8_free_10 (fun c10 => ?_) (fun c10 => ?_)
    · skip
      refine x_if_eqF (tgt := 22) C dX8_free_13 (by decide) (by decide) ?_
      refine x_iinc (v := nI (i + 1)) C dX8_free_16 rfl (nI_1 i) rfl ?_
      refine x_goto (tgt := 2) C dX8_free_19 (by decide) ?_
      exact ih hlt (fun e he => by rcases Nat.lt_or_ge e i with z | z; exact hthr e z; rw [show e = i by omega]; exact c10)
    · skip
      refine x_if_eqT (tgt := 22) C dX8_free_13 (by decide) (by decide) ?_
      refine x_iload_n C dX8_free_22 rfl ?_
      refine x_bipush (v := 8) C dX8_free_23 (by decide) ?_
      refine x_icmp_ge (tgt := 32) C dX8_free_25 (by decide) (fun c25 => ?_) (fun c25 => ?_)
      · skip
        refine x_iconst (v := -1) C dX8_free_32 (by decide) ?_
        refine hret _ _ _ _ dX8_free_33 rfl ⟨?_, rfl⟩
        first | (subst hlt; unfold frI; rw [frN_all hthr, if_neg (by decide)]; done) | exact absurd c25 c5
      · skip
        refine x_iload_n C dX8_free_28 rfl ?_
        refine x_goto (tgt := 33) C dX8_free_29 (by decide) ?_
        refine hret _ _ _ _ dX8_free_33 rfl ⟨?_, rfl⟩
        first | (unfold frI; rw [frN_hit hthr c10 hlt, if_pos hlt]; done) | exact absurd c5 c25

def rm_X8_goesEgg : Room := { frames := 1, cells := 0, slots := 0, locals := 23 }
set_option maxRecDepth 100000 in
set_option maxHeartbeats 4000000 in
theorem c_X8_goesEgg (l : Launch) (g : Gp) (M : Mem) {x : Int32} {e : Nat} (hx : x = nI e) (he : e < 8) : Kv l g yX8_goesEgg cX8_goesEgg 2 rm_X8_goesEgg [.ref (gad g (40)), .int (x)] M (fun M' => vm M' = goS (vm M) e ∧ same [41] M M') := by
  refine Kv.of rfl rfl rfl (fun q C hret hcs => ?_)
  refine x_aload_n C dX8_goesEgg_0 rfl ?_
  refine x_iload_n C dX8_goesEgg_1 rfl ?_
  refine x_iconst (v := 4) C dX8_goesEgg_2 (by decide) ?_
  refine x_iconst (v := 0) C dX8_goesEgg_3 (by decide) ?_
  refine x_cvv C (k := 40) (c_X8_puts l g _ (e := e) (f := 4) hx he rfl (by decide) ) o_X8_puts mw_X8_105 rfl (C.lt rfl) rcv_40 rfl rfl rfl hcs dX8_goesEgg_4 (fun M1 h1 => ?_)
  refine x_aload_n C dX8_goesEgg_7 rfl ?_
  refine x_iload_n C dX8_goesEgg_8 rfl ?_
  refine x_iconst (v := 0) C dX8_goesEgg_9 (by decide) ?_
  refine x_iconst (v := 0) C dX8_goesEgg_10 (by decide) ?_
  refine x_cvv C (k := 40) (c_X8_puts l g _ (e := e) (f := 0) hx he rfl (by decide) ) o_X8_puts mw_X8_105 rfl (C.lt rfl) rcv_40 rfl rfl rfl hcs dX8_goesEgg_11 (fun M2 h2 => ?_)
  refine x_aload_n C dX8_goesEgg_14 rfl ?_
  refine x_iload_n C dX8_goesEgg_15 rfl ?_
  refine x_iconst (v := 1) C dX8_goesEgg_16 (by decide) ?_
  refine x_iconst (v := 0) C dX8_goesEgg_17 (by decide) ?_
  refine x_cvv C (k := 40) (c_X8_puts l g _ (e := e) (f := 1) hx he rfl (by decide) ) o_X8_puts mw_X8_105 rfl (C.lt rfl) rcv_40 rfl rfl rfl hcs dX8_goesEgg_18 (fun M3 h3 => ?_)
  refine x_aload_n C dX8_goesEgg_21 rfl ?_
  refine x_iload_n C dX8_goesEgg_22 rfl ?_
  refine x_iconst (v := 2) C dX8_goesEgg_23 (by decide) ?_
  refine x_iconst (v := 0) C dX8_goesEgg_24 (by decide) ?_
  refine x_cvv C (k := 40) (c_X8_puts l g _ (e := e) (f := 2) hx he rfl (by decide) ) o_X8_puts mw_X8_105 rfl (C.lt rfl) rcv_40 rfl rfl rfl hcs dX8_goesEgg_25 (fun M4 h4 => ?_)
  refine x_aload_n C dX8_goesEgg_28 rfl ?_
  refine x_iload_n C dX8_goesEgg_29 rfl ?_
  refine x_iconst (v := 3) C dX8_goesEgg_30 (by decide) ?_
  refine x_iconst (v := 0) C dX8_goesEgg_31 (by decide) ?_
  refine x_cvv C (k := 40) (c_X8_puts l g _ (e := e) (f := 3) hx he rfl (by decide) ) o_X8_puts mw_X8_105 rfl (C.lt rfl) rcv_40 rfl rfl rfl hcs dX8_goesEgg_32 (fun M5 h5 => ?_)
  refine hret _ _ _ dX8_goesEgg_35 ?_
  refine ⟨?_, (((h1.2.tr h2.2).tr h3.2).tr h4.2).tr h5.2⟩
  rw [h5.1, h4.1, h3.1, h2.1, h1.1]; exact puts_go

def rm_X8_lays : Room := { frames := 3, cells := 0, slots := 0, locals := 64 }
set_option maxRecDepth 100000 in
set_option maxHeartbeats 4000000 in
theorem c_X8_lays (l : Launch) (g : Gp) (M : Mem) (k s a n : Int32) : Ki l g yX8_lays cX8_lays 6 .int rm_X8_lays [.ref (gad g (40)), .int (k), .int (s), .int (a), .int (n)] M (fun r M' => r = frI (vm M) ∧ vm M' = layS (vm M) k s a n ∧ same [41] M M') := by
  refine Ki.of rfl rfl rfl (fun q C hret hcs => ?_)
  refine x_aload_n C dX8_lays_0 rfl ?_
  refine x_cvE C (k := 40) (c_X8_free l g _ ) o_X8_free mw_X8_102 rfl (C.lt rfl) rcv_40 rfl rfl rfl hcs dX8_lays_1 ?_
  refine x_topi (fun x1 ex1 => ?_)
  refine x_istore C dX8_lays_4 rfl ?_
  refine x_iload C dX8_lays_6 rfl ?_
  refine x_if_lt (tgt := 52) C dX8_lays_8 (by decide) (fun c8 => ?_) (fun c8 => ?_)
  · skip
    have hf : ¬ frN (vm M) 8 < 8 := frI_ge (by rw [← ex1]; exact c8)
    refine x_iload C dX8_lays_52 rfl ?_
    refine hret _ _ _ _ dX8_lays_54 rfl ?_
    exact ⟨ex1, (if_neg hf).symm, same.rf⟩
  · skip
    have hf : frN (vm M) 8 < 8 := frI_lt (by rw [← ex1]; exact c8)
    have ef : x1 = nI (frN (vm M) 8) := by rw [ex1]; exact if_pos hf
    refine x_aload_n C dX8_lays_11 rfl ?_
    refine x_iload C dX8_lays_12 rfl ?_
    refine x_iconst (v := 0) C dX8_lays_14 (by decide) ?_
    refine x_iload_n C dX8_lays_15 rfl ?_
    refine x_cvv C (k := 40) (c_X8_puts l g _ (e := (frN (vm M) 8)) (f := 0) ef hf rfl (by decide) ) o_X8_puts mw_X8_105 rfl (C.lt rfl) rcv_40 rfl rfl rfl hcs dX8_lays_16 (fun M1 h1 => ?_)
    refine x_aload_n C dX8_lays_19 rfl ?_
    refine x_iload C dX8_lays_20 rfl ?_
    refine x_iconst (v := 1) C dX8_lays_22 (by decide) ?_
    refine x_iload_n C dX8_lays_23 rfl ?_
    refine x_cvv C (k := 40) (c_X8_puts l g _ (e := (frN (vm M) 8)) (f := 1) ef hf rfl (by decide) ) o_X8_puts mw_X8_105 rfl (C.lt rfl) rcv_40 rfl rfl rfl hcs dX8_lays_24 (fun M2 h2 => ?_)
    refine x_aload_n C dX8_lays_27 rfl ?_
    refine x_iload C dX8_lays_28 rfl ?_
    refine x_iconst (v := 2) C dX8_lays_30 (by decide) ?_
    refine x_iload_n C dX8_lays_31 rfl ?_
    refine x_cvv C (k := 40) (c_X8_puts l g _ (e := (frN (vm M) 8)) (f := 2) ef hf rfl (by decide) ) o_X8_puts mw_X8_105 rfl (C.lt rfl) rcv_40 rfl rfl rfl hcs dX8_lays_32 (fun M3 h3 => ?_)
    refine x_aload_n C dX8_lays_35 rfl ?_
    refine x_iload C dX8_lays_36 rfl ?_
    refine x_iconst (v := 3) C dX8_lays_38 (by decide) ?_
    refine x_iload C dX8_lays_39 rfl ?_
    refine x_cvv C (k := 40) (c_X8_puts l g _ (e := (frN (vm M) 8)) (f := 3) ef hf rfl (by decide) ) o_X8_puts mw_X8_105 rfl (C.lt rfl) rcv_40 rfl rfl rfl hcs dX8_lays_41 (fun M4 h4 => ?_)
    refine x_aload_n C dX8_lays_44 rfl ?_
    refine x_iload C dX8_lays_45 rfl ?_
    refine x_iconst (v := 4) C dX8_lays_47 (by decide) ?_
    refine x_iconst (v := 1) C dX8_lays_48 (by decide) ?_
    refine x_cvv C (k := 40) (c_X8_puts l g _ (e := (frN (vm M) 8)) (f := 4) ef hf rfl (by decide) ) o_X8_puts mw_X8_105 rfl (C.lt rfl) rcv_40 rfl rfl rfl hcs dX8_lays_49 (fun M5 h5 => ?_)
    refine x_iload C dX8_lays_52 rfl ?_
    refine hret _ _ _ _ dX8_lays_54 rfl ?_
    refine ⟨ex1, ?_, (((h1.2.tr h2.2).tr h3.2).tr h4.2).tr h5.2⟩
    rw [h5.1, h4.1, h3.1, h2.1, h1.1]; exact puts_put.trans (if_pos hf).symm

theorem hen_layS {S : Row} {i : Nat} (c : ¬ hn (hensS S i) i 0 ≤ 0) (c2 : hensS S i 0 - hensS S i 0 / hn (hensS S i) i 0 * hn (hensS S i) i 0 = 0) : hensS S (i + 1) = layS (hensS S i) (hn (hensS S i) i 1) (hn (hensS S i) i 2) 0 (hn (hensS S i) i 3) := by
  show henS _ _ = _
  unfold henS
  rw [if_pos ⟨by grind, c2⟩]
def rm_X8_day : Room := { frames := 4, cells := 0, slots := 0, locals := 89 }
set_option maxRecDepth 100000 in
set_option maxHeartbeats 4000000 in
theorem c_X8_day (l : Launch) (g : Gp) (M : Mem) : Ki l g yX8_day cX8_day 4 .int rm_X8_day [.ref (gad g (40))] M (fun r M' => r = nI (agesC (vm M) 8) ∧ vm M' = dayS (vm M) ∧ same [41] M M') := by
  refine Ki.of rfl rfl rfl (fun q C hret hcs => ?_)
  refine x_iconst (v := 0) C dX8_day_0 (by decide) ?_
  refine x_istore_n C dX8_day_1 rfl ?_
  refine x_iconst (v := 0) C dX8_day_2 (by decide) ?_
  refine x_istore_n C dX8_day_3 rfl ?_
  refine up_to 8 (P := fun i => ∀ M1 : Mem, vm M1 = agesS (vm M) i → same [41] M M1 → X (kmk l rm_X8_day g 4 q) M1 4 [some (.ref (gad g (40))), some (.int (nI (agesC (vm M) i))), some (.int (nI i)), none] []) (fun i hi ih M1 hv hs => ?_) 0 (by omega) M rfl same.rf
  refine x_iload_n C dX8_day_4 rfl ?_
  refine x_bipush (v := 8) C dX8_day_5 (by decide) ?_
  refine x_icmp_ge (tgt := 64) C dX8_day_7 (by decide) (fun c7 => ?_) (fun c7 => ?_)
  · skip
    have hlt := lp_ge (N := 8) (by decide) hi c7
    refine x_aload_n C dX8_day_64 rfl ?_
    refine x_getf (k := 40) C bk_X8 (C.lt rfl) rfl ent_40 0 fw_X8_9 rfl rfl dX8_day_65 ?_
    refine x_iconst (v := 1) C dX8_day_68 (by decide) ?_
    refine x_ldc C kw_X8_57 dX8_day_69 ?_
    refine x_aload_n C dX8_day_71 rfl ?_
    refine x_getf (k := 40) C bk_X8 (C.lt rfl) rfl ent_40 0 fw_X8_9 rfl rfl dX8_day_72 ?_
    refine x_iconst (v := 1) C dX8_day_75 (by decide) ?_
    subst hlt
    refine x_iald (j := 1) (k := 41) C (C.lt rfl) rfl ent_41 (rfl) (by decide) rfl dX8_day_76 ?_
    refine x_iload_n C dX8_day_77 rfl ?_
    refine x_iadd C dX8_day_78 ?_
    refine x_csE C (c_X8_less l g _ _ _ ) o_X8_less mw_X8_77 rfl rfl rfl rfl hcs dX8_day_79 ?_
    refine x_topE (y := capD (vm M 1 + nI (agesC (vm M) 8))) (by rw [show M1 41 1 = vm M 1 from (congrFun hv 1).trans (agesS_o _ _ _ (by decide))]; exact capD_l) ?_
    refine x_iast (j := 1) (k := 41) C (C.lt rfl) rfl ent_41 (rfl) (by decide) rfl dX8_day_82 ?_
    refine x_memI (fun M4 eM4 => ?_)
    refine x_aload_n C dX8_day_83 rfl ?_
    refine x_getf (k := 40) C bk_X8 (C.lt rfl) rfl ent_40 0 fw_X8_9 rfl rfl dX8_day_84 ?_
    refine x_iconst (v := 0) C dX8_day_87 (by decide) ?_
    refine x_ldc C kw_X8_57 dX8_day_88 ?_
    refine x_aload_n C dX8_day_90 rfl ?_
    refine x_getf (k := 40) C bk_X8 (C.lt rfl) rfl ent_40 0 fw_X8_9 rfl rfl dX8_day_91 ?_
    refine x_iconst (v := 0) C dX8_day_94 (by decide) ?_
    refine x_iald (j := 0) (k := 41) C (C.lt rfl) rfl ent_41 (rfl) (by decide) rfl dX8_day_95 ?_
    refine x_iconst (v := 1) C dX8_day_96 (by decide) ?_
    refine x_iadd C dX8_day_97 ?_
    refine x_csE C (c_X8_less l g _ _ _ ) o_X8_less mw_X8_77 rfl rfl rfl rfl hcs dX8_day_98 ?_
    refine x_topE (y := capD (vm M 0 + 1)) (by rw [show M4 41 0 = vm M 0 from (by rw [eM4]; exact up_sn (by decide) : M4 41 0 = M1 41 0).trans ((congrFun hv 0).trans (agesS_o _ _ _ (by decide)))]; exact capD_l) ?_
    refine x_iast (j := 0) (k := 41) C (C.lt rfl) rfl ent_41 (rfl) (by decide) rfl dX8_day_101 ?_
    refine x_memI (fun M5 eM5 => ?_)
    have hv5 : vm M5 = tickS (vm M) := by rw [eM5, vm_up (by decide), eM4, vm_up (by decide), hv]; rfl
    have hs5 : same [41] M M5 := by rw [eM5, eM4]; exact hs.tr ((same.up (by simp)).tr (same.up (by simp)))
    refine x_iconst (v := 0) C dX8_day_102 (by decide) ?_
    refine x_istore_n C dX8_day_103 rfl ?_
    refine up_to 4 (P := fun i => ∀ M6 : Mem, vm M6 = hensS (tickS (vm M)) i → same [41] M M6 → X (kmk l rm_X8_day g 4 q) M6 104 [some (.ref (gad g (40))), some (.int (nI (agesC (vm M) 8))), some (.int (nI i)), none] []) (fun i hi ih M6 hv6 hs6 => ?_) 0 (by omega) M5 hv5 hs5
    refine x_iload_n C dX8_day_104 rfl ?_
    refine x_iconst (v := 4) C dX8_day_105 (by decide) ?_
    refine x_icmp_ge (tgt := 164) C dX8_day_106 (by decide) (fun c106 => ?_) (fun c106 => ?_)
    · skip
      have hlt2 := lp_ge (N := 4) (by decide) hi c106
      refine x_iload_n C dX8_day_164 rfl ?_
      refine hret _ _ _ _ dX8_day_165 rfl ?_
      subst hlt2; exact ⟨rfl, hv6, hs6⟩
    · skip
      have hlt2 := lp_lt (N := 4) (by decide) hi c106
      refine x_aload_n C dX8_day_109 rfl ?_
      refine x_iload_n C dX8_day_110 rfl ?_
      refine x_iconst (v := 0) C dX8_day_111 (by decide) ?_
      refine x_cvE C (k := 40) (c_X8_hens l g _ (e := i) (f := 0) rfl hlt2 rfl (by decide) ) o_X8_hens mw_X8_113 rfl (C.lt rfl) rcv_40 rfl rfl rfl hcs dX8_day_112 ?_
      refine x_if_le (tgt := 158) C dX8_day_115 (by decide) (fun c115 => ?_) (fun c115 => ?_)
      · skip
        refine x_iinc (v := nI (i + 1)) C dX8_day_158 rfl (nI_1 i) rfl ?_
        refine x_goto (tgt := 104) C dX8_day_161 (by decide) ?_
        refine X.le (ls' := [some (.ref (gad g (40))), some (.int (nI (agesC (vm M) 8))), some (.int (nI (i + 1))), none]) (lle_s rfl (lle_s rfl (lle_s rfl (lle_n lle_e)))) ?_
        refine ih hlt2 M6 ?_ hs6
        first | rw [hen_rest (by rw [← hv6]; exact c131), hv6] | rw [hen_none (by rw [← hv6]; exact c115), hv6]
      · skip
        refine x_aload_n C dX8_day_118 rfl ?_
        refine x_getf (k := 40) C bk_X8 (C.lt rfl) rfl ent_40 0 fw_X8_9 rfl rfl dX8_day_119 ?_
        refine x_iconst (v := 0) C dX8_day_122 (by decide) ?_
        refine x_iald (j := 0) (k := 41) C (C.lt rfl) rfl ent_41 (rfl) (by decide) rfl dX8_day_123 ?_
        refine x_aload_n C dX8_day_124 rfl ?_
        refine x_iload_n C dX8_day_125 rfl ?_
        refine x_iconst (v := 0) C dX8_day_126 (by decide) ?_
        refine x_cvE C (k := 40) (c_X8_hens l g _ (e := i) (f := 0) rfl hlt2 rfl (by decide) ) o_X8_hens mw_X8_113 rfl (C.lt rfl) rcv_40 rfl rfl rfl hcs dX8_day_127 ?_
        refine x_irem C dX8_day_130 (by clear hret hcs C ih; grind) ?_
        refine x_if_ne (tgt := 158) C dX8_day_131 (by decide) (fun c131 => ?_) (fun c131 => ?_)
        · skip
          refine x_iinc (v := nI (i + 1)) C dX8_day_158 rfl (nI_1 i) rfl ?_
          refine x_goto (tgt := 104) C dX8_day_161 (by decide) ?_
          refine X.le (ls' := [some (.ref (gad g (40))), some (.int (nI (agesC (vm M) 8))), some (.int (nI (i + 1))), none]) (lle_s rfl (lle_s rfl (lle_s rfl (lle_n lle_e)))) ?_
          refine ih hlt2 M6 ?_ hs6
          first | rw [hen_rest (by rw [← hv6]; exact c131), hv6] | rw [hen_none (by rw [← hv6]; exact c115), hv6]
        · skip
          refine x_aload_n C dX8_day_134 rfl ?_
          refine x_aload_n C dX8_day_135 rfl ?_
          refine x_iload_n C dX8_day_136 rfl ?_
          refine x_iconst (v := 1) C dX8_day_137 (by decide) ?_
          refine x_cvE C (k := 40) (c_X8_hens l g _ (e := i) (f := 1) rfl hlt2 rfl (by decide) ) o_X8_hens mw_X8_113 rfl (C.lt rfl) rcv_40 rfl rfl rfl hcs dX8_day_138 ?_
          refine x_aload_n C dX8_day_141 rfl ?_
          refine x_iload_n C dX8_day_142 rfl ?_
          refine x_iconst (v := 2) C dX8_day_143 (by decide) ?_
          refine x_cvE C (k := 40) (c_X8_hens l g _ (e := i) (f := 2) rfl hlt2 rfl (by decide) ) o_X8_hens mw_X8_113 rfl (C.lt rfl) rcv_40 rfl rfl rfl hcs dX8_day_144 ?_
          refine x_iconst (v := 0) C dX8_day_147 (by decide) ?_
          refine x_aload_n C dX8_day_148 rfl ?_
          refine x_iload_n C dX8_day_149 rfl ?_
          refine x_iconst (v := 3) C dX8_day_150 (by decide) ?_
          refine x_cvE C (k := 40) (c_X8_hens l g _ (e := i) (f := 3) rfl hlt2 rfl (by decide) ) o_X8_hens mw_X8_113 rfl (C.lt rfl) rcv_40 rfl rfl rfl hcs dX8_day_151 ?_
          refine x_cvi C (k := 40) (c_X8_lays l g _ _ _ _ _ ) o_X8_lays mw_X8_116 rfl (C.lt rfl) rcv_40 rfl rfl rfl hcs dX8_day_154 (fun r7 M7 h7 => ?_)
          refine x_istore_n C dX8_day_157 rfl ?_
          refine x_iinc (v := nI (i + 1)) C dX8_day_158 rfl (nI_1 i) rfl ?_
          refine x_goto (tgt := 104) C dX8_day_161 (by decide) ?_
          refine X.le (ls' := [some (.ref (gad g (40))), some (.int (nI (agesC (vm M) 8))), some (.int (nI (i + 1))), none]) (lle_s rfl (lle_s rfl (lle_s rfl (lle_n lle_e)))) ?_
          refine ih hlt2 M7 ?_ (hs6.tr h7.2.2)
          rw [h7.2.1, hv6, hen_layS (by rw [← hv6]; exact c115) (by rw [← hv6]; exact c131)]
  · skip
    have hlt := lp_lt (N := 8) (by decide) hi c7
    refine x_aload_n C dX8_day_10 rfl ?_
    refine x_iload_n C dX8_day_11 rfl ?_
    refine x_cvB C (k := 40) (c_X8_isThere l g _ (e := i) rfl hlt ) o_X8_isThere mw_X8_71 rfl (C.lt rfl) rcv_40 rfl rfl rfl hcs dX8_day_12 (fun c12 => ?_) (fun c12 => ?_)
    · skip
      refine x_if_eqF (tgt := 58) C dX8_day_15 (by decide) (by decide) ?_
      refine x_aload_n C dX8_day_18 rfl ?_
      refine x_iload_n C dX8_day_19 rfl ?_
      refine x_iconst (v := 2) C dX8_day_20 (by decide) ?_
      refine x_aload_n C dX8_day_21 rfl ?_
      refine x_iload_n C dX8_day_22 rfl ?_
      refine x_iconst (v := 2) C dX8_day_23 (by decide) ?_
      refine x_cvE C (k := 40) (c_X8_get l g _ (e := i) (f := 2) rfl hlt rfl (by decide) ) o_X8_get mw_X8_63 rfl (C.lt rfl) rcv_40 rfl rfl rfl hcs dX8_day_24 ?_
      refine x_iconst (v := 1) C dX8_day_27 (by decide) ?_
      refine x_iadd C dX8_day_28 ?_
      refine x_cvv C (k := 40) (c_X8_puts l g _ (e := i) (f := 2) rfl hlt rfl (by decide) ) o_X8_puts mw_X8_105 rfl (C.lt rfl) rcv_40 rfl rfl rfl hcs dX8_day_29 (fun M2 h2 => ?_)
      have f1 : eg (vm M2) i 2 = eg (vm M1) i 2 + 1 := by rw [h2.1, upd_eg (by decide) (by decide), if_pos ⟨rfl, rfl⟩]
      have f2 : eg (vm M2) i 0 = eg (vm M1) i 0 := by rw [h2.1, upd_eg (by decide) (by decide), if_neg (by omega)]
      refine x_aload_n C dX8_day_32 rfl ?_
      refine x_iload_n C dX8_day_33 rfl ?_
      refine x_iconst (v := 2) C dX8_day_34 (by decide) ?_
      refine x_cvE C (k := 40) (c_X8_get l g _ (e := i) (f := 2) rfl hlt rfl (by decide) ) o_X8_get mw_X8_63 rfl (C.lt rfl) rcv_40 rfl rfl rfl hcs dX8_day_35 ?_
      refine x_aload_n C dX8_day_38 rfl ?_
      refine x_iload_n C dX8_day_39 rfl ?_
      refine x_iconst (v := 0) C dX8_day_40 (by decide) ?_
      refine x_cvE C (k := 40) (c_X8_get l g _ (e := i) (f := 0) rfl hlt rfl (by decide) ) o_X8_get mw_X8_63 rfl (C.lt rfl) rcv_40 rfl rfl rfl hcs dX8_day_41 ?_
      refine x_csE C (c_X8_keepsBy l g _ _ ) o_X8_keepsBy mw_X8_84 rfl rfl rfl rfl hcs dX8_day_44 ?_
      refine x_icmp_le (tgt := 58) C dX8_day_47 (by decide) (fun c47 => ?_) (fun c47 => ?_)
      · skip
        refine x_iinc (v := nI (i + 1)) C dX8_day_58 rfl (nI_1 i) rfl ?_
        refine x_goto (tgt := 4) C dX8_day_61 (by decide) ?_
        obtain ⟨e1, e2⟩ := age_on (S := vm M) (by rw [← hv]; exact c12) (by rw [← hv, ← f1, ← f2]; exact c47)
        rw [e2] at ih
        refine ih hlt M2 ?_ (hs.tr h2.2)
        rw [e1, h2.1, hv]
      · skip
        refine x_aload_n C dX8_day_50 rfl ?_
        refine x_iload_n C dX8_day_51 rfl ?_
        refine x_cvv C (k := 40) (c_X8_goesEgg l g _ (e := i) rfl hlt ) o_X8_goesEgg mw_X8_109 rfl (C.lt rfl) rcv_40 rfl rfl rfl hcs dX8_day_52 (fun M3 h3 => ?_)
        refine x_iinc (v := nI (agesC (vm M) i + 1)) C dX8_day_55 rfl (nI_1 _) rfl ?_
        refine x_iinc (v := nI (i + 1)) C dX8_day_58 rfl (nI_1 i) rfl ?_
        refine x_goto (tgt := 4) C dX8_day_61 (by decide) ?_
        obtain ⟨e1, e2⟩ := age_go (S := vm M) (by rw [← hv]; exact c12) (by rw [← hv, ← f1, ← f2]; exact c47)
        rw [e2] at ih
        refine ih hlt M3 ?_ (hs.tr (h2.2.tr h3.2))
        rw [e1, h3.1, h2.1, goS_upd (by decide), hv]
    · skip
      refine x_if_eqT (tgt := 58) C dX8_day_15 (by decide) (by decide) ?_
      refine x_iinc (v := nI (i + 1)) C dX8_day_58 rfl (nI_1 i) rfl ?_
      refine x_goto (tgt := 4) C dX8_day_61 (by decide) ?_
      obtain ⟨e1, e2⟩ := age_no (S := vm M) (by rw [← hv]; exact c12)
      rw [e2] at ih
      refine ih hlt M1 (by rw [e1]; exact hv) hs

def rm_X8_isDone : Room := { frames := 1, cells := 0, slots := 0, locals := 22 }
set_option maxRecDepth 100000 in
set_option maxHeartbeats 4000000 in
theorem c_X8_isDone (l : Launch) (g : Gp) (M : Mem) {x : Int32} {w : Nat} (hx : x = nI w) (hw : w < 6) : Kp l g yX8_isDone cX8_isDone 2 .boolean rm_X8_isDone [.ref (gad g (40)), .int (x)] M (bv (wk (vm M) w 0 ≤ wk (vm M) w 3)) := by
  unfold Kp
  refine Ki.of rfl rfl rfl (fun q C hret hcs => ?_)
  refine x_aload_n C dX8_isDone_0 rfl ?_
  refine x_iload_n C dX8_isDone_1 rfl ?_
  refine x_iconst (v := 3) C dX8_isDone_2 (by decide) ?_
  refine x_cvE C (k := 40) (c_X8_works l g _ (e := w) (f := 3) hx hw rfl (by decide) ) o_X8_works mw_X8_131 rfl (C.lt rfl) rcv_40 rfl rfl rfl hcs dX8_isDone_3 ?_
  refine x_aload_n C dX8_isDone_6 rfl ?_
  refine x_iload_n C dX8_isDone_7 rfl ?_
  refine x_iconst (v := 0) C dX8_isDone_8 (by decide) ?_
  refine x_cvE C (k := 40) (c_X8_works l g _ (e := w) (f := 0) hx hw rfl (by decide) ) o_X8_works mw_X8_131 rfl (C.lt rfl) rcv_40 rfl rfl rfl hcs dX8_isDone_9 ?_
  refine x_icmp_lt (tgt := 19) C dX8_isDone_12 (by decide) (fun c12 => ?_) (fun c12 => ?_)
  · skip
    refine x_iconst (v := 0) C dX8_isDone_19 (by decide) ?_
    refine hret _ _ _ _ dX8_isDone_20 rfl ⟨Or.inr ⟨rfl, ?_⟩, rfl⟩
    clear hret hcs C
    generalize wk (vm M) w 0 = p at *
    generalize wk (vm M) w 3 = r at *
    grind
  · skip
    refine x_iconst (v := 1) C dX8_isDone_15 (by decide) ?_
    refine x_goto (tgt := 20) C dX8_isDone_16 (by decide) ?_
    refine hret _ _ _ _ dX8_isDone_20 rfl ⟨Or.inl ⟨rfl, ?_⟩, rfl⟩
    clear hret hcs C
    generalize wk (vm M) w 0 = p at *
    generalize wk (vm M) w 3 = r at *
    grind

def rm_X8_isOver : Room := { frames := 1, cells := 0, slots := 0, locals := 22 }
set_option maxRecDepth 100000 in
set_option maxHeartbeats 4000000 in
theorem c_X8_isOver (l : Launch) (g : Gp) (M : Mem) {x : Int32} {w : Nat} (hx : x = nI w) (hw : w < 6) : Kp l g yX8_isOver cX8_isOver 2 .boolean rm_X8_isOver [.ref (gad g (40)), .int (x)] M (bv (wk (vm M) w 1 < vm M 0)) := by
  unfold Kp
  refine Ki.of rfl rfl rfl (fun q C hret hcs => ?_)
  refine x_aload_n C dX8_isOver_0 rfl ?_
  refine x_getf (k := 40) C bk_X8 (C.lt rfl) rfl ent_40 0 fw_X8_9 rfl rfl dX8_isOver_1 ?_
  refine x_iconst (v := 0) C dX8_isOver_4 (by decide) ?_
  refine x_iald (j := 0) (k := 41) C (C.lt rfl) rfl ent_41 (rfl) (by decide) rfl dX8_isOver_5 ?_
  refine x_aload_n C dX8_isOver_6 rfl ?_
  refine x_iload_n C dX8_isOver_7 rfl ?_
  refine x_iconst (v := 1) C dX8_isOver_8 (by decide) ?_
  refine x_cvE C (k := 40) (c_X8_works l g _ (e := w) (f := 1) hx hw rfl (by decide) ) o_X8_works mw_X8_131 rfl (C.lt rfl) rcv_40 rfl rfl rfl hcs dX8_isOver_9 ?_
  refine x_icmp_le (tgt := 19) C dX8_isOver_12 (by decide) (fun c12 => ?_) (fun c12 => ?_)
  · skip
    refine x_iconst (v := 0) C dX8_isOver_19 (by decide) ?_
    refine hret _ _ _ _ dX8_isOver_20 rfl ⟨Or.inr ⟨rfl, ?_⟩, rfl⟩
    have e0 : M 41 0 = vm M 0 := rfl
    rw [e0] at c12
    clear hret hcs C e0
    generalize wk (vm M) w 1 = p at *
    generalize vm M 0 = r at *
    grind
  · skip
    refine x_iconst (v := 1) C dX8_isOver_15 (by decide) ?_
    refine x_goto (tgt := 20) C dX8_isOver_16 (by decide) ?_
    refine hret _ _ _ _ dX8_isOver_20 rfl ⟨Or.inl ⟨rfl, ?_⟩, rfl⟩
    have e0 : M 41 0 = vm M 0 := rfl
    rw [e0] at c12
    clear hret hcs C e0
    generalize wk (vm M) w 1 = p at *
    generalize vm M 0 = r at *
    grind

def rm_X8_done : Room := { frames := 2, cells := 0, slots := 0, locals := 43 }
set_option maxRecDepth 100000 in
set_option maxHeartbeats 4000000 in
theorem c_X8_done (l : Launch) (g : Gp) (M : Mem) : Kp l g yX8_done cX8_done 3 .int rm_X8_done [.ref (gad g (40))] M (fun r => r = nI (doneN (vm M) 6)) := by
  unfold Kp
  refine Ki.of rfl rfl rfl (fun q C hret hcs => ?_)
  refine x_iconst (v := 0) C dX8_done_0 (by decide) ?_
  refine x_istore_n C dX8_done_1 rfl ?_
  refine x_iconst (v := 0) C dX8_done_2 (by decide) ?_
  refine x_istore_n C dX8_done_3 rfl ?_
  refine up_to 6 (P := fun i => X (kmk l rm_X8_done g 3 q) M 4 [some (.ref (gad g (40))), some (.int (nI (doneN (vm M) i))), some (.int (nI i))] []) (fun i hi ih => ?_) 0 (by omega)
  refine x_iload_n C dX8_done_4 rfl ?_
  refine x_bipush (v := 6) C dX8_done_5 (by decide) ?_
  refine x_icmp_ge (tgt := 34) C dX8_done_7 (by decide) (fun c7 => ?_) (fun c7 => ?_)
  · skip
    have hlt := lp_ge (N := 6) (by decide) hi c7
    refine x_iload_n C dX8_done_34 rfl ?_
    refine hret _ _ _ _ dX8_done_35 rfl ⟨?_, rfl⟩
    subst hlt; rfl
  · skip
    have hlt := lp_lt (N := 6) (by decide) hi c7
    refine x_iload_n C dX8_done_10 rfl ?_
    refine x_aload_n C dX8_done_11 rfl ?_
    refine x_iload_n C dX8_done_12 rfl ?_
    refine x_cvB C (k := 40) (c_X8_isDone l g _ (w := i) rfl hlt ) o_X8_isDone mw_X8_134 rfl (C.lt rfl) rcv_40 rfl rfl rfl hcs dX8_done_13 (fun c13 => ?_) (fun c13 => ?_)
    · skip
      refine x_if_eqF (tgt := 25) C dX8_done_16 (by decide) (by decide) ?_
      refine x_iconst (v := 1) C dX8_done_19 (by decide) ?_
      refine x_iload_n C dX8_done_20 rfl ?_
      refine x_ishl C dX8_done_21 ?_
      refine x_goto (tgt := 26) C dX8_done_22 (by decide) ?_
      refine x_ior C dX8_done_26 ?_
      refine x_topE (y := nI (doneN (vm M) (i + 1))) (by first | (rw [or_bit (doneN_lt _ i) (by omega)]; show _ = nI (_ + _); rw [if_pos c13]; done) | (rw [or_0]; show _ = nI (_ + _); rw [if_neg c13]; rfl)) ?_
      refine x_istore_n C dX8_done_27 rfl ?_
      refine x_iinc (v := nI (i + 1)) C dX8_done_28 rfl (nI_1 i) rfl ?_
      refine x_goto (tgt := 4) C dX8_done_31 (by decide) ?_
      exact ih hlt
    · skip
      refine x_if_eqT (tgt := 25) C dX8_done_16 (by decide) (by decide) ?_
      refine x_iconst (v := 0) C dX8_done_25 (by decide) ?_
      refine x_ior C dX8_done_26 ?_
      refine x_topE (y := nI (doneN (vm M) (i + 1))) (by first | (rw [or_bit (doneN_lt _ i) (by omega)]; show _ = nI (_ + _); rw [if_pos c13]; done) | (rw [or_0]; show _ = nI (_ + _); rw [if_neg c13]; rfl)) ?_
      refine x_istore_n C dX8_done_27 rfl ?_
      refine x_iinc (v := nI (i + 1)) C dX8_done_28 rfl (nI_1 i) rfl ?_
      refine x_goto (tgt := 4) C dX8_done_31 (by decide) ?_
      exact ih hlt

def rm_X8_inNest : Room := { frames := 2, cells := 0, slots := 0, locals := 43 }
set_option maxRecDepth 100000 in
set_option maxHeartbeats 4000000 in
theorem c_X8_inNest (l : Launch) (g : Gp) (M : Mem) (nest : Int32) : Kp l g yX8_inNest cX8_inNest 4 .int rm_X8_inNest [.ref (gad g (40)), .int (nest)] M (fun r => r = nI (nsN (vm M) nest 8)) := by
  unfold Kp
  refine Ki.of rfl rfl rfl (fun q C hret hcs => ?_)
  refine x_iconst (v := 0) C dX8_inNest_0 (by decide) ?_
  refine x_istore_n C dX8_inNest_1 rfl ?_
  refine x_iconst (v := 0) C dX8_inNest_2 (by decide) ?_
  refine x_istore_n C dX8_inNest_3 rfl ?_
  refine up_to 8 (P := fun i => X (kmk l rm_X8_inNest g 4 q) M 4 [some (.ref (gad g (40))), some (.int (nest)), some (.int (nI (nsN (vm M) nest i))), some (.int (nI i))] []) (fun i hi ih => ?_) 0 (by omega)
  refine x_iload_n C dX8_inNest_4 rfl ?_
  refine x_bipush (v := 8) C dX8_inNest_5 (by decide) ?_
  refine x_icmp_ge (tgt := 44) C dX8_inNest_7 (by decide) (fun c7 => ?_) (fun c7 => ?_)
  · skip
    have hlt := lp_ge (N := 8) (by decide) hi c7
    refine x_iload_n C dX8_inNest_44 rfl ?_
    refine hret _ _ _ _ dX8_inNest_45 rfl ⟨?_, rfl⟩
    subst hlt; rfl
  · skip
    have hlt := lp_lt (N := 8) (by decide) hi c7
    refine x_iload_n C dX8_inNest_10 rfl ?_
    refine x_aload_n C dX8_inNest_11 rfl ?_
    refine x_iload_n C dX8_inNest_12 rfl ?_
    refine x_cvB C (k := 40) (c_X8_isThere l g _ (e := i) rfl hlt ) o_X8_isThere mw_X8_71 rfl (C.lt rfl) rcv_40 rfl rfl rfl hcs dX8_inNest_13 (fun c13 => ?_) (fun c13 => ?_)
    · skip
      refine x_if_eqF (tgt := 35) C dX8_inNest_16 (by decide) (by decide) ?_
      refine x_aload_n C dX8_inNest_19 rfl ?_
      refine x_iload_n C dX8_inNest_20 rfl ?_
      refine x_iconst (v := 3) C dX8_inNest_21 (by decide) ?_
      refine x_cvE C (k := 40) (c_X8_get l g _ (e := i) (f := 3) rfl hlt rfl (by decide) ) o_X8_get mw_X8_63 rfl (C.lt rfl) rcv_40 rfl rfl rfl hcs dX8_inNest_22 ?_
      refine x_iload_n C dX8_inNest_25 rfl ?_
      refine x_icmp_ne (tgt := 35) C dX8_inNest_26 (by decide) (fun c26 => ?_) (fun c26 => ?_)
      · skip
        refine x_iconst (v := 0) C dX8_inNest_35 (by decide) ?_
        refine x_ior C dX8_inNest_36 ?_
        refine x_topE (y := nI (nsN (vm M) nest (i + 1))) (by first | (rw [or_bit (nsN_lt _ _ i) hlt]; show _ = nI (_ + _); rw [if_pos ⟨c13, c26⟩]; done) | (rw [or_0]; show _ = nI (_ + _); rw [if_neg (fun z => c13 z.1)]; rfl) | (rw [or_0]; show _ = nI (_ + _); rw [if_neg (fun z => c26 z.2)]; rfl)) ?_
        refine x_istore_n C dX8_inNest_37 rfl ?_
        refine x_iinc (v := nI (i + 1)) C dX8_inNest_38 rfl (nI_1 i) rfl ?_
        refine x_goto (tgt := 4) C dX8_inNest_41 (by decide) ?_
        exact ih hlt
      · skip
        refine x_iconst (v := 1) C dX8_inNest_29 (by decide) ?_
        refine x_iload_n C dX8_inNest_30 rfl ?_
        refine x_ishl C dX8_inNest_31 ?_
        refine x_goto (tgt := 36) C dX8_inNest_32 (by decide) ?_
        refine x_ior C dX8_inNest_36 ?_
        refine x_topE (y := nI (nsN (vm M) nest (i + 1))) (by first | (rw [or_bit (nsN_lt _ _ i) hlt]; show _ = nI (_ + _); rw [if_pos ⟨c13, c26⟩]; done) | (rw [or_0]; show _ = nI (_ + _); rw [if_neg (fun z => c13 z.1)]; rfl) | (rw [or_0]; show _ = nI (_ + _); rw [if_neg (fun z => c26 z.2)]; rfl)) ?_
        refine x_istore_n C dX8_inNest_37 rfl ?_
        refine x_iinc (v := nI (i + 1)) C dX8_inNest_38 rfl (nI_1 i) rfl ?_
        refine x_goto (tgt := 4) C dX8_inNest_41 (by decide) ?_
        exact ih hlt
    · skip
      refine x_if_eqT (tgt := 35) C dX8_inNest_16 (by decide) (by decide) ?_
      refine x_iconst (v := 0) C dX8_inNest_35 (by decide) ?_
      refine x_ior C dX8_inNest_36 ?_
      refine x_topE (y := nI (nsN (vm M) nest (i + 1))) (by first | (rw [or_bit (nsN_lt _ _ i) hlt]; show _ = nI (_ + _); rw [if_pos ⟨c13, c26⟩]; done) | (rw [or_0]; show _ = nI (_ + _); rw [if_neg (fun z => c13 z.1)]; rfl) | (rw [or_0]; show _ = nI (_ + _); rw [if_neg (fun z => c26 z.2)]; rfl)) ?_
      refine x_istore_n C dX8_inNest_37 rfl ?_
      refine x_iinc (v := nI (i + 1)) C dX8_inNest_38 rfl (nI_1 i) rfl ?_
      refine x_goto (tgt := 4) C dX8_inNest_41 (by decide) ?_
      exact ih hlt

def rm_J6_bitCount_0f7a4 : Room := { frames := 0, cells := 0, slots := 0, locals := 0 }
set_option maxRecDepth 100000 in
set_option maxHeartbeats 4000000 in
theorem c_J6_bitCount_0f7a4 (l : Launch) (g : Gp) (M : Mem) {x : Int32} {s : Nat} (hx : x = nI s) (hs : s < 256) : Kp l g yJ6_bitCount_0f7a4 cJ6_bitCount_0f7a4 1 .int rm_J6_bitCount_0f7a4 [.int (x)] M (fun r => r = nI (popT s)) := by
  unfold Kp
  refine Ki.of rfl rfl rfl (fun q C hret hcs => ?_)
  refine x_iload_n C dJ6_bitCount_0f7a4_0 rfl ?_
  refine x_iload_n C dJ6_bitCount_0f7a4_1 rfl ?_
  refine x_iconst (v := 1) C dJ6_bitCount_0f7a4_2 (by decide) ?_
  refine x_iushr C dJ6_bitCount_0f7a4_3 rfl ?_
  refine x_ldcw C kw_J6_265 dJ6_bitCount_0f7a4_4 ?_
  refine x_iand C dJ6_bitCount_0f7a4_7 ?_
  refine x_isub C dJ6_bitCount_0f7a4_8 ?_
  refine x_topi (fun y1 ey1 => ?_)
  refine x_istore_n C dJ6_bitCount_0f7a4_9 rfl ?_
  refine x_iload_n C dJ6_bitCount_0f7a4_10 rfl ?_
  refine x_ldcw C kw_J6_266 dJ6_bitCount_0f7a4_11 ?_
  refine x_iand C dJ6_bitCount_0f7a4_14 ?_
  refine x_iload_n C dJ6_bitCount_0f7a4_15 rfl ?_
  refine x_iconst (v := 2) C dJ6_bitCount_0f7a4_16 (by decide) ?_
  refine x_iushr C dJ6_bitCount_0f7a4_17 rfl ?_
  refine x_ldcw C kw_J6_266 dJ6_bitCount_0f7a4_18 ?_
  refine x_iand C dJ6_bitCount_0f7a4_21 ?_
  refine x_iadd C dJ6_bitCount_0f7a4_22 ?_
  refine x_topi (fun y2 ey2 => ?_)
  refine x_istore_n C dJ6_bitCount_0f7a4_23 rfl ?_
  refine x_iload_n C dJ6_bitCount_0f7a4_24 rfl ?_
  refine x_iload_n C dJ6_bitCount_0f7a4_25 rfl ?_
  refine x_iconst (v := 4) C dJ6_bitCount_0f7a4_26 (by decide) ?_
  refine x_iushr C dJ6_bitCount_0f7a4_27 rfl ?_
  refine x_iadd C dJ6_bitCount_0f7a4_28 ?_
  refine x_ldcw C kw_J6_267 dJ6_bitCount_0f7a4_29 ?_
  refine x_iand C dJ6_bitCount_0f7a4_32 ?_
  refine x_topi (fun y3 ey3 => ?_)
  refine x_istore_n C dJ6_bitCount_0f7a4_33 rfl ?_
  refine x_iload_n C dJ6_bitCount_0f7a4_34 rfl ?_
  refine x_iload_n C dJ6_bitCount_0f7a4_35 rfl ?_
  refine x_bipush (v := 8) C dJ6_bitCount_0f7a4_36 (by decide) ?_
  refine x_iushr C dJ6_bitCount_0f7a4_38 rfl ?_
  refine x_iadd C dJ6_bitCount_0f7a4_39 ?_
  refine x_topi (fun y4 ey4 => ?_)
  refine x_istore_n C dJ6_bitCount_0f7a4_40 rfl ?_
  refine x_iload_n C dJ6_bitCount_0f7a4_41 rfl ?_
  refine x_iload_n C dJ6_bitCount_0f7a4_42 rfl ?_
  refine x_bipush (v := 16) C dJ6_bitCount_0f7a4_43 (by decide) ?_
  refine x_iushr C dJ6_bitCount_0f7a4_45 rfl ?_
  refine x_iadd C dJ6_bitCount_0f7a4_46 ?_
  refine x_topi (fun y5 ey5 => ?_)
  refine x_istore_n C dJ6_bitCount_0f7a4_47 rfl ?_
  refine x_iload_n C dJ6_bitCount_0f7a4_48 rfl ?_
  refine x_bipush (v := 63) C dJ6_bitCount_0f7a4_49 (by decide) ?_
  refine x_iand C dJ6_bitCount_0f7a4_51 ?_
  refine hret _ _ _ _ dJ6_bitCount_0f7a4_52 rfl ⟨?_, rfl⟩
  subst hx; rw [ey5, ey4, ey3, ey2, ey1]; exact bitF_pop s hs

