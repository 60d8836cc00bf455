/-! ===== contracts: the class offers works ===== -/
theorem iinc_m (p : Int32) : p + Int32.ofInt (-1) = p - 1 := by grind
theorem bitI_0 (V : Nat) : ∀ k, 0 ≤ bitI V k
  | 0 => Int.le_refl 0
  | k + 1 => by
    have h := bitI_0 V k
    have hp : (0 : Int) < 2 ^ k := Int.pow_pos (by decide)
    unfold bitI
    split <;> omega
theorem isMk_b {S : Row} {k E : Nat} {R : Int} (o : okRow S) (h : isMk S k E R) : 0 ≤ R ∧ R ≤ 40000 := by
  obtain ⟨⟨V, -, -, -, h4⟩, h5⟩ := h
  constructor
  · have := h5 0 (Nat.two_pow_pos k) (fun w hw => absurd hw (by simp)) (fea_0 S E)
    rw [mkI_0] at this; exact this
  · have h1 := worI_b (V := V) o 6 (Nat.le_refl 6)
    have h2 := bitI_0 V 6
    rw [mkI_w] at h4
    omega
/-- one set more is offered the work -/
theorem offer_one {S : Row} {M : Mem} {k E : Nat} {r : Int32} {y z : Int32} (o : okRow S) (hk : k < 6) (hE : E < 256) (he : ofEg S E) (hm : ∀ U, U < 256 → ofEg S U → isMk S k U (M 27 U).toInt) (hd : ¬ dneP S k) (hw : 0 < (wk S k 2).toInt) (ht : ¬ wk S k 1 < S 0) (hy : y = wk S k 0 - wk S k 3) (hz : z.toInt = 64 * (wk S k 2).toInt - 2 ^ k)
    (h : ((r.toInt = (M 27 E).toInt ∨ ∃ u, 0 < u ∧ sbt u E ∧ y ≤ sumN S u 8 ∧ r.toInt = (M 27 (lft E u)).toInt + z.toInt) ∧ (M 27 E).toInt ≤ r.toInt ∧ ∀ u, 0 < u → sbt u E → y ≤ sumN S u 8 → (M 27 (lft E u)).toInt + z.toInt ≤ r.toInt)) : isMk S (k + 1) E r.toInt := by
  have hk1 : ∀ u, y ≤ sumN S u 8 ↔ wk S k 0 ≤ wk S k 3 + sumN S u 8 := fun u => by rw [hy]; exact lack_i (wk_need hk o).1 (wk_need hk o).2 (sumN_b o)
  refine isMk_offer (m := fun U => (M 27 U).toInt) hk hd hw (fun U hU => hm U (by have := sbt_le hU; omega) (fun i hi hb => he i hi (hU i hb))) ?_ ⟨h.2.1, fun p hp ho => ?_⟩
  · rcases h.1 with q | ⟨u, u0, u1, u2, u3⟩
    · exact Or.inl q
    · exact Or.inr ⟨u, u1, ⟨ht, (hk1 u).mp u2⟩, by rw [u3, hz]⟩
  · rcases Nat.eq_zero_or_pos p with q | q
    · exact absurd (q ▸ ho) (okp_0 hd)
    · rw [← hz]; exact h.2.2 p q hp ((hk1 p).mpr ho.2)
theorem offer_zero {S : Row} {M : Mem} {k : Nat} (hk : k < 6) (hm : ∀ U, U < 256 → ofEg S U → isMk S k U (M 27 U).toInt) (hd : ¬ dneP S k) (hw : 0 < (wk S k 2).toInt) : isMk S (k + 1) 0 (M 27 0).toInt := by
  have hz : ∀ U, sbt U 0 → U = 0 := fun U h => by have := sbt_le h; omega
  refine isMk_offer (m := fun U => (M 27 U).toInt) hk hd hw (fun U hU => by rw [hz U hU]; exact hm 0 (by decide) (ofEg_0 S)) (Or.inl rfl) ⟨Int.le_refl _, fun p hp ho => ?_⟩
  exact absurd (hz p hp ▸ ho) (okp_0 hd)
theorem offer_new {S : Row} {M M1 : Mem} {k E : Nat} {r : Int32} {y z : Int32} (o : okRow S) (hk : k < 6) (hE : E < 256) (he : ofEg S E) (hm : ∀ U, U < 256 → ofEg S U → isMk S k U (M 27 U).toInt) (hold : ∀ U, U < 256 → U ≤ E → M1 27 U = M 27 U) (hd : ¬ dneP S k) (hw : 0 < (wk S k 2).toInt) (ht : ¬ wk S k 1 < S 0) (hy : y = wk S k 0 - wk S k 3) (hz : z.toInt = 64 * (wk S k 2).toInt - 2 ^ k)
    (h : ((r.toInt = (M1 27 E).toInt ∨ ∃ u, 0 < u ∧ sbt u E ∧ y ≤ sumN S u 8 ∧ r.toInt = (M1 27 (lft E u)).toInt + z.toInt) ∧ (M1 27 E).toInt ≤ r.toInt ∧ ∀ u, 0 < u → sbt u E → y ≤ sumN S u 8 → (M1 27 (lft E u)).toInt + z.toInt ≤ r.toInt)) : isMk S (k + 1) E r.toInt := by
  have hl : ∀ u, M1 27 (lft E u) = M 27 (lft E u) := fun u => by have := sbt_le (lft_sub E u); exact hold _ (by omega) this
  rw [hold E hE (Nat.le_refl E)] at h
  simp only [hl] at h
  exact offer_one o hk hE he hm hd hw ht hy hz h
def rm_X0_offer : Room := { frames := 2, cells := 0, slots := 0, locals := 46 }
set_option maxRecDepth 100000 in
set_option maxHeartbeats 4000000 in
theorem c_X0_offer (l : Launch) (g : Gp) (M : Mem) {S : Row} (o : okRow S) (hc : chO M S) {k : Nat} (hk : k < 6) (y z : Int32) (hm : ∀ U, U < 256 → ofEg S U → isMk S k U (M 27 U).toInt) (hd : ¬ dneP S k) (hw : 0 < (wk S k 2).toInt) (ht : ¬ wk S k 1 < S 0) (hy : y = wk S k 0 - wk S k 3) (hz : z.toInt = 64 * (wk S k 2).toInt - 2 ^ k) (hz2 : 0 ≤ z.toInt ∧ z.toInt ≤ 6400) : Kv l g yX0_offer cX0_offer 4 rm_X0_offer [.ref (gad g (25)), .int (y), .int (z)] M (fun M' => (∀ U, U < 256 → ofEg S U → isMk S (k + 1) U (M' 27 U).toInt) ∧ same [27] M M') := by
  refine Kv.of rfl rfl rfl (fun q C hret hcs => ?_)
  refine x_sipush (v := 255) C dX0_offer_0 (by decide) ?_
  refine x_istore_n C dX0_offer_3 rfl ?_
  have keyL := dn_to (P := fun t => ∀ M1 : Mem, t < 256 → (∀ U, U < 256 → U ≤ t → M1 27 U = M 27 U) → (∀ U, U < 256 → ofEg S U → t < U → isMk S (k + 1) U (M1 27 U).toInt) → same [27] M M1 → X (kmk l rm_X0_offer g 4 q) M1 4 [some (.ref (gad g (25))), some (.int (y)), some (.int (z)), some (.int (nI t))] []) (fun t ih M1 h256 hold hnew hs => ?_)
  · exact keyL 255 M (by decide) (fun U _ _ => rfl) (fun U h1 _ h2 => absurd h2 (by omega)) same.rf
  have hc1 : chO M1 S := ⟨by rw [hs 25 (by decide)]; exact hc.1, fun s h => by rw [hs 26 (by decide)]; exact hc.2 s h⟩
  refine x_iload_n C dX0_offer_4 rfl ?_
  refine x_if_le (tgt := 35) C dX0_offer_5 (by decide) (fun c5 => ?_) (fun c5 => ?_)
  · skip
    have ht0 : t = 0 := by rcases Nat.eq_zero_or_pos t with q | q; exact q; exact absurd c5 (Int32.not_le.mpr ((nI_ltI (a := 0) (by decide) (by omega)).mpr q))
    refine hret _ _ _ dX0_offer_35 ?_
    subst ht0
    refine ⟨fun U h1 h2 => ?_, hs⟩
    rcases Nat.eq_zero_or_pos U with q | q
    · subst q; rw [hold 0 (by decide) (Nat.le_refl 0)]; exact offer_zero hk hm hd hw
    · exact hnew U h1 h2 q
  · skip
    have ht0 : 0 < t := by rcases Nat.eq_zero_or_pos t with q | q; exact absurd (by rw [q]; decide) c5; exact q
    refine x_aload_n C dX0_offer_8 rfl ?_
    refine x_iload_n C dX0_offer_9 rfl ?_
    refine x_cvB C (k := 25) (c_X0_isOfEggs l g _ hc1 (s := t) rfl h256 ) o_X0_isOfEggs mw_X0_29 rfl (C.lt rfl) rcv_25 rfl rfl rfl hcs dX0_offer_10 (fun c10 => ?_) (fun c10 => ?_)
    · skip
      refine x_if_eqF (tgt := 29) C dX0_offer_13 (by decide) (by decide) ?_
      refine x_aload_n C dX0_offer_16 rfl ?_
      refine x_getf (k := 25) C bk_X0 (C.lt rfl) rfl ent_25 1 fw_X0_15 rfl rfl dX0_offer_17 ?_
      refine x_iload_n C dX0_offer_20 rfl ?_
      refine x_aload_n C dX0_offer_21 rfl ?_
      refine x_iload_n C dX0_offer_22 rfl ?_
      refine x_iload_n C dX0_offer_23 rfl ?_
      refine x_iload_n C dX0_offer_24 rfl ?_
      refine x_cvP C (k := 25) (c_X0_bestWithOneMore l g _ hc1 (E := t) rfl h256 _ _ (fun u hu => by have hul := sbt_le hu; rw [hold u (by omega) (by omega)]; exact isMk_b o (hm u (by omega) (fun i hi hbt => c10 i hi (hu i hbt)))) hz2 ) o_X0_bestWithOneMore mw_X0_71 rfl (C.lt rfl) rcv_25 rfl rfl rfl hcs dX0_offer_25 (fun rb hrb => ?_)
      refine x_iast (j := t) (k := 27) C (C.lt rfl) rfl ent_27 (rfl) (h256) rfl dX0_offer_28 ?_
      refine x_memI (fun M2 eM2 => ?_)
      refine x_iinc (v := nI (t - 1)) C dX0_offer_29 rfl (by rw [← nI_pr ht0]; exact iinc_m _) rfl ?_
      refine x_goto (tgt := 4) C dX0_offer_32 (by decide) ?_
      refine ih (t - 1) (by omega) M2 (by omega) (fun U h1 h2 => by rw [eM2, up_sn (by omega)]; exact hold U h1 (by omega)) (fun U h1 h2 h3 => ?_) (hs.tr (by rw [eM2]; exact same.up (by simp)))
      by_cases q : U = t
      · subst q; rw [eM2, up_ss]; exact offer_new o hk h1 h2 hm hold hd hw ht hy hz hrb
      · rw [eM2, up_sn q]; exact hnew U h1 h2 (by omega)
    · skip
      refine x_if_eqT (tgt := 29) C dX0_offer_13 (by decide) (by decide) ?_
      refine x_iinc (v := nI (t - 1)) C dX0_offer_29 rfl (by rw [← nI_pr ht0]; exact iinc_m _) rfl ?_
      refine x_goto (tgt := 4) C dX0_offer_32 (by decide) ?_
      refine ih (t - 1) (by omega) M1 (by omega) (fun U h1 h2 => hold U h1 (by omega)) (fun U h1 h2 h3 => ?_) hs
      by_cases q : U = t
      · exact absurd (q ▸ h2) c10
      · exact hnew U h1 h2 (by omega)

