/-! ===== every act leaves a state that may be ===== -/
theorem ok_ifp {p : Prop} {a b : Int32 × Abs} (ha : p → okA a.2) (hb : ¬ p → okA b.2) : okA (ifp p a b).2 := by
  by_cases h : p
  · rw [ifp_t h]; exact ha h
  · rw [ifp_f h]; exact hb h
theorem ok_ite {p : Prop} [Decidable p] {a b : Int32 × Abs} (ha : okA a.2) (hb : okA b.2) : okA (if p then a else b).2 := by
  by_cases h : p
  · rw [if_pos h]; exact ha
  · rw [if_neg h]; exact hb
theorem ok_no {A : Abs} (oa : okA A) {w : Nat} : okA (noA A w).2 := oa
theorem ok_wS {A : Abs} {S : Row} (oa : okA A) (o : okRow S) : okA (wS A S) := ⟨o, oa.2⟩
theorem ok_wT {A : Abs} {T : Row × Int32} (oa : okA A) (o : okT T) : okA (wT A T) := ⟨oa.1, oa.2.1, o, oa.2.2.2⟩
theorem ok_wW {A : Abs} {W : Row × Row × (Nat → Row)} (oa : okA A) (o : okSh W) : okA (wW A W) := ⟨oa.1, oa.2.1, oa.2.2.1, o⟩
theorem ok_wK {A : Abs} {K : Option Row} (oa : okA A) (o : ∀ r, K = some r → okRow r) : okA (wK A K) := ⟨oa.1, o, oa.2.2⟩
theorem tb_eg : ∀ f, f < 4 → tabV (2 * 0) f = lowE f ∧ tabV (2 * 0 + 1) f = topE f := by decide +kernel
theorem tb_hn : ∀ f, f < 4 → tabV (2 * 1) f = lowH f ∧ tabV (2 * 1 + 1) f = topH f := by decide +kernel
theorem tb_wk : ∀ f, f < 4 → tabV (2 * 2) f = lowW f ∧ tabV (2 * 2 + 1) f = topW f := by decide +kernel
theorem ok_egg {A : Abs} (oa : okA A) (k s n : Int32) : okA (F_egg k s n A).2 := ok_ifp (fun h => ok_ifp (fun f8 => ok_wS oa (okRow_lay f8 h.1 h.2.1 ⟨by decide, by decide⟩ h.2.2 oa.1)) (fun _ => ok_no oa)) (fun _ => ok_no oa)
theorem ok_of {A : Abs} (oa : okA A) (x w : Int32) : okA (F_of x w A).2 := ok_ifp (fun _ => oa) (fun _ => ok_no oa)
theorem ok_change {A : Abs} (oa : okA A) (x w v : Int32) : okA (F_change x w v A).2 := ok_ifp (fun h => by
    have qx := eggP_tn h.1
    have qw := ix_tn (n := 4) (by decide) h.2.1
    have hb := tb_eg (tn w) qw.1
    exact ok_wS oa (okRow_eg qx.1 qw.1 qx.2.2 ⟨by rw [← hb.1]; exact h.2.2.1, by rw [← hb.2]; exact h.2.2.2⟩ oa.1)) (fun _ => ok_no oa)
theorem ok_hen {A : Abs} (oa : okA A) (x w v : Int32) : okA (F_hen x w v A).2 := ok_ifp (fun h => by
    have qx := ix_tn (n := 4) (by decide) h.1
    have qw := ix_tn (n := 4) (by decide) h.2.1
    have hb := tb_hn (tn w) qw.1
    exact ok_wS oa (okRow_hn qx.1 qw.1 ⟨by rw [← hb.1]; exact h.2.2.1, by rw [← hb.2]; exact h.2.2.2⟩ oa.1)) (fun _ => ok_no oa)
theorem ok_work {A : Abs} (oa : okA A) (x w v : Int32) : okA (F_work x w v A).2 := ok_ifp (fun h => by
    have qx := ix_tn (n := 6) (by decide) h.1
    have qw := ix_tn (n := 4) (by decide) h.2.1
    have hb := tb_wk (tn w) qw.1
    exact ok_wS oa (okRow_wk qx.1 qw.1 ⟨by rw [← hb.1]; exact h.2.2.1, by rw [← hb.2]; exact h.2.2.2⟩ oa.1)) (fun _ => ok_no oa)
theorem ok_henOf {A : Abs} (oa : okA A) (x w : Int32) : okA (F_henOf x w A).2 := ok_ifp (fun _ => oa) (fun _ => ok_no oa)
theorem ok_workOf {A : Abs} (oa : okA A) (x w : Int32) : okA (F_workOf x w A).2 := ok_ifp (fun _ => oa) (fun _ => ok_no oa)
theorem ok_spend {A : Abs} (oa : okA A) (x w : Int32) : okA (F_spend x w A).2 := ok_ifp (fun h => ok_ifp (fun _ => ok_no oa) (fun _ => by
    have qx := eggP_tn h.1
    have qw := ix_tn (n := 6) (by decide) h.2
    exact ok_wS oa (okRow_go qx.1 (okRow_wk (f := 3) qw.1 (by decide) (clampG_ok _) oa.1)))) (fun _ => ok_no oa)
theorem ok_broken {A : Abs} (oa : okA A) (x : Int32) : okA (F_broken x A).2 := ok_ifp (fun h => ok_wS oa (okRow_go (eggP_tn h).1 oa.1)) (fun _ => ok_no oa)
theorem ok_go {A : Abs} (oa : okA A) (n : Int32) : okA (F_go n A).2 := ok_ifp (fun _ => ok_ifp (fun _ => ok_no oa) (fun _ => ok_wS oa (okRow_dayN oa.1 _))) (fun _ => ok_no oa)
theorem ok_now {A : Abs} (oa : okA A) (w : Int32) : okA (F_now w A).2 := ok_ite oa (ok_ite oa (ok_ite oa (ok_ite oa (ok_ite oa (ok_no oa)))))
theorem ok_ahead {A : Abs} (oa : okA A) (n : Int32) : okA (F_ahead n A).2 := ok_ifp (fun _ => oa) (fun _ => ok_no oa)
theorem ok_spoils {A : Abs} (oa : okA A) (n : Int32) : okA (F_spoils n A).2 := ok_ifp (fun _ => oa) (fun _ => ok_no oa)
theorem ok_ripe {A : Abs} (oa : okA A) (x : Int32) : okA (F_ripe x A).2 := ok_ifp (fun _ => oa) (fun _ => ok_no oa)
theorem ok_lasts {A : Abs} (oa : okA A) (x : Int32) : okA (F_lasts x A).2 := ok_ifp (fun _ => oa) (fun _ => ok_no oa)
theorem ok_when {A : Abs} (oa : okA A) (v : Int32) : okA (F_when v A).2 := ok_ifp (fun _ => ok_ifp (fun _ => oa) (fun _ => ok_no oa)) (fun _ => ok_no oa)
theorem ok_kindFor {A : Abs} (oa : okA A) (x n : Int32) : okA (F_kindFor x n A).2 := ok_ifp (fun _ => oa) (fun _ => ok_no oa)
theorem ok_everyFor {A : Abs} (oa : okA A) (x n : Int32) : okA (F_everyFor x n A).2 := ok_ifp (fun _ => oa) (fun _ => ok_no oa)
theorem ok_fewest {A : Abs} (oa : okA A) (x : Int32) : okA (F_fewest x A).2 := ok_ifp (fun _ => ok_ifp (fun _ => ok_no oa) (fun _ => oa)) (fun _ => ok_no oa)
theorem ok_thrifty {A : Abs} (oa : okA A) (x : Int32) : okA (F_thrifty x A).2 := ok_ifp (fun _ => ok_ifp (fun _ => ok_no oa) (fun _ => oa)) (fun _ => ok_no oa)
theorem ok_best {A : Abs} (oa : okA A) : okA (F_best A).2 := oa
theorem ok_bestWorks {A : Abs} (oa : okA A) : okA (F_bestWorks A).2 := oa
theorem ok_soonest {A : Abs} (oa : okA A) (x : Int32) : okA (F_soonest x A).2 := ok_ifp (fun _ => ok_ifp (fun _ => oa) (fun _ => ok_no oa)) (fun _ => ok_no oa)
theorem ok_nest {A : Abs} (oa : okA A) (n : Int32) : okA (F_nest n A).2 := ok_ifp (fun _ => oa) (fun _ => ok_no oa)
theorem ok_guard {A : Abs} (oa : okA A) : okA (F_guard A).2 := oa
theorem ok_halves {A : Abs} (oa : okA A) : okA (F_halves A).2 := oa
theorem ok_apart {A : Abs} (oa : okA A) : okA (F_apart A).2 := oa
theorem ok_sets {A : Abs} (oa : okA A) (v : Int32) : okA (F_sets v A).2 := ok_ifp (fun _ => oa) (fun _ => ok_no oa)
theorem ok_ages {A : Abs} (oa : okA A) (x e : Int32) : okA (F_ages x e A).2 := ok_ifp (fun _ => oa) (fun _ => ok_no oa)
theorem ok_youngest {A : Abs} (oa : okA A) (x e : Int32) : okA (F_youngest x e A).2 := ok_ifp (fun _ => ok_ifp (fun _ => oa) (fun _ => ok_no oa)) (fun _ => ok_no oa)
theorem ok_foxes {A : Abs} (oa : okA A) (n : Int32) : okA (F_foxes n A).2 := ok_ifp (fun _ => ok_ifp (fun _ => ok_no oa) (fun _ => ok_wS oa (okRow_foxs oa.1 _))) (fun _ => ok_no oa)
theorem ok_odds {A : Abs} (oa : okA A) (n w : Int32) : okA (F_odds n w A).2 := by
  unfold F_odds
  by_cases h : inB n 0 20 ∧ inB w 0 1
  · rw [ifp_t h]; exact oa
  · rw [ifp_f h]; exact oa
theorem ok_seed {A : Abs} (oa : okA A) (v : Int32) : okA (F_seed v A).2 := ok_wS oa (okRow_d (by decide) (fun h => absurd h (by decide)) oa.1)
theorem okT_tap {T : Row × Int32} (o : okT T) (b : Int32) (n : Nat) : ∀ i, tn T.2 + i ≤ 120 → okT (tapS T b n i)
  | 0, _ => o
  | i + 1, h => by
    have oi := okT_tap o b n i (by omega)
    have qT := inB_tn (n := 120) (by decide) o.1
    have e := tapS_n (T := T) (b := b) (n := n) qT.2 i
    refine ⟨?_, fun k hk => ?_⟩
    · show inB ((tapS T b n i).2 + 1) 0 120
      rw [e, nI_1]
      exact nI_inB (a := 0) (b := 120) (by decide) (by omega) (by omega)
    · show inB (upd (tapS T b n i).1 (tn (tapS T b n i).2) (tapB b (n - 1 - i)) k) 0 255
      by_cases q : k = tn (tapS T b n i).2
      · rw [q, pk_us]; exact tapB_b _ _
      · rw [pk_un q]; exact oi.2 k hk
theorem ok_feed {A : Abs} (oa : okA A) (b n : Int32) : okA (F_feed b n A).2 := ok_ifp (fun h => ok_ifp (fun _ => ok_no oa) (fun h2 => by
    have qn := inB_tn (n := 4) (by decide) (show inB n 0 4 from ⟨Int32.le_trans (by decide) h.1, h.2⟩)
    have qL := inB_tn (x := aL A) (n := 120) (by decide) oa.2.2.1.1
    refine ok_wT oa (okT_tap (T := (aT A, aL A)) oa.2.2.1 b (tn n) (tn n) ?_)
    have h3 : aL A + n ≤ 120 := Int32.not_lt.mp h2
    rw [qL.2, qn.2, nI_add] at h3
    have h4 := (nI_leI (b := 120) (by omega) (by decide)).mp h3
    exact h4)) (fun _ => ok_no oa)
theorem okT_0 {T : Row × Int32} (o : okT T) : okT (T.1, 0) := ⟨⟨by show (0 : Int32) ≤ 0; decide, by show (0 : Int32) ≤ 120; decide⟩, o.2⟩
theorem ok_wipe {A : Abs} (oa : okA A) : okA (F_wipe A).2 := ok_wT oa (okT_0 oa.2.2.1)
theorem ok_text {A : Abs} (oa : okA A) : okA (F_text A).2 := by
  show okA (match (txtN (aT A) (tn (aL A)) 121 1 0 A.1).2 with | none => wT A (aT A, 0) | some S1 => wT (wS A S1) (aT A, 0))
  cases h : (txtN (aT A) (tn (aL A)) 121 1 0 A.1).2 with
  | none => exact ok_wT oa (okT_0 oa.2.2.1)
  | some S1 => exact ok_wT (ok_wS oa (okRow_txt 121 1 0 A.1 oa.1 h)) (okT_0 oa.2.2.1)
theorem ok_hold {A : Abs} (oa : okA A) (k e : Int32) : okA (F_hold k e A).2 := ok_ifp (fun h => ok_wS oa (okRow_sp (by have := (inB_tn (n := 9) (by decide) h.1).1; omega) h.2 oa.1)) (fun _ => ok_no oa)
theorem ok_as {A : Abs} (oa : okA A) (k w : Int32) : okA (F_as k w A).2 := ok_ifp (fun _ => ok_ifp (fun _ => ok_ifp (fun _ => oa) (fun _ => ok_no oa)) (fun _ => ok_no oa)) (fun _ => ok_no oa)
theorem bitsV_0 (b : Int32) : bitsV b 0 = 0 := by unfold bitsV; split <;> (try split) <;> decide
theorem bitsV_i (b v : Int32) : bitsV b (bitsV b v) = bitsV b v := by
  unfold bitsV
  by_cases h : b = 8
  · simp only [h, if_true]
    rw [Int8.toInt8_toInt32]
  · by_cases h2 : b = 16
    · simp only [h2, if_true]
      rw [if_neg (by decide), if_neg (by decide), Int16.toInt16_toInt32]
    · simp only [h, h2, if_false]
theorem ok_sheet {A : Abs} (oa : okA A) (x b n : Int32) : okA (F_sheet x b n A).2 := ok_ifp (fun h => ok_ifp (fun _ => ok_no oa) (fun h2 => ok_ifp (fun _ => ok_no oa) (fun h3 => by
    refine ok_wW oa (fun s hs => ?_)
    have o := oa.2.2.2 s hs
    by_cases q : s = tn x
    · refine ⟨?_, ?_, fun i hi => ?_⟩
      · show upd (aW A) (tn x) b s = 0 ∨ upd (aW A) (tn x) b s = 8 ∨ upd (aW A) (tn x) b s = 16 ∨ upd (aW A) (tn x) b s = 32
        rw [q, pk_us]; exact h.2
      · show inB (upd (aN A) (tn x) (if b = 0 then 0 else n) s) 0 40
        rw [q, pk_us]
        by_cases z : b = 0
        · rw [if_pos z]; exact ⟨by decide, by decide⟩
        · rw [if_neg z]; exact ⟨Int32.not_lt.mp h2, Int32.not_lt.mp h3⟩
      · show bitsV (upd (aW A) (tn x) b s) ((if s = tn x then fun _ => 0 else aX A s : Row) i) = (if s = tn x then fun _ => 0 else aX A s : Row) i
        rw [if_pos q]; exact bitsV_0 _
    · refine ⟨?_, ?_, fun i hi => ?_⟩
      · show upd (aW A) (tn x) b s = 0 ∨ upd (aW A) (tn x) b s = 8 ∨ upd (aW A) (tn x) b s = 16 ∨ upd (aW A) (tn x) b s = 32
        rw [pk_un q]; exact o.1
      · show inB (upd (aN A) (tn x) (if b = 0 then 0 else n) s) 0 40
        rw [pk_un q]; exact o.2.1
      · show bitsV (upd (aW A) (tn x) b s) ((if s = tn x then fun _ => 0 else aX A s : Row) i) = (if s = tn x then fun _ => 0 else aX A s : Row) i
        rw [if_neg q, pk_un q]; exact o.2.2 i hi))) (fun _ => ok_no oa)
theorem ok_write {A : Abs} (oa : okA A) (x i v : Int32) : okA (F_write x i v A).2 := ok_ifp (fun _ => ok_ifp (fun _ => by
    refine ok_wW oa (fun s hs => ?_)
    have o := oa.2.2.2 s hs
    refine ⟨o.1, o.2.1, fun k hk => ?_⟩
    show bitsV (aW A s) (updX (aX A) (tn x) (tn i) (bitsV (aW A (tn x)) v) s k) = updX (aX A) (tn x) (tn i) (bitsV (aW A (tn x)) v) s k
    unfold updX
    by_cases q : s = tn x
    · rw [if_pos q]
      by_cases z : k = tn i
      · rw [z, pk_us, q]; exact bitsV_i _ _
      · rw [pk_un z, ← q]; exact o.2.2 k hk
    · rw [if_neg q]; exact o.2.2 k hk) (fun _ => ok_no oa)) (fun _ => ok_no oa)
theorem ok_copy {A : Abs} (oa : okA A) (x f y p n : Int32) : okA (F_copy x f y p n A).2 := ok_ifp (fun h => ok_ifp (fun _ => ok_no oa) (fun _ => ok_ifp (fun h3 => ok_ifp (fun h4 => by
    have qx := inB_tn (n := 3) (by decide) h.1
    have qy := inB_tn (n := 3) (by decide) h.2
    have ox := oa.2.2.2 (tn x) qx.1
    have bx : inB (aN A (tn x)) 0 40 := ox.2.1
    have qN := inB_tn (x := aN A (tn x)) (n := 40) (by decide) bx
    have h5 := h4.2.2.2.1
    have hf0 := h4.2.1
    have hn0 := h4.1
    have hf : tn f + tn n ≤ 40 := by
      have a1 := nI_tn (Int32.not_lt.mpr hf0)
      have a2 := nI_tn (Int32.not_lt.mpr hn0)
      have b1 := Int32.le_iff_toInt_le.mp h5
      have b2 := Int32.le_iff_toInt_le.mp bx.1
      have b3 := Int32.le_iff_toInt_le.mp bx.2
      have b4 := Int32.le_iff_toInt_le.mp hf0
      have b5 := Int32.le_iff_toInt_le.mp hn0
      have b6 := Int32.toInt_lt n
      have e1 : (aN A (tn x) - n).toInt = (aN A (tn x)).toInt - n.toInt := by
        rw [Int32.toInt_sub]
        simp at b2 b3 b5
        exact Int.bmod_eq_of_le (by omega) (by omega)
      rw [e1] at b1
      show f.toInt.toNat + n.toInt.toNat ≤ 40
      simp at b2 b3 b4 b5
      omega
    refine ok_wW oa (fun s hs => ?_)
    have o := oa.2.2.2 s hs
    refine ⟨o.1, o.2.1, fun k hk => ?_⟩
    show bitsV (aW A s) (copX (aX A) (tn x) (tn f) (tn y) (tn p) (tn n) s k) = copX (aX A) (tn x) (tn f) (tn y) (tn p) (tn n) s k
    unfold copX
    by_cases q : s = tn y
    · rw [if_pos q]
      by_cases z : tn p ≤ k ∧ k < tn p + tn n
      · show bitsV (aW A s) (if tn p ≤ k ∧ k < tn p + tn n then aX A (tn x) (tn f + (k - tn p)) else aX A (tn y) k) = (if tn p ≤ k ∧ k < tn p + tn n then aX A (tn x) (tn f + (k - tn p)) else aX A (tn y) k)
        rw [if_pos z, q, ← h3]
        exact ox.2.2 _ (by omega)
      · show bitsV (aW A s) (if tn p ≤ k ∧ k < tn p + tn n then aX A (tn x) (tn f + (k - tn p)) else aX A (tn y) k) = (if tn p ≤ k ∧ k < tn p + tn n then aX A (tn x) (tn f + (k - tn p)) else aX A (tn y) k)
        rw [if_neg z, ← q]; exact o.2.2 k hk
    · rw [if_neg q]; exact o.2.2 k hk) (fun _ => ok_no oa)) (fun _ => ok_no oa))) (fun _ => ok_no oa)
theorem okRow_loa {S N : Row} (o : okRow S) : ∀ n, n ≤ 6 → (∀ i, i < n → inB (N i) 0 999) → okRow (loaS S N n)
  | 0, _, _ => o
  | n + 1, h, hN => okRow_wk (e := n) (f := 0) (by omega) (by decide) (hN n (by omega)) (okRow_loa o n (by omega) (fun i hi => hN i (by omega)))
theorem ok_load {A : Abs} (oa : okA A) (x : Int32) : okA (F_load x A).2 := ok_ifp (fun _ => by
    have hs := fstN_spec (fun i => nI i < aN A (tn x) ∧ inB (aX A (tn x) i) 0 999) 6
    exact ok_wS oa (okRow_loa oa.1 _ hs.2.1 (fun i hi => (hs.1 i hi).2))) (fun _ => ok_no oa)
theorem ok_judge {A : Abs} (oa : okA A) (x : Int32) : okA (F_judge x A).2 := ok_ifp (fun _ => ok_ifp (fun _ => oa) (fun _ => oa)) (fun _ => ok_no oa)
theorem ok_image {A : Abs} (oa : okA A) : okA (F_image A).2 := ok_wK oa (fun r h => by cases h; exact oa.1)
theorem ok_undo {A : Abs} (oa : okA A) : okA (F_undo A).2 := by
  unfold F_undo
  cases h : aK A with
  | none => exact ok_no oa
  | some K => exact ok_wS oa (oa.2.1 K h)
theorem ok_tear {A : Abs} (oa : okA A) : okA (F_tear A).2 := ok_wK oa (fun r h => by cases h)
theorem ok_count {A : Abs} (oa : okA A) (w : Int32) : okA (F_count w A).2 := ok_ite oa (ok_ite oa (ok_ite oa (ok_ite oa (ok_ite oa (ok_ite oa (ok_ite oa (ok_ite oa (ok_no oa))))))))
theorem ok_status {A : Abs} (oa : okA A) (w : Int32) : okA (F_status w A).2 := ok_ite oa (ok_ifp (fun _ => oa) (fun _ => ok_no oa))
