/-! ===== what the acts do to the row ===== -/
theorem row_ext {S T : Row} (h0 : S 0 = T 0) (h1 : S 1 = T 1) (h2 : S 2 = T 2) (he : ∀ e f, e < 8 → f < 5 → eg S e f = eg T e f) (hh : ∀ a f, a < 4 → f < 4 → hn S a f = hn T a f) (hw : ∀ a f, a < 6 → f < 4 → wk S a f = wk T a f) (hs : ∀ a, a < 10 → S (83 + a) = T (83 + a)) (hz : ∀ k, 93 ≤ k → S k = T k) : S = T := by
  funext k
  by_cases a0 : k = 0; · rw [a0]; exact h0
  by_cases a1 : k = 1; · rw [a1]; exact h1
  by_cases a2 : k = 2; · rw [a2]; exact h2
  by_cases b : k < 43
  · have := he ((k - 3) / 5) ((k - 3) % 5) (by omega) (by omega)
    unfold eg at this
    rw [show 3 + 5 * ((k - 3) / 5) + (k - 3) % 5 = k by omega] at this
    exact this
  by_cases c : k < 59
  · have := hh ((k - 43) / 4) ((k - 43) % 4) (by omega) (by omega)
    unfold hn at this
    rw [show 43 + 4 * ((k - 43) / 4) + (k - 43) % 4 = k by omega] at this
    exact this
  by_cases d : k < 83
  · have := hw ((k - 59) / 4) ((k - 59) % 4) (by omega) (by omega)
    unfold wk at this
    rw [show 59 + 4 * ((k - 59) / 4) + (k - 59) % 4 = k by omega] at this
    exact this
  by_cases e : k < 93
  · have := hs (k - 83) (by omega)
    rw [show 83 + (k - 83) = k by omega] at this
    exact this
  · exact hz k (by omega)
theorem vw_out {M : Mem} {h k : Nat} (hk : 93 ≤ k) : vw M h k = 0 := by
  unfold vw
  rw [if_neg (by omega), if_neg (by omega), if_neg (by omega), if_neg (by omega), if_neg (by omega), if_neg (by omega), if_neg (by omega)]
def goS (S : Row) (e : Nat) : Row := fun k => if 3 + 5 * e ≤ k ∧ k < 8 + 5 * e then 0 else S k
def putE (S : Row) (e : Nat) (kind size age nest : Int32) : Row := fun k => if k = 3 + 5 * e then kind else if k = 3 + 5 * e + 1 then size else if k = 3 + 5 * e + 2 then age else if k = 3 + 5 * e + 3 then nest else if k = 3 + 5 * e + 4 then 1 else S k
theorem goS_eg {S : Row} {e a f : Nat} (hf : f < 5) : eg (goS S e) a f = if a = e then 0 else eg S a f := by
  unfold eg goS
  by_cases h : a = e
  · rw [if_pos h, if_pos (by omega)]
  · rw [if_neg h, if_neg (by omega)]
theorem goS_o {S : Row} {e k : Nat} (h : k < 3 + 5 * e ∨ 8 + 5 * e ≤ k) : goS S e k = S k := by
  unfold goS
  rw [if_neg (by omega)]
theorem putE_eg {S : Row} {e a f : Nat} {k s g n : Int32} (hf : f < 5) : eg (putE S e k s g n) a f = if a = e then (if f = 0 then k else if f = 1 then s else if f = 2 then g else if f = 3 then n else 1) else eg S a f := by
  unfold eg putE
  by_cases h : a = e
  · subst h
    rw [if_pos rfl]
    rcases (show f = 0 ∨ f = 1 ∨ f = 2 ∨ f = 3 ∨ f = 4 by omega) with rfl | rfl | rfl | rfl | rfl <;> grind
  · rw [if_neg h, if_neg (by omega), if_neg (by omega), if_neg (by omega), if_neg (by omega), if_neg (by omega)]
theorem putE_o {S : Row} {e j : Nat} {k s g n : Int32} (h : j < 3 + 5 * e ∨ 8 + 5 * e ≤ j) : putE S e k s g n j = S j := by
  unfold putE
  rw [if_neg (by omega), if_neg (by omega), if_neg (by omega), if_neg (by omega), if_neg (by omega)]
theorem upd_eg {S : Row} {e f a b : Nat} {x : Int32} (hf : f < 5) (hb : b < 5) : eg (upd S (3 + 5 * e + f) x) a b = if a = e ∧ b = f then x else eg S a b := by
  unfold eg
  by_cases h : a = e ∧ b = f
  · rw [if_pos h, h.1, h.2, pk_us]
  · rw [if_neg h, pk_un (by omega)]
theorem upd_hn {S : Row} {e f a b : Nat} {x : Int32} (hf : f < 4) (hb : b < 4) : hn (upd S (43 + 4 * e + f) x) a b = if a = e ∧ b = f then x else hn S a b := by
  unfold hn
  by_cases h : a = e ∧ b = f
  · rw [if_pos h, h.1, h.2, pk_us]
  · rw [if_neg h, pk_un (by omega)]
theorem upd_wk {S : Row} {e f a b : Nat} {x : Int32} (hf : f < 4) (hb : b < 4) : wk (upd S (59 + 4 * e + f) x) a b = if a = e ∧ b = f then x else wk S a b := by
  unfold wk
  by_cases h : a = e ∧ b = f
  · rw [if_pos h, h.1, h.2, pk_us]
  · rw [if_neg h, pk_un (by omega)]
theorem eg_n {S : Row} {k : Nat} {x : Int32} (hk : k < 3 ∨ 43 ≤ k) {e f : Nat} (he : e < 8) (hf : f < 5) : eg (upd S k x) e f = eg S e f := by
  unfold eg; exact pk_un (by omega)
theorem hn_n {S : Row} {k : Nat} {x : Int32} (hk : k < 43 ∨ 59 ≤ k) {e f : Nat} (he : e < 4) (hf : f < 4) : hn (upd S k x) e f = hn S e f := by
  unfold hn; exact pk_un (by omega)
theorem wk_n {S : Row} {k : Nat} {x : Int32} (hk : k < 59 ∨ 83 ≤ k) {e f : Nat} (he : e < 6) (hf : f < 4) : wk (upd S k x) e f = wk S e f := by
  unfold wk; exact pk_un (by omega)
/-! the class's writes, seen as the row's -/
theorem vw_upC {M : Mem} {h c i : Nat} {x : Int32} (hc : c = h + (0 + 4)) (hi : i < 32) : ∀ k, (k < 3 ∨ 43 ≤ k) → vw (up M c i x) h k = vw M h k := by
  intro k hk
  subst hc
  unfold vw
  rw [up_n (by omega), up_n (by omega : h + (1 + 4) ≠ _), up_n (by omega : h + (2 + 4) ≠ _), up_n (by omega : h + 7 ≠ _)]
  by_cases a0 : k = 0; · rw [if_pos a0, if_pos a0]
  by_cases a1 : k = 1; · rw [if_neg a0, if_neg a0, if_pos a1, if_pos a1]
  by_cases a2 : k = 2; · rw [if_neg a0, if_neg a0, if_neg a1, if_neg a1, if_pos a2, if_pos a2]
  have : ¬ k < 43 := by omega
  rw [if_neg a0, if_neg a0, if_neg a1, if_neg a1, if_neg a2, if_neg a2, if_neg this, if_neg this]
theorem vw_go {M : Mem} {h e : Nat} (he : e < 8) : vw (up M (h + (0 + 4)) (4 * e + 0) (-1)) h = goS (vw M h) e := by
  have hc := fun k hk => vw_upC (M := M) (h := h) (x := -1) rfl (show 4 * e + 0 < 32 by omega) k hk
  refine row_ext ?_ ?_ ?_ (fun a f ha hf => ?_) (fun a f ha hf => ?_) (fun a f ha hf => ?_) (fun a ha => ?_) (fun k hk => ?_)
  · rw [hc _ (by omega), goS_o (by omega)]
  · rw [hc _ (by omega), goS_o (by omega)]
  · rw [hc _ (by omega), goS_o (by omega)]
  · rw [goS_eg hf]
    clear hc
    by_cases h4 : f = 4
    · subst h4
      rw [vw_e4 ha, vw_e4 ha, up_any]
      grind
    · rw [vw_eg ha (by omega), vw_eg ha (by omega), up_any, up_any]
      grind
  · unfold hn; rw [hc _ (by omega), goS_o (by omega)]
  · unfold wk; rw [hc _ (by omega), goS_o (by omega)]
  · rw [hc _ (by omega), goS_o (by omega)]
  · rw [vw_out hk, goS_o (by omega), vw_out hk]
theorem vw_putf {M : Mem} {h e f : Nat} {x : Int32} (he : e < 8) (hf : f < 4) (ht : thr (vw M h) e) (hx : f = 0 → ¬ x = -1) : vw (up M (h + (0 + 4)) (4 * e + f) x) h = upd (vw M h) (3 + 5 * e + f) x := by
  have hc := fun k hk => vw_upC (M := M) (h := h) (x := x) rfl (show 4 * e + f < 32 by omega) k hk
  have ht' := (vw_thr he).mp ht
  refine row_ext ?_ ?_ ?_ (fun a b ha hb => ?_) (fun a b ha hb => ?_) (fun a b ha hb => ?_) (fun a ha => ?_) (fun k hk => ?_)
  · rw [hc _ (by omega), pk_un (by omega)]
  · rw [hc _ (by omega), pk_un (by omega)]
  · rw [hc _ (by omega), pk_un (by omega)]
  · rw [upd_eg (by omega) hb]
    clear hc
    by_cases h4 : b = 4
    · subst h4
      rw [if_neg (by omega), vw_e4 ha, vw_e4 ha, up_any]
      grind
    · rw [vw_eg ha (by omega), vw_eg ha (by omega), up_any, up_any]
      grind
  · unfold hn; rw [hc _ (by omega), pk_un (by omega)]
  · unfold wk; rw [hc _ (by omega), pk_un (by omega)]
  · rw [hc _ (by omega), pk_un (by omega)]
  · rw [vw_out hk, pk_un (by omega), vw_out hk]
theorem vw_lay {M : Mem} {h e : Nat} {k s ag n : Int32} (he : e < 8) (hk : ¬ k = -1) : vw (up (up (up (up M (h + (0 + 4)) (4 * e + 0) k) (h + (0 + 4)) (4 * e + 1) s) (h + (0 + 4)) (4 * e + 2) ag) (h + (0 + 4)) (4 * e + 3) n) h = putE (vw M h) e k s ag n := by
  have hc : ∀ j, (j < 3 ∨ 43 ≤ j) → vw (up (up (up (up M (h + (0 + 4)) (4 * e + 0) k) (h + (0 + 4)) (4 * e + 1) s) (h + (0 + 4)) (4 * e + 2) ag) (h + (0 + 4)) (4 * e + 3) n) h j = vw M h j := fun j hj => by
    rw [vw_upC rfl (by omega) j hj, vw_upC rfl (by omega) j hj, vw_upC rfl (by omega) j hj, vw_upC rfl (by omega) j hj]
  refine row_ext ?_ ?_ ?_ (fun a b ha hb => ?_) (fun a b ha hb => ?_) (fun a b ha hb => ?_) (fun a ha => ?_) (fun k hk => ?_)
  · rw [hc _ (by omega), putE_o (by omega)]
  · rw [hc _ (by omega), putE_o (by omega)]
  · rw [hc _ (by omega), putE_o (by omega)]
  · rw [putE_eg hb]
    by_cases q : a = e
    · subst q
      rw [if_pos rfl]
      have e0 : (up (up (up (up M (h + (0 + 4)) (4 * a + 0) k) (h + (0 + 4)) (4 * a + 1) s) (h + (0 + 4)) (4 * a + 2) ag) (h + (0 + 4)) (4 * a + 3) n) (h + (0 + 4)) (4 * a) = k := by
        rw [up_sn (by omega), up_sn (by omega), up_sn (by omega)]; exact up_ss
      rcases (show b = 0 ∨ b = 1 ∨ b = 2 ∨ b = 3 ∨ b = 4 by omega) with rfl | rfl | rfl | rfl | rfl
      · rw [vw_eg ha (by omega), e0, if_neg hk, if_pos rfl]; exact e0
      · rw [vw_eg ha (by omega), e0, if_neg hk, if_neg (by decide), if_pos rfl, up_sn (by omega), up_sn (by omega), up_ss]
      · rw [vw_eg ha (by omega), e0, if_neg hk, if_neg (by decide), if_neg (by decide), if_pos rfl, up_sn (by omega), up_ss]
      · rw [vw_eg ha (by omega), e0, if_neg hk, if_neg (by decide), if_neg (by decide), if_neg (by decide), if_pos rfl, up_ss]
      · rw [vw_e4 ha, e0, if_neg hk, if_neg (by decide), if_neg (by decide), if_neg (by decide), if_neg (by decide)]
    · rw [if_neg q]
      have e0 : ∀ i, i < 4 → (up (up (up (up M (h + (0 + 4)) (4 * e + 0) k) (h + (0 + 4)) (4 * e + 1) s) (h + (0 + 4)) (4 * e + 2) ag) (h + (0 + 4)) (4 * e + 3) n) (h + (0 + 4)) (4 * a + i) = M (h + (0 + 4)) (4 * a + i) := fun i hi => by
        rw [up_sn (by omega), up_sn (by omega), up_sn (by omega), up_sn (by omega)]
      by_cases h4 : b = 4
      · subst h4
        rw [vw_e4 ha, vw_e4 ha]
        rw [show up (up (up (up M (h + (0 + 4)) (4 * e + 0) k) (h + (0 + 4)) (4 * e + 1) s) (h + (0 + 4)) (4 * e + 2) ag) (h + (0 + 4)) (4 * e + 3) n (h + (0 + 4)) (4 * a) = M (h + (0 + 4)) (4 * a) from e0 0 (by decide)]
      · rw [vw_eg ha (by omega), vw_eg ha (by omega), e0 b (by omega)]
        rw [show up (up (up (up M (h + (0 + 4)) (4 * e + 0) k) (h + (0 + 4)) (4 * e + 1) s) (h + (0 + 4)) (4 * e + 2) ag) (h + (0 + 4)) (4 * e + 3) n (h + (0 + 4)) (4 * a) = M (h + (0 + 4)) (4 * a) from e0 0 (by decide)]
  · unfold hn; rw [hc _ (by omega), putE_o (by omega)]
  · unfold wk; rw [hc _ (by omega), putE_o (by omega)]
  · rw [hc _ (by omega), putE_o (by omega)]
  · rw [vw_out hk, putE_o (by omega), vw_out hk]
/-- day, spoiled, z -/
theorem vw_d {M : Mem} {h j : Nat} {x : Int32} (hj : j = 4 ∨ j = 5 ∨ j = 6) : vw (up M h j x) h = upd (vw M h) (j - 4) x := by
  funext k
  unfold vw
  rw [up_n (by omega : h + (0 + 4) ≠ h), up_n (by omega : h + (1 + 4) ≠ h), up_n (by omega : h + (2 + 4) ≠ h), up_n (by omega : h + 7 ≠ h), up_any, up_any, up_any]
  rcases hj with rfl | rfl | rfl
  · by_cases q : k = 0
    · subst q; rw [pk_us]; simp
    · rw [pk_un q]; simp [q]
  · by_cases q : k = 1
    · subst q; rw [pk_us]; simp
    · rw [pk_un q]; simp [q]
  · by_cases q : k = 2
    · subst q; rw [pk_us]; simp
    · rw [pk_un q]; simp [q]
theorem vw_h {M : Mem} {h i : Nat} {x : Int32} (hi : i < 16) : vw (up M (h + (1 + 4)) i x) h = upd (vw M h) (43 + i) x := by
  funext k
  unfold vw
  rw [up_n (by omega : h ≠ h + (1 + 4)), up_n (by omega : h + (0 + 4) ≠ h + (1 + 4)), up_n (by omega : h + (2 + 4) ≠ h + (1 + 4)), up_n (by omega : h + 7 ≠ h + (1 + 4)), up_any]
  by_cases q : k = 43 + i
  · subst q
    rw [pk_us, if_neg (by omega), if_neg (by omega), if_neg (by omega), if_neg (by omega), if_pos (by omega), if_pos (by omega)]
  · rw [pk_un q]
    by_cases a : 43 ≤ k ∧ k < 59
    · rw [if_neg (show ¬ (h + (1 + 4) = h + (1 + 4) ∧ k - 43 = i) by omega)]
    · by_cases b : k < 43
      · simp only [b, if_true]
      · rw [if_neg b, if_neg (show ¬ k < 59 by omega), if_neg b, if_neg (show ¬ k < 59 by omega)]
theorem vw_w {M : Mem} {h i : Nat} {x : Int32} (hi : i < 24) : vw (up M (h + (2 + 4)) i x) h = upd (vw M h) (59 + i) x := by
  funext k
  unfold vw
  rw [up_n (by omega : h ≠ h + (2 + 4)), up_n (by omega : h + (0 + 4) ≠ h + (2 + 4)), up_n (by omega : h + (1 + 4) ≠ h + (2 + 4)), up_n (by omega : h + 7 ≠ h + (2 + 4)), up_any]
  by_cases q : k = 59 + i
  · subst q
    rw [pk_us, if_neg (by omega), if_neg (by omega), if_neg (by omega), if_neg (by omega), if_neg (by omega), if_pos (by omega), if_pos (by omega)]
  · rw [pk_un q]
    by_cases b : k < 43
    · simp only [b, if_true]
    by_cases c : k < 59
    · rw [if_neg b, if_pos c, if_neg b, if_pos c]
    by_cases d : k < 83
    · rw [if_neg (show ¬ (h + (2 + 4) = h + (2 + 4) ∧ k - 59 = i) by omega)]
    · rw [if_neg b, if_neg c, if_neg d, if_neg b, if_neg c, if_neg d]
theorem vw_s {M : Mem} {h i : Nat} {x : Int32} (hi : i < 10) : vw (up M (h + 7) i x) h = upd (vw M h) (83 + i) x := by
  funext k
  unfold vw
  rw [up_n (by omega : h ≠ h + 7), up_n (by omega : h + (0 + 4) ≠ h + 7), up_n (by omega : h + (1 + 4) ≠ h + 7), up_n (by omega : h + (2 + 4) ≠ h + 7), up_any]
  by_cases q : k = 83 + i
  · subst q
    rw [pk_us, if_neg (by omega), if_neg (by omega), if_neg (by omega), if_neg (by omega), if_neg (by omega), if_neg (by omega), if_pos (by omega), if_pos (by omega)]
  · rw [pk_un q]
    by_cases b : k < 43
    · simp only [b, if_true]
    by_cases c : k < 59
    · rw [if_neg b, if_pos c, if_neg b, if_pos c]
    by_cases d : k < 83
    · rw [if_neg b, if_neg c, if_pos d, if_neg b, if_neg c, if_pos d]
    by_cases f : k < 93
    · rw [if_neg (show ¬ (h + 7 = h + 7 ∧ k - 83 = i) by omega)]
    · rw [if_neg b, if_neg c, if_neg d, if_neg f, if_neg b, if_neg c, if_neg d, if_neg f]
