/-! ===== the start: what lies where when both are made ===== -/
def L40 (g : Gp) (a : Nat) (u : Nat → Nat) : va_W := [(a, .inr (6, [.ref (u 0), .ref (u 8), .ref (u 16), .ref (u 24), .ref (u 27), .ref (u 36), .ref (u 38), .int 0])), ((u 0), .inr (1, [.ref (u 1), .ref (u 3), .ref (u 5), .ref (u 7), .int 0, .int 0, .int 1])), ((u 1), .inr (4, [.int 8, .ref (gsa g 0), .ref (gsa g 1), .ref (u 2)])), ((u 2), eI g 32 (egF 8)), ((u 3), .inr (4, [.int 4, .ref (gsa g 2), .ref (gsa g 3), .ref (u 4)])), ((u 4), eI g 32 (hnF 4)), ((u 5), .inr (4, [.int 6, .ref (gsa g 4), .ref (gsa g 5), .ref (u 6)])), ((u 6), eI g 32 (wkF 6)), ((u 7), eI g 10 (spF 10)), ((u 8), .inr (1, [.ref (u 9), .ref (u 11), .ref (u 13), .ref (u 15), .int 0, .int 0, .int 1])), ((u 9), .inr (4, [.int 8, .ref (gsa g 0), .ref (gsa g 1), .ref (u 10)])), ((u 10), eI g 32 (egF 8)), ((u 11), .inr (4, [.int 4, .ref (gsa g 2), .ref (gsa g 3), .ref (u 12)])), ((u 12), eI g 32 (hnF 4)), ((u 13), .inr (4, [.int 6, .ref (gsa g 4), .ref (gsa g 5), .ref (u 14)])), ((u 14), eI g 32 (wkF 6)), ((u 15), eI g 10 (spF 10)), ((u 16), .inr (1, [.ref (u 17), .ref (u 19), .ref (u 21), .ref (u 23), .int 0, .int 0, .int 1])), ((u 17), .inr (4, [.int 8, .ref (gsa g 0), .ref (gsa g 1), .ref (u 18)])), ((u 18), eI g 32 (egF 8)), ((u 19), .inr (4, [.int 4, .ref (gsa g 2), .ref (gsa g 3), .ref (u 20)])), ((u 20), eI g 32 (hnF 4)), ((u 21), .inr (4, [.int 6, .ref (gsa g 4), .ref (gsa g 5), .ref (u 22)])), ((u 22), eI g 32 (wkF 6)), ((u 23), eI g 10 (spF 10)), ((u 24), .inr (0, [.ref (u 25), .ref (u 26), .int 0])), ((u 25), eI g 256 (fun _ => 0)), ((u 26), eI g 256 (fun _ => 0)), ((u 27), eO g 4 (va_up (va_up (va_up (va_up (fun _ => none) 0 (some (u 28))) 1 (some (u 30))) 2 (some (u 32))) 3 (some (u 34)))), ((u 28), .inr (3, [.ref (u 29), .int 0, .int 0])), ((u 29), eI g 40 (fun _ => 0)), ((u 30), .inr (3, [.ref (u 31), .int 0, .int 0])), ((u 31), eI g 40 (fun _ => 0)), ((u 32), .inr (3, [.ref (u 33), .int 0, .int 0])), ((u 33), eI g 40 (fun _ => 0)), ((u 34), .inr (3, [.ref (u 35), .int 0, .int 0])), ((u 35), eI g 40 (fun _ => 0)), ((u 36), .inr (5, [.ref (u 37), .int 0])), ((u 37), eI g 120 (fun _ => 0)), ((u 38), eI g 7 (fun _ => 0))]
def L16 (g : Gp) (b : Nat) (w : Nat → Nat) : va_W := [(b, .inr (7, [.ref (w 0), .ref (w 1), .ref (w 2), .int 0, .ref (w 3), .ref (w 4), .ref (w 5), .ref (w 6), .int 0, .int 0, .int 0, .int 0, .long 0, .ref (w 7), .ref (w 8), .ref (w 9), .ref (w 10), .ref (w 11), .ref (w 12), .ref (w 13), .ref (w 14)])), ((w 0), eI g 93 (mdS 10)), ((w 1), eI g 93 (fun _ => 0)), ((w 2), eI g 93 (fun _ => 0)), ((w 3), eI g 7 (fun _ => 0)), ((w 4), eZ g 16384 (fun _ => 0)), ((w 5), eI g 256 (fun _ => 0)), ((w 6), eI g 120 (fun _ => 0)), ((w 7), eC g 56 (chF lt48 56)), ((w 8), eC g 16 (chF lt49 16)), ((w 9), eC g 16 (chF lt50 16)), ((w 10), eC g 16 (chF lt51 16)), ((w 11), eI g 4 (fun _ => 0)), ((w 12), eI g 4 (fun _ => 0)), ((w 13), eI g 160 (fun _ => 0)), ((w 14), eI g 40 (fun _ => 0))]
def L56 (g : Gp) (a b : Nat) (u w : Nat → Nat) : va_W := L40 g a u ++ L16 g b w
def M0L : List (Nat → Int32) := [(fun _ => 0), (fun i => if i = 6 then 1 else 0), (fun _ => 0), (fun _ => 0), (fun _ => 0), (egF 8), (hnF 4), (wkF 6), (spF 10), (fun i => if i = 6 then 1 else 0), (fun _ => 0), (fun _ => 0), (fun _ => 0), (egF 8), (hnF 4), (wkF 6), (spF 10), (fun i => if i = 6 then 1 else 0), (fun _ => 0), (fun _ => 0), (fun _ => 0), (egF 8), (hnF 4), (wkF 6), (spF 10), (fun _ => 0), (fun _ => 0), (fun _ => 0), (fun _ => 0), (fun _ => 0), (fun _ => 0), (fun _ => 0), (fun _ => 0), (fun _ => 0), (fun _ => 0), (fun _ => 0), (fun _ => 0), (fun _ => 0), (fun _ => 0), (fun _ => 0), (fun _ => 0), (mdS 10), (fun _ => 0), (fun _ => 0), (fun _ => 0), (fun _ => 0), (fun _ => 0), (fun _ => 0), (chF lt48 56), (chF lt49 16), (chF lt50 16), (chF lt51 16), (fun _ => 0), (fun _ => 0), (fun _ => 0), (fun _ => 0)]
def M0 : Mem := fun k => M0L.getD k (fun _ => 0)
def pm (k : Nat) : Nat := if 1 ≤ k ∧ k < 25 then (k - 1) / 8 * 8 + 1 + [0, 1, 3, 5, 2, 4, 6, 7].getD ((k - 1) % 8) 0 else k
def pmi (k : Nat) : Nat := if 1 ≤ k ∧ k < 25 then (k - 1) / 8 * 8 + 1 + [0, 1, 4, 2, 5, 3, 6, 7].getD ((k - 1) % 8) 0 else k
theorem pm_i : ∀ k, k < 56 → pmi (pm k) = k ∧ pm k < 56 := by decide +kernel
theorem L56_len {g : Gp} {a b : Nat} {u w : Nat → Nat} : (L56 g a b u w).length = 56 := rfl
def adF (L : va_W) (k : Nat) : Nat := match L[pm k]? with
  | some q => q.1
  | none => 0
def g56 (g : Gp) (a b : Nat) (u w : Nat → Nat) : Gp := gw g (adF (L56 g a b u w)) 56
theorem adF_in {L : va_W} {k : Nat} (hL : L.length = 56) (hk : k < 56) : ∃ e : va_E, L[pm k]? = some (adF L k, e) := by
  have h : pm k < L.length := by rw [hL]; exact (pm_i k hk).2
  refine ⟨(L[pm k]).2, ?_⟩
  unfold adF
  rw [List.getElem?_eq_getElem h]
theorem Adok_0 {A : Nat → Prop} {g : Gp} {a b : Nat} {u w : Nat → Nat} (h : va_D A (L56 g a b u w)) : Adok A (g56 g a b u w) := by
  refine ⟨fun i j hi hj e => ?_, fun k hk => ?_⟩
  · obtain ⟨e1, h1⟩ := adF_in (L56_len (g := g) (a := a) (b := b) (u := u) (w := w)) hi
    obtain ⟨e2, h2⟩ := adF_in (L56_len (g := g) (a := a) (b := b) (u := u) (w := w)) hj
    have h3 := h.1 _ _ _ _ h1 h2 e
    rw [← (pm_i i hi).1, ← (pm_i j hj).1, h3]
  · obtain ⟨e1, h1⟩ := adF_in (L56_len (g := g) (a := a) (b := b) (u := u) (w := w)) hk
    exact h.2 _ _ h1
theorem cell_q4 {c : ClassId} {f f2 : Nat → Option Nat} (h0 : f 0 = f2 0) (h1 : f 1 = f2 1) (h2 : f 2 = f2 2) (h3 : f 3 = f2 3) : vp_cell c (4, .inr (.inr (.inr (.inr f)))) = vp_cell c (4, .inr (.inr (.inr (.inr f2)))) := by
  rw [vp_cell_q, vp_cell_q]
  have e : ∀ j : Fin 4, f j = f2 j := fun j => by
    rcases j with ⟨j, hj⟩
    rcases (show j = 0 ∨ j = 1 ∨ j = 2 ∨ j = 3 by omega) with rfl | rfl | rfl | rfl
    · exact h0
    · exact h1
    · exact h2
    · exact h3
  unfold arrV
  congr 1
  first
    | (congr 1; funext j; exact congrArg va_rf (e j))
    | (congr 2; funext j; exact congrArg va_rf (e j))
theorem mkL_00 : mkL 0 0 = 0 := by decide +kernel
set_option maxRecDepth 100000 in
set_option maxHeartbeats 4000000 in
theorem Wd_0 {g : Gp} {a b : Nat} {u w : Nat → Nat} {H : Heap} (h : va_P (gD g) vwCl (L56 g a b u w) H) : va_P (gD (g56 g a b u w)) vwCl (Wd (g56 g a b u w) M0) H := by
  intro k q hq
  obtain ⟨hk, rfl⟩ := Wd_atI hq
  clear hq
  have hk' : k < 56 := hk
  have h28 := h 28 _ rfl
  match k, hk' with
  | 0, _ => exact h 0 _ rfl
  | 1, _ => exact h 1 _ rfl
  | 2, _ => exact h 2 _ rfl
  | 3, _ => exact h 4 _ rfl
  | 4, _ => exact h 6 _ rfl
  | 5, _ => exact h 3 _ rfl
  | 6, _ => exact h 5 _ rfl
  | 7, _ => exact h 7 _ rfl
  | 8, _ => exact h 8 _ rfl
  | 9, _ => exact h 9 _ rfl
  | 10, _ => exact h 10 _ rfl
  | 11, _ => exact h 12 _ rfl
  | 12, _ => exact h 14 _ rfl
  | 13, _ => exact h 11 _ rfl
  | 14, _ => exact h 13 _ rfl
  | 15, _ => exact h 15 _ rfl
  | 16, _ => exact h 16 _ rfl
  | 17, _ => exact h 17 _ rfl
  | 18, _ => exact h 18 _ rfl
  | 19, _ => exact h 20 _ rfl
  | 20, _ => exact h 22 _ rfl
  | 21, _ => exact h 19 _ rfl
  | 22, _ => exact h 21 _ rfl
  | 23, _ => exact h 23 _ rfl
  | 24, _ => exact h 24 _ rfl
  | 25, _ => exact h 25 _ rfl
  | 26, _ => exact h 26 _ rfl
  | 27, _ => exact h 27 _ rfl
  | 28, _ =>
    refine Eq.trans (b := some _) h28 (congrArg some (cell_q4 rfl rfl rfl rfl))
  | 29, _ => exact h 29 _ rfl
  | 30, _ => exact h 30 _ rfl
  | 31, _ => exact h 31 _ rfl
  | 32, _ => exact h 32 _ rfl
  | 33, _ => exact h 33 _ rfl
  | 34, _ => exact h 34 _ rfl
  | 35, _ => exact h 35 _ rfl
  | 36, _ => exact h 36 _ rfl
  | 37, _ => exact h 37 _ rfl
  | 38, _ => exact h 38 _ rfl
  | 39, _ => exact h 39 _ rfl
  | 40, _ => exact h 40 _ rfl
  | 41, _ => exact h 41 _ rfl
  | 42, _ => exact h 42 _ rfl
  | 43, _ => exact h 43 _ rfl
  | 44, _ => exact h 44 _ rfl
  | 45, _ => exact h 45 _ rfl
  | 46, _ => exact h 46 _ rfl
  | 47, _ => exact h 47 _ rfl
  | 48, _ => exact h 48 _ rfl
  | 49, _ => exact h 49 _ rfl
  | 50, _ => exact h 50 _ rfl
  | 51, _ => exact h 51 _ rfl
  | 52, _ => exact h 52 _ rfl
  | 53, _ => exact h 53 _ rfl
  | 54, _ => exact h 54 _ rfl
  | 55, _ => exact h 55 _ rfl
  | k + 56, h => exact absurd h (by omega)
theorem cut_z {n : Nat} : cut n (fun _ => 0) = fun _ => 0 := by
  funext k
  unfold cut
  by_cases q : k < n
  · rw [if_pos q]
  · rw [if_neg q]
theorem vw_M0 : vw M0 1 = vm M0 := by
  have h : ∀ k, k < 93 → vw M0 1 k = vm M0 k := by decide +kernel
  funext k
  by_cases q : k < 93
  · exact h k q
  · rw [vw_out (by omega)]
    unfold vm
    rw [if_neg q]
theorem aC_M0 : aC M0 = (vm M0, none, (fun _ => 0), ((fun _ => 0), 0), ((fun _ => 0), (fun _ => 0), fun _ => fun _ => 0)) := by
  have e1 : shC M0 = ((fun _ => 0), (fun _ => 0), fun _ => fun _ => 0) := by
    unfold shC
    refine Prod.ext ?_ (Prod.ext ?_ ?_)
    · funext s
      show (if s < 4 then M0 (29 + 2 * s) 1 else 0) = (0 : Int32)
      by_cases q : s < 4
      · rw [if_pos q]
        rcases (show s = 0 ∨ s = 1 ∨ s = 2 ∨ s = 3 by omega) with rfl | rfl | rfl | rfl <;> rfl
      · rw [if_neg q]
    · funext s
      show (if s < 4 then M0 (29 + 2 * s) 2 else 0) = (0 : Int32)
      by_cases q : s < 4
      · rw [if_pos q]
        rcases (show s = 0 ∨ s = 1 ∨ s = 2 ∨ s = 3 by omega) with rfl | rfl | rfl | rfl <;> rfl
      · rw [if_neg q]
    · funext s
      by_cases q : s < 4
      · simp only [q, if_true]
        rcases (show s = 0 ∨ s = 1 ∨ s = 2 ∨ s = 3 by omega) with rfl | rfl | rfl | rfl <;> exact cut_z
      · simp only [q, if_false]
  unfold aC
  rw [vw_M0, e1, show M0 39 = fun _ => 0 from rfl, show M0 38 = fun _ => 0 from rfl, cut_z, cut_z]
  rfl
theorem aM_M0 : aM M0 = (vm M0, none, (fun _ => 0), ((fun _ => 0), 0), ((fun _ => 0), (fun _ => 0), fun _ => fun _ => 0)) := by
  unfold aM
  rw [show M0 44 = fun _ => 0 from rfl, show M0 47 = fun _ => 0 from rfl, show M0 52 = fun _ => 0 from rfl, show M0 53 = fun _ => 0 from rfl, show M0 54 = fun _ => 0 from rfl, cut_z, cut_z, cut_z]
  refine Prod.ext rfl (Prod.ext rfl (Prod.ext rfl (Prod.ext rfl (Prod.ext rfl (Prod.ext rfl ?_)))))
  funext s
  by_cases q : s < 4
  · simp only [q, if_true]; exact cut_z
  · simp only [q, if_false]
theorem ca_M0 : aC M0 = aM M0 := aC_M0.trans aM_M0.symm
set_option maxRecDepth 100000 in
theorem okRow_M0 : okRow (vm M0) := by
  unfold okRow
  refine ⟨?_, ?_, ?_, ?_, ?_, ?_, ?_⟩
  · unfold inB; decide +kernel
  · unfold inB; decide +kernel
  · unfold okE inB; decide +kernel
  · unfold okH inB; decide +kernel
  · unfold okWk inB; decide +kernel
  · unfold inB; decide +kernel
  · intro k hk
    unfold vm
    rw [if_neg (by omega)]
theorem okA_M0 : okA (aC M0) := by
  rw [aC_M0]
  refine ⟨okRow_M0, fun r h => (by cases h), ⟨?_, fun k hk => ?_⟩, fun s hs => ⟨Or.inl rfl, ?_, fun i hi => rfl⟩⟩
  · show inB 0 0 120; unfold inB; decide
  · show inB 0 0 255; unfold inB; decide
  · show inB 0 0 40; unfold inB; decide
set_option maxRecDepth 100000 in
theorem okLt_M0 : okLt M0 := by
  unfold okLt
  refine ⟨?_, ?_, ?_, ?_⟩ <;> decide +kernel
