/-! ===== THE WHOLE STATE as calls show it, on both sides; the acts as functions of it ===== -/
/-- henhouse, image, findings, tape and its length, sheets (bits, how many, numbers) -/
abbrev Abs : Type := Row × Option Row × Row × (Row × Int32) × (Row × Row × (Nat → Row))
noncomputable def ifp {α : Sort _} (p : Prop) (a b : α) : α := @ite α p (Classical.propDecidable p) a b
theorem ifp_t {α : Sort _} {p : Prop} {a b : α} (h : p) : ifp p a b = a := if_pos h
theorem ifp_f {α : Sort _} {p : Prop} {a b : α} (h : ¬ p) : ifp p a b = b := if_neg h
def aF (A : Abs) : Row := A.2.2.1
def aK (A : Abs) : Option Row := A.2.1
def aT (A : Abs) : Row := A.2.2.2.1.1
def aL (A : Abs) : Int32 := A.2.2.2.1.2
def aW (A : Abs) : Row := A.2.2.2.2.1
def aN (A : Abs) : Row := A.2.2.2.2.2.1
def aX (A : Abs) : Nat → Row := A.2.2.2.2.2.2
def wS (A : Abs) (S : Row) : Abs := (S, A.2)
def wK (A : Abs) (K : Option Row) : Abs := (A.1, K, A.2.2)
def wF (A : Abs) (F : Row) : Abs := (A.1, A.2.1, F, A.2.2.2)
def wT (A : Abs) (T : Row × Int32) : Abs := (A.1, A.2.1, A.2.2.1, T, A.2.2.2.2)
def wW (A : Abs) (W : Row × Row × (Nat → Row)) : Abs := (A.1, A.2.1, A.2.2.1, A.2.2.2.1, W)
def noA (A : Abs) (w : Nat) : Int32 × Abs := (-1000001 - nI w, wF A (upd (aF A) w (aF A w + 1)))
def cut (n : Nat) (f : Row) : Row := fun k => if k < n then f k else 0
theorem cut_at {n k : Nat} {f : Row} (h : k < n) : cut n f k = f k := if_pos h
theorem cut_upd {n k : Nat} {f : Row} {x : Int32} (h : k < n) : cut n (upd f k x) = upd (cut n f) k x := by
  funext i
  unfold cut upd
  grind
/-- the class's sheets -/
def shC (M : Mem) : Row × Row × (Nat → Row) := (cut 4 (fun s => M (29 + 2 * s) 1), cut 4 (fun s => M (29 + 2 * s) 2), fun s => if s < 4 then cut 40 (M (29 + 2 * s + 1)) else fun _ => 0)
theorem shC_eq {M M' : Mem} (h : ∀ k, 29 ≤ k → k < 37 → M' k = M k) : shC M' = shC M := by
  unfold shC
  refine Prod.ext ?_ (Prod.ext ?_ ?_)
  · funext s; unfold cut; by_cases q : s < 4
    · simp only [q, if_true]; rw [h _ (by omega) (by omega)]
    · simp only [q, if_false]
  · funext s; unfold cut; by_cases q : s < 4
    · simp only [q, if_true]; rw [h _ (by omega) (by omega)]
    · simp only [q, if_false]
  · funext s; by_cases q : s < 4
    · simp only [q, if_true]; rw [h _ (by omega) (by omega)]
    · simp only [q, if_false]
/-- the class's state -/
def aC (M : Mem) : Abs := (vw M 1, (if M 0 7 = 0 then none else some (vw M 9)), cut 7 (M 39), (cut 120 (M 38), M 37 1), shC M)
theorem aC_def (M : Mem) : aC M = (vw M 1, (if M 0 7 = 0 then none else some (vw M 9)), cut 7 (M 39), (cut 120 (M 38), M 37 1), shC M) := rfl
/-- the model's state -/
def aM (M : Mem) : Abs := (vm M, (if M 40 3 = 0 then none else some (cut 93 (M 42))), cut 7 (M 44), (cut 120 (M 47), M 40 8), (cut 4 (M 52), cut 4 (M 53), fun s => if s < 4 then cut 40 (fun i => M 54 (40 * s + i)) else fun _ => 0))
theorem aM_def (M : Mem) : aM M = (vm M, (if M 40 3 = 0 then none else some (cut 93 (M 42))), cut 7 (M 44), (cut 120 (M 47), M 40 8), (cut 4 (M 52), cut 4 (M 53), fun s => if s < 4 then cut 40 (fun i => M 54 (40 * s + i)) else fun _ => 0)) := rfl
/-- a number as a sheet of some bits keeps it -/
def bitsV (b v : Int32) : Int32 := if b = 8 then (v.toInt8).toInt32 else if b = 16 then (v.toInt16).toInt32 else v
def okT (T : Row × Int32) : Prop := inB T.2 0 120 ∧ ∀ k, k < 120 → inB (T.1 k) 0 255
def okSh (W : Row × Row × (Nat → Row)) : Prop := ∀ s, s < 4 → (W.1 s = 0 ∨ W.1 s = 8 ∨ W.1 s = 16 ∨ W.1 s = 32) ∧ inB (W.2.1 s) 0 40 ∧ ∀ i, i < 40 → bitsV (W.1 s) (W.2.2 s i) = W.2.2 s i
def okA (A : Abs) : Prop := okRow A.1 ∧ (∀ r, A.2.1 = some r → okRow r) ∧ okT A.2.2.2.1 ∧ okSh A.2.2.2.2
def sameC (M M' : Mem) : Prop := ∀ k, 40 ≤ k → M' k = M k
def sameM (M M' : Mem) : Prop := ∀ k, (k < 40 ∨ (48 ≤ k ∧ k < 52) ∨ 56 ≤ k) → M' k = M k
theorem same.C {L : List Nat} {M M' : Mem} (h : same L M M') (hL : L.all (fun k => decide (k < 40)) = true) : sameC M M' := fun k hk => h k (fun q => by
  have := List.all_eq_true.mp hL k q
  simp at this
  omega)
theorem same.Mo {L : List Nat} {M M' : Mem} (h : same L M M') (hL : L.all (fun k => decide (40 ≤ k ∧ (k < 48 ∨ 52 ≤ k) ∧ k < 56)) = true) : sameM M M' := fun k hk => h k (fun q => by
  have := List.all_eq_true.mp hL k q
  simp at this
  omega)
theorem sameC.tr' {M M1 M2 : Mem} (h1 : sameC M M1) (h2 : sameC M1 M2) : sameC M M2 := fun k hk => (h2 k hk).trans (h1 k hk)
theorem sameM.tr' {M M1 M2 : Mem} (h1 : sameM M M1) (h2 : sameM M1 M2) : sameM M M2 := fun k hk => (h2 k hk).trans (h1 k hk)
theorem sameC.rf {M : Mem} : sameC M M := fun _ _ => rfl
theorem sameM.rf {M : Mem} : sameM M M := fun _ _ => rfl
theorem sameC.aM {M M' : Mem} (h : sameC M M') : aM M' = aM M := by
  rw [aM_def, aM_def]
  rw [vm_same (h 41 (by decide)), h 40 (by decide), h 42 (by decide), h 44 (by decide), h 47 (by decide), h 52 (by decide), h 53 (by decide), h 54 (by decide)]
theorem vw_eqK {M M' : Mem} {h : Nat} (h0 : M' h = M h) (h4 : M' (h + (0 + 4)) = M (h + (0 + 4))) (h5 : M' (h + (1 + 4)) = M (h + (1 + 4))) (h6 : M' (h + (2 + 4)) = M (h + (2 + 4))) (h7 : M' (h + 7) = M (h + 7)) : vw M' h = vw M h := by
  funext k
  unfold vw
  rw [h0, h4, h5, h6, h7]
theorem sameM.aC {M M' : Mem} (h : sameM M M') : aC M' = aC M := by
  have hh : ∀ k, k < 40 → M' k = M k := fun k hk => h k (Or.inl hk)
  rw [aC_def, aC_def]
  rw [vw_eqK (h := 1) (hh _ (by decide)) (hh _ (by decide)) (hh _ (by decide)) (hh _ (by decide)) (hh _ (by decide)), vw_eqK (h := 9) (hh _ (by decide)) (hh _ (by decide)) (hh _ (by decide)) (hh _ (by decide)) (hh _ (by decide)), hh 0 (by decide), hh 39 (by decide), hh 38 (by decide), hh 37 (by decide), shC_eq (fun k h1 h2 => hh k (by omega))]
/-- houses beside, choices: nobody sees them -/
def SCR : List Nat := [17, 17 + (0 + 4), 17 + (1 + 4), 17 + (2 + 4), 17 + 7, 25, 26, 27]
def HOU : List Nat := [1, 1 + (0 + 4), 1 + (1 + 4), 1 + (2 + 4), 1 + 7]
theorem aC_S {M M' : Mem} {S' : Row} (hv : vw M' 1 = S') (hs : same (HOU ++ SCR) M M') : aC M' = wS (aC M) S' := by
  have hh : ∀ k, k = 0 ∨ (9 ≤ k ∧ k < 17) ∨ 28 ≤ k → M' k = M k := fun k hk => hs k (by simp [HOU, SCR]; omega)
  unfold aC wS
  rw [hv, vw_eqK (h := 9) (hh _ (by decide)) (hh _ (by decide)) (hh _ (by decide)) (hh _ (by decide)) (hh _ (by decide)), hh 0 (by decide), hh 39 (by decide), hh 38 (by decide), hh 37 (by decide), shC_eq (fun k h1 h2 => hh k (by omega))]
theorem aC_0 {M M' : Mem} (hs : same SCR M M') : aC M' = aC M := by
  have hv : vw M' 1 = vw M 1 := vw_same hs (by decide) (by decide) (by decide) (by decide) (by decide)
  rw [aC_S hv (hs.mono (fun k hk => List.mem_append_right _ hk))]
  rfl
theorem aC_F {M M' : Mem} {w : Nat} {x : Int32} (hw : w < 7) (h39 : M' 39 = upd (M 39) w x) (hs : same (39 :: SCR) M M') : aC M' = wF (aC M) (upd (aF (aC M)) w x) := by
  have hh : ∀ k, k < 17 ∨ (28 ≤ k ∧ ¬ k = 39) → M' k = M k := fun k hk => hs k (by simp [SCR]; omega)
  unfold aC wF aF
  rw [vw_eqK (h := 1) (hh _ (by decide)) (hh _ (by decide)) (hh _ (by decide)) (hh _ (by decide)) (hh _ (by decide)), vw_eqK (h := 9) (hh _ (by decide)) (hh _ (by decide)) (hh _ (by decide)) (hh _ (by decide)) (hh _ (by decide)), hh 0 (by decide), h39, cut_upd hw, hh 38 (by decide), hh 37 (by decide), shC_eq (fun k h1 h2 => hh k (by omega))]
/-- a finding of the class -/
theorem no_C {M M0 M1 : Mem} {r x : Int32} {k : Nat} (h : r = -1000001 - x ∧ M1 = up M0 39 k (M0 39 k + 1)) (hx : x = nI k) (hk : k < 7) (hs : same SCR M M0) : (r, aC M1) = noA (aC M) k ∧ sameC M M1 := by
  obtain ⟨h1, h2⟩ := h
  have e39 : M0 39 = M 39 := hs 39 (by decide)
  refine ⟨?_, ?_⟩
  · have e := aC_F (M := M) (M' := M1) (w := k) (x := M 39 k + 1) hk (by rw [h2, up_s, e39]) ((hs.mono (fun k hk => List.mem_cons_of_mem _ hk)).tr (by rw [h2]; exact same.up (by simp)))
    rw [e, h1, hx]
    unfold noA
    rw [show aF (aC M) k = M 39 k from cut_at hk]
  · refine (hs.C (by decide)).tr' ?_
    rw [h2]
    exact (same.up (L := [39]) (by simp)).C (by decide)
