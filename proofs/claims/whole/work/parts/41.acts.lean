/-! ===== the acts, as functions of the state ===== -/
abbrev tn (x : Int32) : Nat := x.toNatClampNeg
def takesP (j : Nat) (col v : Int32) : Prop := (¬ col < 0 ∧ col < 4) ∧ tabV (2 * j) (tn col) ≤ v ∧ v ≤ tabV (2 * j + 1) (tn col)
/-- the first number below n that does not have c, else n -/
noncomputable def fstN (c : Nat → Prop) : Nat → Nat
  | 0 => 0
  | n + 1 => if fstN c n < n then fstN c n else ifp (c n) (n + 1) n
theorem fstN_spec (c : Nat → Prop) : ∀ n, (∀ e, e < fstN c n → c e) ∧ fstN c n ≤ n ∧ (fstN c n < n → ¬ c (fstN c n))
  | 0 => ⟨fun e he => absurd he (Nat.not_lt_zero e), Nat.le_refl 0, fun h => absurd h (Nat.lt_irrefl 0)⟩
  | n + 1 => by
    obtain ⟨h1, h2, h3⟩ := fstN_spec c n
    unfold fstN
    by_cases a : fstN c n < n
    · rw [if_pos a]; exact ⟨h1, by omega, fun _ => h3 a⟩
    · rw [if_neg a]
      have e : fstN c n = n := by omega
      rw [e] at h1
      by_cases b : c n
      · rw [ifp_t b]
        refine ⟨fun k hk => ?_, Nat.le_refl _, fun q => absurd q (Nat.lt_irrefl _)⟩
        rcases Nat.lt_or_ge k n with q | q
        · exact h1 k q
        · rw [show k = n by omega]; exact b
      · rw [ifp_f b]; exact ⟨h1, Nat.le_succ n, fun _ => b⟩
theorem fstN_hit {c : Nat → Prop} {n i : Nat} (h1 : ∀ e, e < i → c e) (h2 : ¬ c i) (hi : i < n) : fstN c n = i := by
  obtain ⟨a, b, d⟩ := fstN_spec c n
  rcases Nat.lt_trichotomy (fstN c n) i with q | q | q
  · exact absurd (h1 _ q) (d (by omega))
  · exact q
  · exact absurd (a i q) h2
theorem fstN_all {c : Nat → Prop} {n : Nat} (h : ∀ e, e < n → c e) : fstN c n = n := by
  obtain ⟨a, b, d⟩ := fstN_spec c n
  rcases Nat.lt_or_ge (fstN c n) n with q | q
  · exact absurd (h _ q) (d q)
  · omega
noncomputable def F_egg (k s n : Int32) (A : Abs) : Int32 × Abs := ifp (inB k 0 6 ∧ inB s 1 99 ∧ inB n 0 3) (ifp (frN A.1 8 < 8) (nI (frN A.1 8), wS A (putE A.1 (frN A.1 8) k s 0 n)) (noA A 1)) (noA A 0)
noncomputable def F_of (x w : Int32) (A : Abs) : Int32 × Abs := ifp (eggP A.1 x ∧ inB w 0 5) (if w = 4 then minE A.1 (tn x) else if w = 5 then keepB (eg A.1 (tn x) 0) else eg A.1 (tn x) (tn w), A) (noA A 0)
noncomputable def F_change (x w v : Int32) (A : Abs) : Int32 × Abs := ifp (eggP A.1 x ∧ takesP 0 w v) (eg A.1 (tn x) (tn w), wS A (upd A.1 (3 + 5 * tn x + tn w) v)) (noA A 0)
noncomputable def F_hen (x w v : Int32) (A : Abs) : Int32 × Abs := ifp ((¬ x < 0 ∧ x < 4) ∧ takesP 1 w v) (hn A.1 (tn x) (tn w), wS A (upd A.1 (43 + 4 * tn x + tn w) v)) (noA A 0)
noncomputable def F_work (x w v : Int32) (A : Abs) : Int32 × Abs := ifp ((¬ x < 0 ∧ x < 6) ∧ takesP 2 w v) (wk A.1 (tn x) (tn w), wS A (upd A.1 (59 + 4 * tn x + tn w) v)) (noA A 0)
noncomputable def F_henOf (x w : Int32) (A : Abs) : Int32 × Abs := ifp ((¬ x < 0 ∧ x < 4) ∧ ¬ w < 0 ∧ w < 4) (hn A.1 (tn x) (tn w), A) (noA A 0)
noncomputable def F_workOf (x w : Int32) (A : Abs) : Int32 × Abs := ifp ((¬ x < 0 ∧ x < 6) ∧ inB w 0 4) (if w = 4 then ifp (wk A.1 (tn x) 0 ≤ wk A.1 (tn x) 3) 1 0 else wk A.1 (tn x) (tn w), A) (noA A 0)
noncomputable def F_spend (x w : Int32) (A : Abs) : Int32 × Abs := ifp (eggP A.1 x ∧ ¬ w < 0 ∧ w < 6) (ifp (wk A.1 (tn w) 1 < A.1 0) (noA A 4) (spdG A.1 (tn x) (tn w), wS A (goS (upd A.1 (59 + 4 * tn w + 3) (spdG A.1 (tn x) (tn w))) (tn x)))) (noA A 0)
noncomputable def F_broken (x : Int32) (A : Abs) : Int32 × Abs := ifp (eggP A.1 x) (mE A.1 (tn x), wS A (goS A.1 (tn x))) (noA A 0)
noncomputable def F_go (n : Int32) (A : Abs) : Int32 × Abs := ifp (inB n 1 60) (ifp (99999 < A.1 0 + n) (noA A 4) (nI (popT (eggN (dayN A.1 (tn n)) 8)), wS A (dayN A.1 (tn n)))) (noA A 0)
noncomputable def F_now (w : Int32) (A : Abs) : Int32 × Abs := if w = 0 then (A.1 0, A) else if w = 1 then (nI (eggN A.1 8), A) else if w = 2 then (allM A.1 8, A) else if w = 3 then (nI (doneN A.1 6), A) else if w = 4 then (A.1 1, A) else noA A 0
noncomputable def F_ahead (n : Int32) (A : Abs) : Int32 × Abs := ifp (inB n 0 100) (allM (dayN A.1 (tn n)) 8, A) (noA A 0)
noncomputable def F_spoils (n : Int32) (A : Abs) : Int32 × Abs := ifp (inB n 0 100) (nI (dayC A.1 (tn n)), A) (noA A 0)
/-- the best of days so far -/
def ripN (S : Row) (e : Nat) : Nat → Nat
  | 0 => 0
  | n + 1 => if thenE S e (eg S e 0) (eg S e 2) (nI (ripN S e n)) < thenE S e (eg S e 0) (eg S e 2) (nI (n + 1)) then n + 1 else ripN S e n
def staysP (k age n : Int32) : Prop := ¬ (0 < n ∧ keepB k < age + n)
noncomputable def F_ripe (x : Int32) (A : Abs) : Int32 × Abs := ifp (eggP A.1 x) (nI (ripN A.1 (tn x) (fstN (fun i => staysP (eg A.1 (tn x) 0) (eg A.1 (tn x) 2) (nI (i + 1))) 100)), A) (noA A 0)
noncomputable def F_lasts (x : Int32) (A : Abs) : Int32 × Abs := ifp (eggP A.1 x) (nI (fstN (fun i => staysP (eg A.1 (tn x) 0) (eg A.1 (tn x) 2) (nI i)) 100), A) (noA A 0)
noncomputable def F_when (v : Int32) (A : Abs) : Int32 × Abs := ifp (inB v 0 9999) (ifp (fstN (fun i => allM (dayN A.1 i) 8 < v) 101 < 101) (nI (fstN (fun i => allM (dayN A.1 i) 8 < v) 101), A) (noA A 3)) (noA A 0)
def kforN (S : Row) (e : Nat) (n : Int32) : Nat → Nat
  | 0 => 0
  | k + 1 => if thenE S e (nI (kforN S e n k)) (eg S e 2) n < thenE S e (nI (k + 1)) (eg S e 2) n then k + 1 else kforN S e n k
noncomputable def F_kindFor (x n : Int32) (A : Abs) : Int32 × Abs := ifp (eggP A.1 x ∧ inB n 0 100) (nI (kforN A.1 (tn x) n 6), A) (noA A 0)
noncomputable def eveM (S : Row) (h n k : Nat) : Int32 := allM (dayN (upd S (43 + 4 * h) (nI k)) n) 8
noncomputable def eveN (S : Row) (h n : Nat) : Nat → Nat
  | 0 => 1
  | k + 1 => if eveM S h n (eveN S h n k) < eveM S h n (k + 2) then k + 2 else eveN S h n k
noncomputable def F_everyFor (x n : Int32) (A : Abs) : Int32 × Abs := ifp ((¬ x < 0 ∧ x < 4) ∧ inB n 0 60) (nI (eveN A.1 (tn x) (tn n) 29), A) (noA A 0)
def ofEg (S : Row) (s : Nat) : Prop := ∀ k, k < 8 → s.testBit k = true → thr S k
def doesP (S : Row) (w s : Nat) : Prop := ofEg S s ∧ (s = 0 ∨ ¬ wk S w 1 < S 0) ∧ wk S w 0 ≤ wk S w 3 + sumN S s 8
noncomputable def fewN (S : Row) (w : Nat) : Nat → Int32
  | 0 => -1
  | i + 1 => ifp (doesP S w i ∧ (fewN S w i < 0 ∨ popT i < popT (tn (fewN S w i)))) (nI i) (fewN S w i)
noncomputable def thrN (S : Row) (w : Nat) : Nat → Int32
  | 0 => -1
  | i + 1 => ifp (doesP S w i ∧ (thrN S w i < 0 ∨ sumN S i 8 < sumN S (tn (thrN S w i)) 8)) (nI i) (thrN S w i)
noncomputable def F_fewest (x : Int32) (A : Abs) : Int32 × Abs := ifp (¬ x < 0 ∧ x < 6) (ifp (fewN A.1 (tn x) 256 < 0) (noA A 3) (fewN A.1 (tn x) 256, A)) (noA A 0)
noncomputable def F_thrifty (x : Int32) (A : Abs) : Int32 × Abs := ifp (¬ x < 0 ∧ x < 6) (ifp (thrN A.1 (tn x) 256 < 0) (noA A 3) (thrN A.1 (tn x) 256, A)) (noA A 0)
noncomputable def F_soonest (x : Int32) (A : Abs) : Int32 × Abs := ifp (¬ x < 0 ∧ x < 6)
  (ifp (fstN (fun i => ¬ (¬ wk (dayN A.1 i) (tn x) 1 < dayN A.1 i 0 ∧ wk (dayN A.1 i) (tn x) 0 ≤ wk (dayN A.1 i) (tn x) 3 + allM (dayN A.1 i) 8)) 61 < 61)
    (nI (fstN (fun i => ¬ (¬ wk (dayN A.1 i) (tn x) 1 < dayN A.1 i 0 ∧ wk (dayN A.1 i) (tn x) 0 ≤ wk (dayN A.1 i) (tn x) 3 + allM (dayN A.1 i) 8)) 61), A) (noA A 3)) (noA A 0)
noncomputable def F_nest (n : Int32) (A : Abs) : Int32 × Abs := ifp (inB n 0 3) (nestM A.1 n 8, A) (noA A 0)
def guaN (S : Row) : Nat → Nat
  | 0 => 0
  | k + 1 => if nestM S (nI (guaN S k)) 8 < nestM S (nI (k + 1)) 8 then k + 1 else guaN S k
noncomputable def F_guard (A : Abs) : Int32 × Abs := (nI (guaN A.1 3), A)
def aparN (S : Row) (s : Nat) : Int32 := if 2 * sumN S s 8 - allM S 8 < 0 then -(2 * sumN S s 8 - allM S 8) else 2 * sumN S s 8 - allM S 8
noncomputable def halN (S : Row) : Nat → Nat
  | 0 => 0
  | k + 1 => ifp (ofEg S (k + 1) ∧ aparN S (k + 1) < aparN S (halN S k)) (k + 1) (halN S k)
noncomputable def F_halves (A : Abs) : Int32 × Abs := (nI (halN A.1 255), A)
noncomputable def F_apart (A : Abs) : Int32 × Abs := (aparN A.1 (halN A.1 255), A)
noncomputable def setN (S : Row) (v : Int32) : Nat → Nat
  | 0 => 0
  | k + 1 => setN S v k + ifp (ofEg S k ∧ sumN S k 8 = v) 1 0
noncomputable def F_sets (v : Int32) (A : Abs) : Int32 × Abs := ifp (inB v (-9999) 9999) (nI (setN A.1 v 256), A) (noA A 0)
/-- what is wrong with a sheet: 0 beyond, 5 missing; below 0: nothing -/
noncomputable def wrgS (A : Abs) (x : Int32) : Int32 := ifp (inB x 0 3) (if aW A (tn x) = 0 then 5 else -1) 0
noncomputable def wrgT (A : Abs) (x e : Int32) : Int32 := ifp (wrgS A x < 0) (ifp (eggP A.1 e) (-1) 0) (wrgS A x)
def fitP (A : Abs) (s e : Nat) (age : Int32) : Prop := ∀ n, n < tn (aN A s) → aX A s n = -1 ∨ aX A s n = thenE A.1 e (eg A.1 e 0) age (nI n)
noncomputable def ageN (A : Abs) (s e : Nat) : Nat → Nat
  | 0 => 0
  | k + 1 => ageN A s e k + ifp (fitP A s e (nI k)) 1 0
noncomputable def F_ages (x e : Int32) (A : Abs) : Int32 × Abs := ifp (wrgT A x e < 0) (nI (ageN A (tn x) (tn e) 100), A) (noA A (tn (wrgT A x e)))
noncomputable def F_youngest (x e : Int32) (A : Abs) : Int32 × Abs := ifp (wrgT A x e < 0) (ifp (fstN (fun i => ¬ fitP A (tn x) (tn e) (nI i)) 100 < 100) (nI (fstN (fun i => ¬ fitP A (tn x) (tn e) (nI i)) 100), A) (noA A 3)) (noA A (tn (wrgT A x e)))
noncomputable def foxsS (S : Row) : Nat → Row
  | 0 => S
  | n + 1 => dayS (foxS (foxsS S n))
noncomputable def foxsC (S : Row) : Nat → Nat
  | 0 => 0
  | n + 1 => foxsC S n + foxC (foxsS S n)
noncomputable def F_foxes (n : Int32) (A : Abs) : Int32 × Abs := ifp (inB n 1 20) (ifp (99999 < A.1 0 + n) (noA A 4) (nI (foxsC A.1 (tn n)), wS A (foxsS A.1 (tn n)))) (noA A 0)
def powL (b : Int64) : Nat → Int64
  | 0 => 1
  | n + 1 => powL b n * b
noncomputable def F_odds (n w : Int32) (A : Abs) : Int64 × Abs := ifp (inB n 0 20 ∧ inB w 0 1) (if w = 0 then powL 3 (tn n) else powL 4 (tn n), A) ((noA A 0).1.toInt64, (noA A 0).2)
noncomputable def F_seed (v : Int32) (A : Abs) : Int32 × Abs := (A.1 2, wS A (upd A.1 2 v))
/-- bytes put on the tape, greatest first -/
def tapB (b : Int32) (k : Nat) : Int32 := (b >>> (nI (8 * k) &&& 31)) &&& 255
def tapS (T : Row × Int32) (b : Int32) (n : Nat) : Nat → Row × Int32
  | 0 => T
  | i + 1 => (upd (tapS T b n i).1 (tn (tapS T b n i).2) (tapB b (n - 1 - i)), (tapS T b n i).2 + 1)
noncomputable def F_feed (b n : Int32) (A : Abs) : Int32 × Abs := ifp (inB n 1 4) (ifp (120 < aL A + n) (noA A 1) ((tapS (aT A, aL A) b (tn n) (tn n)).2, wT A (tapS (aT A, aL A) b (tn n) (tn n)))) (noA A 0)
noncomputable def F_wipe (A : Abs) : Int32 × Abs := (aL A, wT A (aT A, 0))
noncomputable def F_hold (k e : Int32) (A : Abs) : Int32 × Abs := ifp (inB k 0 9 ∧ inB e (-1) 7) (1, wS A (upd A.1 (83 + tn k) e)) (noA A 0)
/-- kinds under kinds -/
def undB (a b : Int32) : Prop := a = b ∨ b = 0 ∨ (a = 3 ∧ b = 2) ∨ (a = 4 ∧ (b = 3 ∨ b = 2)) ∨ (a = 6 ∧ b = 1)
noncomputable def F_as (k w : Int32) (A : Abs) : Int32 × Abs := ifp (inB k 0 9 ∧ inB w 0 6) (ifp (eggP A.1 (A.1 (83 + tn k))) (ifp (undB (eg A.1 (tn (A.1 (83 + tn k))) 0) w) (A.1 (83 + tn k), A) (noA A 2)) (noA A 5)) (noA A 0)
noncomputable def F_sheet (x b n : Int32) (A : Abs) : Int32 × Abs := ifp (inB x 0 3 ∧ (b = 0 ∨ b = 8 ∨ b = 16 ∨ b = 32)) (ifp (n < 0) (noA A 6) (ifp (40 < n) (noA A 0) (if b = 0 then 0 else n, wW A (upd (aW A) (tn x) b, upd (aN A) (tn x) (if b = 0 then 0 else n), fun s => if s = tn x then fun _ => 0 else aX A s)))) (noA A 0)
def updX (X : Nat → Row) (s i : Nat) (v : Int32) : Nat → Row := fun t => if t = s then upd (X s) i v else X t
noncomputable def F_write (x i v : Int32) (A : Abs) : Int32 × Abs := ifp (wrgS A x < 0) (ifp (0 ≤ i ∧ i < aN A (tn x)) (1, wW A (aW A, aN A, updX (aX A) (tn x) (tn i) (bitsV (aW A (tn x)) v))) (noA A 0)) (noA A (tn (wrgS A x)))
def copX (X : Nat → Row) (s f t o n : Nat) : Nat → Row := fun u => if u = t then fun i => if o ≤ i ∧ i < o + n then X s (f + (i - o)) else X t i else X u
noncomputable def F_copy (x f y o n : Int32) (A : Abs) : Int32 × Abs := ifp (inB x 0 3 ∧ inB y 0 3) (ifp (aW A (tn x) = 0 ∨ aW A (tn y) = 0) (noA A 5) (ifp (aW A (tn x) = aW A (tn y)) (ifp (0 ≤ n ∧ 0 ≤ f ∧ 0 ≤ o ∧ f ≤ aN A (tn x) - n ∧ o ≤ aN A (tn y) - n) (n, wW A (aW A, aN A, copX (aX A) (tn x) (tn f) (tn y) (tn o) (tn n))) (noA A 0)) (noA A 2))) (noA A 0)
def loaS (S : Row) (N : Row) : Nat → Row
  | 0 => S
  | n + 1 => upd (loaS S N n) (59 + 4 * n) (N n)
noncomputable def F_load (x : Int32) (A : Abs) : Int32 × Abs := ifp (wrgS A x < 0)
  (nI (fstN (fun i => nI i < aN A (tn x) ∧ inB (aX A (tn x) i) 0 999) 6), wS A (loaS A.1 (aX A (tn x)) (fstN (fun i => nI i < aN A (tn x) ∧ inB (aX A (tn x) i) 0 999) 6))) (noA A (tn (wrgS A x)))
def jdgP (S : Row) (N : Row) (i : Nat) : Prop := eggP S (N i) ∧ (∀ k, k < i → ¬ N k = N i) ∧ ∀ k, i = k + 1 → ¬ minE S (tn (N k)) < minE S (tn (N i))
noncomputable def F_judge (x : Int32) (A : Abs) : Int32 × Abs := ifp (wrgS A x < 0) (ifp (fstN (jdgP A.1 (aX A (tn x))) (tn (aN A (tn x))) < tn (aN A (tn x))) (nI (1 + fstN (jdgP A.1 (aX A (tn x))) (tn (aN A (tn x)))), A) (0, A)) (noA A (tn (wrgS A x)))
noncomputable def F_image (A : Abs) : Int32 × Abs := (1, wK A (some A.1))
noncomputable def F_undo (A : Abs) : Int32 × Abs := match aK A with
  | none => noA A 3
  | some K => (K 0, wS A K)
noncomputable def F_tear (A : Abs) : Int32 × Abs := (match aK A with | none => 0 | some _ => 1, wK A none)
noncomputable def F_count (w : Int32) (A : Abs) : Int32 × Abs := if w = 0 then (A.1 0, A) else if w = 1 then (nI (popT (eggN A.1 8)), A) else if w = 2 then (nI (popT (doneN A.1 6)), A) else if w = 3 then (A.1 1, A) else if w = 4 then (allM A.1 8, A)
  else if w = 5 then (aL A, A) else if w = 6 then (A.1 2, A) else if w = 7 then (nI (spotN A.1 10), A) else noA A 0
def fsum (F : Row) : Nat → Int32
  | 0 => 0
  | n + 1 => fsum F n + F n
def sum7 (F : Row) : Int32 := fsum F 7
noncomputable def F_status (w : Int32) (A : Abs) : Int32 × Abs := if w = -1 then (sum7 (aF A), A) else ifp (inB w 0 6) (aF A (tn w), A) (noA A 0)
/-! reading the class's sheets and rows -/
theorem aW_C {M : Mem} {s : Nat} (h : s < 4) : aW (aC M) s = M (29 + 2 * s) 1 := if_pos h
theorem aN_C {M : Mem} {s : Nat} (h : s < 4) : aN (aC M) s = M (29 + 2 * s) 2 := if_pos h
theorem aX_C {M : Mem} {s i : Nat} (h : s < 4) (hi : i < 40) : aX (aC M) s i = M (29 + 2 * s + 1) i := by
  show (if s < 4 then cut 40 (M (29 + 2 * s + 1)) else fun _ => 0) i = _
  rw [if_pos h]
  exact if_pos hi
theorem tn_nI {n : Nat} (h : n < 2 ^ 31) : tn (nI n) = n := nI_clamp h
theorem eggP_tn {S : Row} {x : Int32} (h : eggP S x) : tn x < 8 ∧ x = nI (tn x) ∧ thr S (tn x) := by
  obtain ⟨e, he, rfl, ht⟩ := eggP_i h
  rw [tn_nI (by omega)]
  exact ⟨he, rfl, ht⟩
theorem ix_tn {x : Int32} {n : Nat} (hn : n < 2 ^ 31) (h : ¬ x < 0 ∧ x < nI n) : tn x < n ∧ x = nI (tn x) := ⟨tn_lt h.1 h.2 hn, nI_tn h.1⟩
theorem inB_tn {x : Int32} {n : Nat} (hn : n + 1 < 2 ^ 31) (h : inB x 0 (nI n)) : tn x < n + 1 ∧ x = nI (tn x) := by
  have h0 : ¬ x < 0 := Int32.not_lt.mpr h.1
  have e := nI_tn h0
  refine ⟨?_, e⟩
  have h2 := h.2
  have hb : tn x < 2 ^ 31 := by
    have h1 := Int32.toInt_lt x
    show x.toInt.toNat < 2 ^ 31
    omega
  rw [e] at h2
  rcases Nat.lt_or_ge (tn x) (n + 1) with q | q
  · exact q
  · exact absurd h2 (Int32.not_le.mpr ((nI_ltI (by omega) hb).mpr (by omega)))
