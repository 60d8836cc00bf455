/-! ===== sums, sets, spending, foxes ===== -/
theorem lp_ge {i N : Nat} (hN : N < 2 ^ 31) (hi : i ≤ N) (c : nI N ≤ nI i) : i = N := by
  have := (nI_leI hN (by omega)).mp c
  omega
theorem lp_lt {i N : Nat} (hN : N < 2 ^ 31) (hi : i ≤ N) (c : ¬ nI N ≤ nI i) : i < N := by
  have := mt (nI_leI hN (by omega)).mpr c
  omega
theorem tab_eg {M : Mem} {h e f : Nat} {x c : Int32} (hx : x = nI e) (hc : c = nI f) (he : e < 8) (hf : f < 4) (ht : thr (vw M h) e) : tabAt M h 0 x c = eg (vw M h) e f := (tabAt_e (j := 0) hx hc (by decide) he hf).trans (vw_there he hf ht)
theorem tab_hn {M : Mem} {h a f : Nat} {x c : Int32} (hx : x = nI a) (hc : c = nI f) (ha : a < 4) (hf : f < 4) : tabAt M h 1 x c = hn (vw M h) a f := (tabAt_e (j := 1) hx hc (by decide) ha hf).trans (vw_hn ha hf).symm
theorem tab_wk {M : Mem} {h a f : Nat} {x c : Int32} (hx : x = nI a) (hc : c = nI f) (ha : a < 6) (hf : f < 4) : tabAt M h 2 x c = wk (vw M h) a f := (tabAt_e (j := 2) hx hc (by decide) ha hf).trans (vw_wk ha hf).symm
def mE (S : Row) (e : Nat) : Int32 := if thr S e then minE S e else 0
def allM (S : Row) : Nat → Int32
  | 0 => 0
  | k + 1 => allM S k + mE S k
def nestM (S : Row) (nest : Int32) : Nat → Int32
  | 0 => 0
  | k + 1 => nestM S nest k + if thr S k ∧ eg S k 3 = nest then minE S k else 0
def doneN (S : Row) : Nat → Nat
  | 0 => 0
  | k + 1 => doneN S k + if wk S k 0 ≤ wk S k 3 then 2 ^ k else 0
theorem doneN_lt (S : Row) : ∀ k, doneN S k < 2 ^ k
  | 0 => Nat.one_pos
  | k + 1 => by
    have := doneN_lt S k
    unfold doneN
    rw [Nat.pow_succ]
    split <;> omega
theorem mE_minE {S : Row} {e : Nat} (he : e < 8) (o : okRow S) : mE S e = minE S e := by
  unfold mE
  by_cases ht : thr S e
  · rw [if_pos ht]
  · rw [if_neg ht]
    rcases o.2.2.1 e he with q | ⟨-, q1, q2, q3, -⟩
    · exact absurd q.1 ht
    · unfold minE; rw [q1, q2, q3, minB_0]
theorem then_0 {S : Row} {e : Nat} (ht : thr S e) (o : okRow S) : thenE S e (eg S e 0) (eg S e 2) 0 = mE S e := by
  unfold thenE mE minE
  rw [if_neg (fun q => absurd q.1 (by decide)), if_pos ht, Int32.add_zero, Int32.add_zero]
  have h0 : ¬ 99999 < S 0 := by
    have := o.1.2
    grind
  unfold capD
  rw [if_neg h0]
def clampG (x : Int32) : Int32 := if -9999 < (if x < 9999 then x else 9999) then (if x < 9999 then x else 9999) else -9999
def spdG (S : Row) (e w : Nat) : Int32 := clampG (wk S w 3 + mE S e)
def spotN (S : Row) : Nat → Nat
  | 0 => 0
  | k + 1 => spotN S k + if S (83 + k) < 0 then 0 else 1
theorem clampG_ok (x : Int32) : inB (clampG x) (-9999) 9999 := by
  unfold clampG inB
  grind
def foxZ (z : Int32) : Int32 := z * 1103515245 + 12345
def foxU (z : Int32) : Int32 := (z.toUInt32 >>> ((8 : Int32).toUInt32 &&& Int32.toUInt32 31)).toInt32
def foxT (z : Int32) : Int32 := foxU z - foxU z / 4 * 4
def foxL (S : Row) (nest : Int32) : Nat → Row
  | 0 => S
  | k + 1 => if thr (foxL S nest k) k ∧ eg (foxL S nest k) k 3 = nest then goS (foxL S nest k) k else foxL S nest k
def foxN (S : Row) (nest : Int32) : Nat → Nat
  | 0 => 0
  | k + 1 => foxN S nest k + if thr (foxL S nest k) k ∧ eg (foxL S nest k) k 3 = nest then 1 else 0
def foxS (S : Row) : Row := foxL (upd S 2 (foxZ (S 2))) (foxT (foxZ (S 2))) 8
def foxC (S : Row) : Nat := foxN (upd S 2 (foxZ (S 2))) (foxT (foxZ (S 2))) 8
theorem okRow_foxL {S : Row} {nest : Int32} (o : okRow S) : ∀ n, n ≤ 8 → okRow (foxL S nest n)
  | 0, _ => o
  | n + 1, h => by
    unfold foxL
    split
    · exact okRow_go (by omega) (okRow_foxL o n (by omega))
    · exact okRow_foxL o n (by omega)
theorem okRow_fox {S : Row} (o : okRow S) : okRow (foxS S) := okRow_foxL (okRow_d (by decide) (fun h => absurd h (by decide)) o) 8 (by decide)
theorem foxN_le (S : Row) (nest : Int32) : ∀ n, foxN S nest n ≤ n
  | 0 => Nat.le_refl 0
  | n + 1 => by
    have := foxN_le S nest n
    unfold foxN
    split <;> omega
theorem foxL_o (S : Row) (nest : Int32) : ∀ n k, (k < 3 ∨ 3 + 5 * n ≤ k) → foxL S nest n k = S k
  | 0, k, _ => rfl
  | n + 1, k, h => by
    unfold foxL
    split
    · rw [goS_o (by omega)]; exact foxL_o S nest n k (by omega)
    · exact foxL_o S nest n k (by omega)
theorem foxL_eg {S : Row} {nest : Int32} {n e f : Nat} (h : n ≤ e) : eg (foxL S nest n) e f = eg S e f := foxL_o S nest n _ (by omega)
theorem foxU_r (z : Int32) : 0 ≤ foxU z := by
  have h : (foxU z).toBitVec.toNat = z.toBitVec.toNat / 2 ^ 8 := pk_ushr z 8 8 (by decide)
  have h2 : z.toBitVec.toNat < 2 ^ 32 := z.toBitVec.isLt
  rw [Int32.le_iff_toInt_le]
  show (0 : Int) ≤ (foxU z).toBitVec.toInt
  rw [BitVec.toInt_eq_toNat_of_lt (by omega)]
  omega
theorem up_up_cells {S : Row} {w : Nat} (x : Int32) : upd S (59 + (4 * w + 3)) x = upd S (59 + 4 * w + 3) x := by rw [Nat.add_assoc]
/-- a copied row is the row -/
theorem vw_copy {M M' : Mem} {h h2 : Nat} (e4 : M' h 4 = M h2 4) (e5 : M' h 5 = M h2 5) (e6 : M' h 6 = M h2 6) (he : ∀ i, i < 32 → M' (h + (0 + 4)) i = M (h2 + (0 + 4)) i) (hh : ∀ i, i < 32 → M' (h + (1 + 4)) i = M (h2 + (1 + 4)) i) (hw : ∀ i, i < 32 → M' (h + (2 + 4)) i = M (h2 + (2 + 4)) i) (hs : ∀ i, i < 10 → M' (h + 7) i = M (h2 + 7) i) : vw M' h = vw M h2 := by
  funext k
  unfold vw
  rw [e4, e5, e6]
  by_cases a0 : k = 0; · rw [if_pos a0, if_pos a0]
  by_cases a1 : k = 1; · rw [if_neg a0, if_pos a1, if_neg a0, if_pos a1]
  by_cases a2 : k = 2; · rw [if_neg a0, if_neg a1, if_pos a2, if_neg a0, if_neg a1, if_pos a2]
  rw [if_neg a0, if_neg a1, if_neg a2, if_neg a0, if_neg a1, if_neg a2]
  by_cases b : k < 43
  · rw [if_pos b, if_pos b, he _ (by omega)]
    by_cases q : (k - 3) % 5 = 4
    · rw [if_pos q, if_pos q]
    · rw [if_neg q, if_neg q, he _ (by omega)]
  by_cases c : k < 59
  · rw [if_neg b, if_pos c, if_neg b, if_pos c, hh _ (by omega)]
  by_cases d : k < 83
  · rw [if_neg b, if_neg c, if_pos d, if_neg b, if_neg c, if_pos d, hw _ (by omega)]
  by_cases f : k < 93
  · rw [if_neg b, if_neg c, if_neg d, if_pos f, if_neg b, if_neg c, if_neg d, if_pos f, hs _ (by omega)]
  · rw [if_neg b, if_neg c, if_neg d, if_neg f, if_neg b, if_neg c, if_neg d, if_neg f]
