/-! ===== THE HENHOUSE AS NUMBERS: a row S of 93 ints (day, spoiled, z, eggs, hens, works, spots), as the model holds it ===== -/
abbrev Row : Type := Nat → Int32
def eg (S : Row) (e f : Nat) : Int32 := S (3 + 5 * e + f)
def hn (S : Row) (h f : Nat) : Int32 := S (43 + 4 * h + f)
def wk (S : Row) (w f : Nat) : Int32 := S (59 + 4 * w + f)
abbrev thr (S : Row) (e : Nat) : Prop := eg S e 4 = 1
/-- the row, read off a house of the class -/
def vw (M : Mem) (h : Nat) : Row := fun k =>
  if k = 0 then M h 4 else if k = 1 then M h 5 else if k = 2 then M h 6
  else if k < 43 then (if M (h + (0 + 4)) (4 * ((k - 3) / 5)) = -1 then 0 else if (k - 3) % 5 = 4 then 1 else M (h + (0 + 4)) (4 * ((k - 3) / 5) + (k - 3) % 5))
  else if k < 59 then M (h + (1 + 4)) (k - 43) else if k < 83 then M (h + (2 + 4)) (k - 59) else if k < 93 then M (h + 7) (k - 83) else 0
/-- the row of the model -/
def vm (M : Mem) : Row := fun k => if k < 93 then M 41 k else 0
theorem vw_0 {M : Mem} {h : Nat} : vw M h 0 = M h 4 := rfl
theorem vw_1 {M : Mem} {h : Nat} : vw M h 1 = M h 5 := rfl
theorem vw_2 {M : Mem} {h : Nat} : vw M h 2 = M h 6 := rfl
theorem vw_eg {M : Mem} {h e f : Nat} (he : e < 8) (hf : f < 4) : eg (vw M h) e f = if M (h + (0 + 4)) (4 * e) = -1 then 0 else M (h + (0 + 4)) (4 * e + f) := by
  unfold eg vw
  rw [if_neg (by omega), if_neg (by omega), if_neg (by omega), if_pos (by omega)]
  rw [show (3 + 5 * e + f - 3) / 5 = e by omega, show (3 + 5 * e + f - 3) % 5 = f by omega]
  rw [if_neg (show ¬ f = 4 by omega)]
theorem vw_e4 {M : Mem} {h e : Nat} (he : e < 8) : eg (vw M h) e 4 = if M (h + (0 + 4)) (4 * e) = -1 then 0 else 1 := by
  unfold eg vw
  rw [if_neg (by omega), if_neg (by omega), if_neg (by omega), if_pos (by omega)]
  rw [show (3 + 5 * e + 4 - 3) / 5 = e by omega, show (3 + 5 * e + 4 - 3) % 5 = 4 by omega]
  rw [if_pos rfl]
theorem vw_thr {M : Mem} {h e : Nat} (he : e < 8) : thr (vw M h) e ↔ ¬ M (h + (0 + 4)) (4 * e) = -1 := by
  unfold thr
  rw [vw_e4 he]
  by_cases q : M (h + (0 + 4)) (4 * e) = -1
  · rw [if_pos q]; exact ⟨fun z => absurd z (by decide), fun z => absurd q z⟩
  · rw [if_neg q]; exact ⟨fun _ => q, fun _ => rfl⟩
theorem vw_there {M : Mem} {h e f : Nat} (he : e < 8) (hf : f < 4) (ht : thr (vw M h) e) : M (h + (0 + 4)) (4 * e + f) = eg (vw M h) e f := by
  rw [vw_eg he hf, if_neg ((vw_thr he).mp ht)]
theorem vw_hn {M : Mem} {h a f : Nat} (ha : a < 4) (hf : f < 4) : hn (vw M h) a f = M (h + (1 + 4)) (4 * a + f) := by
  unfold hn vw
  rw [if_neg (by omega), if_neg (by omega), if_neg (by omega), if_neg (by omega), if_pos (by omega)]
  rw [show 43 + 4 * a + f - 43 = 4 * a + f by omega]
theorem vw_wk {M : Mem} {h a f : Nat} (ha : a < 6) (hf : f < 4) : wk (vw M h) a f = M (h + (2 + 4)) (4 * a + f) := by
  unfold wk vw
  rw [if_neg (by omega), if_neg (by omega), if_neg (by omega), if_neg (by omega), if_neg (by omega), if_pos (by omega)]
  rw [show 59 + 4 * a + f - 59 = 4 * a + f by omega]
theorem vw_sp {M : Mem} {h a : Nat} (ha : a < 10) : vw M h (83 + a) = M (h + 7) a := by
  unfold vw
  rw [if_neg (by omega), if_neg (by omega), if_neg (by omega), if_neg (by omega), if_neg (by omega), if_neg (by omega), if_pos (by omega)]
  rw [show 83 + a - 83 = a by omega]
theorem vw_same {M M' : Mem} {h : Nat} {L : List Nat} (hs : same L M M') (h0 : h ∉ L) (h4 : h + (0 + 4) ∉ L) (h5 : h + (1 + 4) ∉ L) (h6 : h + (2 + 4) ∉ L) (h7 : h + 7 ∉ L) : vw M' h = vw M h := by
  funext k
  unfold vw
  rw [hs _ h0, hs _ h4, hs _ h5, hs _ h6, hs _ h7]
theorem vm_same {M M' : Mem} (h : M' 41 = M 41) : vm M' = vm M := by
  funext k
  unfold vm
  rw [h]
theorem vm_at {M : Mem} {k : Nat} (hk : k < 93) : vm M k = M 41 k := if_pos hk
theorem vm_up {M : Mem} {k : Nat} {x : Int32} (hk : k < 93) : vm (up M 41 k x) = upd (vm M) k x := by
  funext a
  by_cases h : a = k
  · subst h
    rw [vm_at hk, up_ss, pk_us]
  · rw [pk_un h]
    unfold vm
    rw [up_sn h]
/-! an index of Java's and its number -/
theorem nI_tn {x : Int32} (h : ¬ x < 0) : x = nI x.toNatClampNeg := by
  apply Int32.toInt_inj.mp
  have h0 : (0 : Int) ≤ x.toInt := by
    have := Int32.not_lt.mp h
    simpa using Int32.le_iff_toInt_le.mp this
  have h1 := Int32.toInt_lt x
  have e : (x.toNatClampNeg : Int) = x.toInt := by
    show ((x.toInt.toNat : Nat) : Int) = x.toInt
    omega
  rw [nI_toInt (by omega), e]
theorem tn_lt {x : Int32} {n : Nat} (h : ¬ x < 0) (h2 : x < nI n) (hn : n < 2 ^ 31) : x.toNatClampNeg < n := by
  have e := nI_tn h
  rw [e] at h2
  have h1 := Int32.toInt_lt x
  have hb : x.toNatClampNeg < 2 ^ 31 := by
    show x.toInt.toNat < 2 ^ 31
    omega
  exact (nI_ltI hb hn).mp h2
theorem tn_lt' {x : Int32} {n : Nat} (h : ¬ x < 0) (h2 : ¬ nI n ≤ x) (hn : n < 2 ^ 31) : x.toNatClampNeg < n := tn_lt h (Int32.not_le.mp h2) hn
theorem nI_r (n : Nat) (h : n < 2 ^ 31) : 0 ≤ nI n ∧ (nI n).toInt = n ∧ (nI n).toNatClampNeg = n := ⟨nI_pos' h, nI_toInt h, nI_clamp h⟩
/-- an index in range, by cases -/
theorem ix_cases (x : Int32) (n : Nat) (hn : n < 2 ^ 31) : (∃ j, j < n ∧ x = nI j) ∨ (x < 0 ∨ nI n ≤ x) := by
  rcases pk_ix x hn with h | h | ⟨j, h1, h2⟩
  · exact Or.inr (Or.inl h)
  · exact Or.inr (Or.inr h)
  · exact Or.inl ⟨j, h1, h2⟩
/-! minutes, keeps -/
def plainB (size age : Int32) : Int32 := if 0 < size - age then size - age else 0
def leapB (size age day : Int32) : Int32 := plainB size age + (if day - day / 4 * 4 = 0 then 10 else 0)
def warmB (size age : Int32) : Int32 := plainB size age + (if 30 < 2 * age then 30 else 2 * age)
def minB (kind size age day : Int32) : Int32 :=
  if kind = 1 then leapB size age day else if kind = 2 then warmB size age else if kind = 3 then warmB size age - 15 else if kind = 4 then 15 - warmB size age
  else if kind = 5 then plainB size age / 2 else if kind = 6 then 2 * leapB size age day else plainB size age
def keepB (kind : Int32) : Int32 := if kind = 2 ∨ kind = 3 then 60 else if kind = 4 then 9 else if kind = 5 then 5 else if kind = 6 then 20 else 30
/-- minutes of the egg at a place (0, if there is none) -/
def minE (S : Row) (e : Nat) : Int32 := minB (eg S e 0) (eg S e 1) (eg S e 2) (S 0)
def capD (x : Int32) : Int32 := if 99999 < x then 99999 else x
/-- minutes of the egg at a place as of a kind and an age behind n days; 0 if it is gone then -/
def thenE (S : Row) (e : Nat) (kind age n : Int32) : Int32 := if 0 < n ∧ keepB kind < age + n then 0 else minB kind (eg S e 1) (age + n) (capD (S 0 + n))
theorem minB_0 (d : Int32) : minB 0 0 0 d = 0 := by
  unfold minB plainB
  rw [if_neg (by decide), if_neg (by decide), if_neg (by decide), if_neg (by decide), if_neg (by decide), if_neg (by decide)]
  rfl
/-- what a henhouse may hold -/
def inB (x a b : Int32) : Prop := a ≤ x ∧ x ≤ b
def okE (S : Row) (e : Nat) : Prop := (thr S e ∧ inB (eg S e 0) 0 6 ∧ inB (eg S e 1) 1 99 ∧ inB (eg S e 2) 0 99 ∧ inB (eg S e 3) 0 3) ∨ (eg S e 4 = 0 ∧ eg S e 0 = 0 ∧ eg S e 1 = 0 ∧ eg S e 2 = 0 ∧ eg S e 3 = 0)
def okH (S : Row) (h : Nat) : Prop := inB (hn S h 0) 0 30 ∧ inB (hn S h 1) 0 6 ∧ inB (hn S h 2) 1 99 ∧ inB (hn S h 3) 0 3
def okWk (S : Row) (w : Nat) : Prop := inB (wk S w 0) 0 999 ∧ inB (wk S w 1) 0 99999 ∧ inB (wk S w 2) 0 99 ∧ inB (wk S w 3) (-9999) 9999
def okRow (S : Row) : Prop := inB (S 0) 0 99999 ∧ inB (S 1) 0 99999 ∧ (∀ e, e < 8 → okE S e) ∧ (∀ h, h < 4 → okH S h) ∧ (∀ w, w < 6 → okWk S w) ∧ (∀ k, k < 10 → inB (S (83 + k)) (-1) 7) ∧ ∀ k, 93 ≤ k → S k = 0
