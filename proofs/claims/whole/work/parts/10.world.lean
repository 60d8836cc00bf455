/-! ===== THE WORLD: one memory over numbered places; the judgement X over it ===== -/
abbrev Mem : Type := Nat → Nat → Int32
def upR (M : Mem) (k : Nat) (f : Nat → Int32) : Mem := fun a => if a = k then f else M a
def up (M : Mem) (k i : Nat) (x : Int32) : Mem := upR M k (upd (M k) i x)
theorem upR_s {M : Mem} {k : Nat} {f : Nat → Int32} : upR M k f k = f := if_pos rfl
theorem upR_n {M : Mem} {k a : Nat} {f : Nat → Int32} (h : a ≠ k) : upR M k f a = M a := if_neg h
theorem up_n {M : Mem} {k i a : Nat} {x : Int32} (h : a ≠ k) : up M k i x a = M a := if_neg h
theorem up_s {M : Mem} {k i : Nat} {x : Int32} : up M k i x k = upd (M k) i x := if_pos rfl
theorem up_ss {M : Mem} {k i : Nat} {x : Int32} : up M k i x k i = x := by rw [up_s]; exact pk_us
theorem up_sn {M : Mem} {k i j : Nat} {x : Int32} (h : j ≠ i) : up M k i x k j = M k j := by rw [up_s]; exact pk_un h
theorem up_any (M : Mem) (k i : Nat) (x : Int32) (a j : Nat) : up M k i x a j = if a = k ∧ j = i then x else M a j := by
  by_cases h : a = k
  · subst h
    rw [up_s]
    by_cases h2 : j = i
    · subst h2; rw [pk_us, if_pos ⟨rfl, rfl⟩]
    · rw [pk_un h2, if_neg (fun q => h2 q.2)]
  · rw [up_n h, if_neg (fun q => h q.1)]
/-- a long as two ints -/
def mkL (a b : Int32) : Int64 := Int64.ofInt (a.toInt * 4294967296 + b.toInt)
def loL (v : Int64) : Int32 := Int32.ofInt v.toInt
def hiL (v : Int64) : Int32 := Int32.ofInt ((v.toInt - (loL v).toInt) / 4294967296)
/-- addresses of the places, addresses of tables and texts, classes of arrays (int, char, boolean, Sheet), the classes' numbers, how many places -/
abbrev Gp : Type := (Nat → Nat) × (Nat → Nat) × (ClassId × ClassId × ClassId × ClassId) × va_G × Nat
def gad (g : Gp) : Nat → Nat := g.1
def gsa (g : Gp) : Nat → Nat := g.2.1
def gcI (g : Gp) : ClassId := g.2.2.1.1
def gcC (g : Gp) : ClassId := g.2.2.1.2.1
def gcZ (g : Gp) : ClassId := g.2.2.1.2.2.1
def gcO (g : Gp) : ClassId := g.2.2.1.2.2.2
def gD (g : Gp) : va_G := g.2.2.2.1
def gn (g : Gp) : Nat := g.2.2.2.2
def gtys (g : Gp) : List (ClassId × FieldType) := [(gcI g, .int), (gcC g, .char), (gcZ g, .boolean), (gcO g, .object "HourEggs$Sheet")]
def eI (g : Gp) (n : Nat) (f : Nat → Int32) : va_E := .inl (gcI g, n, .inl f)
def eC (g : Gp) (n : Nat) (f : Nat → Int32) : va_E := .inl (gcC g, n, .inl f)
def eZ (g : Gp) (n : Nat) (f : Nat → Int32) : va_E := .inl (gcZ g, n, .inl f)
def rowsT (j : Nat) : Int32 := if j = 0 then 8 else if j = 1 then 4 else 6
/-- a house and what is in it, from place h on -/
def entH (g : Gp) (h j : Nat) (f : Nat → Int32) : va_E :=
  if j = 0 then .inr (1, [.ref (gad g (h + 1)), .ref (gad g (h + 2)), .ref (gad g (h + 3)), .ref (gad g (h + 7)), .int (f 4), .int (f 5), .int (f 6)])
  else if j < 4 then .inr (4, [.int (rowsT (j - 1)), .ref (gsa g (2 * (j - 1))), .ref (gsa g (2 * (j - 1) + 1)), .ref (gad g (h + j + 3))])
  else if j < 7 then eI g 32 f
  else eI g 10 f
def entX (g : Gp) (k : Nat) (f : Nat → Int32) : va_E :=
  if k = 25 then .inr (0, [.ref (gad g 26), .ref (gad g 27), .int (f 2)])
  else if k < 28 then eI g 256 f
  else if k = 28 then .inl (gcO g, 4, .inr (.inr (.inr (.inr (fun i => some (gad g (29 + 2 * i)))))))
  else if k < 37 then (if k % 2 = 1 then .inr (3, [.ref (gad g (k + 1)), .int (f 1), .int (f 2)]) else eI g 40 f)
  else if k = 37 then .inr (5, [.ref (gad g 38), .int (f 1)])
  else if k = 38 then eI g 120 f
  else eI g 7 f
def lenM (k : Nat) : Nat := if k < 44 then 93 else if k = 44 then 7 else if k = 46 then 256 else if k = 47 then 120 else if k = 52 then 4 else if k = 53 then 4 else if k = 54 then 160 else 40
def lenC (k : Nat) : Nat := if k = 48 then 56 else 16
def entM (g : Gp) (k : Nat) (f : Nat → Int32) : va_E :=
  if k = 40 then .inr (7, [.ref (gad g 41), .ref (gad g 42), .ref (gad g 43), .int (f 3), .ref (gad g 44), .ref (gad g 45), .ref (gad g 46), .ref (gad g 47), .int (f 8), .int (f 9), .int (f 10), .int (f 11), .long (mkL (f 12) (f 21)), .ref (gad g 48), .ref (gad g 49), .ref (gad g 50), .ref (gad g 51), .ref (gad g 52), .ref (gad g 53), .ref (gad g 54), .ref (gad g 55)])
  else if k = 45 then eZ g 16384 f
  else if k < 48 then eI g (lenM k) f
  else if k < 52 then eC g (lenC k) f
  else eI g (lenM k) f
/-- what lies at a place: 0 the class's object, 1 to 24 its houses, 25 to 39 the rest of it, 40 to 55 the model, 56 a reader -/
def ent (g : Gp) (k : Nat) (f : Nat → Int32) : va_E :=
  if k = 0 then .inr (6, [.ref (gad g 1), .ref (gad g 9), .ref (gad g 17), .ref (gad g 25), .ref (gad g 28), .ref (gad g 37), .ref (gad g 39), .int (f 7)])
  else if k < 25 then entH g ((k - 1) / 8 * 8 + 1) ((k - 1) % 8) f
  else if k < 40 then entX g k f
  else if k < 56 then entM g k f
  else .inr (2, [.ref (gad g 37), .ref (gad g 17), .int (f 2), .int (f 3), .int (f 4), .int (f 5)])
def isH (h : Nat) : Prop := h = 1 ∨ h = 9 ∨ h = 17
theorem ent_H0 {g : Gp} {h : Nat} (hh : isH h) (f : Nat → Int32) : ent g h f = .inr (1, [.ref (gad g (h + 1)), .ref (gad g (h + 2)), .ref (gad g (h + 3)), .ref (gad g (h + 7)), .int (f 4), .int (f 5), .int (f 6)]) := by
  rcases hh with rfl | rfl | rfl <;> rfl
theorem ent_HT {g : Gp} {h : Nat} (hh : isH h) (j : Nat) (hj : j < 3) (f : Nat → Int32) : ent g (h + (j + 1)) f = .inr (4, [.int (rowsT j), .ref (gsa g (2 * j)), .ref (gsa g (2 * j + 1)), .ref (gad g (h + (j + 4)))]) := by
  rcases hh with rfl | rfl | rfl <;> rcases (show j = 0 ∨ j = 1 ∨ j = 2 by omega) with rfl | rfl | rfl <;> rfl
theorem ent_HC {g : Gp} {h : Nat} (hh : isH h) (j : Nat) (hj : j < 3) (f : Nat → Int32) : ent g (h + (j + 4)) f = eI g 32 f := by
  rcases hh with rfl | rfl | rfl <;> rcases (show j = 0 ∨ j = 1 ∨ j = 2 by omega) with rfl | rfl | rfl <;> rfl
theorem ent_HS {g : Gp} {h : Nat} (hh : isH h) (f : Nat → Int32) : ent g (h + 7) f = eI g 10 f := by
  rcases hh with rfl | rfl | rfl <;> rfl
theorem isH_lt {h : Nat} (hh : isH h) (j : Nat) (hj : j < 8) : h + j < 56 := by rcases hh with rfl | rfl | rfl <;> omega
def Wd (g : Gp) (M : Mem) : va_W := (List.range (gn g)).map (fun k => (gad g k, ent g k (M k)))
theorem Wd_len (g : Gp) (M : Mem) : (Wd g M).length = gn g := by simp [Wd]
theorem Wd_at {g : Gp} {M : Mem} {k : Nat} (hk : k < gn g) : (Wd g M)[k]? = some (gad g k, ent g k (M k)) := by simp [Wd, hk]
theorem Wd_atI {g : Gp} {M : Mem} {k : Nat} {q : Nat × va_E} (h : (Wd g M)[k]? = some q) : k < gn g ∧ q = (gad g k, ent g k (M k)) := by
  have hk : k < gn g := by rw [← Wd_len g M]; exact (List.getElem?_eq_some_iff.mp h).1
  exact ⟨hk, (Option.some.inj (h.symm.trans (Wd_at hk)))⟩
theorem Wd_set {g : Gp} {M : Mem} {k : Nat} (f : Nat → Int32) : (Wd g M).set k (gad g k, ent g k f) = Wd g (upR M k f) := by
  apply List.ext_getElem?
  intro i
  by_cases hi : i < gn g
  · by_cases hk : k = i
    · subst hk
      rw [List.getElem?_set_self (by rw [Wd_len]; exact hi), Wd_at hi, upR_s]
    · rw [List.getElem?_set_ne hk, Wd_at hi, Wd_at hi, upR_n (Ne.symm hk)]
  · rw [List.getElem?_eq_none (by rw [List.length_set, Wd_len]; omega), List.getElem?_eq_none (by rw [Wd_len]; omega)]
def Adok (A : Nat → Prop) (g : Gp) : Prop := (∀ i j, i < gn g → j < gn g → gad g i = gad g j → i = j) ∧ ∀ k, k < gn g → A (gad g k)
theorem Adok.D {A : Nat → Prop} {g : Gp} (h : Adok A g) (M : Mem) : va_D A (Wd g M) := by
  refine ⟨fun i j p q hi hj hpq => ?_, fun k q hk => ?_⟩
  · obtain ⟨h1, rfl⟩ := Wd_atI hi
    obtain ⟨h2, rfl⟩ := Wd_atI hj
    exact h.1 i j h1 h2 hpq
  · obtain ⟨h1, rfl⟩ := Wd_atI hk
    exact h.2 k h1
theorem Adok.of {A : Nat → Prop} {g : Gp} {M : Mem} (h : va_D A (Wd g M)) : Adok A g :=
  ⟨fun i j hi hj e => h.1 i j _ _ (Wd_at hi) (Wd_at hj) e, fun k hk => h.2 k _ (Wd_at hk)⟩
/-- what a call over the world may change: its places, and what is new -/
def Ag (g : Gp) (sz : Nat) : Nat → Prop := fun q => (∃ k, k < gn g ∧ q = gad g k) ∨ sz ≤ q
theorem Ag_in {g : Gp} {sz k : Nat} (h : k < gn g) : Ag g sz (gad g k) := Or.inl ⟨k, h, rfl⟩
/-- static tables: least, most of eggs, hens, works; UPPER, KEEPS -/
def tabs : List (List Int32) := [[0, 1, 0, 0], [6, 99, 99, 3], [0, 0, 1, 0], [30, 6, 99, 3], [0, 0, 0, -9999], [999, 99999, 99, 9999], [-1, 0, 0, 2, 3, 0, 1], [30, 30, 60, 60, 9, 5, 20]]
def tabN : List (String × String) := [("HourEggs$House", "EGG_LEAST"), ("HourEggs$House", "EGG_MOST"), ("HourEggs$House", "HEN_LEAST"), ("HourEggs$House", "HEN_MOST"), ("HourEggs$House", "WORK_LEAST"), ("HourEggs$House", "WORK_MOST"), ("HourEggs$Kinds", "UPPER"), ("HourEggs$Kinds", "KEEPS")]
def tabL (i : Nat) : Nat := (tabs.getD i []).length
def tabV (i j : Nat) : Int32 := (tabs.getD i []).getD j 0
/-- texts: the kinds' words, hen, work, aged, in, due, worth -/
def sTx : List String := ["egg", "leap", "warm", "borrowed", "rotten", "wind", "double", "hen", "work", "aged", "in", "due", "worth"]
def sIx : List Nat := [117, 105, 107, 109, 111, 113, 115, 32, 83, 61, 67, 85, 94]
def sBy : List (List Int32) := [[101, 103, 103], [108, 101, 97, 112], [119, 97, 114, 109], [98, 111, 114, 114, 111, 119, 101, 100], [114, 111, 116, 116, 101, 110], [119, 105, 110, 100], [100, 111, 117, 98, 108, 101], [104, 101, 110], [119, 111, 114, 107], [97, 103, 101, 100], [105, 110], [100, 117, 101], [119, 111, 114, 116, 104]]
def sLn : List Nat := [3, 4, 4, 8, 6, 4, 6, 3, 4, 4, 2, 3, 5]
def Sta (g : Gp) (A : Nat → Prop) (U : State) (H : Heap) : Prop :=
  (∀ i, i < 8 → va_T .int (gsa g i) (tabL i) (fun j => .int (tabV i j)) A U H ∧ va_Z (tabN.getD i ("", "")).1 (tabN.getD i ("", "")).2 "[I" (.ref (gsa g i)) A U H) ∧
  vk_S 13 sLn sBy (fun i => gsa g (8 + i)) (fun i => gsa g (21 + i)) A U H ∧ va_Z "java/lang/String" "COMPACT_STRINGS" "Z" (.int 1) A U H ∧ va_Zq "jdk/internal/util/Preconditions" "SIOOBE_FORMATTER" "Ljava/util/function/BiFunction;" A U H
/-- calls of a nest mate's private members -/
def nests : List (String × Nat × MethodName) := [(RX5, 29, yX7_copyRow), (RX1, 65, yX7_copyRow), (RX7, 24, yX0_init), (RX7, 35, yX4_init), (RX7, 38, yX6_init)]
def StR (g : Gp) (U : State) : Prop := (∀ i, i < 13 → vk_R "HourEggs$Reader" (sIx.getD i 0) (sTx.getD i "") (gsa g (8 + i)) U) ∧ ∀ x ∈ nests, va_Nw (.methodLinkNest x.1 x.2.1 x.2.2 "HourEggs") U
theorem Sta.moved {g : Gp} {A : Nat → Prop} {u U : State} {H : Heap} (hvm : u.vm.Alike U.vm) (h : Sta g A u H) : Sta g A U H :=
  ⟨fun i hi => ⟨(h.1 i hi).1.moved hvm, (h.1 i hi).2.moved hvm⟩, h.2.1.moved hvm, h.2.2.1.moved hvm, h.2.2.2.moved hvm⟩
theorem Sta.kept {g : Gp} {A : Nat → Prop} {U : State} {H H1 : Heap} (h : Sta g A U H) (hq : ∀ a : Nat, a < H.size → ¬ A a → H1[a]? = H[a]?) : Sta g A U H1 :=
  ⟨fun i hi => ⟨(h.1 i hi).1.kept hq, (h.1 i hi).2.kept hq⟩, h.2.1.kept hq, h.2.2.1.kept hq, h.2.2.2.kept hq⟩
theorem Sta.narrow {g : Gp} {A B : Nat → Prop} {U : State} {H : Heap} (h : Sta g A U H) (hAB : ∀ q, B q → A q) : Sta g B U H :=
  ⟨fun i hi => ⟨(h.1 i hi).1.narrow hAB, (h.1 i hi).2.narrow hAB⟩, h.2.1.narrow hAB, h.2.2.1.narrow hAB, h.2.2.2.narrow hAB⟩
theorem Sta.g {g g' : Gp} {A : Nat → Prop} {U : State} {H : Heap} (e : gsa g = gsa g') (h : Sta g A U H) : Sta g' A U H := by
  unfold Sta at h ⊢
  rw [← e]; exact h
theorem StR.same {g : Gp} {u U : State} (hv : U.vm = u.vm) (h : StR g u) : StR g U := ⟨fun i hi => (h.1 i hi).same hv, fun x hx => (h.2 x hx).same rfl hv.symm⟩
theorem StR.warm {g : Gp} {s U : State} (hW : s.WarmedH U.vm) (h : StR g s) : StR g U := ⟨fun i hi => (h.1 i hi).warm hW, fun x hx => (h.2 x hx).warmM hW⟩
theorem StR.g {g g' : Gp} {U : State} (e : gsa g = gsa g') (h : StR g U) : StR g' U := by
  unfold StR at h ⊢
  rw [← e]; exact h
/-! the words that every method has -/
def gT : List Cond := lw_tbl.filter goodWord
theorem gT_of {w : Cond} (h : w ∈ lw_tbl) (h2 : goodWord w = true) : w ∈ gT := List.mem_filter.mpr ⟨h, h2⟩
theorem gT_good : ∀ w ∈ gT, (w.onTables && w.keeps) = true ∨ ∃ ty, w = .arrayClass ty := fun w hw => good_of_word (List.mem_filter.mp hw).2
theorem gT_in {C : String} {T : u_T} {N : Nat} (h : ∀ w ∈ u_ws C T N, w ∈ lw_tbl) (h2 : (u_ws C T N).all goodWord = true) : ∀ w ∈ u_ws C T N, w ∈ gT := fun w hw => gT_of (h w hw) (List.all_eq_true.mp h2 w hw)
/-! locals: by places, none: not known -/
def lget : List (Option Value) → Nat → Option Value
  | [], _ => none
  | v :: _, 0 => v
  | _ :: t, n + 1 => lget t n
def lkill (v : Option Value) : Option Value := match v with
  | some (.long _) => none
  | some (.double _) => none
  | v => v
def lset1 : List (Option Value) → Nat → Value → List (Option Value)
  | [], _, _ => []
  | _ :: t, 0, v => some v :: t
  | a :: t, 1, v => lkill a :: lset1 t 0 v
  | a :: t, n + 2, v => a :: lset1 t (n + 1) v
def lset2 : List (Option Value) → Nat → Value → List (Option Value)
  | [], _, _ => []
  | [_], 0, v => [some v]
  | _ :: _ :: t, 0, v => some v :: none :: t
  | a :: t, 1, v => lkill a :: lset2 t 0 v
  | a :: t, n + 2, v => a :: lset2 t (n + 1) v
def lhas (la : Array Slot) (n : Nat) (ls : List (Option Value)) : Prop := la.size = n ∧ lv_wf la ∧ ∀ i v, lget ls i = some v → la[i]? = some (.val v)
theorem lkill_some {a : Option Value} {w : Value} (h : lkill a = some w) : a = some w ∧ ¬ w.category = 2 := by
  cases a with
  | none => cases h
  | some v => cases v <;> first | (cases h; exact ⟨rfl, by simp [Value.category]⟩) | cases h
theorem lget_set1 : ∀ (ls : List (Option Value)) (i j : Nat) (v w : Value), lget (lset1 ls i v) j = some w → (j = i ∧ w = v) ∨ (j ≠ i ∧ lget ls j = some w ∧ ¬ (j + 1 = i ∧ w.category = 2))
  | [], i, j, v, w, h => by cases h
  | a :: t, 0, 0, v, w, h => by cases h; exact Or.inl ⟨rfl, rfl⟩
  | a :: t, 0, j + 1, v, w, h => Or.inr ⟨by omega, h, fun q => by omega⟩
  | a :: t, 1, 0, v, w, h => by
    obtain ⟨h1, h2⟩ := lkill_some (a := a) h
    exact Or.inr ⟨by omega, h1, fun q => h2 q.2⟩
  | a :: t, 1, j + 1, v, w, h => by
    rcases lget_set1 t 0 j v w h with ⟨h1, h2⟩ | ⟨h1, h2, h3⟩
    · exact Or.inl ⟨by omega, h2⟩
    · exact Or.inr ⟨by omega, h2, fun q => h3 ⟨by omega, q.2⟩⟩
  | a :: t, n + 2, 0, v, w, h => Or.inr ⟨by omega, h, fun q => by omega⟩
  | a :: t, n + 2, j + 1, v, w, h => by
    rcases lget_set1 t (n + 1) j v w h with ⟨h1, h2⟩ | ⟨h1, h2, h3⟩
    · exact Or.inl ⟨by omega, h2⟩
    · exact Or.inr ⟨by omega, h2, fun q => h3 ⟨by omega, q.2⟩⟩
theorem lget_set2 : ∀ (ls : List (Option Value)) (i j : Nat) (v w : Value), lget (lset2 ls i v) j = some w → (j = i ∧ w = v) ∨ (j ≠ i ∧ j ≠ i + 1 ∧ lget ls j = some w ∧ ¬ (j + 1 = i ∧ w.category = 2))
  | [], i, j, v, w, h => by cases h
  | [a], 0, 0, v, w, h => by cases h; exact Or.inl ⟨rfl, rfl⟩
  | [a], 0, j + 1, v, w, h => by cases h
  | a :: b :: t, 0, 0, v, w, h => by cases h; exact Or.inl ⟨rfl, rfl⟩
  | a :: b :: t, 0, 1, v, w, h => by cases h
  | a :: b :: t, 0, j + 2, v, w, h => Or.inr ⟨by omega, by omega, h, fun q => by omega⟩
  | a :: t, 1, 0, v, w, h => by
    obtain ⟨h1, h2⟩ := lkill_some (a := a) (by cases t <;> exact h)
    exact Or.inr ⟨by omega, by omega, h1, fun q => h2 q.2⟩
  | a :: t, 1, j + 1, v, w, h => by
    rcases lget_set2 t 0 j v w (by cases t <;> exact h) with ⟨h1, h2⟩ | ⟨h1, h0, h2, h3⟩
    · exact Or.inl ⟨by omega, h2⟩
    · exact Or.inr ⟨by omega, by omega, h2, fun q => h3 ⟨by omega, q.2⟩⟩
  | a :: t, n + 2, 0, v, w, h => Or.inr ⟨by omega, by omega, by cases t <;> exact h, fun q => by omega⟩
  | a :: t, n + 2, j + 1, v, w, h => by
    rcases lget_set2 t (n + 1) j v w (by cases t <;> exact h) with ⟨h1, h2⟩ | ⟨h1, h0, h2, h3⟩
    · exact Or.inl ⟨by omega, h2⟩
    · exact Or.inr ⟨by omega, by omega, h2, fun q => h3 ⟨by omega, q.2⟩⟩
/-- the known places as the kit lists them -/
def lasl (ls : List (Option Value)) : List (Nat × Value) := (List.range ls.length).filterMap (fun j => (lget ls j).map (fun w => (j, w)))
theorem lget_len : ∀ {ls : List (Option Value)} {i : Nat} {v : Value}, lget ls i = some v → i < ls.length
  | [], i, v, h => by cases h
  | a :: t, 0, v, h => Nat.succ_pos _
  | a :: t, i + 1, v, h => Nat.succ_lt_succ (lget_len (ls := t) h)
theorem lasl_in {ls : List (Option Value)} {i : Nat} {v : Value} (h : lget ls i = some v) : (i, v) ∈ lasl ls :=
  List.mem_filterMap.mpr ⟨i, List.mem_range.mpr (lget_len h), by rw [h]; rfl⟩
theorem lhas_asl {la : Array Slot} {n : Nat} {ls : List (Option Value)} (h : lhas la n ls) : lv_has la n (lasl ls) := by
  refine ⟨h.1, h.2.1, fun q hq => ?_⟩
  obtain ⟨j, -, h2⟩ := List.mem_filterMap.mp hq
  cases hj : lget ls j with
  | none => rw [hj] at h2; cases h2
  | some w => rw [hj] at h2; cases h2; exact h.2.2 j w hj
theorem lhas_set1 {la : Array Slot} {n i : Nat} {ls : List (Option Value)} {v : Value} (h : lv_has la n ((i, v) :: (lasl ls).filter (fun q => !(q.1 == i) && !(q.1 + 1 == i && q.2.category == 2)))) : lhas la n (lset1 ls i v) := by
  refine ⟨h.1, h.2.1, fun j w hj => ?_⟩
  rcases lget_set1 ls i j v w hj with ⟨rfl, rfl⟩ | ⟨h1, h2, h3⟩
  · exact h.2.2 _ List.mem_cons_self
  · refine h.2.2 (j, w) (List.mem_cons_of_mem _ (List.mem_filter.mpr ⟨lasl_in h2, ?_⟩))
    simp only [Bool.and_eq_true, Bool.not_eq_true', beq_eq_false_iff_ne, Bool.and_eq_false_iff]
    refine ⟨h1, ?_⟩
    by_cases hz : j + 1 = i
    · exact Or.inr (fun q => h3 ⟨hz, q⟩)
    · exact Or.inl hz
theorem lhas_set2 {la : Array Slot} {n i : Nat} {ls : List (Option Value)} {v : Value} (h : lv_has la n ((i, v) :: (lasl ls).filter (fun q => !(q.1 == i) && (!(q.1 == i + 1) && !(q.1 + 1 == i && q.2.category == 2))))) : lhas la n (lset2 ls i v) := by
  refine ⟨h.1, h.2.1, fun j w hj => ?_⟩
  rcases lget_set2 ls i j v w hj with ⟨rfl, rfl⟩ | ⟨h1, h0, h2, h3⟩
  · exact h.2.2 _ List.mem_cons_self
  · refine h.2.2 (j, w) (List.mem_cons_of_mem _ (List.mem_filter.mpr ⟨lasl_in h2, ?_⟩))
    simp only [Bool.and_eq_true, Bool.not_eq_true', beq_eq_false_iff_ne, Bool.and_eq_false_iff]
    refine ⟨h1, h0, ?_⟩
    by_cases hz : j + 1 = i
    · exact Or.inr (fun q => h3 ⟨hz, q⟩)
    · exact Or.inl hz
/-- fewer known locals -/
def lle : List (Option Value) → List (Option Value) → Prop
  | [], _ => True
  | none :: t, [] => lle t []
  | none :: t, _ :: u => lle t u
  | some _ :: _, [] => False
  | some v :: t, w :: u => w = some v ∧ lle t u
theorem lle_get : ∀ {a b : List (Option Value)} {i : Nat} {v : Value}, lle a b → lget a i = some v → lget b i = some v
  | [], _, _, _, _, h => by cases h
  | none :: t, [], 0, _, _, h => by cases h
  | none :: t, [], i + 1, v, hl, h => by have := lle_get (a := t) (b := []) (i := i) hl h; cases this
  | none :: t, _ :: u, 0, _, _, h => by cases h
  | none :: t, _ :: u, i + 1, v, hl, h => lle_get (a := t) (b := u) hl h
  | some w :: t, [], _, _, hl, _ => hl.elim
  | some w :: t, x :: u, 0, v, hl, h => by cases h; exact hl.1
  | some w :: t, x :: u, i + 1, v, hl, h => lle_get (a := t) (b := u) hl.2 h
theorem lhas_le {la : Array Slot} {n : Nat} {a b : List (Option Value)} (h : lhas la n b) (hl : lle a b) : lhas la n a := ⟨h.1, h.2.1, fun i v hi => h.2.2 i v (lle_get hl hi)⟩
def linit (n : Nat) (vs : List Value) : List (Option Value) := vs.map some ++ List.replicate (n - vs.length) none
theorem lget_init : ∀ (vs : List Value) (m : Nat) (i : Nat) (v : Value), lget (vs.map some ++ List.replicate m none) i = some v → vs[i]? = some v
  | [], m, i, v, h => by
    exfalso
    revert i
    induction m with
    | zero => intro i h; cases h
    | succ m ih => intro i h; cases i with
      | zero => cases h
      | succ i => exact ih i h
  | a :: t, m, 0, v, h => by cases h; rfl
  | a :: t, m, i + 1, v, h => by rw [List.getElem?_cons_succ]; exact lget_init t m i v h
theorem lv_args_in : ∀ (vs : List Value) (k i : Nat) (v : Value), (vs.all fun v => v.category == 1) = true → vs[i]? = some v → (k + i, v) ∈ lv_args k vs
  | [], k, i, v, _, h => by cases h
  | a :: t, k, 0, v, _, h => by cases h; exact List.mem_cons_self
  | a :: t, k, i + 1, v, hc, h => by
    rw [List.all_cons, Bool.and_eq_true, beq_iff_eq] at hc
    have hn : ¬ a.category = 2 := by rw [hc.1]; decide
    have := lv_args_in t (k + 1) i v hc.2 (by rw [List.getElem?_cons_succ] at h; exact h)
    refine List.mem_cons_of_mem _ ?_
    rw [if_neg hn]
    rw [show k + (i + 1) = k + 1 + i by omega]
    exact this
theorem lhas_init {la : Array Slot} {n : Nat} {vs : List Value} (hc : (vs.all fun v => v.category == 1) = true) (h : lv_has la n (lv_args 0 vs)) : lhas la n (linit n vs) := by
  refine ⟨h.1, h.2.1, fun i v hi => ?_⟩
  have := lv_args_in vs 0 i v hc (lget_init vs _ i v hi)
  rw [Nat.zero_add] at this
  exact h.2.2 _ this
