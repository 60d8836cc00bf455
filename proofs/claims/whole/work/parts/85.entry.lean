/-! THE CLAIM OUT OF ONE WALK OF THE LAW'S BODY. Your part is whole_start (and what it stands on); all else here is the same for every law, but numbers. -/
def R_law : String := "HourEggsLaw"
def lw_P (b : Addr) (xs : List Int32) (args : Array Value) (s : State) : Prop := args = #[.ref b] ∧ s.IntsAt b xs ∧ xs.length ≤ 3072 ∧ (Jvm.Cond.and given_1 narrow_1).before args s = true
def lw_Q (_ : Array Value) (s : State) (o : Outcome) (t : State) : Prop := o = .returned (some (.int 1)) ∧ Framed s o t [] 600000 7302250
def lw_Z (below : List Frame) (a : Array Value) (s : State) : State → Prop := fun t => ∃ o, t.status = .running ∧ Ended t below o ∧ lw_Q a s o t
/-- the law's own end, with 1 on the stack, nothing written that was there before, its room as the claim has it -/
theorem lw_ret {p : Program} {l : Launch} {e : Env} {s : State} {m : MethodId} {below : List Frame} {meth : Method} {c : Code} {b : Nat} (hx : p.tables.exec = Jvm.exec) (hb : c.code = code) (hr : meth.sig.returnType = ret) (hlocks : meth.locks = false) {pc : Nat} {H : Heap} {ls : Array Slot} (hdg : decode code pc = .ok (.ireturn, 1)) : W p l e room_1 s m #[Value.ref b] below meth c H [] 600000 7302250 (lw_Z below #[Value.ref b] s) (F0 m pc ls [.int 1]) := by
  intro T hT X
  obtain ⟨fs, hret, hrun, hended, hW, hframe⟩ := X.leave (v := some (.int 1)) (hlocks := hlocks) (fun h => by rw [hr] at h; cases h)
  have hmeth' : T.vm.method? m = some meth := X.method'
  refine ⟨T.setFrames fs, ?_, .returned (some (.int 1)), hrun, hended, rfl, ⟨_, rfl⟩, hW, hframe⟩
  jvm_step X.here [X.here.top, hx, hb, hdg, hmeth', hr, ret, narrow_b1]
  (try refine ⟨rfl, ?_⟩); (try refine ⟨rfl, ?_⟩)
  first | (intro acts; rw [hret _ acts rfl rfl rfl]) | rw [hret _ _ rfl rfl rfl]
  exact Steps.refl _
/-- what holds at the law's entry: the machine, the code, the tables' words (any of lw_tbl by 'hts w (by decide +kernel)'), the script of L ints xs at the cell b, what the Statement gives of the start (any of its parts by flat_of_before) -/
def lw_At (p : Program) (s : State) (m : MethodId) (meth : Method) (c : Code) (b L : Nat) (xs : Nat → Int32) : Prop :=
  p.tables.exec = Jvm.exec ∧ c.code = code ∧ meth.sig.returnType = ret ∧ c.maxLocals = 4 ∧ s.vm.findClass R_law = some m.cls ∧ (∀ w ∈ lw_tbl, w.before #[Value.ref b] s = true) ∧ va_X b L xs s s.heap ∧ b < s.heap.size ∧ meth.locks = false ∧ (Jvm.Cond.and given_1 narrow_1).before #[Value.ref b] s = true
/-! ===== what holds at the law's entry is the world's start ===== -/
def FL : List Cond := flatC (Jvm.Cond.and given_1 narrow_1)
abbrev tmT (i : Nat) : Term := .static (tabN.getD i ("", "")).1 (tabN.getD i ("", "")).2 "[I"
abbrev tmS (i : Nat) : Term := .string "HourEggs$Reader" (sIx.getD i 0)
abbrev tmV (i : Nat) : Term := .field (tmS i) "java/lang/String" "value" "[B"
set_option maxRecDepth 100000 in
theorem fl_arr : ∀ i, i < 8 → Cond.arrayOf (tmT i) .int ∈ FL := by decide +kernel
theorem fl_len : ∀ i, i < 8 → Cond.eq (.length (tmT i)) (.int (Int32.ofNat (tabL i))) ∈ FL := by decide +kernel
theorem fl_el : ∀ i, i < 8 → ∀ j, j < tabL i → Cond.eq (.elem (tmT i) (.int (Int32.ofNat j))) (.int (tabV i j)) ∈ FL := by decide +kernel
theorem fl_z1 : Cond.eq (.static "java/lang/String" "COMPACT_STRINGS" "Z") (.int 1) ∈ FL := by decide +kernel
theorem fl_z2 : Cond.isRef (.static "jdk/internal/util/Preconditions" "SIOOBE_FORMATTER" "Ljava/util/function/BiFunction;") ∈ FL := by decide +kernel
theorem fl_ex : ∀ i, i < 13 → Cond.exactly (tmS i) "java/lang/String" ∈ FL := by decide +kernel
theorem fl_co : ∀ i, i < 13 → Cond.eq (.field (tmS i) "java/lang/String" "coder" "B") (.int 0) ∈ FL := by decide +kernel
theorem fl_ar : ∀ i, i < 13 → Cond.arrayOf (tmV i) .byte ∈ FL := by decide +kernel
theorem fl_le : ∀ i, i < 13 → Cond.eq (.length (tmV i)) (.int (Int32.ofNat (sLn.getD i 0))) ∈ FL := by decide +kernel
theorem fl_eb : ∀ i, i < 13 → ∀ j, j < sLn.getD i 0 → Cond.eq (.elem (tmV i) (.int (Int32.ofNat j))) (.int ((sBy.getD i []).getD j 0)) ∈ FL := by decide +kernel
def NX : List Nat := [0, 0, 0, 0, 0, 0, 0, 197, 214, 169, 182, 231, 251, 149, 0, 87, 100, 112, 123, 137, 191, 208, 163, 176, 225, 245, 150, 0, 0, 101, 113, 124, 138, 192, 209, 164, 177, 226, 246, 151, 0, 0, 0, 114, 125, 139, 193, 210, 165, 178, 227, 247, 152, 0, 0, 0, 0, 126, 140, 194, 211, 166, 179, 228, 248, 153, 0, 0, 0, 0, 0, 141, 195, 212, 167, 180, 229, 249, 154, 0, 0, 0, 0, 0, 0, 196, 213, 168, 181, 230, 250, 0, 0, 0, 0, 0, 0, 0, 0, 217, 0, 0, 234, 254, 0, 0, 0, 0, 0, 0, 0, 0, 0, 0, 0, 235, 255, 0, 0, 0, 0, 0, 0, 0, 198, 215, 0, 183, 232, 252, 0, 0, 0, 0, 0, 0, 0, 199, 216, 0, 0, 233, 253, 0, 0, 0, 0, 0, 0, 0, 0, 0, 0, 0, 0, 256, 0, 0, 0, 0, 0, 0, 0, 0, 0, 0, 0, 0, 0]
def rkS (i : Nat) : Nat := [6, 0, 1, 2, 3, 4, 5, 9, 10, 7, 8, 11, 12].getD i 0
theorem rk_in : ∀ i, i < 13 → ∀ j, j < 13 → rkS i = rkS j → i = j := by decide +kernel
theorem fl_nx : ∀ i, i < 13 → ∀ j, j < 13 → rkS i < rkS j → FL[NX.getD (13 * i + j) 0]? = some (Cond.not (Cond.eq (tmS i) (tmS j))) := by decide +kernel
theorem fl_ne {i j : Nat} (hi : i < 13) (hj : j < 13) (h : i ≠ j) : Cond.not (Cond.eq (tmS i) (tmS j)) ∈ FL ∨ Cond.not (Cond.eq (tmS j) (tmS i)) ∈ FL := by
  rcases Nat.lt_trichotomy (rkS i) (rkS j) with q | q | q
  · exact Or.inl (List.mem_of_getElem? (fl_nx i hi j hj q))
  · exact absurd (rk_in i hi j hj q) h
  · exact Or.inr (List.mem_of_getElem? (fl_nx j hj i hi q))
theorem tl_ls : ∀ i, i < 8 → Cond.laysStatic (tabN.getD i ("", "")).1 (tabN.getD i ("", "")).2 "[I" ∈ tables_1 ∧ Cond.initialized (tabN.getD i ("", "")).1 ∈ tables_1 := by decide +kernel
theorem tl_z1 : Cond.laysStatic "java/lang/String" "COMPACT_STRINGS" "Z" ∈ tables_1 ∧ Cond.initialized "java/lang/String" ∈ tables_1 := by decide +kernel
theorem tl_z2 : Cond.laysStatic "jdk/internal/util/Preconditions" "SIOOBE_FORMATTER" "Ljava/util/function/BiFunction;" ∈ tables_1 ∧ Cond.initialized "jdk/internal/util/Preconditions" ∈ tables_1 := by decide +kernel
theorem tl_sr : ∀ i, i < 13 → Cond.stringRef "HourEggs$Reader" (sIx.getD i 0) (sTx.getD i "") ∈ tables_1 := by decide +kernel
theorem tl_ne : ∀ x ∈ nests, Cond.methodLinkNest x.1 x.2.1 x.2.2 "HourEggs" ∈ tables_1 := by decide +kernel
theorem tl_ac : Cond.arrayClass .int ∈ tables_1 ∧ Cond.arrayClass .char ∈ tables_1 ∧ Cond.arrayClass .boolean ∈ tables_1 ∧ Cond.arrayOver (.object "HourEggs$Sheet") ∈ tables_1 := by decide +kernel
theorem tl_in : Cond.instantiable RX0 3 ∈ tables_1 ∧ Cond.instantiable RX1 7 ∈ tables_1 ∧ Cond.instantiable RX3 6 ∈ tables_1 ∧ Cond.instantiable RX4 3 ∈ tables_1 ∧ Cond.instantiable RX5 4 ∈ tables_1 ∧ Cond.instantiable RX6 2 ∈ tables_1 ∧ Cond.instantiable RX7 8 ∈ tables_1 ∧ Cond.instantiable RX8 21 ∈ tables_1 := by decide +kernel
theorem sta_tabs {A : Array Value} {s : State} {P : Nat → Prop} (ht : ∀ w ∈ tables_1, w.before A s = true) (hf : ∀ w ∈ FL, w.before A s = true) (hA : ∀ a : Nat, a < s.heap.size → ¬ P a) : ∃ t : Nat → Nat, ∀ i, i < 8 → va_T .int (t i) (tabL i) (fun j => .int (tabV i j)) P s s.heap ∧ va_Z (tabN.getD i ("", "")).1 (tabN.getD i ("", "")).2 "[I" (.ref (t i)) P s s.heap := by
  have h0 : ∀ i : Nat, ∃ t : Nat, i < 8 → va_T .int t (tabL i) (fun j => .int (tabV i j)) P s s.heap ∧ va_Z (tabN.getD i ("", "")).1 (tabN.getD i ("", "")).2 "[I" (.ref t) P s s.heap := by
    intro i
    by_cases hi : i < 8
    · have hN : tabL i < 2 ^ 31 := by
        have : ∀ i, i < 8 → tabL i < 2 ^ 31 := by decide +kernel
        exact this i hi
      obtain ⟨t, h1, h2⟩ := va_Tof (tm := tmT i) (N := tabL i) (f := fun j => .int (tabV i j)) (A := P) hN (hf _ (fl_arr i hi)) (va_eqt (hf _ (fl_len i hi))) (fun j hj => va_eqt (hf _ (fl_el i hi j hj))) hA
      exact ⟨t, fun _ => ⟨h2, va_Zref (ht _ (tl_ls i hi).1) (ht _ (tl_ls i hi).2) h1 hA⟩⟩
    · exact ⟨0, fun h => absurd h hi⟩
  obtain ⟨t, h⟩ := Classical.axiomOfChoice h0
  exact ⟨t, h⟩
/-- tables and texts of the start -/
theorem sta_0 {A : Array Value} {s : State} {P : Nat → Prop} (ht : ∀ w ∈ tables_1, w.before A s = true) (hf : ∀ w ∈ FL, w.before A s = true) (hA : ∀ a : Nat, a < s.heap.size → ¬ P a) : ∃ sa : Nat → Nat, ∀ g : Gp, gsa g = sa → Sta g P s s.heap ∧ StR g s := by
  obtain ⟨t, h1⟩ := sta_tabs ht hf hA
  obtain ⟨aK, aV, h2, h3⟩ := vk_Sof (s := s) (N := 13) (tm := tmS) (len := sLn) (byt := sBy) (A := P) (by decide +kernel) (fun i hi => hf _ (fl_ex i hi)) (fun i hi => hf _ (fl_co i hi)) (fun i hi => hf _ (fl_ar i hi)) (fun i hi => hf _ (fl_le i hi)) (fun i hi j hj => hf _ (fl_eb i hi j hj)) (fun i j hi hj hij => by
    rcases fl_ne hi hj hij with h | h
    · exact Or.inl (hf _ h)
    · exact Or.inr (hf _ h)) hA
  refine ⟨fun k => if k < 8 then t k else if k < 21 then aK (k - 8) else aV (k - 21), fun g hg => ?_⟩
  have e1 : ∀ i, i < 8 → gsa g i = t i := fun i hi => by rw [hg]; exact if_pos hi
  have e2 : ∀ i, i < 13 → gsa g (8 + i) = aK i := fun i hi => by
    rw [hg]
    show (if 8 + i < 8 then t (8 + i) else if 8 + i < 21 then aK (8 + i - 8) else aV (8 + i - 21)) = aK i
    rw [if_neg (by omega), if_pos (by omega), Nat.add_sub_cancel_left]
  have e3 : ∀ i, i < 13 → gsa g (21 + i) = aV i := fun i hi => by
    rw [hg]
    show (if 21 + i < 8 then t (21 + i) else if 21 + i < 21 then aK (21 + i - 8) else aV (21 + i - 21)) = aV i
    rw [if_neg (by omega), if_neg (by omega), Nat.add_sub_cancel_left]
  refine ⟨⟨fun i hi => ?_, ⟨fun i hi => ?_, fun i j hi hj e => ?_⟩, va_Zof (ht _ tl_z1.1) (ht _ tl_z1.2) (va_eqi (hf _ fl_z1)) hA, va_Zqof (ht _ tl_z2.1) (ht _ tl_z2.2) (hf _ fl_z2) hA⟩, ⟨fun i hi => ?_, fun x hx => va_Nw.of rfl (ht _ (tl_ne x hx))⟩⟩
  · rw [e1 i hi]
    exact h1 i hi
  · show va_O _ (gsa g (8 + i)) P s s.heap ∧ va_OF _ _ _ _ (gsa g (8 + i)) P s s.heap ∧ va_OF _ _ _ (.ref (gsa g (21 + i))) (gsa g (8 + i)) P s s.heap ∧ va_T .byte (gsa g (21 + i)) _ _ P s s.heap
    rw [e2 i hi, e3 i hi]
    exact h2.1 i hi
  · have e' : gsa g (8 + i) = gsa g (8 + j) := e
    rw [e2 i hi, e2 j hj] at e'
    exact h2.2 i j hi hj e'
  · rw [e2 i hi]
    exact vk_R.of (ht _ (tl_sr i hi)) (h3 i hi)
theorem arr_0 {A : Array Value} {s : State} {ty : FieldType} (h : (Cond.arrayClass ty).before A s = true) (hty : ∀ C, ty ≠ .object C) : ∃ cA : ClassId, ArrOfT s cA ty ∧ va_RA s cA ty := by
  obtain ⟨cA, k, comp, h1, h2, h3⟩ := Cond.arrayClass_spec h
  refine ⟨cA, fun N z => ⟨fun k h => (by cases h), k, h2, comp, h3⟩, ?_⟩
  cases ty <;> first | exact h1 | exact absurd rfl (hty _)
theorem arr_S {A : Array Value} {s : State} {C : String} (h : (Cond.arrayOver (.object C)).before A s = true) : ∃ cA : ClassId, ArrOfT s cA (.object C) ∧ va_RA s cA (.object C) := by
  obtain ⟨comp, cA, k, h1, -, h2, h3, h4⟩ := Cond.arrayOver_spec h
  exact ⟨cA, fun N z => ⟨fun k h => (by cases h), k, h2, comp, h3⟩, k, comp, h2, h3, h1, h4⟩
theorem kn_0 {A : Array Value} {s : State} (hl : ∀ w ∈ lw_tbl, w.before A s = true) (ht : ∀ w ∈ tables_1, w.before A s = true) : ∃ D : va_G, ∀ (c : Nat) (q : vw_C), vwCl[c]? = some q → u_Kn s q.1 q.2.1 q.2.2 (D.1 c) (D.2 c) := by
  obtain ⟨i0, i1, i2, i3, i4, i5, i6, i7⟩ := tl_in
  obtain ⟨c0, s0, k0⟩ := u_known hl hinX0 (ht _ i0)
  obtain ⟨c1, s1, k1⟩ := u_known hl hinX1 (ht _ i1)
  obtain ⟨c2, s2, k2⟩ := u_known hl hinX3 (ht _ i2)
  obtain ⟨c3, s3, k3⟩ := u_known hl hinX4 (ht _ i3)
  obtain ⟨c4, s4, k4⟩ := u_known hl hinX5 (ht _ i4)
  obtain ⟨c5, s5, k5⟩ := u_known hl hinX6 (ht _ i5)
  obtain ⟨c6, s6, k6⟩ := u_known hl hinX7 (ht _ i6)
  obtain ⟨c7, s7, k7⟩ := u_known hl hinX8 (ht _ i7)
  refine ⟨(fun k => match k with
    | 0 => c0
    | 1 => c1
    | 2 => c2
    | 3 => c3
    | 4 => c4
    | 5 => c5
    | 6 => c6
    | _ => c7, fun k => match k with
    | 0 => s0
    | 1 => s1
    | 2 => s2
    | 3 => s3
    | 4 => s4
    | 5 => s5
    | 6 => s6
    | _ => s7), fun c q hq => ?_⟩
  match c, hq with
  | 0, hq => cases hq; exact k0
  | 1, hq => cases hq; exact k1
  | 2, hq => cases hq; exact k2
  | 3, hq => cases hq; exact k3
  | 4, hq => cases hq; exact k4
  | 5, hq => cases hq; exact k5
  | 6, hq => cases hq; exact k6
  | 7, hq => cases hq; exact k7
  | c + 8, hq => simp at hq
abbrev kL (l : Launch) (g : Gp) (p : Program) (e : Env) (s : State) (m : MethodId) (below : List Frame) (meth : Method) (c : Code) (b ce so : Nat) : Kx := ((l, room_1, g, 4), ((p, e, s, m), (#[Value.ref b], below, meth, c), lw_Z below #[Value.ref b] s, (fun q => s.heap.size ≤ q), (ce, so)))
theorem hts_gT {b : Nat} {s : State} (h : ∀ w ∈ lw_tbl, w.before #[Value.ref b] s = true) : ∀ w ∈ gT, w.before #[Value.ref b] s = true := fun w hw => h w (List.mem_filter.mp hw).1
theorem start_Cy {l : Launch} {p : Program} {e : Env} {s : State} {m : MethodId} {below : List Frame} {meth : Method} {c : Code} {b L : Nat} {xs : Nat → Int32} (C0 : lw_At p s m meth c b L xs) : ∃ g : Gp, Cy (kL l g p e s m below meth c b 0 0) code RL true := by
  obtain ⟨hx, hb, hr, hml, hown, hts, hX, hbl, hlocks, hgv⟩ := C0
  have ht : ∀ w ∈ tables_1, w.before #[Value.ref b] s = true := fun w hw => hts w (List.mem_append_right _ hw)
  have hf : ∀ w ∈ FL, w.before #[Value.ref b] s = true := flat_of_before _ hgv
  obtain ⟨sa, hsa⟩ := sta_0 (P := fun q => s.heap.size ≤ q) ht hf (fun a ha => Nat.not_le.mpr ha)
  obtain ⟨D, hD⟩ := kn_0 hts ht
  obtain ⟨cI, hI⟩ := arr_0 (ht _ tl_ac.1) (fun _ z => by cases z)
  obtain ⟨cC, hC⟩ := arr_0 (ht _ tl_ac.2.1) (fun _ z => by cases z)
  obtain ⟨cZ, hZ⟩ := arr_0 (ht _ tl_ac.2.2.1) (fun _ z => by cases z)
  obtain ⟨cO, hO⟩ := arr_S (ht _ tl_ac.2.2.2)
  refine ⟨(fun _ => 0, sa, (cI, cC, cZ, cO), D, 56), ⟨hx, hb, hml, hown, hts_gT hts⟩, ⟨hD, fun k q hk => ?_⟩, fun q h => h, (hsa _ rfl).1, (hsa _ rfl).2, fun _ => va_AO.of (ht _ tl_ac.2.2.2)⟩
  match k, hk with
  | 0, hk => cases hk; exact hI
  | 1, hk => cases hk; exact hC
  | 2, hk => cases hk; exact hZ
  | 3, hk => cases hk; exact hO
  | k + 4, hk => simp [gtys] at hk
