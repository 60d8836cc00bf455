/-! ===== contracts over lists of cells: a method's start and end, calls; from Y to X and back ===== -/
theorem KyS.of {S : Type} {l : Launch} {g : Gp} {fl : Bool} {y : MethodName} {b : ByteArray} {nL : Nat} {rm : Room} {av : List Value} {ws : va_W} {post : S → Prop} {B : S → va_W} {mc ms : Nat} (hy : plainName y.cls = true) (hn : Nat.ble av.length nL = true) (hc : (av.all fun v => v.category == 1) = true)
    (body : ∀ q : Kr, Cy (kmk l rm g nL q) b y.cls fl → (kme (kmk l rm g nL q)).name = y.name → (∀ (u : S) (pc : Nat) (ls : List (Option Value)), decode b pc = .ok (.return_, 1) → post u → Y (kmk l rm g nL q) mc ms (B u) pc ls []) → Y (kmk l rm g nL q) 0 0 ws 0 (linit nL av) []) : KyS l g fl y b nL rm av ws post B mc ms := by
  intro sz
  refine Met.ofW (cc := b) (maxL := nL) (ret := none) hy rfl ?_
  intro p e s m args below meth c s₁ Bd hml hv
  obtain ⟨rfl, hsz, hP, hK, hD, hSt, hStR, hO⟩ := hv
  subst hsz
  have hlen : av.length ≤ nL := Nat.le_of_ble_eq_true hn
  have hlg : lg_sl av = av.map Slot.val := by
    have hc' := hc
    clear body hn hlen hP hK hD hSt hStR Bd
    induction av with
    | nil => rfl
    | cons a t ih =>
      rw [List.all_cons, Bool.and_eq_true, beq_iff_eq] at hc'
      have := ih hc'.2 hc'.2
      simp only [lg_sl] at this ⊢
      rw [List.flatMap_cons, this]
      simp [hc'.1]
  have C : Cy (kmk l rm g nL ((p, e, s, m), (av.toArray, below, meth, c), MQ below (va_Qv post (fun u t => va_P (gD g) vwCl (B u) t.heap ∧ va_D (va_A ws s.heap.size) (B u)) (va_A ws s.heap.size)) av.toArray s mc ms (va_A ws s.heap.size), va_A ws s.heap.size, (0, 0))) b y.cls fl :=
    ⟨⟨Bd.exec, Bd.bytes, hml, findClass_of_methodNamed Bd.named, fun w hw => atoms_spec (ws := .code y b nL none :: gT) Bd.pre w (List.mem_cons_of_mem _ hw)⟩, hK, fun q h => Or.inr h, hSt, hStR, hO⟩
  have hX := body _ C (name_of_methodNamed Bd.named Bd.method).1 (fun u pc ls hd hp => fun H locs la hP1 hD1 hS1 hl1 => W.vret Bd.exec Bd.bytes Bd.returns (fun t ht hW => ⟨⟨u, rfl, hp, by rw [ht]; exact hP1, hD1⟩, hS1.F ht⟩) hS1.2.2 hd Bd.notSynchronized)
  have hl := lv_entry av (n := nL) (by rw [hlg, List.length_map]; exact hlen)
  rw [lg_entry_eq]
  exact hX s.heap [] _ hP hD va_S.rf (lhas_init hc hl)
def okRM (rm R : Room) (nL mc ms : Nat) : Bool := Nat.ble (rm.frames + 1) R.frames && Nat.ble (8 + (nL + 11) + rm.locals) R.locals && Nat.beq rm.cells mc && Nat.beq rm.slots ms
theorem okRM_spec {rm R : Room} {nL mc ms : Nat} (h : okRM rm R nL mc ms = true) : (rm.frames + 1 ≤ R.frames ∧ 8 + (nL + 11) + rm.locals ≤ R.locals) ∧ rm.cells = mc ∧ rm.slots = ms := by
  simp only [okRM, Bool.and_eq_true] at h
  exact ⟨⟨Nat.le_of_ble_eq_true h.1.1.1, Nat.le_of_ble_eq_true h.1.1.2⟩, Nat.eq_of_beq_eq_true h.1.2, Nat.eq_of_beq_eq_true h.2⟩
section YC
variable {κ : Kx} {cc : ByteArray} {own : String} {fl : Bool} {ce so : Nat} {ws : va_W} {pc : Nat} {ls : List (Option Value)} {st : List Value}
theorem y_pre (C : Cy κ cc own fl) {f2 : Bool} (hf : f2 = true → fl = true) {H : Heap} {locs : List Loc} (hP : va_P (gD (kg κ)) vwCl ws H) (hD : va_D (kA κ) ws) (hS : va_S (kA κ) (ks κ).heap H locs) (U : State) (hU : U.heap = H) (hW : (ks κ).WarmedH U.vm) : PreY (kg κ) f2 ws H.size U := by
  refine ⟨by rw [hU], by rw [hU]; exact hP, va_K.moved hW.alike C.K, hD.self, ?_, C.R.warm hW, fun h => va_AO.moved hW.alike (C.O (hf h))⟩
  rw [hU]
  refine ((C.S.moved hW.alike).kept hS.2.1).narrow (fun q hq => ?_)
  rcases hq with ⟨k, e, hk⟩ | hq
  · exact hD.2 k _ hk
  · exact C.N q (Nat.le_trans hS.1 hq)
theorem y_free (C : Cy κ cc own fl) {H : Heap} {locs : List Loc} (hD : va_D (kA κ) ws) (hS : va_S (kA κ) (ks κ).heap H locs) : ∀ q, va_A ws H.size q → kA κ q := fun q hq => by
  rcases hq with ⟨k, e, hk⟩ | hq
  · exact hD.2 k _ hk
  · exact C.N q (Nat.le_trans hS.1 hq)
theorem y_post {S : Type} {post : S → Prop} {B : S → va_W} (C : Cy κ cc own fl) {mc ms : Nat} {rest : List Value} {H : Heap} {locs : List Loc} {la : Array Slot} {st0 : List Value} {a : Array Value}
    (hr : va_Run (kp κ) (kl κ) (ke κ) (kR κ) (ks κ) (km κ) (ka κ) (kb κ) (kme κ) (kc κ) H locs ce so mc ms (F0 (km κ) pc la st0) rest (va_Qv post (fun u t => va_P (gD (kg κ)) vwCl (B u) t.heap ∧ va_D (va_A ws H.size) (B u)) (va_A ws H.size) a) (va_A ws H.size)) (hD : va_D (kA κ) ws) (hS : va_S (kA κ) (ks κ).heap H locs) (hl : lhas la (knL κ) ls)
    (kk : ∀ u : S, post u → Y κ (ce + mc) (so + ms) (B u) (pc + 3) ls rest) : W (kp κ) (kl κ) (ke κ) (kR κ) (ks κ) (km κ) (ka κ) (kb κ) (kme κ) (kc κ) H locs ce so (kQ κ) (F0 (km κ) pc la st0) :=
  va_callv hr hS (fun q _ h => y_free C hD hS q h) (y_free C hD hS) (fun u t H1 locs1 ht _ hw1 hB _ _ hS1 => kk u hw1 H1 locs1 la (by rw [← ht]; exact hB.1) ⟨hB.2.1, fun k q hk => y_free C hD hS _ (hB.2.2 k q hk)⟩ hS1 hl)
/-- a constructor -/
theorem y_init {S : Type} {post : S → Prop} {B : S → va_W} (C : Cy κ cc own fl) {f2 : Bool} (hf : f2 = true → fl = true) {y : MethodName} {b : ByteArray} {nL n idx a mc ms : Nat} {rm : Room} {As rest : List Value} (hM : KyS (kl κ) (kg κ) f2 y b nL rm (.ref a :: As) ws post B mc ms) (o : okW y b nL none n ∧ Cond.instanceMethod y ∈ gT) (hin : y.name = "<init>") (hw : Cond.methodLink own idx y ∈ gT) (hr : okRM rm (kR κ) nL mc ms = true) (hn : As.length = n) (hst : st = As.reverse ++ .ref a :: rest) (hW : Nat.ble ((rest.map fun v => v.category).sum) 8 = true) (hcs : Nat.ble (ce + mc) (kR κ).cells = true ∧ Nat.ble (so + ms) (kR κ).slots = true) (hd : decode cc pc = .ok (.invokespecial idx, 3))
    (kk : ∀ u : S, post u → Y κ (ce + mc) (so + ms) (B u) (pc + 3) ls rest) : Y κ ce so ws pc ls st := fun H locs la hP hD hS hl => by
  obtain ⟨⟨o1, o2, o3, o4, o5⟩, o6⟩ := o
  obtain ⟨hr1, hr2, hr3⟩ := okRM_spec hr
  refine y_post (ls := ls) C (va_runI C.1 (hM H.size) ⟨⟨hr2, hr3, hr1.1, hr1.2, pay_in C.ts (fun w hw => ?_), List.mem_cons_self, C.ts _ o2, C.ts _ o1, ⟨o3, o4⟩, fun sig h => ?_, C.ts _ hw⟩, hin, C.ts _ o6⟩ ⟨PreY.blind, fun U hU hW => ⟨rfl, y_pre C hf hP hD hS U hU hW⟩⟩ rfl hn hl.1 hst (lv_room (Nat.le_of_ble_eq_true hW)) hd ⟨Nat.le_of_ble_eq_true hcs.1, Nat.le_of_ble_eq_true hcs.2⟩) hD hS hl kk
  · rcases List.mem_cons.mp hw with rfl | h
    · exact ⟨o2, gT_good _ o2⟩
    · exact ⟨h, gT_good w h⟩
  · rw [h] at o5
    exact (Option.some.inj o5).symm
/-- a nest mate's private constructor -/
theorem y_initN {S : Type} {post : S → Prop} {B : S → va_W} (C : Cy κ cc own fl) {f2 : Bool} (hf : f2 = true → fl = true) {y : MethodName} {b : ByteArray} {nL n idx a mc ms : Nat} {rm : Room} {As rest : List Value} (hM : KyS (kl κ) (kg κ) f2 y b nL rm (.ref a :: As) ws post B mc ms) (o : okW y b nL none n ∧ Cond.instanceMethod y ∈ gT) (hin : y.name = "<init>") (hw : (own, idx, y) ∈ nests) (hr : okRM rm (kR κ) nL mc ms = true) (hn : As.length = n) (hst : st = As.reverse ++ .ref a :: rest) (hW : Nat.ble ((rest.map fun v => v.category).sum) 8 = true) (hcs : Nat.ble (ce + mc) (kR κ).cells = true ∧ Nat.ble (so + ms) (kR κ).slots = true) (hd : decode cc pc = .ok (.invokespecial idx, 3))
    (kk : ∀ u : S, post u → Y κ (ce + mc) (so + ms) (B u) (pc + 3) ls rest) : Y κ ce so ws pc ls st := fun H locs la hP hD hS hl => by
  obtain ⟨⟨o1, o2, o3, o4, o5⟩, o6⟩ := o
  obtain ⟨hr1, hr2, hr3⟩ := okRM_spec hr
  refine y_post (ls := ls) C (va_runIN C.1 (hM H.size) ⟨⟨⟨hr2, hr3, hr1.1, hr1.2, pay_in C.ts (fun w hw => ?_), List.mem_cons_self⟩, C.ts _ o2, C.ts _ o1, ⟨o3, o4⟩, fun sig h => ?_, va_Nw.use rfl (C.R.2 _ hw)⟩, hin, C.ts _ o6⟩ ⟨PreY.blind, fun U hU hW => ⟨rfl, y_pre C hf hP hD hS U hU hW⟩⟩ rfl hn hl.1 hst (lv_room (Nat.le_of_ble_eq_true hW)) hd ⟨Nat.le_of_ble_eq_true hcs.1, Nat.le_of_ble_eq_true hcs.2⟩) hD hS hl kk
  · rcases List.mem_cons.mp hw with rfl | h
    · exact ⟨o2, gT_good _ o2⟩
    · exact ⟨h, gT_good w h⟩
  · rw [h] at o5
    exact (Option.some.inj o5).symm
/-- a call of an object's method -/
theorem y_callV {S : Type} {post : S → Prop} {B : S → va_W} (C : Cy κ cc own fl) {f2 : Bool} (hf : f2 = true → fl = true) {y : MethodName} {b : ByteArray} {nL n idx a i ci mc ms : Nat} {qc : vw_C} {fs : List Value} {rm : Room} {As rest : List Value} (hM : KyS (kl κ) (kg κ) f2 y b nL rm (.ref a :: As) ws post B mc ms) (o : okV y b nL none n) (hw : Cond.methodLink own idx y ∈ gT) (hi : ws[i]? = some (a, .inr (ci, fs))) (hc : vwCl[ci]? = some qc) (hcl : qc.1 = y.cls) (hr : okRM rm (kR κ) nL mc ms = true) (hn : As.length = n) (hst : st = As.reverse ++ .ref a :: rest) (hW : Nat.ble ((rest.map fun v => v.category).sum) 8 = true) (hcs : Nat.ble (ce + mc) (kR κ).cells = true ∧ Nat.ble (so + ms) (kR κ).slots = true) (hd : decode cc pc = .ok (.invokevirtual idx, 3))
    (kk : ∀ u : S, post u → Y κ (ce + mc) (so + ms) (B u) (pc + 3) ls rest) : Y κ ce so ws pc ls st := fun H locs la hP hD hS hl => by
  obtain ⟨⟨o1, o2, o3, o4, o5⟩, o6, o7⟩ := o
  obtain ⟨hr1, hr2, hr3⟩ := okRM_spec hr
  refine y_post (ls := ls) C (va_runV C.1 (hM H.size) ⟨⟨hr2, hr3, hr1.1, hr1.2, pay_in C.ts (fun w hw => ?_), List.mem_cons_self, C.ts _ o2, C.ts _ o1, ⟨o3, o4⟩, fun sig h => ?_, C.ts _ hw⟩, C.ts _ o6, C.ts _ o7⟩ ⟨PreY.blind, by rw [← hcl]; exact va_recv C.K hP hc hi, fun U hU hW => ⟨rfl, y_pre C hf hP hD hS U hU hW⟩⟩ rfl hn hl.1 hst (lv_room (Nat.le_of_ble_eq_true hW)) hd ⟨Nat.le_of_ble_eq_true hcs.1, Nat.le_of_ble_eq_true hcs.2⟩) hD hS hl kk
  · rcases List.mem_cons.mp hw with rfl | h
    · exact ⟨o2, gT_good _ o2⟩
    · exact ⟨h, gT_good w h⟩
  · rw [h] at o5
    exact (Option.some.inj o5).symm
end YC
/-- places in a world of two halves -/
theorem w_ix {w0 w1 : va_W} {i : Nat} {x : Nat × va_E} (h : w1[i]? = some x) : (w0 ++ w1)[w0.length + i]? = some x := by
  rw [List.getElem?_append_right (by omega), show w0.length + i - w0.length = i by omega]; exact h
theorem w_set {w0 w1 w2 : va_W} {i : Nat} {x : Nat × va_E} (h : w1.set i x = w2) : (w0 ++ w1).set (w0.length + i) x = w0 ++ w2 := by
  rw [List.set_append_right _ _ (by omega), show w0.length + i - w0.length = i by omega, h]
theorem w_app {w0 w1 w2 w3 : va_W} (h : w1 ++ w2 = w3) : w0 ++ w1 ++ w2 = w0 ++ w3 := by rw [List.append_assoc, h]
