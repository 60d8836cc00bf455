/-! ===== CONTRACTS over the world, a method's start and end, calls ===== -/
theorem zble (n : Nat) : Nat.ble 0 n = true := Nat.ble_eq_true_of_le (Nat.zero_le n)
/-- the world as a method finds it -/
def PreW (g : Gp) (M : Mem) (sz : Nat) (U : State) : Prop :=
  U.heap.size = sz ∧ va_P (gD g) vwCl (Wd g M) U.heap ∧ va_K (gD g) vwCl (gtys g) U ∧ Adok (Ag g sz) g ∧ 56 ≤ gn g ∧ Sta g (Ag g sz) U U.heap ∧ StR g U
/-- the world as it leaves it -/
def PosW (g : Gp) (M : Mem) (t : State) : Prop := va_P (gD g) vwCl (Wd g M) t.heap
theorem PreW.blind {g : Gp} {M : Mem} {sz : Nat} {av : List Value} : FrameBlind (va_Pc av (PreW g M sz)) := fun a U f mk q => by
  obtain ⟨q0, q1, q2, q3, q4, q5, q6, q7⟩ := q
  exact ⟨q0, q1, q2, va_K.moved (u := U) (U := U.calling f mk a) (Vm.Alike.refl U.vm) q3, q4, q5, Sta.moved (u := U) (U := U.calling f mk a) (Vm.Alike.refl U.vm) q6, StR.same (u := U) rfl q7⟩
/-- contracts: of a method with an int (or boolean ..), none, a long, a reference -/
def Ki (l : Launch) (g : Gp) (y : MethodName) (b : ByteArray) (nL : Nat) (rt : FieldType) (rm : Room) (av : List Value) (M : Mem) (post : Int32 → Mem → Prop) : Prop :=
  ∀ sz : Nat, Met l y (.code y b nL (some rt) :: gT) rm (va_Pc av (PreW g M sz)) (va_Qi post (PosW g) (Ag g sz)) 0 0 (Ag g sz)
def Kv (l : Launch) (g : Gp) (y : MethodName) (b : ByteArray) (nL : Nat) (rm : Room) (av : List Value) (M : Mem) (post : Mem → Prop) : Prop :=
  ∀ sz : Nat, Met l y (.code y b nL none :: gT) rm (va_Pc av (PreW g M sz)) (va_Qv post (PosW g) (Ag g sz)) 0 0 (Ag g sz)
def Kl (l : Launch) (g : Gp) (y : MethodName) (b : ByteArray) (nL : Nat) (rm : Room) (av : List Value) (M : Mem) (post : Int64 → Mem → Prop) : Prop :=
  ∀ sz : Nat, Met l y (.code y b nL (some .long) :: gT) rm (va_Pc av (PreW g M sz)) (va_Ql post (PosW g) (Ag g sz)) 0 0 (Ag g sz)
def Kq (l : Launch) (g : Gp) (y : MethodName) (b : ByteArray) (nL : Nat) (rt : FieldType) (rm : Room) (av : List Value) (M : Mem) (post : Option Nat → Mem → Prop) : Prop :=
  ∀ sz : Nat, Met l y (.code y b nL (some rt) :: gT) rm (va_Pc av (PreW g M sz)) (va_Qq post (PosW g) (Ag g sz)) 0 0 (Ag g sz)
/-- a method's end -/
def Ri (κ : Kx) (cc : ByteArray) (rt : FieldType) (post : Int32 → Mem → Prop) : Prop := ∀ (M : Mem) (pc : Nat) (ls : List (Option Value)) (r : Int32), decode cc pc = .ok (.ireturn, 1) → narrow rt (.int r) = .int r → post r M → X κ M pc ls [.int r]
def Rv (κ : Kx) (cc : ByteArray) (post : Mem → Prop) : Prop := ∀ (M : Mem) (pc : Nat) (ls : List (Option Value)), decode cc pc = .ok (.return_, 1) → post M → X κ M pc ls []
def Rl (κ : Kx) (cc : ByteArray) (post : Int64 → Mem → Prop) : Prop := ∀ (M : Mem) (pc : Nat) (ls : List (Option Value)) (r : Int64), decode cc pc = .ok (.lreturn, 1) → post r M → X κ M pc ls [.long r]
def Rq (κ : Kx) (cc : ByteArray) (post : Option Nat → Mem → Prop) : Prop := ∀ (M : Mem) (pc : Nat) (ls : List (Option Value)) (r : Option Nat), decode cc pc = .ok (.areturn, 1) → post r M → X κ M pc ls [va_rf r]

set_option maxHeartbeats 4000000 in
theorem Ki.of {l : Launch} {g : Gp} {y : MethodName} {b : ByteArray} {nL : Nat} {rt : FieldType} {post : Int32 → Mem → Prop} {rm : Room} {av : List Value} {M : Mem} (hy : plainName y.cls = true) (hn : Nat.ble av.length nL = true) (hc : (av.all fun v => v.category == 1) = true) 
    (body : ∀ q : Kr, Cx (kmk l rm g nL q) b y.cls → Ri (kmk l rm g nL q) b rt post → (Nat.ble (kce (kmk l rm g nL q)) (kR (kmk l rm g nL q)).cells = true ∧ Nat.ble (kso (kmk l rm g nL q)) (kR (kmk l rm g nL q)).slots = true) → X (kmk l rm g nL q) M 0 (linit nL av) []) : Ki l g y b nL rt rm av M post := by
  intro sz
  refine Met.ofW (cc := b) (maxL := nL) (ret := (some rt)) hy rfl ?_
  intro p e s m args below meth c s₁ B hml hv
  obtain ⟨rfl, hsz, hP, hK, hA, h56, hSt, hStR⟩ := hv
  subst hsz
  have hlen : av.length ≤ nL := Nat.le_of_ble_eq_true hn
  have hlg : lg_sl av = av.map Slot.val := by
    have hc' := hc
    clear body hn hlen hP hK hA hSt hStR B
    induction av with
    | nil => rfl
    | cons a t ih =>
      rw [List.all_cons, Bool.and_eq_true, beq_iff_eq] at hc'
      have := ih hc'.2 hc'.2
      simp only [lg_sl] at this ⊢
      rw [List.flatMap_cons, this]
      simp [hc'.1]
  have C : Cx (kmk l rm g nL ((p, e, s, m), (av.toArray, below, meth, c), MQ below (va_Qi post (PosW g) (Ag g s.heap.size)) av.toArray s 0 0 (Ag g s.heap.size), Ag g s.heap.size, (0, 0))) b y.cls :=
    ⟨⟨B.exec, B.bytes, hml, findClass_of_methodNamed B.named, fun w hw => atoms_spec (ws := .code y b nL (some rt) :: gT) B.pre w (List.mem_cons_of_mem _ hw)⟩, hK, hA, fun q h => Or.inr h, h56, hSt, hStR⟩
  have hX := body _ C (fun M1 pc ls r hd hnr hp => fun H locs la hP1 hS1 hl1 => W.zret B.exec B.bytes B.returns hnr (fun t ht hW => ⟨⟨r, M1, rfl, hp, by unfold PosW; rw [ht]; exact hP1⟩, hS1.F ht⟩) hS1.2.2 hd B.notSynchronized) ⟨zble _, zble _⟩
  have hl := lv_entry av (n := nL) (by rw [hlg, List.length_map]; exact hlen)
  rw [lg_entry_eq]
  exact hX s.heap [] _ hP va_S.rf (lhas_init hc hl)
set_option maxHeartbeats 4000000 in
theorem Kv.of {l : Launch} {g : Gp} {y : MethodName} {b : ByteArray} {nL : Nat} {post : Mem → Prop} {rm : Room} {av : List Value} {M : Mem} (hy : plainName y.cls = true) (hn : Nat.ble av.length nL = true) (hc : (av.all fun v => v.category == 1) = true) 
    (body : ∀ q : Kr, Cx (kmk l rm g nL q) b y.cls → Rv (kmk l rm g nL q) b post → (Nat.ble (kce (kmk l rm g nL q)) (kR (kmk l rm g nL q)).cells = true ∧ Nat.ble (kso (kmk l rm g nL q)) (kR (kmk l rm g nL q)).slots = true) → X (kmk l rm g nL q) M 0 (linit nL av) []) : Kv l g y b nL rm av M post := by
  intro sz
  refine Met.ofW (cc := b) (maxL := nL) (ret := none) hy rfl ?_
  intro p e s m args below meth c s₁ B hml hv
  obtain ⟨rfl, hsz, hP, hK, hA, h56, hSt, hStR⟩ := hv
  subst hsz
  have hlen : av.length ≤ nL := Nat.le_of_ble_eq_true hn
  have hlg : lg_sl av = av.map Slot.val := by
    have hc' := hc
    clear body hn hlen hP hK hA hSt hStR B
    induction av with
    | nil => rfl
    | cons a t ih =>
      rw [List.all_cons, Bool.and_eq_true, beq_iff_eq] at hc'
      have := ih hc'.2 hc'.2
      simp only [lg_sl] at this ⊢
      rw [List.flatMap_cons, this]
      simp [hc'.1]
  have C : Cx (kmk l rm g nL ((p, e, s, m), (av.toArray, below, meth, c), MQ below (va_Qv post (PosW g) (Ag g s.heap.size)) av.toArray s 0 0 (Ag g s.heap.size), Ag g s.heap.size, (0, 0))) b y.cls :=
    ⟨⟨B.exec, B.bytes, hml, findClass_of_methodNamed B.named, fun w hw => atoms_spec (ws := .code y b nL none :: gT) B.pre w (List.mem_cons_of_mem _ hw)⟩, hK, hA, fun q h => Or.inr h, h56, hSt, hStR⟩
  have hX := body _ C (fun M1 pc ls hd hp => fun H locs la hP1 hS1 hl1 => W.vret B.exec B.bytes B.returns (fun t ht hW => ⟨⟨M1, rfl, hp, by unfold PosW; rw [ht]; exact hP1⟩, hS1.F ht⟩) hS1.2.2 hd B.notSynchronized) ⟨zble _, zble _⟩
  have hl := lv_entry av (n := nL) (by rw [hlg, List.length_map]; exact hlen)
  rw [lg_entry_eq]
  exact hX s.heap [] _ hP va_S.rf (lhas_init hc hl)
set_option maxHeartbeats 4000000 in
theorem Kl.of {l : Launch} {g : Gp} {y : MethodName} {b : ByteArray} {nL : Nat} {post : Int64 → Mem → Prop} {rm : Room} {av : List Value} {M : Mem} (hy : plainName y.cls = true) (hn : Nat.ble av.length nL = true) (hc : (av.all fun v => v.category == 1) = true) 
    (body : ∀ q : Kr, Cx (kmk l rm g nL q) b y.cls → Rl (kmk l rm g nL q) b post → (Nat.ble (kce (kmk l rm g nL q)) (kR (kmk l rm g nL q)).cells = true ∧ Nat.ble (kso (kmk l rm g nL q)) (kR (kmk l rm g nL q)).slots = true) → X (kmk l rm g nL q) M 0 (linit nL av) []) : Kl l g y b nL rm av M post := by
  intro sz
  refine Met.ofW (cc := b) (maxL := nL) (ret := (some .long)) hy rfl ?_
  intro p e s m args below meth c s₁ B hml hv
  obtain ⟨rfl, hsz, hP, hK, hA, h56, hSt, hStR⟩ := hv
  subst hsz
  have hlen : av.length ≤ nL := Nat.le_of_ble_eq_true hn
  have hlg : lg_sl av = av.map Slot.val := by
    have hc' := hc
    clear body hn hlen hP hK hA hSt hStR B
    induction av with
    | nil => rfl
    | cons a t ih =>
      rw [List.all_cons, Bool.and_eq_true, beq_iff_eq] at hc'
      have := ih hc'.2 hc'.2
      simp only [lg_sl] at this ⊢
      rw [List.flatMap_cons, this]
      simp [hc'.1]
  have C : Cx (kmk l rm g nL ((p, e, s, m), (av.toArray, below, meth, c), MQ below (va_Ql post (PosW g) (Ag g s.heap.size)) av.toArray s 0 0 (Ag g s.heap.size), Ag g s.heap.size, (0, 0))) b y.cls :=
    ⟨⟨B.exec, B.bytes, hml, findClass_of_methodNamed B.named, fun w hw => atoms_spec (ws := .code y b nL (some .long) :: gT) B.pre w (List.mem_cons_of_mem _ hw)⟩, hK, hA, fun q h => Or.inr h, h56, hSt, hStR⟩
  have hX := body _ C (fun M1 pc ls r hd hp => fun H locs la hP1 hS1 hl1 => W.lret B.exec B.bytes B.returns (fun t ht hW => ⟨⟨r, M1, rfl, hp, by unfold PosW; rw [ht]; exact hP1⟩, hS1.F ht⟩) hS1.2.2 hd B.notSynchronized) ⟨zble _, zble _⟩
  have hl := lv_entry av (n := nL) (by rw [hlg, List.length_map]; exact hlen)
  rw [lg_entry_eq]
  exact hX s.heap [] _ hP va_S.rf (lhas_init hc hl)
set_option maxHeartbeats 4000000 in
theorem Kq.of {l : Launch} {g : Gp} {y : MethodName} {b : ByteArray} {nL : Nat} {rt : FieldType} {post : Option Nat → Mem → Prop} {rm : Room} {av : List Value} {M : Mem} (hy : plainName y.cls = true) (hn : Nat.ble av.length nL = true) (hc : (av.all fun v => v.category == 1) = true) (hrt : (∃ n, rt = .object n) ∨ ∃ t, rt = .array t) 
    (body : ∀ q : Kr, Cx (kmk l rm g nL q) b y.cls → Rq (kmk l rm g nL q) b post → (Nat.ble (kce (kmk l rm g nL q)) (kR (kmk l rm g nL q)).cells = true ∧ Nat.ble (kso (kmk l rm g nL q)) (kR (kmk l rm g nL q)).slots = true) → X (kmk l rm g nL q) M 0 (linit nL av) []) : Kq l g y b nL rt rm av M post := by
  intro sz
  refine Met.ofW (cc := b) (maxL := nL) (ret := (some rt)) hy rfl ?_
  intro p e s m args below meth c s₁ B hml hv
  obtain ⟨rfl, hsz, hP, hK, hA, h56, hSt, hStR⟩ := hv
  subst hsz
  have hlen : av.length ≤ nL := Nat.le_of_ble_eq_true hn
  have hlg : lg_sl av = av.map Slot.val := by
    have hc' := hc
    clear body hn hlen hP hK hA hSt hStR B
    induction av with
    | nil => rfl
    | cons a t ih =>
      rw [List.all_cons, Bool.and_eq_true, beq_iff_eq] at hc'
      have := ih hc'.2 hc'.2
      simp only [lg_sl] at this ⊢
      rw [List.flatMap_cons, this]
      simp [hc'.1]
  have C : Cx (kmk l rm g nL ((p, e, s, m), (av.toArray, below, meth, c), MQ below (va_Qq post (PosW g) (Ag g s.heap.size)) av.toArray s 0 0 (Ag g s.heap.size), Ag g s.heap.size, (0, 0))) b y.cls :=
    ⟨⟨B.exec, B.bytes, hml, findClass_of_methodNamed B.named, fun w hw => atoms_spec (ws := .code y b nL (some rt) :: gT) B.pre w (List.mem_cons_of_mem _ hw)⟩, hK, hA, fun q h => Or.inr h, h56, hSt, hStR⟩
  have hX := body _ C (fun M1 pc ls r hd hp => fun H locs la hP1 hS1 hl1 => W.aret B.exec B.bytes B.returns hrt (by cases r <;> first | exact Or.inl rfl | exact Or.inr ⟨_, rfl⟩) (fun t ht hW => ⟨⟨r, M1, rfl, hp, by unfold PosW; rw [ht]; exact hP1⟩, hS1.F ht⟩) hS1.2.2 hd B.notSynchronized) ⟨zble _, zble _⟩
  have hl := lv_entry av (n := nL) (by rw [hlg, List.length_map]; exact hlen)
  rw [lg_entry_eq]
  exact hX s.heap [] _ hP va_S.rf (lhas_init hc hl)
/-- a method's own words -/
def okW (y : MethodName) (b : ByteArray) (nL : Nat) (ret : Option FieldType) (n : Nat) : Prop := Cond.initialized y.cls ∈ gT ∧ Cond.code y b nL ret ∈ gT ∧ y.cls ≠ "java/lang/invoke/MethodHandle" ∧ y.cls ≠ "java/lang/invoke/VarHandle" ∧ (parseMethodDescriptor y.desc).map (fun d => d.parameters.length) = some n
def okV (y : MethodName) (b : ByteArray) (nL : Nat) (ret : Option FieldType) (n : Nat) : Prop := okW y b nL ret n ∧ Cond.instanceMethod y ∈ gT ∧ Cond.selects y.cls y y ∈ gT
def okS (y : MethodName) (b : ByteArray) (nL : Nat) (ret : Option FieldType) (n : Nat) : Prop := okW y b nL ret n ∧ Cond.static y ∈ gT
/-- the callee's room in the caller's -/
def okR (rm R : Room) (nL : Nat) : Bool := Nat.ble (rm.frames + 1) R.frames && Nat.ble (8 + (nL + 11) + rm.locals) R.locals && Nat.beq rm.cells 0 && Nat.beq rm.slots 0
/-- the object at a place is of that class -/
def Rcv (g : Gp) (k : Nat) (C : String) : Prop := ∃ (ci : Nat) (q : vw_C) (fl : (Nat → Int32) → List Value), vwCl[ci]? = some q ∧ q.1 = C ∧ ∀ f, ent g k f = .inr (ci, fl f)
section XC
variable {κ : Kx} {cc : ByteArray} {own : String} {M : Mem} {pc : Nat} {ls : List (Option Value)} {st : List Value}
theorem okR_spec {rm R : Room} {nL : Nat} (h : okR rm R nL = true) : (rm.frames + 1 ≤ R.frames ∧ 8 + (nL + 11) + rm.locals ≤ R.locals) ∧ rm.cells = 0 ∧ rm.slots = 0 := by
  simp only [okR, Bool.and_eq_true] at h
  exact ⟨⟨Nat.le_of_ble_eq_true h.1.1.1, Nat.le_of_ble_eq_true h.1.1.2⟩, Nat.eq_of_beq_eq_true h.1.2, Nat.eq_of_beq_eq_true h.2⟩
theorem x_callB (C : Cx κ cc own) {y : MethodName} {b : ByteArray} {nL n idx : Nat} {ret : Option FieldType} {rm : Room} (o : okW y b nL ret n) (hw : Cond.methodLink own idx y ∈ gT) (hr : okR rm (kR κ) nL = true) : CallB (kR κ) (ks κ) (ka κ) own idx y b nL ret (.code y b nL ret :: gT) rm 0 0 n := by
  obtain ⟨o1, o2, o3, o4, o5⟩ := o
  obtain ⟨hr1, hr2, hr3⟩ := okR_spec hr
  refine ⟨hr2, hr3, hr1.1, hr1.2, pay_in C.ts (fun w hw => ?_), List.mem_cons_self, C.ts _ o2, C.ts _ o1, ⟨o3, o4⟩, fun sig h => ?_, C.ts _ hw⟩
  · rcases List.mem_cons.mp hw with rfl | h
    · exact ⟨o2, gT_good _ o2⟩
    · exact ⟨h, gT_good w h⟩
  · rw [h] at o5
    exact (Option.some.inj o5).symm
theorem x_pre (C : Cx κ cc own) {H : Heap} {locs : List Loc} (hP : va_P (gD (kg κ)) vwCl (Wd (kg κ) M) H) (hS : va_S (kA κ) (ks κ).heap H locs) (U : State) (hU : U.heap = H) (hW : (ks κ).WarmedH U.vm) : PreW (kg κ) M H.size U := by
  refine ⟨by rw [hU], by rw [hU]; exact hP, va_K.moved hW.alike C.K, ⟨C.A.1, fun k hk => Ag_in hk⟩, C.n, ?_, C.R.warm hW⟩
  rw [hU]
  refine ((C.S.moved hW.alike).kept hS.2.1).narrow (fun q hq => ?_)
  rcases hq with ⟨k, hk, rfl⟩ | hq
  · exact C.A.2 k hk
  · exact C.N q (Nat.le_trans hS.1 hq)
theorem x_free (C : Cx κ cc own) {H : Heap} {locs : List Loc} (hS : va_S (kA κ) (ks κ).heap H locs) : ∀ q, Ag (kg κ) H.size q → kA κ q := fun q hq => by
  rcases hq with ⟨k, hk, rfl⟩ | hq
  · exact C.A.2 k hk
  · exact C.N q (Nat.le_trans hS.1 hq)
theorem x_recv (C : Cx κ cc own) {H : Heap} (hP : va_P (gD (kg κ)) vwCl (Wd (kg κ) M) H) {k : Nat} {Cn : String} (hk : k < gn (kg κ)) (hr : Rcv (kg κ) k Cn) : ∃ cell : Cell, H[gad (kg κ) k]? = some cell ∧ cell.vm.isStatics = false ∧ (ks κ).vm.findClass Cn = some cell.cls := by
  obtain ⟨ci, q, fl, h1, h2, h3⟩ := hr
  rw [← h2]
  exact va_recv C.K hP h1 ((Wd_at hk).trans (by rw [h3]))
theorem x_runV (C : Cx κ cc own) {y : MethodName} {b : ByteArray} {nL n idx k : Nat} {ret : Option FieldType} {rm : Room} {As rest : List Value} {Qc : Array Value → State → Outcome → State → Prop} {H : Heap} {locs : List Loc} {la : Array Slot}
    (hM : Met (kl κ) y (.code y b nL ret :: gT) rm (va_Pc (.ref (gad (kg κ) k) :: As) (PreW (kg κ) M H.size)) Qc 0 0 (Ag (kg κ) H.size)) (o : okV y b nL ret n) (hw : Cond.methodLink own idx y ∈ gT) (hr : okR rm (kR κ) nL = true) (hk : k < gn (kg κ)) (hrc : Rcv (kg κ) k y.cls) (hn : As.length = n)
    (hst : st = As.reverse ++ .ref (gad (kg κ) k) :: rest) (hW : Nat.ble ((rest.map fun v => v.category).sum) 8 = true) (hcs : Nat.ble (kce κ) (kR κ).cells = true ∧ Nat.ble (kso κ) (kR κ).slots = true) (hd : decode cc pc = .ok (.invokevirtual idx, 3))
    (hP : va_P (gD (kg κ)) vwCl (Wd (kg κ) M) H) (hS : va_S (kA κ) (ks κ).heap H locs) (hl : lhas la (knL κ) ls) :
    va_Run (kp κ) (kl κ) (ke κ) (kR κ) (ks κ) (km κ) (ka κ) (kb κ) (kme κ) (kc κ) H locs (kce κ) (kso κ) 0 0 (F0 (km κ) pc la st) rest (Qc (Value.ref (gad (kg κ) k) :: As).toArray) (Ag (kg κ) H.size) :=
  va_runV C.1 hM ⟨x_callB C o.1 hw hr, C.ts _ o.2.1, C.ts _ o.2.2⟩ ⟨PreW.blind, x_recv C hP hk hrc, fun U hU hW => ⟨rfl, x_pre C hP hS U hU hW⟩⟩ rfl hn hl.1 hst (lv_room (Nat.le_of_ble_eq_true hW)) hd ⟨Nat.le_of_ble_eq_true hcs.1, Nat.le_of_ble_eq_true hcs.2⟩
theorem x_runS (C : Cx κ cc own) {y : MethodName} {b : ByteArray} {nL n idx : Nat} {ret : Option FieldType} {rm : Room} {As rest : List Value} {Qc : Array Value → State → Outcome → State → Prop} {H : Heap} {locs : List Loc} {la : Array Slot}
    (hM : Met (kl κ) y (.code y b nL ret :: gT) rm (va_Pc As (PreW (kg κ) M H.size)) Qc 0 0 (Ag (kg κ) H.size)) (o : okS y b nL ret n) (hw : Cond.methodLink own idx y ∈ gT) (hr : okR rm (kR κ) nL = true) (hn : As.length = n)
    (hst : st = As.reverse ++ rest) (hW : Nat.ble ((rest.map fun v => v.category).sum) 8 = true) (hcs : Nat.ble (kce κ) (kR κ).cells = true ∧ Nat.ble (kso κ) (kR κ).slots = true) (hd : decode cc pc = .ok (.invokestatic idx, 3))
    (hP : va_P (gD (kg κ)) vwCl (Wd (kg κ) M) H) (hS : va_S (kA κ) (ks κ).heap H locs) (hl : lhas la (knL κ) ls) :
    va_Run (kp κ) (kl κ) (ke κ) (kR κ) (ks κ) (km κ) (ka κ) (kb κ) (kme κ) (kc κ) H locs (kce κ) (kso κ) 0 0 (F0 (km κ) pc la st) rest (Qc As.toArray) (Ag (kg κ) H.size) :=
  va_runS C.1 hM ⟨x_callB C o.1 hw hr, C.ts _ o.2⟩ ⟨PreW.blind, fun U hU hW => ⟨rfl, x_pre C hP hS U hU hW⟩⟩ rfl hn hl.1 hst (lv_room (Nat.le_of_ble_eq_true hW)) hd ⟨Nat.le_of_ble_eq_true hcs.1, Nat.le_of_ble_eq_true hcs.2⟩
theorem x_runSN (C : Cx κ cc own) {y : MethodName} {b : ByteArray} {nL n idx : Nat} {ret : Option FieldType} {rm : Room} {As rest : List Value} {Qc : Array Value → State → Outcome → State → Prop} {H : Heap} {locs : List Loc} {la : Array Slot}
    (hM : Met (kl κ) y (.code y b nL ret :: gT) rm (va_Pc As (PreW (kg κ) M H.size)) Qc 0 0 (Ag (kg κ) H.size)) (o : okS y b nL ret n) (hw : (own, idx, y) ∈ nests) (hr : okR rm (kR κ) nL = true) (hn : As.length = n)
    (hst : st = As.reverse ++ rest) (hW : Nat.ble ((rest.map fun v => v.category).sum) 8 = true) (hcs : Nat.ble (kce κ) (kR κ).cells = true ∧ Nat.ble (kso κ) (kR κ).slots = true) (hd : decode cc pc = .ok (.invokestatic idx, 3))
    (hP : va_P (gD (kg κ)) vwCl (Wd (kg κ) M) H) (hS : va_S (kA κ) (ks κ).heap H locs) (hl : lhas la (knL κ) ls) :
    va_Run (kp κ) (kl κ) (ke κ) (kR κ) (ks κ) (km κ) (ka κ) (kb κ) (kme κ) (kc κ) H locs (kce κ) (kso κ) 0 0 (F0 (km κ) pc la st) rest (Qc As.toArray) (Ag (kg κ) H.size) := by
  obtain ⟨⟨o1, o2, o3, o4, o5⟩, o6⟩ := o
  obtain ⟨hr1, hr2, hr3⟩ := okR_spec hr
  refine va_runSN C.1 hM ⟨⟨⟨hr2, hr3, hr1.1, hr1.2, pay_in C.ts (fun w hw => ?_), List.mem_cons_self⟩, C.ts _ o2, C.ts _ o1, ⟨o3, o4⟩, fun sig h => ?_, va_Nw.use rfl (C.R.2 _ hw)⟩, C.ts _ o6, trivial⟩ ⟨PreW.blind, fun U hU hW => ⟨rfl, x_pre C hP hS U hU hW⟩⟩ rfl hn hl.1 hst (lv_room (Nat.le_of_ble_eq_true hW)) hd ⟨Nat.le_of_ble_eq_true hcs.1, Nat.le_of_ble_eq_true hcs.2⟩
  · rcases List.mem_cons.mp hw with rfl | h
    · exact ⟨o2, gT_good _ o2⟩
    · exact ⟨h, gT_good w h⟩
  · rw [h] at o5
    exact (Option.some.inj o5).symm
theorem x_cvi (C : Cx κ cc own) {y : MethodName} {b : ByteArray} {nL n idx k : Nat} {rt : FieldType} {post : Int32 → Mem → Prop} {rm : Room} {As rest : List Value} (hM : Ki (kl κ) (kg κ) y b nL rt rm (.ref (gad (kg κ) k) :: As) M post) (o : okV y b nL (some rt) n) (hw : Cond.methodLink own idx y ∈ gT) (hr : okR rm (kR κ) nL = true) (hk : k < gn (kg κ)) (hrc : Rcv (kg κ) k y.cls) (hn : As.length = n) (hst : st = As.reverse ++ .ref (gad (kg κ) k) :: rest) (hW : Nat.ble ((rest.map fun v => v.category).sum) 8 = true) (hcs : Nat.ble (kce κ) (kR κ).cells = true ∧ Nat.ble (kso κ) (kR κ).slots = true) (hd : decode cc pc = .ok (.invokevirtual idx, 3))
    (kk : ∀ (r : Int32) (M' : Mem), post r M' → X κ M' (pc + 3) ls (.int r :: rest)) : X κ M pc ls st := fun H locs la hP hS hl =>
  va_calli (x_runV C (hM H.size) o hw hr hk hrc hn hst hW hcs hd hP hS hl) hS (fun q _ h => x_free C hS q h) (x_free C hS) (fun r M' t H1 locs1 ht _ hw1 hB _ _ hS1 => kk r M' hw1 H1 locs1 la (by rw [← ht]; exact hB) hS1 hl)
theorem x_cvv (C : Cx κ cc own) {y : MethodName} {b : ByteArray} {nL n idx k : Nat} {post : Mem → Prop} {rm : Room} {As rest : List Value} (hM : Kv (kl κ) (kg κ) y b nL rm (.ref (gad (kg κ) k) :: As) M post) (o : okV y b nL none n) (hw : Cond.methodLink own idx y ∈ gT) (hr : okR rm (kR κ) nL = true) (hk : k < gn (kg κ)) (hrc : Rcv (kg κ) k y.cls) (hn : As.length = n) (hst : st = As.reverse ++ .ref (gad (kg κ) k) :: rest) (hW : Nat.ble ((rest.map fun v => v.category).sum) 8 = true) (hcs : Nat.ble (kce κ) (kR κ).cells = true ∧ Nat.ble (kso κ) (kR κ).slots = true) (hd : decode cc pc = .ok (.invokevirtual idx, 3))
    (kk : ∀ (M' : Mem), post M' → X κ M' (pc + 3) ls rest) : X κ M pc ls st := fun H locs la hP hS hl =>
  va_callv (x_runV C (hM H.size) o hw hr hk hrc hn hst hW hcs hd hP hS hl) hS (fun q _ h => x_free C hS q h) (x_free C hS) (fun M' t H1 locs1 ht _ hw1 hB _ _ hS1 => kk M' hw1 H1 locs1 la (by rw [← ht]; exact hB) hS1 hl)
theorem x_cvl (C : Cx κ cc own) {y : MethodName} {b : ByteArray} {nL n idx k : Nat} {post : Int64 → Mem → Prop} {rm : Room} {As rest : List Value} (hM : Kl (kl κ) (kg κ) y b nL rm (.ref (gad (kg κ) k) :: As) M post) (o : okV y b nL (some .long) n) (hw : Cond.methodLink own idx y ∈ gT) (hr : okR rm (kR κ) nL = true) (hk : k < gn (kg κ)) (hrc : Rcv (kg κ) k y.cls) (hn : As.length = n) (hst : st = As.reverse ++ .ref (gad (kg κ) k) :: rest) (hW : Nat.ble ((rest.map fun v => v.category).sum) 8 = true) (hcs : Nat.ble (kce κ) (kR κ).cells = true ∧ Nat.ble (kso κ) (kR κ).slots = true) (hd : decode cc pc = .ok (.invokevirtual idx, 3))
    (kk : ∀ (r : Int64) (M' : Mem), post r M' → X κ M' (pc + 3) ls (.long r :: rest)) : X κ M pc ls st := fun H locs la hP hS hl =>
  va_calll (x_runV C (hM H.size) o hw hr hk hrc hn hst hW hcs hd hP hS hl) hS (fun q _ h => x_free C hS q h) (x_free C hS) (fun r M' t H1 locs1 ht _ hw1 hB _ _ hS1 => kk r M' hw1 H1 locs1 la (by rw [← ht]; exact hB) hS1 hl)
theorem x_cvq (C : Cx κ cc own) {y : MethodName} {b : ByteArray} {nL n idx k : Nat} {rt : FieldType} {post : Option Nat → Mem → Prop} {rm : Room} {As rest : List Value} (hM : Kq (kl κ) (kg κ) y b nL rt rm (.ref (gad (kg κ) k) :: As) M post) (o : okV y b nL (some rt) n) (hw : Cond.methodLink own idx y ∈ gT) (hr : okR rm (kR κ) nL = true) (hk : k < gn (kg κ)) (hrc : Rcv (kg κ) k y.cls) (hn : As.length = n) (hst : st = As.reverse ++ .ref (gad (kg κ) k) :: rest) (hW : Nat.ble ((rest.map fun v => v.category).sum) 8 = true) (hcs : Nat.ble (kce κ) (kR κ).cells = true ∧ Nat.ble (kso κ) (kR κ).slots = true) (hd : decode cc pc = .ok (.invokevirtual idx, 3))
    (kk : ∀ (r : Option Nat) (M' : Mem), post r M' → X κ M' (pc + 3) ls (va_rf r :: rest)) : X κ M pc ls st := fun H locs la hP hS hl =>
  va_callq (x_runV C (hM H.size) o hw hr hk hrc hn hst hW hcs hd hP hS hl) hS (fun q _ h => x_free C hS q h) (x_free C hS) (fun r M' t H1 locs1 ht _ hw1 hB _ _ hS1 => kk r M' hw1 H1 locs1 la (by rw [← ht]; exact hB) hS1 hl)
theorem x_csi (C : Cx κ cc own) {y : MethodName} {b : ByteArray} {nL n idx : Nat} {rt : FieldType} {post : Int32 → Mem → Prop} {rm : Room} {As rest : List Value} (hM : Ki (kl κ) (kg κ) y b nL rt rm As M post) (o : okS y b nL (some rt) n) (hw : Cond.methodLink own idx y ∈ gT) (hr : okR rm (kR κ) nL = true) (hn : As.length = n) (hst : st = As.reverse ++ rest) (hW : Nat.ble ((rest.map fun v => v.category).sum) 8 = true) (hcs : Nat.ble (kce κ) (kR κ).cells = true ∧ Nat.ble (kso κ) (kR κ).slots = true) (hd : decode cc pc = .ok (.invokestatic idx, 3))
    (kk : ∀ (r : Int32) (M' : Mem), post r M' → X κ M' (pc + 3) ls (.int r :: rest)) : X κ M pc ls st := fun H locs la hP hS hl =>
  va_calli (x_runS C (hM H.size) o hw hr hn hst hW hcs hd hP hS hl) hS (fun q _ h => x_free C hS q h) (x_free C hS) (fun r M' t H1 locs1 ht _ hw1 hB _ _ hS1 => kk r M' hw1 H1 locs1 la (by rw [← ht]; exact hB) hS1 hl)
theorem x_csv (C : Cx κ cc own) {y : MethodName} {b : ByteArray} {nL n idx : Nat} {post : Mem → Prop} {rm : Room} {As rest : List Value} (hM : Kv (kl κ) (kg κ) y b nL rm As M post) (o : okS y b nL none n) (hw : Cond.methodLink own idx y ∈ gT) (hr : okR rm (kR κ) nL = true) (hn : As.length = n) (hst : st = As.reverse ++ rest) (hW : Nat.ble ((rest.map fun v => v.category).sum) 8 = true) (hcs : Nat.ble (kce κ) (kR κ).cells = true ∧ Nat.ble (kso κ) (kR κ).slots = true) (hd : decode cc pc = .ok (.invokestatic idx, 3))
    (kk : ∀ (M' : Mem), post M' → X κ M' (pc + 3) ls rest) : X κ M pc ls st := fun H locs la hP hS hl =>
  va_callv (x_runS C (hM H.size) o hw hr hn hst hW hcs hd hP hS hl) hS (fun q _ h => x_free C hS q h) (x_free C hS) (fun M' t H1 locs1 ht _ hw1 hB _ _ hS1 => kk M' hw1 H1 locs1 la (by rw [← ht]; exact hB) hS1 hl)
theorem x_csl (C : Cx κ cc own) {y : MethodName} {b : ByteArray} {nL n idx : Nat} {post : Int64 → Mem → Prop} {rm : Room} {As rest : List Value} (hM : Kl (kl κ) (kg κ) y b nL rm As M post) (o : okS y b nL (some .long) n) (hw : Cond.methodLink own idx y ∈ gT) (hr : okR rm (kR κ) nL = true) (hn : As.length = n) (hst : st = As.reverse ++ rest) (hW : Nat.ble ((rest.map fun v => v.category).sum) 8 = true) (hcs : Nat.ble (kce κ) (kR κ).cells = true ∧ Nat.ble (kso κ) (kR κ).slots = true) (hd : decode cc pc = .ok (.invokestatic idx, 3))
    (kk : ∀ (r : Int64) (M' : Mem), post r M' → X κ M' (pc + 3) ls (.long r :: rest)) : X κ M pc ls st := fun H locs la hP hS hl =>
  va_calll (x_runS C (hM H.size) o hw hr hn hst hW hcs hd hP hS hl) hS (fun q _ h => x_free C hS q h) (x_free C hS) (fun r M' t H1 locs1 ht _ hw1 hB _ _ hS1 => kk r M' hw1 H1 locs1 la (by rw [← ht]; exact hB) hS1 hl)
theorem x_csq (C : Cx κ cc own) {y : MethodName} {b : ByteArray} {nL n idx : Nat} {rt : FieldType} {post : Option Nat → Mem → Prop} {rm : Room} {As rest : List Value} (hM : Kq (kl κ) (kg κ) y b nL rt rm As M post) (o : okS y b nL (some rt) n) (hw : Cond.methodLink own idx y ∈ gT) (hr : okR rm (kR κ) nL = true) (hn : As.length = n) (hst : st = As.reverse ++ rest) (hW : Nat.ble ((rest.map fun v => v.category).sum) 8 = true) (hcs : Nat.ble (kce κ) (kR κ).cells = true ∧ Nat.ble (kso κ) (kR κ).slots = true) (hd : decode cc pc = .ok (.invokestatic idx, 3))
    (kk : ∀ (r : Option Nat) (M' : Mem), post r M' → X κ M' (pc + 3) ls (va_rf r :: rest)) : X κ M pc ls st := fun H locs la hP hS hl =>
  va_callq (x_runS C (hM H.size) o hw hr hn hst hW hcs hd hP hS hl) hS (fun q _ h => x_free C hS q h) (x_free C hS) (fun r M' t H1 locs1 ht _ hw1 hB _ _ hS1 => kk r M' hw1 H1 locs1 la (by rw [← ht]; exact hB) hS1 hl)
theorem x_cnv (C : Cx κ cc own) {y : MethodName} {b : ByteArray} {nL n idx : Nat} {post : Mem → Prop} {rm : Room} {As rest : List Value} (hM : Kv (kl κ) (kg κ) y b nL rm As M post) (o : okS y b nL none n) (hw : (own, idx, y) ∈ nests) (hr : okR rm (kR κ) nL = true) (hn : As.length = n) (hst : st = As.reverse ++ rest) (hW : Nat.ble ((rest.map fun v => v.category).sum) 8 = true) (hcs : Nat.ble (kce κ) (kR κ).cells = true ∧ Nat.ble (kso κ) (kR κ).slots = true) (hd : decode cc pc = .ok (.invokestatic idx, 3))
    (kk : ∀ (M' : Mem), post M' → X κ M' (pc + 3) ls rest) : X κ M pc ls st := fun H locs la hP hS hl =>
  va_callv (x_runSN C (hM H.size) o hw hr hn hst hW hcs hd hP hS hl) hS (fun q _ h => x_free C hS q h) (x_free C hS) (fun M' t H1 locs1 ht _ hw1 hB _ _ hS1 => kk M' hw1 H1 locs1 la (by rw [← ht]; exact hB) hS1 hl)
end XC
