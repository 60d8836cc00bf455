/-! ===== OBJECTS ARE MADE: the judgement Y over a world that is a list of cells ===== -/
def PreY (g : Gp) (fl : Bool) (ws : va_W) (sz : Nat) (U : State) : Prop :=
  U.heap.size = sz ∧ va_P (gD g) vwCl ws U.heap ∧ va_K (gD g) vwCl (gtys g) U ∧ va_D (va_A ws sz) ws ∧ Sta g (va_A ws sz) U U.heap ∧ StR g U ∧ (fl = true → va_AO "HourEggs$Sheet" U)
theorem PreY.blind {g : Gp} {fl : Bool} {ws : va_W} {sz : Nat} {av : List Value} : FrameBlind (va_Pc av (PreY g fl ws sz)) := fun a U f mk q => by
  obtain ⟨q0, q1, q2, q3, q4, q5, q6, q7⟩ := q
  exact ⟨q0, q1, q2, va_K.moved (u := U) (U := U.calling f mk a) (Vm.Alike.refl U.vm) q3, q4, Sta.moved (u := U) (U := U.calling f mk a) (Vm.Alike.refl U.vm) q5, StR.same (u := U) rfl q6, fun h => va_AO.moved (u := U) (U := U.calling f mk a) (Vm.Alike.refl U.vm) (q7 h)⟩
/-- a contract over a list of cells: what is asked of the answer, which cells then, how many are made -/
def KyS {S : Type} (l : Launch) (g : Gp) (fl : Bool) (y : MethodName) (b : ByteArray) (nL : Nat) (rm : Room) (av : List Value) (ws : va_W) (post : S → Prop) (B : S → va_W) (mc ms : Nat) : Prop :=
  ∀ sz : Nat, Met l y (.code y b nL none :: gT) rm (va_Pc av (PreY g fl ws sz)) (va_Qv post (fun u t => va_P (gD g) vwCl (B u) t.heap ∧ va_D (va_A ws sz) (B u)) (va_A ws sz)) mc ms (va_A ws sz)
def Cy (κ : Kx) (cc : ByteArray) (own : String) (fl : Bool) : Prop :=
  CallFix (kp κ) (km κ) (kc κ) cc (knL κ) (ks κ) (ka κ) gT own ∧ va_K (gD (kg κ)) vwCl (gtys (kg κ)) (ks κ) ∧ (∀ q, (ks κ).heap.size ≤ q → kA κ q) ∧ Sta (kg κ) (kA κ) (ks κ) (ks κ).heap ∧ StR (kg κ) (ks κ) ∧ (fl = true → va_AO "HourEggs$Sheet" (ks κ))
def Y (κ : Kx) (ce so : Nat) (ws : va_W) (pc : Nat) (ls : List (Option Value)) (st : List Value) : Prop :=
  ∀ (H : Heap) (locs : List Loc) (la : Array Slot), va_P (gD (kg κ)) vwCl ws H → va_D (kA κ) ws → va_S (kA κ) (ks κ).heap H locs → lhas la (knL κ) ls →
    W (kp κ) (kl κ) (ke κ) (kR κ) (ks κ) (km κ) (ka κ) (kb κ) (kme κ) (kc κ) H locs ce so (kQ κ) (F0 (km κ) pc la st)
section YR
variable {κ : Kx} {cc : ByteArray} {own : String} {fl : Bool} {ce so : Nat} {ws : va_W} {pc : Nat} {ls : List (Option Value)} {st : List Value}
theorem Cy.x (C : Cy κ cc own fl) : (kp κ).tables.exec = Jvm.exec := C.1.1
theorem Cy.b (C : Cy κ cc own fl) : (kc κ).code = cc := C.1.2.1
theorem Cy.ml (C : Cy κ cc own fl) : (kc κ).maxLocals = knL κ := C.1.2.2.1
theorem Cy.ow (C : Cy κ cc own fl) : (ks κ).vm.findClass own = some (km κ).cls := C.1.2.2.2.1
theorem Cy.ts (C : Cy κ cc own fl) : ∀ w ∈ gT, w.before (ka κ) (ks κ) = true := C.1.2.2.2.2
theorem Cy.K (C : Cy κ cc own fl) : va_K (gD (kg κ)) vwCl (gtys (kg κ)) (ks κ) := C.2.1
theorem Cy.N (C : Cy κ cc own fl) : ∀ q, (ks κ).heap.size ≤ q → kA κ q := C.2.2.1
theorem Cy.S (C : Cy κ cc own fl) : Sta (kg κ) (kA κ) (ks κ) (ks κ).heap := C.2.2.2.1
theorem Cy.R (C : Cy κ cc own fl) : StR (kg κ) (ks κ) := C.2.2.2.2.1
theorem Cy.O (C : Cy κ cc own fl) : fl = true → va_AO "HourEggs$Sheet" (ks κ) := C.2.2.2.2.2
theorem Y.le {ls' : List (Option Value)} (h : lle ls' ls) (k : Y κ ce so ws pc ls' st) : Y κ ce so ws pc ls st := fun H locs la hP hD hS hl => k H locs la hP hD hS (lhas_le hl h)
theorem Y.widen {ce' so' : Nat} (h1 : ce ≤ ce') (h2 : so ≤ so') (k : Y κ ce' so' ws pc ls st) : Y κ ce so ws pc ls st := fun H locs la hP hD hS hl => W.widen h1 h2 (k H locs la hP hD hS hl)
theorem Y.to {ws' : va_W} (h : ws = ws') (k : Y κ ce so ws' pc ls st) : Y κ ce so ws pc ls st := h ▸ k
theorem y_iconst (C : Cy κ cc own fl) {n : Int} {v : Int32} (hd : decode cc pc = .ok (.iconst n, 1)) (hv : Int32.ofInt n = v) (k : Y κ ce so ws (pc + 1) ls (.int v :: st)) : Y κ ce so ws pc ls st := fun H locs la hP hD hS hl => lv_iconst C.x C.b hd hv (k H locs la hP hD hS hl)
theorem y_bipush (C : Cy κ cc own fl) {n : Int} {v : Int32} (hd : decode cc pc = .ok (.bipush n, 2)) (hv : (Int8.ofInt n).toInt32 = v) (k : Y κ ce so ws (pc + 2) ls (.int v :: st)) : Y κ ce so ws pc ls st := fun H locs la hP hD hS hl => lv_bipush C.x C.b hd hv (k H locs la hP hD hS hl)
theorem y_sipush (C : Cy κ cc own fl) {n : Int} {v : Int32} (hd : decode cc pc = .ok (.sipush n, 3)) (hv : (Int16.ofInt n).toInt32 = v) (k : Y κ ce so ws (pc + 3) ls (.int v :: st)) : Y κ ce so ws pc ls st := fun H locs la hP hD hS hl => lv_sipush C.x C.b hd hv (k H locs la hP hD hS hl)
theorem y_ldc (C : Cy κ cc own fl) {i : Nat} {v : Int32} (hw : Cond.constant own i v ∈ gT) (hd : decode cc pc = .ok (.ldc i, 2)) (k : Y κ ce so ws (pc + 2) ls (.int v :: st)) : Y κ ce so ws pc ls st := fun H locs la hP hD hS hl => lv_ldc C.x C.b C.ow (C.ts _ hw) hd (k H locs la hP hD hS hl)
theorem y_iload_n (C : Cy κ cc own fl) {n : Fin 4} {x : Int32} (hd : decode cc pc = .ok (.iload_n n, 1)) (hg : lget ls (n : Nat) = some (.int x)) (k : Y κ ce so ws (pc + 1) ls (.int x :: st)) : Y κ ce so ws pc ls st := fun H locs la hP hD hS hl => lv_iload_n C.x C.b hd rfl (hl.2.2 _ _ hg) (k H locs la hP hD hS hl)
theorem y_aload_n (C : Cy κ cc own fl) {n : Fin 4} {x : Nat} (hd : decode cc pc = .ok (.aload_n n, 1)) (hg : lget ls (n : Nat) = some (.ref x)) (k : Y κ ce so ws (pc + 1) ls (.ref x :: st)) : Y κ ce so ws pc ls st := fun H locs la hP hD hS hl => lv_aload_n C.x C.b hd rfl (hl.2.2 _ _ hg) (k H locs la hP hD hS hl)
theorem y_istore_n (C : Cy κ cc own fl) {n : Fin 4} {x : Int32} (hd : decode cc pc = .ok (.istore_n n, 1)) (hn : Nat.blt (n : Nat) (knL κ) = true) (k : Y κ ce so ws (pc + 1) (lset1 ls (n : Nat) (.int x)) st) : Y κ ce so ws pc ls (.int x :: st) := fun H locs la hP hD hS hl => lv_istore_n C.x C.b hd rfl (lhas_asl hl) (Nat.le_of_ble_eq_true hn) rfl (fun la' hl' => k H locs la' hP hD hS (lhas_set1 hl'))
theorem y_astore_n (C : Cy κ cc own fl) {n : Fin 4} {x : Nat} (hd : decode cc pc = .ok (.astore_n n, 1)) (hn : Nat.blt (n : Nat) (knL κ) = true) (k : Y κ ce so ws (pc + 1) (lset1 ls (n : Nat) (.ref x)) st) : Y κ ce so ws pc ls (.ref x :: st) := fun H locs la hP hD hS hl => lv_astore_n C.x C.b hd rfl (lhas_asl hl) (Nat.le_of_ble_eq_true hn) rfl (fun la' hl' => k H locs la' hP hD hS (lhas_set1 hl'))
theorem y_iinc (C : Cy κ cc own fl) {i : Nat} {n : Int} {x v : Int32} (hd : decode cc pc = .ok (.iinc i n, 3)) (hg : lget ls i = some (.int x)) (hv : x + Int32.ofInt n = v) (hn : Nat.blt i (knL κ) = true) (k : Y κ ce so ws (pc + 3) (lset1 ls i (.int v)) st) : Y κ ce so ws pc ls st := fun H locs la hP hD hS hl => by
  obtain ⟨j, hj⟩ := List.getElem?_of_mem (lasl_in hg)
  exact lv_iinc C.x C.b hd (lhas_asl hl) hj hv (Nat.le_of_ble_eq_true hn) rfl (fun la' hl' => k H locs la' hP hD hS (lhas_set1 hl'))
theorem y_iadd (C : Cy κ cc own fl) {x y : Int32} (hd : decode cc pc = .ok (.iadd, 1)) (k : Y κ ce so ws (pc + 1) ls (.int (x + y) :: st)) : Y κ ce so ws pc ls (.int y :: .int x :: st) := fun H locs la hP hD hS hl => lv_iadd C.x C.b hd (k H locs la hP hD hS hl)
theorem y_imul (C : Cy κ cc own fl) {x y : Int32} (hd : decode cc pc = .ok (.imul, 1)) (k : Y κ ce so ws (pc + 1) ls (.int (x * y) :: st)) : Y κ ce so ws pc ls (.int y :: .int x :: st) := fun H locs la hP hD hS hl => lv_imul C.x C.b hd (k H locs la hP hD hS hl)
theorem y_topE {x y : Int32} {rest : List Value} (h : x = y) (k : Y κ ce so ws pc ls (.int y :: rest)) : Y κ ce so ws pc ls (.int x :: rest) := h ▸ k
theorem y_dup (C : Cy κ cc own fl) {v : Value} (hd : decode cc pc = .ok (.dup, 1)) (hc : v.category = 1) (k : Y κ ce so ws (pc + 1) ls (v :: v :: st)) : Y κ ce so ws pc ls (v :: st) := fun H locs la hP hD hS hl => lv_dup C.x C.b hd hc (k H locs la hP hD hS hl)
theorem y_goto (C : Cy κ cc own fl) {off : Int} {tgt : Nat} (hd : decode cc pc = .ok (.goto off, 3)) (ht : (pc : Int) + off = (tgt : Int)) (k : Y κ ce so ws tgt ls st) : Y κ ce so ws pc ls st := fun H locs la hP hD hS hl => lv_goto C.x C.b hd ht (k H locs la hP hD hS hl)
theorem y_icmp_ge (C : Cy κ cc own fl) {x y : Int32} {off : Int} {tgt : Nat} (hd : decode cc pc = .ok (.if_icmp .ge off, 3)) (ht : (pc : Int) + off = (tgt : Int)) (kt : y ≤ x → Y κ ce so ws tgt ls st) (kf : ¬ y ≤ x → Y κ ce so ws (pc + 3) ls st) : Y κ ce so ws pc ls (.int y :: .int x :: st) := fun H locs la hP hD hS hl => lv_icmp_ge C.x C.b hd ht (fun q => kt q H locs la hP hD hS hl) (fun q => kf q H locs la hP hD hS hl)
theorem y_gets (C : Cy κ cc own fl) {i idx : Nat} (hi : i < 8) (hw : Cond.fieldLink own idx (tabN.getD i ("", "")).1 (tabN.getD i ("", "")).2 "[I" ∈ gT) (hd : decode cc pc = .ok (.getstatic idx, 3)) (k : Y κ ce so ws (pc + 3) ls (.ref (gsa (kg κ) i) :: st)) : Y κ ce so ws pc ls st := fun H locs la hP hD hS hl => va_gets C.x C.b (C.S.1 i hi).2 hS C.ow (C.ts _ hw) (fun _ h => h) hd (k H locs la hP hD hS hl)
theorem y_min (C : Cy κ cc own fl) {idx : Nat} (hw : Cond.methodLink own idx Lib.Math.min.name ∈ gT) (h1 : Cond.static Lib.Math.min.name ∈ gT) (h2 : Cond.initialized "java/lang/Math" ∈ gT) (h3 : Cond.code Lib.Math.min.name Lib.Math.min.code 2 (some .int) ∈ gT) (hr : Nat.ble 1 (kR κ).frames = true) (hr2 : Nat.ble ((st.map fun v => v.category).sum + 13) (kR κ).locals = true) (hc : Nat.ble ce (kR κ).cells = true) (hs : Nat.ble so (kR κ).slots = true) {x y : Int32} (hd : decode cc pc = .ok (.invokestatic idx, 3)) (kk : Y κ ce so ws (pc + 3) ls (.int (if y < x then y else x) :: st)) : Y κ ce so ws pc ls (.int y :: .int x :: st) := fun H locs la hP hD hS hl =>
  va_mmin C.x C.b (C.ml.trans hl.1.symm) C.ow (C.ts _ hw) (C.ts _ h1) (C.ts _ h2) (C.ts _ h3) (Nat.le_of_ble_eq_true hr) (Nat.le_of_ble_eq_true hr2) (Nat.le_of_ble_eq_true hc) (Nat.le_of_ble_eq_true hs) hd (kk H locs la hP hD hS hl)
theorem y_obj (C : Cy κ cc own fl) {idx a : Nat} (hw : Cond.methodLink own idx objectInit ∈ gT) (h1 : Cond.instanceMethod objectInit ∈ gT) (h2 : Cond.code objectInit ⟨#[0xb1]⟩ 1 none ∈ gT) (hr : Nat.ble 1 (kR κ).frames = true) (hr2 : Nat.ble ((st.map fun v => v.category).sum + 12) (kR κ).locals = true) (hd : decode cc pc = .ok (.invokespecial idx, 3)) (k : Y κ ce so ws (pc + 3) ls st) : Y κ ce so ws pc ls (.ref a :: st) := fun H locs la hP hD hS hl =>
  W.objInit C.x C.b C.ow (C.ts _ hw) (C.ts _ h1) (C.ts _ h2) rfl (hl.1.trans C.ml.symm) rfl hd (Nat.le_of_ble_eq_true hr) (by have h9 := Nat.le_of_ble_eq_true hr2; show 2 * 0 + (st.map fun v => v.category).sum + 12 ≤ _; omega) (k H locs la hP hD hS hl)
theorem y_new (C : Cy κ cc own fl) {ci N : Nat} {Cn : String} {T : u_T} {ty : Nat → FieldType} (B : Bk ci Cn T ty N) {idx : Nat} (hw : Cond.classLink own idx Cn ∈ gT) (h1 : Cond.instantiable Cn N ∈ gT) (h2 : Cond.initialized Cn ∈ gT) {fs : List Value} (hfs : ∀ j, j < N → defaultValue (ty j) = vp_V fs j) (hc : Nat.ble (ce + 1) (kR κ).cells = true) (hs : Nat.ble (so + N) (kR κ).slots = true) (hd : decode cc pc = .ok (.new idx, 3)) (k : ∀ u : Nat, Y κ (ce + 1) (so + N) (ws ++ [(u, .inr (ci, fs))]) (pc + 3) ls (.ref u :: st)) : Y κ ce so ws pc ls st := fun H locs la hP hD hS hl =>
  va_new C.x C.b C.ts B.2.1 ty B.2.2.1 C.ow (C.ts _ hw) (C.ts _ h1) (C.ts _ h2) C.K hP hD hS C.N B.1 hfs (Nat.le_of_ble_eq_true hc) (Nat.le_of_ble_eq_true hs) hd (fun u H1 hP1 hD1 hS1 => k u H1 locs la hP1 hD1 hS1 hl)
theorem cls_eq {D : va_G} {cl : List vw_C} {t1 : List (ClassId × FieldType)} {U : State} {cA cB : ClassId} {ty : FieldType} (hb : U.vm.findClass ("[" ++ ty.toString) = some cB) (hK : va_K D cl (t1 ++ [(cA, ty)]) U) (ho : ∀ C, ty ≠ .object C) : cA = cB := by
  have h := (hK.2 t1.length (cA, ty) (by simp)).2
  have h2 : U.vm.findClass ("[" ++ ty.toString) = some cA := by
    cases ty <;> first | exact h | exact absurd rfl (ho _)
  exact Option.some.inj (h2.symm.trans hb)
theorem y_newI (C : Cy κ cc own fl) (h1 : Cond.arrayClass .int ∈ gT) {n : Int32} {N : Nat} (hn : n = nI N) (hN : Nat.blt N 100000 = true) (hc : Nat.ble (ce + 1) (kR κ).cells = true) (hs : Nat.ble (so + N) (kR κ).slots = true) (hd : decode cc pc = .ok (.newarray .int, 2)) (k : ∀ u : Nat, Y κ (ce + 1) (so + N) (ws ++ [(u, eI (kg κ) N (fun _ => 0))]) (pc + 2) ls (.ref u :: st)) : Y κ ce so ws pc ls (.int n :: st) := fun H locs la hP hD hS hl => by
  subst hn
  have hN' : N < 100000 := Nat.le_of_ble_eq_true hN
  refine va_newa (atype := .int) (ty := .int) (N' := N) (a0 := (N, .inl (fun _ => 0))) C.x C.b (C.ts _ h1) rfl C.K hP hD hS C.N (fun cA => rfl) (nI_pos (by omega)) (nI_clamp (by omega)) (by show N * 4 ≤ _; omega) (Nat.le_of_ble_eq_true hc) (Nat.le_of_ble_eq_true hs) hd (fun u cA H1 hK1 hP1 hD1 hS1 => ?_)
  have e := cls_eq (C.K.2 0 _ gt0).2 hK1 (fun _ z => by cases z)
  subst e
  exact k u H1 locs la hP1 hD1 hS1 hl
theorem y_newC (C : Cy κ cc own fl) (h1 : Cond.arrayClass .char ∈ gT) {n : Int32} {N : Nat} (hn : n = nI N) (hN : Nat.blt N 100000 = true) (hc : Nat.ble (ce + 1) (kR κ).cells = true) (hs : Nat.ble (so + N) (kR κ).slots = true) (hd : decode cc pc = .ok (.newarray .char, 2)) (k : ∀ u : Nat, Y κ (ce + 1) (so + N) (ws ++ [(u, eC (kg κ) N (fun _ => 0))]) (pc + 2) ls (.ref u :: st)) : Y κ ce so ws pc ls (.int n :: st) := fun H locs la hP hD hS hl => by
  subst hn
  have hN' : N < 100000 := Nat.le_of_ble_eq_true hN
  refine va_newa (atype := .char) (ty := .char) (N' := N) (a0 := (N, .inl (fun _ => 0))) C.x C.b (C.ts _ h1) rfl C.K hP hD hS C.N (fun cA => rfl) (nI_pos (by omega)) (nI_clamp (by omega)) (by show N * 2 ≤ _; omega) (Nat.le_of_ble_eq_true hc) (Nat.le_of_ble_eq_true hs) hd (fun u cA H1 hK1 hP1 hD1 hS1 => ?_)
  have e := cls_eq (C.K.2 1 _ gt1).2 hK1 (fun _ z => by cases z)
  subst e
  exact k u H1 locs la hP1 hD1 hS1 hl
theorem y_newZ (C : Cy κ cc own fl) (h1 : Cond.arrayClass .boolean ∈ gT) {n : Int32} {N : Nat} (hn : n = nI N) (hN : Nat.blt N 100000 = true) (hc : Nat.ble (ce + 1) (kR κ).cells = true) (hs : Nat.ble (so + N) (kR κ).slots = true) (hd : decode cc pc = .ok (.newarray .boolean, 2)) (k : ∀ u : Nat, Y κ (ce + 1) (so + N) (ws ++ [(u, eZ (kg κ) N (fun _ => 0))]) (pc + 2) ls (.ref u :: st)) : Y κ ce so ws pc ls (.int n :: st) := fun H locs la hP hD hS hl => by
  subst hn
  have hN' : N < 100000 := Nat.le_of_ble_eq_true hN
  refine va_newa (atype := .boolean) (ty := .boolean) (N' := N) (a0 := (N, .inl (fun _ => 0))) C.x C.b (C.ts _ h1) rfl C.K hP hD hS C.N (fun cA => rfl) (nI_pos (by omega)) (nI_clamp (by omega)) (by show N * 1 ≤ _; omega) (Nat.le_of_ble_eq_true hc) (Nat.le_of_ble_eq_true hs) hd (fun u cA H1 hK1 hP1 hD1 hS1 => ?_)
  have e := cls_eq (C.K.2 2 _ gt2).2 hK1 (fun _ z => by cases z)
  subst e
  exact k u H1 locs la hP1 hD1 hS1 hl
/-- a row of references to sheets -/
def eO (g : Gp) (n : Nat) (f : Nat → Option Nat) : va_E := .inl (gcO g, n, .inr (.inr (.inr (.inr f))))
theorem cls_eqO {D : va_G} {cl : List vw_C} {t1 : List (ClassId × FieldType)} {U : State} {cA cB : ClassId} {Cn : String} (hb : va_RA U cB (.object Cn)) (hK : va_K D cl (t1 ++ [(cA, .object Cn)]) U) : cA = cB := by
  obtain ⟨-, -, -, -, -, h4⟩ := (hK.2 t1.length (cA, .object Cn) (by simp)).2
  obtain ⟨-, -, -, -, -, h5⟩ := hb
  exact Option.some.inj (h4.symm.trans h5)
theorem y_newS (C : Cy κ cc own true) {idx : Nat} (hw : Cond.classLink own idx "HourEggs$Sheet" ∈ gT) {n : Int32} {N : Nat} (hn : n = nI N) (hN : Nat.blt N 100000 = true) (hc : Nat.ble (ce + 1) (kR κ).cells = true) (hs : Nat.ble (so + N) (kR κ).slots = true) (hd : decode cc pc = .ok (.anewarray idx, 3)) (k : ∀ u : Nat, Y κ (ce + 1) (so + N) (ws ++ [(u, eO (kg κ) N (fun _ => none))]) (pc + 3) ls (.ref u :: st)) : Y κ ce so ws pc ls (.int n :: st) := fun H locs la hP hD hS hl => by
  subst hn
  have hN' : N < 100000 := Nat.le_of_ble_eq_true hN
  refine va_newq C.x C.b C.ow (C.ts _ hw) (C.O rfl) C.K hP hD hS C.N (nI_pos (by omega)) (nI_clamp (by omega)) (by omega) (Nat.le_of_ble_eq_true hc) (Nat.le_of_ble_eq_true hs) hd (fun u cA H1 hK1 hP1 hD1 hS1 => ?_)
  have e := cls_eqO (C.K.2 3 _ gt3).2 hK1
  subst e
  exact k u H1 locs la hP1 hD1 hS1 hl
theorem y_getf (C : Cy κ cc own fl) {ci N : Nat} {Cn : String} {T : u_T} {ty : Nat → FieldType} (B : Bk ci Cn T ty N) {i a : Nat} {fs : List Value} (hk : ws[i]? = some (a, .inr (ci, fs))) (j : Nat) {idx : Nat} (hw : Cond.fieldLink own idx (T j).1 (T j).2.1 (T j).2.2.1 ∈ gT) (hj : Nat.blt j N = true) {v : Value} (hv : fs[j]? = some v) (hd : decode cc pc = .ok (.getfield idx, 3)) (kk : Y κ ce so ws (pc + 3) ls (v :: st)) : Y κ ce so ws pc ls (.ref a :: st) := fun H locs la hP hD hS hl =>
  va_get C.x C.b C.ts B.2.1 C.ow C.K hP i hk B.1 j (Nat.le_of_ble_eq_true hj) (C.ts _ hw) (fun _ h => h) hv hd (kk H locs la hP hD hS hl)
theorem y_put (C : Cy κ cc own fl) {ci N : Nat} {Cn : String} {T : u_T} {ty : Nat → FieldType} (B : Bk ci Cn T ty N) {i a : Nat} {fs : List Value} (hk : ws[i]? = some (a, .inr (ci, fs))) (j : Nat) {idx : Nat} (hw : Cond.fieldLink own idx (T j).1 (T j).2.1 (T j).2.2.1 ∈ gT) (hj : Nat.blt j N = true) {v : Value} (hlen : Nat.blt j fs.length = true) (hfin : (T j).2.2.2 = false) (hn : narrow (ty j) v = v) (hfit : fits (ty j) v = true) {ws' : va_W} (hws : ws.set i (a, .inr (ci, fs.set j v)) = ws') (hd : decode cc pc = .ok (.putfield idx, 3)) (kk : Y κ ce so ws' (pc + 3) ls st) : Y κ ce so ws pc ls (v :: .ref a :: st) := fun H locs la hP hD hS hl => by
  refine va_put C.x C.b C.ts B.2.1 ty B.2.2.1 B.2.2.2 C.ow C.K hP hD hS i hk B.1 j (Nat.le_of_ble_eq_true hj) (C.ts _ hw) (fun _ h => h) hfin (B.2.2.1 j (Nat.le_of_ble_eq_true hj)) hn hfit (Nat.le_of_ble_eq_true hlen) hd (fun H1 locs1 hP1 hD1 hS1 => ?_)
  rw [hws] at hP1 hD1
  exact kk H1 locs1 la hP1 hD1 hS1 hl
theorem y_putF (C : Cy κ cc own fl) (hin : (kme κ).name = "<init>") {ci N : Nat} {Cn : String} {T : u_T} {ty : Nat → FieldType} (B : Bk ci Cn T ty N) {i a : Nat} {fs : List Value} (hk : ws[i]? = some (a, .inr (ci, fs))) (j : Nat) {idx : Nat} (hw : Cond.fieldLink own idx (T j).1 (T j).2.1 (T j).2.2.1 ∈ gT) (hj : Nat.blt j N = true) {v : Value} (hlen : Nat.blt j fs.length = true) (hfin : (T j).2.2.2 = true) (hdc : (T j).1 = own) (hn : narrow (ty j) v = v) (hfit : fits (ty j) v = true) {ws' : va_W} (hws : ws.set i (a, .inr (ci, fs.set j v)) = ws') (hd : decode cc pc = .ok (.putfield idx, 3)) (kk : Y κ ce so ws' (pc + 3) ls st) : Y κ ce so ws pc ls (v :: .ref a :: st) := fun H locs la hP hD hS hl => by
  refine va_putF C.x C.b C.ts B.2.1 ty B.2.2.1 B.2.2.2 C.ow C.K hP hD hS i hk B.1 j (Nat.le_of_ble_eq_true hj) (C.ts _ hw) (fun _ h => h) hfin hin hdc (B.2.2.1 j (Nat.le_of_ble_eq_true hj)) hn hfit (Nat.le_of_ble_eq_true hlen) hd (fun H1 locs1 hP1 hD1 hS1 => ?_)
  rw [hws] at hP1 hD1
  exact kk H1 locs1 la hP1 hD1 hS1 hl
theorem y_iast (C : Cy κ cc own fl) {i a n : Nat} {f : Nat → Int32} (hk : ws[i]? = some (a, eI (kg κ) n f)) {x y : Int32} {j : Nat} (hx : x = nI j) (hj : j < n) (hn : Nat.blt n 2147483648 = true) {ws' : va_W} (hws : ws.set i (a, eI (kg κ) n (upd f j y)) = ws') (hd : decode cc pc = .ok (.iastore, 1)) (kk : Y κ ce so ws' (pc + 1) ls st) : Y κ ce so ws pc ls (.int y :: .int x :: .ref a :: st) := fun H locs la hP hD hS hl => by
  subst hx
  have hn' : n < 2 ^ 31 := Nat.le_of_ble_eq_true hn
  refine va_iast C.x C.b C.K hP hD hS i 0 hk gt0 (vp_in_nI hj hn') hd (fun H1 locs1 hP1 hD1 hS1 => ?_)
  rw [nI_clamp (Nat.lt_trans hj hn')] at hP1 hD1
  have e : ws.set i (a, .inl (gcI (kg κ), n, .inl (upd f j y))) = ws' := hws
  rw [e] at hP1 hD1
  exact kk H1 locs1 la hP1 hD1 hS1 hl
theorem y_cast (C : Cy κ cc own fl) {i a n : Nat} {f : Nat → Int32} (hk : ws[i]? = some (a, eC (kg κ) n f)) {x y : Int32} {j : Nat} (hx : x = nI j) (hj : j < n) (hn : Nat.blt n 2147483648 = true) (hy : vp_nar .char y = y) {ws' : va_W} (hws : ws.set i (a, eC (kg κ) n (upd f j y)) = ws') (hd : decode cc pc = .ok (.castore, 1)) (kk : Y κ ce so ws' (pc + 1) ls st) : Y κ ce so ws pc ls (.int y :: .int x :: .ref a :: st) := fun H locs la hP hD hS hl => by
  subst hx
  have hn' : n < 2 ^ 31 := Nat.le_of_ble_eq_true hn
  refine va_cast C.x C.b C.K hP hD hS i 1 hk gt1 (vp_in_nI hj hn') hd (fun H1 locs1 hP1 hD1 hS1 => ?_)
  rw [nI_clamp (Nat.lt_trans hj hn'), hy] at hP1 hD1
  have e : ws.set i (a, .inl (gcC (kg κ), n, .inl (upd f j y))) = ws' := hws
  rw [e] at hP1 hD1
  exact kk H1 locs1 la hP1 hD1 hS1 hl
theorem y_astS (C : Cy κ cc own fl) {i k a n v : Nat} {vs : List Value} {f : Nat → Option Nat} (hk : ws[i]? = some (a, eO (kg κ) n f)) (hv : ws[k]? = some (v, .inr (3, vs))) {x : Int32} {j : Nat} (hx : x = nI j) (hj : j < n) (hn : Nat.blt n 2147483648 = true) {ws' : va_W} (hws : ws.set i (a, eO (kg κ) n (va_up f j (some v))) = ws') (hd : decode cc pc = .ok (.aastore, 1)) (kk : Y κ ce so ws' (pc + 1) ls st) : Y κ ce so ws pc ls (.ref v :: .int x :: .ref a :: st) := fun H locs la hP hD hS hl => by
  subst hx
  have hn' : n < 2 ^ 31 := Nat.le_of_ble_eq_true hn
  refine va_astq C.x C.b C.K hP hD hS i 3 k 3 (r := (RX4, TX4, 3)) hk gt3 hv rfl (vp_in_nI hj hn') hd (fun H1 locs1 hP1 hD1 hS1 => ?_)
  rw [nI_clamp (Nat.lt_trans hj hn')] at hP1 hD1
  have e : ws.set i (a, .inl (gcO (kg κ), n, .inr (.inr (.inr (.inr (va_up f j (some v))))))) = ws' := hws
  rw [e] at hP1 hD1
  exact kk H1 locs1 la hP1 hD1 hS1 hl
end YR
