/-! ===== THE JUDGEMENT X, and a row an instruction ===== -/
abbrev Kr : Type := (Program × Env × State × MethodId) × (Array Value × List Frame × Method × Code) × (State → Prop) × (Nat → Prop) × (Nat × Nat)
abbrev Kx : Type := (Launch × Room × Gp × Nat) × Kr
abbrev kmk (l : Launch) (R : Room) (g : Gp) (n : Nat) (q : Kr) : Kx := ((l, R, g, n), q)
abbrev kl (κ : Kx) : Launch := κ.1.1
abbrev kR (κ : Kx) : Room := κ.1.2.1
abbrev kg (κ : Kx) : Gp := κ.1.2.2.1
abbrev knL (κ : Kx) : Nat := κ.1.2.2.2
abbrev kp (κ : Kx) : Program := κ.2.1.1
abbrev ke (κ : Kx) : Env := κ.2.1.2.1
abbrev ks (κ : Kx) : State := κ.2.1.2.2.1
abbrev km (κ : Kx) : MethodId := κ.2.1.2.2.2
abbrev ka (κ : Kx) : Array Value := κ.2.2.1.1
abbrev kb (κ : Kx) : List Frame := κ.2.2.1.2.1
abbrev kme (κ : Kx) : Method := κ.2.2.1.2.2.1
abbrev kc (κ : Kx) : Code := κ.2.2.1.2.2.2
abbrev kQ (κ : Kx) : State → Prop := κ.2.2.2.1
abbrev kA (κ : Kx) : Nat → Prop := κ.2.2.2.2.1
abbrev kce (κ : Kx) : Nat := κ.2.2.2.2.2.1
abbrev kso (κ : Kx) : Nat := κ.2.2.2.2.2.2
/-- from memory M, at pc with these locals and this operand stack, the method comes to what is asked -/
def X (κ : Kx) (M : Mem) (pc : Nat) (ls : List (Option Value)) (st : List Value) : Prop :=
  ∀ (H : Heap) (locs : List Loc) (la : Array Slot), va_P (gD (kg κ)) vwCl (Wd (kg κ) M) H → va_S (kA κ) (ks κ).heap H locs → lhas la (knL κ) ls →
    W (kp κ) (kl κ) (ke κ) (kR κ) (ks κ) (km κ) (ka κ) (kb κ) (kme κ) (kc κ) H locs (kce κ) (kso κ) (kQ κ) (F0 (km κ) pc la st)
/-- what stays the same while a method runs -/
def Cx (κ : Kx) (cc : ByteArray) (own : String) : Prop :=
  CallFix (kp κ) (km κ) (kc κ) cc (knL κ) (ks κ) (ka κ) gT own ∧ va_K (gD (kg κ)) vwCl (gtys (kg κ)) (ks κ) ∧ Adok (kA κ) (kg κ) ∧ (∀ q, (ks κ).heap.size ≤ q → kA κ q) ∧ 56 ≤ gn (kg κ) ∧ Sta (kg κ) (kA κ) (ks κ) (ks κ).heap ∧ StR (kg κ) (ks κ)
section XR
variable {κ : Kx} {cc : ByteArray} {own : String} {M : Mem} {pc : Nat} {ls : List (Option Value)} {st : List Value}
theorem Cx.x (C : Cx κ cc own) : (kp κ).tables.exec = Jvm.exec := C.1.1
theorem Cx.b (C : Cx κ cc own) : (kc κ).code = cc := C.1.2.1
theorem Cx.ml (C : Cx κ cc own) : (kc κ).maxLocals = knL κ := C.1.2.2.1
theorem Cx.ow (C : Cx κ cc own) : (ks κ).vm.findClass own = some (km κ).cls := C.1.2.2.2.1
theorem Cx.ts (C : Cx κ cc own) : ∀ w ∈ gT, w.before (ka κ) (ks κ) = true := C.1.2.2.2.2
theorem Cx.K (C : Cx κ cc own) : va_K (gD (kg κ)) vwCl (gtys (kg κ)) (ks κ) := C.2.1
theorem Cx.A (C : Cx κ cc own) : Adok (kA κ) (kg κ) := C.2.2.1
theorem Cx.N (C : Cx κ cc own) : ∀ q, (ks κ).heap.size ≤ q → kA κ q := C.2.2.2.1
theorem Cx.n (C : Cx κ cc own) : 56 ≤ gn (kg κ) := C.2.2.2.2.1
theorem Cx.S (C : Cx κ cc own) : Sta (kg κ) (kA κ) (ks κ) (ks κ).heap := C.2.2.2.2.2.1
theorem Cx.R (C : Cx κ cc own) : StR (kg κ) (ks κ) := C.2.2.2.2.2.2
theorem Cx.lt (C : Cx κ cc own) {k : Nat} (h : Nat.blt k 56 = true) : k < gn (kg κ) := Nat.lt_of_lt_of_le (Nat.le_of_ble_eq_true h) C.n
theorem Cx.lt' (C : Cx κ cc own) {k : Nat} (h : k < 56) : k < gn (kg κ) := Nat.lt_of_lt_of_le h C.n
theorem X.le {ls' : List (Option Value)} (h : lle ls' ls) (k : X κ M pc ls' st) : X κ M pc ls st := fun H locs la hP hS hl => k H locs la hP hS (lhas_le hl h)
theorem x_topi {x : Int32} {rest : List Value} (k : ∀ y : Int32, y = x → X κ M pc ls (.int y :: rest)) : X κ M pc ls (.int x :: rest) := k x rfl
theorem x_topl {x : Int64} {rest : List Value} (k : ∀ y : Int64, y = x → X κ M pc ls (.long y :: rest)) : X κ M pc ls (.long x :: rest) := k x rfl
theorem x_topE {x y : Int32} {rest : List Value} (h : x = y) (k : X κ M pc ls (.int y :: rest)) : X κ M pc ls (.int x :: rest) := h ▸ k
theorem x_mem {M' : Mem} (h : M' = M) (k : X κ M' pc ls st) : X κ M pc ls st := h ▸ k
theorem x_iconst (C : Cx κ cc own) {n : Int} {v : Int32} (hd : decode cc pc = .ok (.iconst n, 1)) (hv : Int32.ofInt n = v) (k : X κ M (pc + 1) ls (.int v :: st)) : X κ M pc ls st := fun H locs la hP hS hl => lv_iconst C.x C.b hd hv (k H locs la hP hS hl)
theorem x_bipush (C : Cx κ cc own) {n : Int} {v : Int32} (hd : decode cc pc = .ok (.bipush n, 2)) (hv : (Int8.ofInt n).toInt32 = v) (k : X κ M (pc + 2) ls (.int v :: st)) : X κ M pc ls st := fun H locs la hP hS hl => lv_bipush C.x C.b hd hv (k H locs la hP hS hl)
theorem x_sipush (C : Cx κ cc own) {n : Int} {v : Int32} (hd : decode cc pc = .ok (.sipush n, 3)) (hv : (Int16.ofInt n).toInt32 = v) (k : X κ M (pc + 3) ls (.int v :: st)) : X κ M pc ls st := fun H locs la hP hS hl => lv_sipush C.x C.b hd hv (k H locs la hP hS hl)
theorem x_lconst (C : Cx κ cc own) {n : Fin 2} {v : Int64} (hd : decode cc pc = .ok (.lconst n, 1)) (hv : Int64.ofNat (n : Nat) = v) (k : X κ M (pc + 1) ls (.long v :: st)) : X κ M pc ls st := fun H locs la hP hS hl => lv_lconst C.x C.b hd hv (k H locs la hP hS hl)
theorem x_iload_n (C : Cx κ cc own) {n : Fin 4} {x : Int32} (hd : decode cc pc = .ok (.iload_n n, 1)) (hg : lget ls (n : Nat) = some (.int x)) (k : X κ M (pc + 1) ls (.int x :: st)) : X κ M pc ls st := fun H locs la hP hS hl => lv_iload_n C.x C.b hd rfl (hl.2.2 _ _ hg) (k H locs la hP hS hl)
theorem x_iload (C : Cx κ cc own) {n : Nat} {x : Int32} (hd : decode cc pc = .ok (.iload n, 2)) (hg : lget ls n = some (.int x)) (k : X κ M (pc + 2) ls (.int x :: st)) : X κ M pc ls st := fun H locs la hP hS hl => lv_iload C.x C.b hd (hl.2.2 _ _ hg) (k H locs la hP hS hl)
theorem x_lload_n (C : Cx κ cc own) {n : Fin 4} {x : Int64} (hd : decode cc pc = .ok (.lload_n n, 1)) (hg : lget ls (n : Nat) = some (.long x)) (k : X κ M (pc + 1) ls (.long x :: st)) : X κ M pc ls st := fun H locs la hP hS hl => lv_lload_n C.x C.b hd rfl (hl.2.2 _ _ hg) (k H locs la hP hS hl)
theorem x_lload (C : Cx κ cc own) {n : Nat} {x : Int64} (hd : decode cc pc = .ok (.lload n, 2)) (hg : lget ls n = some (.long x)) (k : X κ M (pc + 2) ls (.long x :: st)) : X κ M pc ls st := fun H locs la hP hS hl => lv_lload C.x C.b hd (hl.2.2 _ _ hg) (k H locs la hP hS hl)
theorem x_aload_n (C : Cx κ cc own) {n : Fin 4} {x : Nat} (hd : decode cc pc = .ok (.aload_n n, 1)) (hg : lget ls (n : Nat) = some (.ref x)) (k : X κ M (pc + 1) ls (.ref x :: st)) : X κ M pc ls st := fun H locs la hP hS hl => lv_aload_n C.x C.b hd rfl (hl.2.2 _ _ hg) (k H locs la hP hS hl)
theorem x_aload (C : Cx κ cc own) {n : Nat} {x : Nat} (hd : decode cc pc = .ok (.aload n, 2)) (hg : lget ls n = some (.ref x)) (k : X κ M (pc + 2) ls (.ref x :: st)) : X κ M pc ls st := fun H locs la hP hS hl => lv_aload C.x C.b hd (hl.2.2 _ _ hg) (k H locs la hP hS hl)
theorem x_aload_nN (C : Cx κ cc own) {n : Fin 4} (hd : decode cc pc = .ok (.aload_n n, 1)) (hg : lget ls (n : Nat) = some (.null)) (k : X κ M (pc + 1) ls (.null :: st)) : X κ M pc ls st := fun H locs la hP hS hl => lv_aload_nN C.x C.b hd rfl (hl.2.2 _ _ hg) (k H locs la hP hS hl)
theorem x_aloadN (C : Cx κ cc own) {n : Nat} (hd : decode cc pc = .ok (.aload n, 2)) (hg : lget ls n = some (.null)) (k : X κ M (pc + 2) ls (.null :: st)) : X κ M pc ls st := fun H locs la hP hS hl => lv_aloadN C.x C.b hd (hl.2.2 _ _ hg) (k H locs la hP hS hl)
theorem x_istore_n (C : Cx κ cc own) {n : Fin 4} {x : Int32} (hd : decode cc pc = .ok (.istore_n n, 1)) (hn : Nat.blt (n : Nat) (knL κ) = true) (k : X κ M (pc + 1) (lset1 ls (n : Nat) (.int x)) st) : X κ M pc ls (.int x :: st) := fun H locs la hP hS hl => lv_istore_n C.x C.b hd rfl (lhas_asl hl) (Nat.le_of_ble_eq_true hn) rfl (fun la' hl' => k H locs la' hP hS (lhas_set1 hl'))
theorem x_istore (C : Cx κ cc own) {n : Nat} {x : Int32} (hd : decode cc pc = .ok (.istore n, 2)) (hn : Nat.blt n (knL κ) = true) (k : X κ M (pc + 2) (lset1 ls n (.int x)) st) : X κ M pc ls (.int x :: st) := fun H locs la hP hS hl => lv_istore C.x C.b hd (lhas_asl hl) (Nat.le_of_ble_eq_true hn) rfl (fun la' hl' => k H locs la' hP hS (lhas_set1 hl'))
theorem x_astore_n (C : Cx κ cc own) {n : Fin 4} {x : Nat} (hd : decode cc pc = .ok (.astore_n n, 1)) (hn : Nat.blt (n : Nat) (knL κ) = true) (k : X κ M (pc + 1) (lset1 ls (n : Nat) (.ref x)) st) : X κ M pc ls (.ref x :: st) := fun H locs la hP hS hl => lv_astore_n C.x C.b hd rfl (lhas_asl hl) (Nat.le_of_ble_eq_true hn) rfl (fun la' hl' => k H locs la' hP hS (lhas_set1 hl'))
theorem x_astore (C : Cx κ cc own) {n : Nat} {x : Nat} (hd : decode cc pc = .ok (.astore n, 2)) (hn : Nat.blt n (knL κ) = true) (k : X κ M (pc + 2) (lset1 ls n (.ref x)) st) : X κ M pc ls (.ref x :: st) := fun H locs la hP hS hl => lv_astore C.x C.b hd (lhas_asl hl) (Nat.le_of_ble_eq_true hn) rfl (fun la' hl' => k H locs la' hP hS (lhas_set1 hl'))
theorem x_astore_nN (C : Cx κ cc own) {n : Fin 4} (hd : decode cc pc = .ok (.astore_n n, 1)) (hn : Nat.blt (n : Nat) (knL κ) = true) (k : X κ M (pc + 1) (lset1 ls (n : Nat) .null) st) : X κ M pc ls (.null :: st) := fun H locs la hP hS hl => lv_astore_nN C.x C.b hd rfl (lhas_asl hl) (Nat.le_of_ble_eq_true hn) rfl (fun la' hl' => k H locs la' hP hS (lhas_set1 hl'))
theorem x_astoreN (C : Cx κ cc own) {n : Nat} (hd : decode cc pc = .ok (.astore n, 2)) (hn : Nat.blt n (knL κ) = true) (k : X κ M (pc + 2) (lset1 ls n .null) st) : X κ M pc ls (.null :: st) := fun H locs la hP hS hl => lv_astoreN C.x C.b hd (lhas_asl hl) (Nat.le_of_ble_eq_true hn) rfl (fun la' hl' => k H locs la' hP hS (lhas_set1 hl'))
theorem x_lstore_n (C : Cx κ cc own) {n : Fin 4} {x : Int64} (hd : decode cc pc = .ok (.lstore_n n, 1)) (hn : Nat.blt ((n : Nat) + 1) (knL κ) = true) (k : X κ M (pc + 1) (lset2 ls (n : Nat) (.long x)) st) : X κ M pc ls (.long x :: st) := fun H locs la hP hS hl => lv_lstore_n C.x C.b hd rfl (lhas_asl hl) (Nat.le_of_ble_eq_true hn) rfl (fun la' hl' => k H locs la' hP hS (lhas_set2 hl'))
theorem x_lstore (C : Cx κ cc own) {n : Nat} {x : Int64} (hd : decode cc pc = .ok (.lstore n, 2)) (hn : Nat.blt (n + 1) (knL κ) = true) (k : X κ M (pc + 2) (lset2 ls n (.long x)) st) : X κ M pc ls (.long x :: st) := fun H locs la hP hS hl => lv_lstore C.x C.b hd (lhas_asl hl) (Nat.le_of_ble_eq_true hn) rfl (fun la' hl' => k H locs la' hP hS (lhas_set2 hl'))
theorem x_iinc (C : Cx κ cc own) {i : Nat} {n : Int} {x v : Int32} (hd : decode cc pc = .ok (.iinc i n, 3)) (hg : lget ls i = some (.int x)) (hv : x + Int32.ofInt n = v) (hn : Nat.blt i (knL κ) = true) (k : X κ M (pc + 3) (lset1 ls i (.int v)) st) : X κ M pc ls st := fun H locs la hP hS hl => by
  obtain ⟨j, hj⟩ := List.getElem?_of_mem (lasl_in hg)
  exact lv_iinc C.x C.b hd (lhas_asl hl) hj hv (Nat.le_of_ble_eq_true hn) rfl (fun la' hl' => k H locs la' hP hS (lhas_set1 hl'))
theorem x_iadd (C : Cx κ cc own) {x y : Int32} (hd : decode cc pc = .ok (.iadd, 1)) (k : X κ M (pc + 1) ls (.int (x + y) :: st)) : X κ M pc ls (.int y :: .int x :: st) := fun H locs la hP hS hl => lv_iadd C.x C.b hd (k H locs la hP hS hl)
theorem x_isub (C : Cx κ cc own) {x y : Int32} (hd : decode cc pc = .ok (.isub, 1)) (k : X κ M (pc + 1) ls (.int (x - y) :: st)) : X κ M pc ls (.int y :: .int x :: st) := fun H locs la hP hS hl => lv_isub C.x C.b hd (k H locs la hP hS hl)
theorem x_imul (C : Cx κ cc own) {x y : Int32} (hd : decode cc pc = .ok (.imul, 1)) (k : X κ M (pc + 1) ls (.int (x * y) :: st)) : X κ M pc ls (.int y :: .int x :: st) := fun H locs la hP hS hl => lv_imul C.x C.b hd (k H locs la hP hS hl)
theorem x_iand (C : Cx κ cc own) {x y : Int32} (hd : decode cc pc = .ok (.iand, 1)) (k : X κ M (pc + 1) ls (.int (x &&& y) :: st)) : X κ M pc ls (.int y :: .int x :: st) := fun H locs la hP hS hl => lv_iand C.x C.b hd (k H locs la hP hS hl)
theorem x_ior (C : Cx κ cc own) {x y : Int32} (hd : decode cc pc = .ok (.ior, 1)) (k : X κ M (pc + 1) ls (.int (x ||| y) :: st)) : X κ M pc ls (.int y :: .int x :: st) := fun H locs la hP hS hl => lv_ior C.x C.b hd (k H locs la hP hS hl)
theorem x_ixor (C : Cx κ cc own) {x y : Int32} (hd : decode cc pc = .ok (.ixor, 1)) (k : X κ M (pc + 1) ls (.int (x ^^^ y) :: st)) : X κ M pc ls (.int y :: .int x :: st) := fun H locs la hP hS hl => lv_ixor C.x C.b hd (k H locs la hP hS hl)
theorem x_ishl (C : Cx κ cc own) {x y : Int32} (hd : decode cc pc = .ok (.ishl, 1)) (k : X κ M (pc + 1) ls (.int (x <<< (y &&& 31)) :: st)) : X κ M pc ls (.int y :: .int x :: st) := fun H locs la hP hS hl => lv_ishl C.x C.b hd (k H locs la hP hS hl)
theorem x_ishr (C : Cx κ cc own) {x y : Int32} (hd : decode cc pc = .ok (.ishr, 1)) (k : X κ M (pc + 1) ls (.int (x >>> (y &&& 31)) :: st)) : X κ M pc ls (.int y :: .int x :: st) := fun H locs la hP hS hl => lv_ishr C.x C.b hd (k H locs la hP hS hl)
theorem x_idiv (C : Cx κ cc own) {x y : Int32} (hd : decode cc pc = .ok (.idiv, 1)) (hne : ¬ y = 0) (k : X κ M (pc + 1) ls (.int (x / y) :: st)) : X κ M pc ls (.int y :: .int x :: st) := fun H locs la hP hS hl => lv_idiv C.x C.b hd hne (k H locs la hP hS hl)
theorem x_irem (C : Cx κ cc own) {x y : Int32} (hd : decode cc pc = .ok (.irem, 1)) (hne : ¬ y = 0) (k : X κ M (pc + 1) ls (.int (x - x / y * y) :: st)) : X κ M pc ls (.int y :: .int x :: st) := fun H locs la hP hS hl => lv_irem C.x C.b hd hne (k H locs la hP hS hl)
theorem x_ineg (C : Cx κ cc own) {x : Int32} (hd : decode cc pc = .ok (.ineg, 1)) (k : X κ M (pc + 1) ls (.int (-x) :: st)) : X κ M pc ls (.int x :: st) := fun H locs la hP hS hl => lv_ineg C.x C.b hd (k H locs la hP hS hl)
theorem x_ladd (C : Cx κ cc own) {x y : Int64} (hd : decode cc pc = .ok (.ladd, 1)) (k : X κ M (pc + 1) ls (.long (x + y) :: st)) : X κ M pc ls (.long y :: .long x :: st) := fun H locs la hP hS hl => lv_ladd C.x C.b hd (k H locs la hP hS hl)
theorem x_lsub (C : Cx κ cc own) {x y : Int64} (hd : decode cc pc = .ok (.lsub, 1)) (k : X κ M (pc + 1) ls (.long (x - y) :: st)) : X κ M pc ls (.long y :: .long x :: st) := fun H locs la hP hS hl => lv_lsub C.x C.b hd (k H locs la hP hS hl)
theorem x_lmul (C : Cx κ cc own) {x y : Int64} (hd : decode cc pc = .ok (.lmul, 1)) (k : X κ M (pc + 1) ls (.long (x * y) :: st)) : X κ M pc ls (.long y :: .long x :: st) := fun H locs la hP hS hl => lv_lmul C.x C.b hd (k H locs la hP hS hl)
theorem x_lcmp (C : Cx κ cc own) {x y : Int64} (hd : decode cc pc = .ok (.lcmp, 1)) (k : X κ M (pc + 1) ls (.int (lg_cmp x y) :: st)) : X κ M pc ls (.long y :: .long x :: st) := fun H locs la hP hS hl => W.lcmp C.x C.b hd (k H locs la hP hS hl)
theorem x_i2l (C : Cx κ cc own) {x : Int32} {v : Int64} (hd : decode cc pc = .ok (.i2l, 1)) (hv : x.toInt64 = v) (k : X κ M (pc + 1) ls (.long v :: st)) : X κ M pc ls (.int x :: st) := fun H locs la hP hS hl => lv_i2l C.x C.b hd hv (k H locs la hP hS hl)
theorem x_l2i (C : Cx κ cc own) {x : Int64} {v : Int32} (hd : decode cc pc = .ok (.l2i, 1)) (hv : x.toInt32 = v) (k : X κ M (pc + 1) ls (.int v :: st)) : X κ M pc ls (.long x :: st) := fun H locs la hP hS hl => lv_l2i C.x C.b hd hv (k H locs la hP hS hl)
theorem x_i2b (C : Cx κ cc own) {x v : Int32} (hd : decode cc pc = .ok (.i2b, 1)) (hv : x.toInt8.toInt32 = v) (k : X κ M (pc + 1) ls (.int v :: st)) : X κ M pc ls (.int x :: st) := fun H locs la hP hS hl => lv_i2b C.x C.b hd hv (k H locs la hP hS hl)
theorem x_i2s (C : Cx κ cc own) {x v : Int32} (hd : decode cc pc = .ok (.i2s, 1)) (hv : x.toInt16.toInt32 = v) (k : X κ M (pc + 1) ls (.int v :: st)) : X κ M pc ls (.int x :: st) := fun H locs la hP hS hl => lv_i2s C.x C.b hd hv (k H locs la hP hS hl)
theorem x_i2c (C : Cx κ cc own) {x v : Int32} (hd : decode cc pc = .ok (.i2c, 1)) (hv : (x.toUInt32 % 65536).toInt32 = v) (k : X κ M (pc + 1) ls (.int v :: st)) : X κ M pc ls (.int x :: st) := fun H locs la hP hS hl => lv_i2c C.x C.b hd hv (k H locs la hP hS hl)
theorem x_iushr (C : Cx κ cc own) {x y v : Int32} (hd : decode cc pc = .ok (.iushr, 1)) (hv : (x.toUInt32 >>> (y.toUInt32 &&& Int32.toUInt32 31)).toInt32 = v) (k : X κ M (pc + 1) ls (.int v :: st)) : X κ M pc ls (.int y :: .int x :: st) := fun H locs la hP hS hl => lv_iushr C.x C.b hd hv (k H locs la hP hS hl)
theorem x_dup (C : Cx κ cc own) {v : Value} (hd : decode cc pc = .ok (.dup, 1)) (hc : v.category = 1) (k : X κ M (pc + 1) ls (v :: v :: st)) : X κ M pc ls (v :: st) := fun H locs la hP hS hl => lv_dup C.x C.b hd hc (k H locs la hP hS hl)
theorem x_pop (C : Cx κ cc own) {v : Value} (hd : decode cc pc = .ok (.pop, 1)) (hc : v.category = 1) (k : X κ M (pc + 1) ls st) : X κ M pc ls (v :: st) := fun H locs la hP hS hl => lv_pop C.x C.b hd hc (k H locs la hP hS hl)
theorem x_dup2 (C : Cx κ cc own) {v w : Value} (hd : decode cc pc = .ok (.dup2, 1)) (hc : v.category = 1) (hc2 : w.category = 1) (k : X κ M (pc + 1) ls (v :: w :: v :: w :: st)) : X κ M pc ls (v :: w :: st) := fun H locs la hP hS hl => lv_dup2_11 C.x C.b hd hc hc2 (k H locs la hP hS hl)
theorem x_null (C : Cx κ cc own)  (hd : decode cc pc = .ok (.aconst_null, 1)) (k : X κ M (pc + 1) ls (.null :: st)) : X κ M pc ls st := fun H locs la hP hS hl => lv_null C.x C.b hd (k H locs la hP hS hl)
theorem x_if_eq (C : Cx κ cc own) {x : Int32} {off : Int} {tgt : Nat} (hd : decode cc pc = .ok (.ifCond .eq off, 3)) (ht : (pc : Int) + off = (tgt : Int)) (kt : x = 0 → X κ M tgt ls st) (kf : ¬ x = 0 → X κ M (pc + 3) ls st) : X κ M pc ls (.int x :: st) := fun H locs la hP hS hl => lv_if_eq C.x C.b hd ht (fun q => kt q H locs la hP hS hl) (fun q => kf q H locs la hP hS hl)
theorem x_if_eqT (C : Cx κ cc own) {x : Int32} {off : Int} {tgt : Nat} (hd : decode cc pc = .ok (.ifCond .eq off, 3)) (ht : (pc : Int) + off = (tgt : Int)) (h : x = 0) (kt : X κ M tgt ls st) : X κ M pc ls (.int x :: st) := x_if_eq C hd ht (fun _ => kt) (fun q => absurd h (by intro z; exact (by first | exact q z | exact z q | exact absurd z q)))
theorem x_if_eqF (C : Cx κ cc own) {x : Int32} {off : Int} (hd : decode cc pc = .ok (.ifCond .eq off, 3)) {tgt : Nat} (ht : (pc : Int) + off = (tgt : Int)) (h : ¬ x = 0) (kf : X κ M (pc + 3) ls st) : X κ M pc ls (.int x :: st) := x_if_eq C hd ht (fun q => absurd h (by intro z; exact (by first | exact q z | exact z q | exact absurd z q))) (fun _ => kf)
theorem x_icmp_eq (C : Cx κ cc own) {x y : Int32} {off : Int} {tgt : Nat} (hd : decode cc pc = .ok (.if_icmp .eq off, 3)) (ht : (pc : Int) + off = (tgt : Int)) (kt : x = y → X κ M tgt ls st) (kf : ¬ x = y → X κ M (pc + 3) ls st) : X κ M pc ls (.int y :: .int x :: st) := fun H locs la hP hS hl => lv_icmp_eq C.x C.b hd ht (fun q => kt q H locs la hP hS hl) (fun q => kf q H locs la hP hS hl)
theorem x_if_ne (C : Cx κ cc own) {x : Int32} {off : Int} {tgt : Nat} (hd : decode cc pc = .ok (.ifCond .ne off, 3)) (ht : (pc : Int) + off = (tgt : Int)) (kt : ¬ x = 0 → X κ M tgt ls st) (kf : x = 0 → X κ M (pc + 3) ls st) : X κ M pc ls (.int x :: st) := fun H locs la hP hS hl => lv_if_ne C.x C.b hd ht (fun q => kt q H locs la hP hS hl) (fun q => kf q H locs la hP hS hl)
theorem x_if_neT (C : Cx κ cc own) {x : Int32} {off : Int} {tgt : Nat} (hd : decode cc pc = .ok (.ifCond .ne off, 3)) (ht : (pc : Int) + off = (tgt : Int)) (h : ¬ x = 0) (kt : X κ M tgt ls st) : X κ M pc ls (.int x :: st) := x_if_ne C hd ht (fun _ => kt) (fun q => absurd h (by intro z; exact (by first | exact q z | exact z q | exact absurd z q)))
theorem x_if_neF (C : Cx κ cc own) {x : Int32} {off : Int} (hd : decode cc pc = .ok (.ifCond .ne off, 3)) {tgt : Nat} (ht : (pc : Int) + off = (tgt : Int)) (h : x = 0) (kf : X κ M (pc + 3) ls st) : X κ M pc ls (.int x :: st) := x_if_ne C hd ht (fun q => absurd h (by intro z; exact (by first | exact q z | exact z q | exact absurd z q))) (fun _ => kf)
theorem x_icmp_ne (C : Cx κ cc own) {x y : Int32} {off : Int} {tgt : Nat} (hd : decode cc pc = .ok (.if_icmp .ne off, 3)) (ht : (pc : Int) + off = (tgt : Int)) (kt : ¬ x = y → X κ M tgt ls st) (kf : x = y → X κ M (pc + 3) ls st) : X κ M pc ls (.int y :: .int x :: st) := fun H locs la hP hS hl => lv_icmp_ne C.x C.b hd ht (fun q => kt q H locs la hP hS hl) (fun q => kf q H locs la hP hS hl)
theorem x_if_lt (C : Cx κ cc own) {x : Int32} {off : Int} {tgt : Nat} (hd : decode cc pc = .ok (.ifCond .lt off, 3)) (ht : (pc : Int) + off = (tgt : Int)) (kt : x < 0 → X κ M tgt ls st) (kf : ¬ x < 0 → X κ M (pc + 3) ls st) : X κ M pc ls (.int x :: st) := fun H locs la hP hS hl => lv_if_lt C.x C.b hd ht (fun q => kt q H locs la hP hS hl) (fun q => kf q H locs la hP hS hl)
theorem x_if_ltT (C : Cx κ cc own) {x : Int32} {off : Int} {tgt : Nat} (hd : decode cc pc = .ok (.ifCond .lt off, 3)) (ht : (pc : Int) + off = (tgt : Int)) (h : x < 0) (kt : X κ M tgt ls st) : X κ M pc ls (.int x :: st) := x_if_lt C hd ht (fun _ => kt) (fun q => absurd h (by intro z; exact (by first | exact q z | exact z q | exact absurd z q)))
theorem x_if_ltF (C : Cx κ cc own) {x : Int32} {off : Int} (hd : decode cc pc = .ok (.ifCond .lt off, 3)) {tgt : Nat} (ht : (pc : Int) + off = (tgt : Int)) (h : ¬ x < 0) (kf : X κ M (pc + 3) ls st) : X κ M pc ls (.int x :: st) := x_if_lt C hd ht (fun q => absurd h (by intro z; exact (by first | exact q z | exact z q | exact absurd z q))) (fun _ => kf)
theorem x_icmp_lt (C : Cx κ cc own) {x y : Int32} {off : Int} {tgt : Nat} (hd : decode cc pc = .ok (.if_icmp .lt off, 3)) (ht : (pc : Int) + off = (tgt : Int)) (kt : x < y → X κ M tgt ls st) (kf : ¬ x < y → X κ M (pc + 3) ls st) : X κ M pc ls (.int y :: .int x :: st) := fun H locs la hP hS hl => lv_icmp_lt C.x C.b hd ht (fun q => kt q H locs la hP hS hl) (fun q => kf q H locs la hP hS hl)
theorem x_if_ge (C : Cx κ cc own) {x : Int32} {off : Int} {tgt : Nat} (hd : decode cc pc = .ok (.ifCond .ge off, 3)) (ht : (pc : Int) + off = (tgt : Int)) (kt : 0 ≤ x → X κ M tgt ls st) (kf : ¬ 0 ≤ x → X κ M (pc + 3) ls st) : X κ M pc ls (.int x :: st) := fun H locs la hP hS hl => lv_if_ge C.x C.b hd ht (fun q => kt q H locs la hP hS hl) (fun q => kf q H locs la hP hS hl)
theorem x_if_geT (C : Cx κ cc own) {x : Int32} {off : Int} {tgt : Nat} (hd : decode cc pc = .ok (.ifCond .ge off, 3)) (ht : (pc : Int) + off = (tgt : Int)) (h : 0 ≤ x) (kt : X κ M tgt ls st) : X κ M pc ls (.int x :: st) := x_if_ge C hd ht (fun _ => kt) (fun q => absurd h (by intro z; exact (by first | exact q z | exact z q | exact absurd z q)))
theorem x_if_geF (C : Cx κ cc own) {x : Int32} {off : Int} (hd : decode cc pc = .ok (.ifCond .ge off, 3)) {tgt : Nat} (ht : (pc : Int) + off = (tgt : Int)) (h : ¬ 0 ≤ x) (kf : X κ M (pc + 3) ls st) : X κ M pc ls (.int x :: st) := x_if_ge C hd ht (fun q => absurd h (by intro z; exact (by first | exact q z | exact z q | exact absurd z q))) (fun _ => kf)
theorem x_icmp_ge (C : Cx κ cc own) {x y : Int32} {off : Int} {tgt : Nat} (hd : decode cc pc = .ok (.if_icmp .ge off, 3)) (ht : (pc : Int) + off = (tgt : Int)) (kt : y ≤ x → X κ M tgt ls st) (kf : ¬ y ≤ x → X κ M (pc + 3) ls st) : X κ M pc ls (.int y :: .int x :: st) := fun H locs la hP hS hl => lv_icmp_ge C.x C.b hd ht (fun q => kt q H locs la hP hS hl) (fun q => kf q H locs la hP hS hl)
theorem x_if_gt (C : Cx κ cc own) {x : Int32} {off : Int} {tgt : Nat} (hd : decode cc pc = .ok (.ifCond .gt off, 3)) (ht : (pc : Int) + off = (tgt : Int)) (kt : 0 < x → X κ M tgt ls st) (kf : ¬ 0 < x → X κ M (pc + 3) ls st) : X κ M pc ls (.int x :: st) := fun H locs la hP hS hl => lv_if_gt C.x C.b hd ht (fun q => kt q H locs la hP hS hl) (fun q => kf q H locs la hP hS hl)
theorem x_if_gtT (C : Cx κ cc own) {x : Int32} {off : Int} {tgt : Nat} (hd : decode cc pc = .ok (.ifCond .gt off, 3)) (ht : (pc : Int) + off = (tgt : Int)) (h : 0 < x) (kt : X κ M tgt ls st) : X κ M pc ls (.int x :: st) := x_if_gt C hd ht (fun _ => kt) (fun q => absurd h (by intro z; exact (by first | exact q z | exact z q | exact absurd z q)))
theorem x_if_gtF (C : Cx κ cc own) {x : Int32} {off : Int} (hd : decode cc pc = .ok (.ifCond .gt off, 3)) {tgt : Nat} (ht : (pc : Int) + off = (tgt : Int)) (h : ¬ 0 < x) (kf : X κ M (pc + 3) ls st) : X κ M pc ls (.int x :: st) := x_if_gt C hd ht (fun q => absurd h (by intro z; exact (by first | exact q z | exact z q | exact absurd z q))) (fun _ => kf)
theorem x_icmp_gt (C : Cx κ cc own) {x y : Int32} {off : Int} {tgt : Nat} (hd : decode cc pc = .ok (.if_icmp .gt off, 3)) (ht : (pc : Int) + off = (tgt : Int)) (kt : y < x → X κ M tgt ls st) (kf : ¬ y < x → X κ M (pc + 3) ls st) : X κ M pc ls (.int y :: .int x :: st) := fun H locs la hP hS hl => lv_icmp_gt C.x C.b hd ht (fun q => kt q H locs la hP hS hl) (fun q => kf q H locs la hP hS hl)
theorem x_if_le (C : Cx κ cc own) {x : Int32} {off : Int} {tgt : Nat} (hd : decode cc pc = .ok (.ifCond .le off, 3)) (ht : (pc : Int) + off = (tgt : Int)) (kt : x ≤ 0 → X κ M tgt ls st) (kf : ¬ x ≤ 0 → X κ M (pc + 3) ls st) : X κ M pc ls (.int x :: st) := fun H locs la hP hS hl => lv_if_le C.x C.b hd ht (fun q => kt q H locs la hP hS hl) (fun q => kf q H locs la hP hS hl)
theorem x_if_leT (C : Cx κ cc own) {x : Int32} {off : Int} {tgt : Nat} (hd : decode cc pc = .ok (.ifCond .le off, 3)) (ht : (pc : Int) + off = (tgt : Int)) (h : x ≤ 0) (kt : X κ M tgt ls st) : X κ M pc ls (.int x :: st) := x_if_le C hd ht (fun _ => kt) (fun q => absurd h (by intro z; exact (by first | exact q z | exact z q | exact absurd z q)))
theorem x_if_leF (C : Cx κ cc own) {x : Int32} {off : Int} (hd : decode cc pc = .ok (.ifCond .le off, 3)) {tgt : Nat} (ht : (pc : Int) + off = (tgt : Int)) (h : ¬ x ≤ 0) (kf : X κ M (pc + 3) ls st) : X κ M pc ls (.int x :: st) := x_if_le C hd ht (fun q => absurd h (by intro z; exact (by first | exact q z | exact z q | exact absurd z q))) (fun _ => kf)
theorem x_icmp_le (C : Cx κ cc own) {x y : Int32} {off : Int} {tgt : Nat} (hd : decode cc pc = .ok (.if_icmp .le off, 3)) (ht : (pc : Int) + off = (tgt : Int)) (kt : x ≤ y → X κ M tgt ls st) (kf : ¬ x ≤ y → X κ M (pc + 3) ls st) : X κ M pc ls (.int y :: .int x :: st) := fun H locs la hP hS hl => lv_icmp_le C.x C.b hd ht (fun q => kt q H locs la hP hS hl) (fun q => kf q H locs la hP hS hl)
theorem x_goto (C : Cx κ cc own) {off : Int} {tgt : Nat} (hd : decode cc pc = .ok (.goto off, 3)) (ht : (pc : Int) + off = (tgt : Int)) (k : X κ M tgt ls st) : X κ M pc ls st := fun H locs la hP hS hl => lv_goto C.x C.b hd ht (k H locs la hP hS hl)
theorem x_ifnull (C : Cx κ cc own) {a : Nat} {off : Int} (hd : decode cc pc = .ok (.ifnull off, 3)) (k : X κ M (pc + 3) ls st) : X κ M pc ls (.ref a :: st) := fun H locs la hP hS hl => lv_ifnull C.x C.b hd (k H locs la hP hS hl)
theorem x_ifnullN (C : Cx κ cc own) {off : Int} {tgt : Nat} (hd : decode cc pc = .ok (.ifnull off, 3)) (ht : (pc : Int) + off = (tgt : Int)) (k : X κ M tgt ls st) : X κ M pc ls (.null :: st) := fun H locs la hP hS hl => lv_ifnullN C.x C.b hd ht (k H locs la hP hS hl)
theorem x_ifnonnull (C : Cx κ cc own) {a : Nat} {off : Int} {tgt : Nat} (hd : decode cc pc = .ok (.ifnonnull off, 3)) (ht : (pc : Int) + off = (tgt : Int)) (k : X κ M tgt ls st) : X κ M pc ls (.ref a :: st) := fun H locs la hP hS hl => lv_ifnonnull C.x C.b hd ht (k H locs la hP hS hl)
theorem x_ifnonnullN (C : Cx κ cc own) {off : Int} (hd : decode cc pc = .ok (.ifnonnull off, 3)) (k : X κ M (pc + 3) ls st) : X κ M pc ls (.null :: st) := fun H locs la hP hS hl => lv_ifnonnullN C.x C.b hd (k H locs la hP hS hl)
theorem x_tableOut (C : Cx κ cc own) {dflt lo hi : Int} {offs : Array Int} {len : Nat} {x : Int32} {tgt : Nat} (hd : decode cc pc = .ok (.tableswitch dflt lo hi offs, len)) (h : x.toInt < lo ∨ hi < x.toInt) (ht : (pc : Int) + dflt = (tgt : Int)) (k : X κ M tgt ls st) : X κ M pc ls (.int x :: st) := fun H locs la hP hS hl => lv_tableOut C.x C.b hd h ht (k H locs la hP hS hl)
theorem x_tableIn (C : Cx κ cc own) {dflt lo hi : Int} {offs : Array Int} {len : Nat} {x : Int32} {off : Int} {tgt : Nat} (hd : decode cc pc = .ok (.tableswitch dflt lo hi offs, len)) (h1 : ¬ x.toInt < lo) (h2 : ¬ hi < x.toInt) (ho : offs[(x.toInt - lo).toNat]? = some off) (ht : (pc : Int) + off = (tgt : Int)) (k : X κ M tgt ls st) : X κ M pc ls (.int x :: st) := fun H locs la hP hS hl => lv_tableIn C.x C.b hd h1 h2 ho ht (k H locs la hP hS hl)
theorem x_ldc (C : Cx κ cc own) {i : Nat} {v : Int32} (hw : Cond.constant own i v ∈ gT) (hd : decode cc pc = .ok (.ldc i, 2)) (k : X κ M (pc + 2) ls (.int v :: st)) : X κ M pc ls st := fun H locs la hP hS hl => lv_ldc C.x C.b C.ow (C.ts _ hw) hd (k H locs la hP hS hl)
theorem x_ldcw (C : Cx κ cc own) {i : Nat} {v : Int32} (hw : Cond.constant own i v ∈ gT) (hd : decode cc pc = .ok (.ldc_w i, 3)) (k : X κ M (pc + 3) ls (.int v :: st)) : X κ M pc ls st := fun H locs la hP hS hl => lv_ldcw C.x C.b C.ow (C.ts _ hw) hd (k H locs la hP hS hl)
theorem x_ldc2 (C : Cx κ cc own) {i : Nat} {v : Int64} (hw : Cond.constantLong own i v ∈ gT) (hd : decode cc pc = .ok (.ldc2_w i, 3)) (k : X κ M (pc + 3) ls (.long v :: st)) : X κ M pc ls st := fun H locs la hP hS hl => lv_ldc2 C.x C.b C.ow (C.ts _ hw) hd (k H locs la hP hS hl)
theorem x_ldcS (C : Cx κ cc "HourEggs$Reader") {i : Nat} (hi : i < 13) (hd : decode cc pc = .ok (.ldc (sIx.getD i 0), 2)) (k : X κ M (pc + 2) ls (.ref (gsa (kg κ) (8 + i)) :: st)) : X κ M pc ls st := fun H locs la hP hS hl => va_ldcS C.x C.b C.ow (C.R.1 i hi) hd (k H locs la hP hS hl)
theorem x_tab (C : Cx κ cc own) {t i : Nat} (hi : i < 8) (et : t = gsa (kg κ) i) {x : Int32} {j : Nat} (hx : x = nI j) (hj : j < tabL i) (hd : decode cc pc = .ok (.iaload, 1)) (k : X κ M (pc + 1) ls (.int (tabV i j) :: st)) : X κ M pc ls (.int x :: .ref t :: st) := fun H locs la hP hS hl => by
  subst hx; subst et
  have h31 : j < 2 ^ 31 := Nat.lt_trans hj (by rcases (show i = 0 ∨ i = 1 ∨ i = 2 ∨ i = 3 ∨ i = 4 ∨ i = 5 ∨ i = 6 ∨ i = 7 by omega) with rfl | rfl | rfl | rfl | rfl | rfl | rfl | rfl <;> decide)
  exact va_ti C.x C.b (C.S.1 i hi).1 hS (vp_in_nI hj (by rcases (show i = 0 ∨ i = 1 ∨ i = 2 ∨ i = 3 ∨ i = 4 ∨ i = 5 ∨ i = 6 ∨ i = 7 by omega) with rfl | rfl | rfl | rfl | rfl | rfl | rfl | rfl <;> decide)) (by rw [nI_clamp h31]) hd (k H locs la hP hS hl)
theorem x_tabN (C : Cx κ cc own) {t i : Nat} (hi : i < 8) (et : t = gsa (kg κ) i) {v : Int32} (hv : Int32.ofNat (tabL i) = v) (hd : decode cc pc = .ok (.arraylength, 1)) (k : X κ M (pc + 1) ls (.int v :: st)) : X κ M pc ls (.ref t :: st) := fun H locs la hP hS hl => by
  subst et
  exact va_tlen C.x C.b (C.S.1 i hi).1 hS hv hd (k H locs la hP hS hl)
theorem x_gets (C : Cx κ cc own) {i idx : Nat} (hi : i < 8) (hw : Cond.fieldLink own idx (tabN.getD i ("", "")).1 (tabN.getD i ("", "")).2 "[I" ∈ gT) (hd : decode cc pc = .ok (.getstatic idx, 3)) (k : X κ M (pc + 3) ls (.ref (gsa (kg κ) i) :: st)) : X κ M pc ls st := fun H locs la hP hS hl => va_gets C.x C.b (C.S.1 i hi).2 hS C.ow (C.ts _ hw) (fun _ h => h) hd (k H locs la hP hS hl)
/-! fields of the objects of the world -/
def Bk (ci : Nat) (Cn : String) (T : u_T) (ty : Nat → FieldType) (N : Nat) : Prop := vwCl[ci]? = some (Cn, T, N) ∧ (∀ w ∈ u_ws Cn T N, w ∈ gT) ∧ (∀ k, k < N → parseFieldDescriptor (T k).2.2.1 = some (ty k)) ∧ ∀ a, a < N → ∀ b, b < N → a ≠ b → (T a).2.1 ≠ (T b).2.1
theorem x_getf (C : Cx κ cc own) {ci N : Nat} {Cn : String} {T : u_T} {ty : Nat → FieldType} (B : Bk ci Cn T ty N) {k a : Nat} (hk : k < gn (kg κ)) (ea : a = gad (kg κ) k) {fl : (Nat → Int32) → List Value} (he : ∀ f, ent (kg κ) k f = .inr (ci, fl f)) (j : Nat) {idx : Nat} (hw : Cond.fieldLink own idx (T j).1 (T j).2.1 (T j).2.2.1 ∈ gT) (hj : Nat.blt j N = true) {v : Value} (hv : (fl (M k))[j]? = some v) (hd : decode cc pc = .ok (.getfield idx, 3)) (kk : X κ M (pc + 3) ls (v :: st)) : X κ M pc ls (.ref a :: st) := fun H locs la hP hS hl => by
  subst ea
  exact va_get C.x C.b C.ts B.2.1 C.ow C.K hP k ((Wd_at hk).trans (by rw [he])) B.1 j (Nat.le_of_ble_eq_true hj) (C.ts _ hw) (fun _ h => h) hv hd (kk H locs la hP hS hl)
theorem x_putV (C : Cx κ cc own) {ci N : Nat} {Cn : String} {T : u_T} {ty : Nat → FieldType} (B : Bk ci Cn T ty N) {k a : Nat} (hk : k < gn (kg κ)) (ea : a = gad (kg κ) k) {fl : (Nat → Int32) → List Value} (he : ∀ f, ent (kg κ) k f = .inr (ci, fl f)) (j : Nat) {idx : Nat} (hw : Cond.fieldLink own idx (T j).1 (T j).2.1 (T j).2.2.1 ∈ gT) (hj : Nat.blt j N = true) {v : Value} {f' : Nat → Int32} (hset : (fl (M k)).set j v = fl f') (hlen : Nat.blt j (fl (M k)).length = true) (hfin : (T j).2.2.2 = false) (hn : narrow (ty j) v = v) (hfit : fits (ty j) v = true) (hd : decode cc pc = .ok (.putfield idx, 3)) (kk : X κ (upR M k f') (pc + 3) ls st) : X κ M pc ls (v :: .ref a :: st) := fun H locs la hP hS hl => by
  subst ea
  refine va_put C.x C.b C.ts B.2.1 ty B.2.2.1 B.2.2.2 C.ow C.K hP (C.A.D M) hS k ((Wd_at hk).trans (by rw [he])) B.1 j (Nat.le_of_ble_eq_true hj) (C.ts _ hw) (fun _ h => h) hfin (B.2.2.1 j (Nat.le_of_ble_eq_true hj)) hn hfit (Nat.le_of_ble_eq_true hlen) hd (fun H1 locs1 hP1 _ hS1 => kk H1 locs1 la ?_ hS1 hl)
  rw [hset, ← he, Wd_set] at hP1
  exact hP1
theorem x_putf (C : Cx κ cc own) {ci N : Nat} {Cn : String} {T : u_T} {ty : Nat → FieldType} (B : Bk ci Cn T ty N) {k a : Nat} (hk : k < gn (kg κ)) (ea : a = gad (kg κ) k) {fl : (Nat → Int32) → List Value} (he : ∀ f, ent (kg κ) k f = .inr (ci, fl f)) (j : Nat) {idx : Nat} (hw : Cond.fieldLink own idx (T j).1 (T j).2.1 (T j).2.2.1 ∈ gT) (hj : Nat.blt j N = true) {x : Int32} (hset : ∀ f : Nat → Int32, (fl f).set j (.int x) = fl (upd f j x)) (hlen : Nat.blt j (fl (M k)).length = true) (hfin : (T j).2.2.2 = false) (hn : narrow (ty j) (.int x) = .int x) (hfit : fits (ty j) (.int x) = true) (hd : decode cc pc = .ok (.putfield idx, 3)) (kk : X κ (up M k j x) (pc + 3) ls st) : X κ M pc ls (.int x :: .ref a :: st) :=
  x_putV C B hk ea he j hw hj (hset _) hlen hfin hn hfit hd kk
/-! arrays of the world -/
theorem gt0 {g : Gp} : (gtys g)[0]? = some (gcI g, .int) := rfl
theorem gt1 {g : Gp} : (gtys g)[1]? = some (gcC g, .char) := rfl
theorem gt2 {g : Gp} : (gtys g)[2]? = some (gcZ g, .boolean) := rfl
theorem gt3 {g : Gp} : (gtys g)[3]? = some (gcO g, .object "HourEggs$Sheet") := rfl
theorem x_iald (C : Cx κ cc own) {k a n : Nat} (hk : k < gn (kg κ)) (ea : a = gad (kg κ) k) (he : ∀ f, ent (kg κ) k f = eI (kg κ) n f) {x : Int32} {j : Nat} (hx : x = nI j) (hj : j < n) (hn : Nat.blt n 2147483648 = true) (hd : decode cc pc = .ok (.iaload, 1)) (kk : X κ M (pc + 1) ls (.int (M k j) :: st)) : X κ M pc ls (.int x :: .ref a :: st) := fun H locs la hP hS hl => by
  subst hx; subst ea
  have hn' : n < 2 ^ 31 := Nat.le_of_ble_eq_true hn
  refine va_iald C.x C.b C.K hP k 0 ((Wd_at hk).trans (by rw [he]; rfl)) gt0 (vp_in_nI hj hn') hd ?_
  rw [nI_clamp (Nat.lt_trans hj hn')]
  exact kk H locs la hP hS hl
theorem x_cald (C : Cx κ cc own) {k a n : Nat} (hk : k < gn (kg κ)) (ea : a = gad (kg κ) k) (he : ∀ f, ent (kg κ) k f = eC (kg κ) n f) {x : Int32} {j : Nat} (hx : x = nI j) (hj : j < n) (hn : Nat.blt n 2147483648 = true) (hd : decode cc pc = .ok (.caload, 1)) (kk : X κ M (pc + 1) ls (.int (M k j) :: st)) : X κ M pc ls (.int x :: .ref a :: st) := fun H locs la hP hS hl => by
  subst hx; subst ea
  have hn' : n < 2 ^ 31 := Nat.le_of_ble_eq_true hn
  refine va_cald C.x C.b C.K hP k 1 ((Wd_at hk).trans (by rw [he]; rfl)) gt1 (vp_in_nI hj hn') hd ?_
  rw [nI_clamp (Nat.lt_trans hj hn')]
  exact kk H locs la hP hS hl
theorem x_zald (C : Cx κ cc own) {k a n : Nat} (hk : k < gn (kg κ)) (ea : a = gad (kg κ) k) (he : ∀ f, ent (kg κ) k f = eZ (kg κ) n f) {x : Int32} {j : Nat} (hx : x = nI j) (hj : j < n) (hn : Nat.blt n 2147483648 = true) (hd : decode cc pc = .ok (.baload, 1)) (kk : X κ M (pc + 1) ls (.int (M k j) :: st)) : X κ M pc ls (.int x :: .ref a :: st) := fun H locs la hP hS hl => by
  subst hx; subst ea
  have hn' : n < 2 ^ 31 := Nat.le_of_ble_eq_true hn
  refine va_zald C.x C.b C.K hP k 2 ((Wd_at hk).trans (by rw [he]; rfl)) gt2 (vp_in_nI hj hn') hd ?_
  rw [nI_clamp (Nat.lt_trans hj hn')]
  exact kk H locs la hP hS hl
theorem x_iast (C : Cx κ cc own) {k a n : Nat} (hk : k < gn (kg κ)) (ea : a = gad (kg κ) k) (he : ∀ f, ent (kg κ) k f = eI (kg κ) n f) {x y : Int32} {j : Nat} (hx : x = nI j) (hj : j < n) (hn : Nat.blt n 2147483648 = true) (hd : decode cc pc = .ok (.iastore, 1)) (kk : X κ (up M k j y) (pc + 1) ls st) : X κ M pc ls (.int y :: .int x :: .ref a :: st) := fun H locs la hP hS hl => by
  subst hx; subst ea
  have hn' : n < 2 ^ 31 := Nat.le_of_ble_eq_true hn
  refine va_iast C.x C.b C.K hP (C.A.D M) hS k 0 ((Wd_at hk).trans (by rw [he]; rfl)) gt0 (vp_in_nI hj hn') hd (fun H1 locs1 hP1 _ hS1 => kk H1 locs1 la ?_ hS1 hl)
  rw [nI_clamp (Nat.lt_trans hj hn')] at hP1
  have e : (Wd (kg κ) M).set k (gad (kg κ) k, eI (kg κ) n (upd (M k) j y)) = Wd (kg κ) (up M k j y) := by rw [← he, Wd_set]; rfl
  rw [← e]
  exact hP1
theorem x_zast (C : Cx κ cc own) {k a n : Nat} (hk : k < gn (kg κ)) (ea : a = gad (kg κ) k) (he : ∀ f, ent (kg κ) k f = eZ (kg κ) n f) {x y : Int32} {j : Nat} (hx : x = nI j) (hj : j < n) (hn : Nat.blt n 2147483648 = true) (hy : vp_nar .boolean y = y) (hd : decode cc pc = .ok (.bastore, 1)) (kk : X κ (up M k j y) (pc + 1) ls st) : X κ M pc ls (.int y :: .int x :: .ref a :: st) := fun H locs la hP hS hl => by
  subst hx; subst ea
  have hn' : n < 2 ^ 31 := Nat.le_of_ble_eq_true hn
  refine va_zast C.x C.b C.K hP (C.A.D M) hS k 2 ((Wd_at hk).trans (by rw [he]; rfl)) gt2 (vp_in_nI hj hn') hd (fun H1 locs1 hP1 _ hS1 => kk H1 locs1 la ?_ hS1 hl)
  rw [nI_clamp (Nat.lt_trans hj hn'), hy] at hP1
  have e : (Wd (kg κ) M).set k (gad (kg κ) k, eZ (kg κ) n (upd (M k) j y)) = Wd (kg κ) (up M k j y) := by rw [← he, Wd_set]; rfl
  rw [← e]
  exact hP1
theorem x_alenI (C : Cx κ cc own) {k a n : Nat} (hk : k < gn (kg κ)) (ea : a = gad (kg κ) k) (he : ∀ f, ent (kg κ) k f = eI (kg κ) n f) {v : Int32} (hv : Int32.ofNat n = v) (hd : decode cc pc = .ok (.arraylength, 1)) (kk : X κ M (pc + 1) ls (.int v :: st)) : X κ M pc ls (.ref a :: st) := fun H locs la hP hS hl => by
  subst ea
  exact va_alen C.x C.b C.K hP k 0 (x := (n, .inl (M k))) ((Wd_at hk).trans (by rw [he]; rfl)) gt0 hv hd (kk H locs la hP hS hl)
theorem x_alenC (C : Cx κ cc own) {k a n : Nat} (hk : k < gn (kg κ)) (ea : a = gad (kg κ) k) (he : ∀ f, ent (kg κ) k f = eC (kg κ) n f) {v : Int32} (hv : Int32.ofNat n = v) (hd : decode cc pc = .ok (.arraylength, 1)) (kk : X κ M (pc + 1) ls (.int v :: st)) : X κ M pc ls (.ref a :: st) := fun H locs la hP hS hl => by
  subst ea
  exact va_alen C.x C.b C.K hP k 1 (x := (n, .inl (M k))) ((Wd_at hk).trans (by rw [he]; rfl)) gt1 hv hd (kk H locs la hP hS hl)
theorem x_alenS (C : Cx κ cc own) {a : Nat} (ea : a = gad (kg κ) 28) {v : Int32} (hv : Int32.ofNat 4 = v) (hd : decode cc pc = .ok (.arraylength, 1)) (kk : X κ M (pc + 1) ls (.int v :: st)) : X κ M pc ls (.ref a :: st) := fun H locs la hP hS hl => by
  subst ea
  exact va_alen C.x C.b C.K hP 28 3 (x := (4, .inr (.inr (.inr (.inr (fun i => some (gad (kg κ) (29 + 2 * i)))))))) ((Wd_at (C.lt rfl)).trans rfl) gt3 hv hd (kk H locs la hP hS hl)
theorem x_aaldS (C : Cx κ cc own) {a : Nat} (ea : a = gad (kg κ) 28) {x : Int32} {j : Nat} (hx : x = nI j) (hj : j < 4) (hd : decode cc pc = .ok (.aaload, 1)) (kk : X κ M (pc + 1) ls (.ref (gad (kg κ) (29 + 2 * j)) :: st)) : X κ M pc ls (.int x :: .ref a :: st) := fun H locs la hP hS hl => by
  subst hx; subst ea
  refine va_aldq C.x C.b C.K hP 28 3 (f := fun i => some (gad (kg κ) (29 + 2 * i))) ((Wd_at (C.lt rfl)).trans rfl) gt3 (vp_in_nI hj (by decide)) hd ?_
  rw [nI_clamp (Nat.lt_trans hj (by decide))]
  exact kk H locs la hP hS hl
/-! Math -/
theorem x_max (C : Cx κ cc own) {idx : Nat} (hw : Cond.methodLink own idx Lib.Math.max.name ∈ gT) (h1 : Cond.static Lib.Math.max.name ∈ gT) (h2 : Cond.initialized "java/lang/Math" ∈ gT) (h3 : Cond.code Lib.Math.max.name Lib.Math.max.code 2 (some .int) ∈ gT) (hr : Nat.ble 1 (kR κ).frames = true) (hr2 : Nat.ble ((st.map fun v => v.category).sum + 13) (kR κ).locals = true) (hc : Nat.ble (kce κ) (kR κ).cells = true) (hs : Nat.ble (kso κ) (kR κ).slots = true) {x y : Int32} (hd : decode cc pc = .ok (.invokestatic idx, 3)) (kk : X κ M (pc + 3) ls (.int (if x < y then y else x) :: st)) : X κ M pc ls (.int y :: .int x :: st) := fun H locs la hP hS hl =>
  va_mmax C.x C.b (C.ml.trans hl.1.symm) C.ow (C.ts _ hw) (C.ts _ h1) (C.ts _ h2) (C.ts _ h3) (Nat.le_of_ble_eq_true hr) (Nat.le_of_ble_eq_true hr2) (Nat.le_of_ble_eq_true hc) (Nat.le_of_ble_eq_true hs) hd (kk H locs la hP hS hl)
theorem x_min (C : Cx κ cc own) {idx : Nat} (hw : Cond.methodLink own idx Lib.Math.min.name ∈ gT) (h1 : Cond.static Lib.Math.min.name ∈ gT) (h2 : Cond.initialized "java/lang/Math" ∈ gT) (h3 : Cond.code Lib.Math.min.name Lib.Math.min.code 2 (some .int) ∈ gT) (hr : Nat.ble 1 (kR κ).frames = true) (hr2 : Nat.ble ((st.map fun v => v.category).sum + 13) (kR κ).locals = true) (hc : Nat.ble (kce κ) (kR κ).cells = true) (hs : Nat.ble (kso κ) (kR κ).slots = true) {x y : Int32} (hd : decode cc pc = .ok (.invokestatic idx, 3)) (kk : X κ M (pc + 3) ls (.int (if y < x then y else x) :: st)) : X κ M pc ls (.int y :: .int x :: st) := fun H locs la hP hS hl =>
  va_mmin C.x C.b (C.ml.trans hl.1.symm) C.ow (C.ts _ hw) (C.ts _ h1) (C.ts _ h2) (C.ts _ h3) (Nat.le_of_ble_eq_true hr) (Nat.le_of_ble_eq_true hr2) (Nat.le_of_ble_eq_true hc) (Nat.le_of_ble_eq_true hs) hd (kk H locs la hP hS hl)
theorem x_abs (C : Cx κ cc own) {idx : Nat} (hw : Cond.methodLink own idx Lib.Math.abs.name ∈ gT) (h1 : Cond.static Lib.Math.abs.name ∈ gT) (h2 : Cond.initialized "java/lang/Math" ∈ gT) (h3 : Cond.code Lib.Math.abs.name Lib.Math.abs.code 1 (some .int) ∈ gT) (hr : Nat.ble 1 (kR κ).frames = true) (hr2 : Nat.ble ((st.map fun v => v.category).sum + 13) (kR κ).locals = true) (hc : Nat.ble (kce κ) (kR κ).cells = true) (hs : Nat.ble (kso κ) (kR κ).slots = true) {x : Int32} (hd : decode cc pc = .ok (.invokestatic idx, 3)) (kk : X κ M (pc + 3) ls (.int (if 0 ≤ x then x else 0 - x) :: st)) : X κ M pc ls (.int x :: st) := fun H locs la hP hS hl =>
  va_mabs C.x C.b (C.ml.trans hl.1.symm) C.ow (C.ts _ hw) (C.ts _ h1) (C.ts _ h2) (C.ts _ h3) (Nat.le_of_ble_eq_true hr) (Nat.le_of_ble_eq_true hr2) (Nat.le_of_ble_eq_true hc) (Nat.le_of_ble_eq_true hs) hd (kk H locs la hP hS hl)
end XR
