/-! ===== contracts of reads (the memory stays), calls of them; loops; small rows ===== -/
def bv (p : Prop) (r : Int32) : Prop := (r = 1 ∧ p) ∨ (r = 0 ∧ ¬ p)
def Kp (l : Launch) (g : Gp) (y : MethodName) (b : ByteArray) (nL : Nat) (rt : FieldType) (rm : Room) (av : List Value) (M : Mem) (p : Int32 → Prop) : Prop := Ki l g y b nL rt rm av M (fun r M' => p r ∧ M' = M)
theorem up_to (N : Nat) {P : Nat → Prop} (h : ∀ i, i ≤ N → (i < N → P (i + 1)) → P i) : ∀ i, i ≤ N → P i := by
  have key : ∀ n i, i ≤ N → N - i ≤ n → P i := by
    intro n
    induction n with
    | zero => intro i hi hn; exact h i hi (fun hz => absurd hz (by omega))
    | succ n ih => intro i hi hn; exact h i hi (fun hz => ih (i + 1) hz (by omega))
  exact fun i hi => key (N - i) i hi (Nat.le_refl _)
theorem dn_to {P : Nat → Prop} (h : ∀ i, (∀ j, j < i → P j) → P i) : ∀ i, P i := fun i => Nat.strongRecOn i (fun i ih => h i ih)
theorem sw_split (x : Int32) (lo hi : Int) : (x.toInt < lo ∨ hi < x.toInt) ∨ (¬ x.toInt < lo ∧ ¬ hi < x.toInt) := by omega
theorem fa_lt (a b : Int32) : a < b ↔ a.toInt < b.toInt := Int32.lt_iff_toInt_lt
theorem fa_le (a b : Int32) : a ≤ b ↔ a.toInt ≤ b.toInt := Int32.le_iff_toInt_le
theorem fa_eq (a b : Int32) : a = b ↔ a.toInt = b.toInt := ⟨fun h => h ▸ rfl, fun h => Int32.toInt_inj.mp h⟩
theorem mkL_eq (v : Int64) : mkL (hiL v) (loL v) = v := by
  apply Int64.toInt_inj.mp
  have hv1 := Int64.le_toInt v
  have hv2 := Int64.toInt_lt v
  have hb := Int32.le_toInt (loL v)
  have hb2 := Int32.toInt_lt (loL v)
  have hlo : (loL v).toInt = v.toInt.bmod (2 ^ 32) := Int32.toInt_ofInt
  have hhi : (hiL v).toInt = ((v.toInt - (loL v).toInt) / 4294967296).bmod (2 ^ 32) := Int32.toInt_ofInt
  have hm : (mkL (hiL v) (loL v)).toInt = ((hiL v).toInt * 4294967296 + (loL v).toInt).bmod (2 ^ 64) := Int64.toInt_ofInt
  rw [hm]
  have e1 : (4294967296 : Int) ∣ v.toInt - (loL v).toInt := by
    rw [hlo]
    have := @Int.bmod_def v.toInt (2 ^ 32)
    have h2 : v.toInt - v.toInt.bmod (2 ^ 32) = 4294967296 * (v.toInt.bdiv (2 ^ 32)) := by
      have h3 := Int.bmod_add_bdiv v.toInt (2 ^ 32)
      have h4 : (((2 ^ 32 : Nat)) : Int) = 4294967296 := by decide
      rw [h4] at h3
      omega
    exact ⟨_, h2⟩
  obtain ⟨t, ht⟩ := e1
  have e2 : (v.toInt - (loL v).toInt) / 4294967296 = t := by rw [ht]; exact Int.mul_ediv_cancel_left t (by decide)
  rw [e2] at hhi
  have h5 := Int.bmod_add_bdiv t (2 ^ 32)
  rw [← hhi, show (((2 ^ 32 : Nat)) : Int) = 4294967296 from by decide] at h5
  have e3 : (hiL v).toInt * 4294967296 + (loL v).toInt = v.toInt + (2 ^ 64 : Nat) * (-(t.bdiv (2 ^ 32))) := by
    have : (((2 ^ 64 : Nat)) : Int) = 18446744073709551616 := by decide
    rw [this]
    omega
  rw [e3, Int.add_mul_bmod_self_left]
  exact Int.bmod_eq_of_le (by omega) (by omega)
section XD
variable {κ : Kx} {cc : ByteArray} {own : String} {M : Mem} {pc : Nat} {ls : List (Option Value)} {st : List Value}
theorem x_memI (k : ∀ M' : Mem, M' = M → X κ M' pc ls st) : X κ M pc ls st := k M rfl
/-- the model's field of long -/
def upL (M : Mem) (v : Int64) : Mem := upR M 40 (upd (upd (M 40) 12 (hiL v)) 21 (loL v))
theorem x_putL (C : Cx κ cc own) {idx : Nat} (hw : Cond.fieldLink own idx (TX8 12).1 (TX8 12).2.1 (TX8 12).2.2.1 ∈ gT) {v : Int64} {a : Nat} (ea : a = gad (kg κ) 40) (B : Bk 7 RX8 TX8 tyX8 21) (hd : decode cc pc = .ok (.putfield idx, 3)) (kk : X κ (upL M v) (pc + 3) ls st) : X κ M pc ls (.long v :: .ref a :: st) := by
  refine x_putV C B (k := 40) (C.lt rfl) ea (fl := fun f => [.ref (gad (kg κ) 41), .ref (gad (kg κ) 42), .ref (gad (kg κ) 43), .int (f 3), .ref (gad (kg κ) 44), .ref (gad (kg κ) 45), .ref (gad (kg κ) 46), .ref (gad (kg κ) 47), .int (f 8), .int (f 9), .int (f 10), .int (f 11), .long (mkL (f 12) (f 21)), .ref (gad (kg κ) 48), .ref (gad (kg κ) 49), .ref (gad (kg κ) 50), .ref (gad (kg κ) 51), .ref (gad (kg κ) 52), .ref (gad (kg κ) 53), .ref (gad (kg κ) 54), .ref (gad (kg κ) 55)]) (fun f => rfl) 12 hw rfl (f' := upd (upd (M 40) 12 (hiL v)) 21 (loL v)) ?_ rfl rfl rfl rfl hd kk
  have e : mkL (upd (upd (M 40) 12 (hiL v)) 21 (loL v) 12) (upd (upd (M 40) 12 (hiL v)) 21 (loL v) 21) = v := mkL_eq v
  show _ = _
  simp only [e]
  rfl
theorem x_cvE (C : Cx κ cc own) {y : MethodName} {b : ByteArray} {nL n idx k : Nat} {rt : FieldType} {f : Int32} {rm : Room} {As rest : List Value} (hM : Kp (kl κ) (kg κ) y b nL rt rm (.ref (gad (kg κ) k) :: As) M (fun r => r = f)) (o : okV y b nL (some rt) n) (hw : Cond.methodLink own idx y ∈ gT) (hr : okR rm (kR κ) nL = true) (hk : k < gn (kg κ)) (hrc : Rcv (kg κ) k y.cls) (hn : As.length = n) (hst : st = As.reverse ++ .ref (gad (kg κ) k) :: rest) (hW : Nat.ble ((rest.map fun v => v.category).sum) 8 = true) (hcs : Nat.ble (kce κ) (kR κ).cells = true ∧ Nat.ble (kso κ) (kR κ).slots = true) (hd : decode cc pc = .ok (.invokevirtual idx, 3))
    (kk : X κ M (pc + 3) ls (.int f :: rest)) : X κ M pc ls st :=
  x_cvi C hM o hw hr hk hrc hn hst hW hcs hd (fun r M' hp => by obtain ⟨e1, e2⟩ := hp; rw [e1, e2]; exact kk)
theorem x_cvB (C : Cx κ cc own) {y : MethodName} {b : ByteArray} {nL n idx k : Nat} {rt : FieldType} {P : Prop} {rm : Room} {As rest : List Value} (hM : Kp (kl κ) (kg κ) y b nL rt rm (.ref (gad (kg κ) k) :: As) M (bv P)) (o : okV y b nL (some rt) n) (hw : Cond.methodLink own idx y ∈ gT) (hr : okR rm (kR κ) nL = true) (hk : k < gn (kg κ)) (hrc : Rcv (kg κ) k y.cls) (hn : As.length = n) (hst : st = As.reverse ++ .ref (gad (kg κ) k) :: rest) (hW : Nat.ble ((rest.map fun v => v.category).sum) 8 = true) (hcs : Nat.ble (kce κ) (kR κ).cells = true ∧ Nat.ble (kso κ) (kR κ).slots = true) (hd : decode cc pc = .ok (.invokevirtual idx, 3))
    (kt : P → X κ M (pc + 3) ls (.int 1 :: rest)) (kf : ¬ P → X κ M (pc + 3) ls (.int 0 :: rest)) : X κ M pc ls st :=
  x_cvi C hM o hw hr hk hrc hn hst hW hcs hd (fun r M' hp => by
    obtain ⟨e1, e2⟩ := hp
    rw [e2]
    rcases e1 with ⟨e1, h⟩ | ⟨e1, h⟩
    · rw [e1]; exact kt h
    · rw [e1]; exact kf h)
theorem x_cvP (C : Cx κ cc own) {y : MethodName} {b : ByteArray} {nL n idx k : Nat} {rt : FieldType} {p : Int32 → Prop} {rm : Room} {As rest : List Value} (hM : Kp (kl κ) (kg κ) y b nL rt rm (.ref (gad (kg κ) k) :: As) M p) (o : okV y b nL (some rt) n) (hw : Cond.methodLink own idx y ∈ gT) (hr : okR rm (kR κ) nL = true) (hk : k < gn (kg κ)) (hrc : Rcv (kg κ) k y.cls) (hn : As.length = n) (hst : st = As.reverse ++ .ref (gad (kg κ) k) :: rest) (hW : Nat.ble ((rest.map fun v => v.category).sum) 8 = true) (hcs : Nat.ble (kce κ) (kR κ).cells = true ∧ Nat.ble (kso κ) (kR κ).slots = true) (hd : decode cc pc = .ok (.invokevirtual idx, 3))
    (kk : ∀ r : Int32, p r → X κ M (pc + 3) ls (.int r :: rest)) : X κ M pc ls st :=
  x_cvi C hM o hw hr hk hrc hn hst hW hcs hd (fun r M' hp => by obtain ⟨e1, e2⟩ := hp; rw [e2]; exact kk r e1)
theorem x_csE (C : Cx κ cc own) {y : MethodName} {b : ByteArray} {nL n idx : Nat} {rt : FieldType} {f : Int32} {rm : Room} {As rest : List Value} (hM : Kp (kl κ) (kg κ) y b nL rt rm As M (fun r => r = f)) (o : okS y b nL (some rt) n) (hw : Cond.methodLink own idx y ∈ gT) (hr : okR rm (kR κ) nL = true) (hn : As.length = n) (hst : st = As.reverse ++ rest) (hW : Nat.ble ((rest.map fun v => v.category).sum) 8 = true) (hcs : Nat.ble (kce κ) (kR κ).cells = true ∧ Nat.ble (kso κ) (kR κ).slots = true) (hd : decode cc pc = .ok (.invokestatic idx, 3))
    (kk : X κ M (pc + 3) ls (.int f :: rest)) : X κ M pc ls st :=
  x_csi C hM o hw hr hn hst hW hcs hd (fun r M' hp => by obtain ⟨e1, e2⟩ := hp; rw [e1, e2]; exact kk)
theorem x_csB (C : Cx κ cc own) {y : MethodName} {b : ByteArray} {nL n idx : Nat} {rt : FieldType} {P : Prop} {rm : Room} {As rest : List Value} (hM : Kp (kl κ) (kg κ) y b nL rt rm As M (bv P)) (o : okS y b nL (some rt) n) (hw : Cond.methodLink own idx y ∈ gT) (hr : okR rm (kR κ) nL = true) (hn : As.length = n) (hst : st = As.reverse ++ rest) (hW : Nat.ble ((rest.map fun v => v.category).sum) 8 = true) (hcs : Nat.ble (kce κ) (kR κ).cells = true ∧ Nat.ble (kso κ) (kR κ).slots = true) (hd : decode cc pc = .ok (.invokestatic idx, 3))
    (kt : P → X κ M (pc + 3) ls (.int 1 :: rest)) (kf : ¬ P → X κ M (pc + 3) ls (.int 0 :: rest)) : X κ M pc ls st :=
  x_csi C hM o hw hr hn hst hW hcs hd (fun r M' hp => by
    obtain ⟨e1, e2⟩ := hp
    rw [e2]
    rcases e1 with ⟨e1, h⟩ | ⟨e1, h⟩
    · rw [e1]; exact kt h
    · rw [e1]; exact kf h)
theorem x_csP (C : Cx κ cc own) {y : MethodName} {b : ByteArray} {nL n idx : Nat} {rt : FieldType} {p : Int32 → Prop} {rm : Room} {As rest : List Value} (hM : Kp (kl κ) (kg κ) y b nL rt rm As M p) (o : okS y b nL (some rt) n) (hw : Cond.methodLink own idx y ∈ gT) (hr : okR rm (kR κ) nL = true) (hn : As.length = n) (hst : st = As.reverse ++ rest) (hW : Nat.ble ((rest.map fun v => v.category).sum) 8 = true) (hcs : Nat.ble (kce κ) (kR κ).cells = true ∧ Nat.ble (kso κ) (kR κ).slots = true) (hd : decode cc pc = .ok (.invokestatic idx, 3))
    (kk : ∀ r : Int32, p r → X κ M (pc + 3) ls (.int r :: rest)) : X κ M pc ls st :=
  x_csi C hM o hw hr hn hst hW hcs hd (fun r M' hp => by obtain ⟨e1, e2⟩ := hp; rw [e2]; exact kk r e1)
end XD
theorem lle_e {b : List (Option Value)} : lle [] b := by cases b <;> trivial
theorem lle_n {w : Option Value} {t u : List (Option Value)} (h : lle t u) : lle (none :: t) (w :: u) := h
theorem lle_s {v : Value} {w : Option Value} {t u : List (Option Value)} (e : w = some v) (h : lle t u) : lle (some v :: t) (w :: u) := ⟨e, h⟩
/-- the same but at these places -/
def same (L : List Nat) (M M' : Mem) : Prop := ∀ k, k ∉ L → M' k = M k
theorem same.rf {L : List Nat} {M : Mem} : same L M M := fun _ _ => rfl
theorem same.tr {L : List Nat} {M M1 M2 : Mem} (h1 : same L M M1) (h2 : same L M1 M2) : same L M M2 := fun k hk => (h2 k hk).trans (h1 k hk)
theorem same.mono {L L' : List Nat} {M M' : Mem} (h : same L M M') (hL : ∀ k ∈ L, k ∈ L') : same L' M M' := fun k hk => h k (fun q => hk (hL k q))
theorem same.up {L : List Nat} {M : Mem} {k i : Nat} {x : Int32} (hk : k ∈ L) : same L M (up M k i x) := fun a ha => up_n (fun q => ha (q ▸ hk))
theorem same.upR {L : List Nat} {M : Mem} {k : Nat} {f : Nat → Int32} (hk : k ∈ L) : same L M (upR M k f) := fun a ha => upR_n (fun q => ha (q ▸ hk))
