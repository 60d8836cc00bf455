/-! ===== the class's words: rows for String constants, calls of String's own methods ===== -/
section XS
variable {κ : Kx} {cc : ByteArray} {own : String} {M : Mem} {pc : Nat} {ls : List (Option Value)} {st : List Value}
theorem x_gCS (C : Cx κ cc own) {idx : Nat} (hw : Cond.fieldLink own idx "java/lang/String" "COMPACT_STRINGS" "Z" ∈ gT) (hd : decode cc pc = .ok (.getstatic idx, 3)) (k : X κ M (pc + 3) ls (.int 1 :: st)) : X κ M pc ls st := fun H locs la hP hS hl => va_gets C.x C.b C.S.2.2.1 hS C.ow (C.ts _ hw) (fun _ h => h) hd (k H locs la hP hS hl)
theorem x_gZq (C : Cx κ cc own) {idx : Nat} (hw : Cond.fieldLink own idx "jdk/internal/util/Preconditions" "SIOOBE_FORMATTER" "Ljava/util/function/BiFunction;" ∈ gT) (hd : decode cc pc = .ok (.getstatic idx, 3)) (kn : X κ M (pc + 3) ls (.null :: st)) (kr : ∀ t9 : Nat, X κ M (pc + 3) ls (.ref t9 :: st)) : X κ M pc ls st := fun H locs la hP hS hl => by
  rcases C.S.2.2.2 with hz | ⟨t9, hz⟩
  · exact va_gets C.x C.b hz hS C.ow (C.ts _ hw) (fun _ h => h) hd (kn H locs la hP hS hl)
  · exact va_gets C.x C.b hz hS C.ow (C.ts _ hw) (fun _ h => h) hd (kr t9 H locs la hP hS hl)
theorem x_strF (C : Cx κ cc own) {i idx : Nat} (hi : i < 13) (hw : Cond.fieldLink own idx "java/lang/String" "value" "[B" ∈ gT) (hd : decode cc pc = .ok (.getfield idx, 3)) (k : X κ M (pc + 3) ls (.ref (gsa (kg κ) (21 + i)) :: st)) : X κ M pc ls (.ref (gsa (kg κ) (8 + i)) :: st) := fun H locs la hP hS hl => vk_getf C.x C.b (C.S.2.1.1 i hi).2.2.1 hS C.ow (C.ts _ hw) (fun _ h => h) hd (k H locs la hP hS hl)
theorem x_strC (C : Cx κ cc own) {i idx : Nat} (hi : i < 13) (hw : Cond.fieldLink own idx "java/lang/String" "coder" "B" ∈ gT) (hd : decode cc pc = .ok (.getfield idx, 3)) (k : X κ M (pc + 3) ls (.int 0 :: st)) : X κ M pc ls (.ref (gsa (kg κ) (8 + i)) :: st) := fun H locs la hP hS hl => vk_getf C.x C.b (C.S.2.1.1 i hi).2.1 hS C.ow (C.ts _ hw) (fun _ h => h) hd (k H locs la hP hS hl)
theorem x_strN (C : Cx κ cc own) {i : Nat} (hi : i < 13) (hd : decode cc pc = .ok (.arraylength, 1)) (k : X κ M (pc + 1) ls (.int (nI (sLn.getD i 0)) :: st)) : X κ M pc ls (.ref (gsa (kg κ) (21 + i)) :: st) := fun H locs la hP hS hl => va_tlen C.x C.b (C.S.2.1.1 i hi).2.2.2 hS rfl hd (k H locs la hP hS hl)
theorem x_strB (C : Cx κ cc own) {i : Nat} (hi : i < 13) {x : Int32} {j : Nat} (hx : x = nI j) (hj : j < sLn.getD i 0) (hj2 : j < 2 ^ 31) (hN : sLn.getD i 0 < 2 ^ 31) (hd : decode cc pc = .ok (.baload, 1)) (k : X κ M (pc + 1) ls (.int ((sBy.getD i []).getD j 0) :: st)) : X κ M pc ls (.int x :: .ref (gsa (kg κ) (21 + i)) :: st) := fun H locs la hP hS hl => by
  subst hx
  exact va_tb C.x C.b (C.S.2.1.1 i hi).2.2.2 hS (vp_in_nI hj hN) (by rw [nI_clamp hj2]) hd (k H locs la hP hS hl)
theorem x_runT (C : Cx κ cc own) {y : MethodName} {b : ByteArray} {nL n idx i : Nat} {ret : Option FieldType} {rm : Room} {As rest : List Value} {Qc : Array Value → State → Outcome → State → Prop} {H : Heap} {locs : List Loc} {la : Array Slot}
    (hM : Met (kl κ) y (.code y b nL ret :: gT) rm (va_Pc (.ref (gsa (kg κ) (8 + i)) :: As) (PreW (kg κ) M H.size)) Qc 0 0 (Ag (kg κ) H.size)) (hi : i < 13) (hcl : y.cls = "java/lang/String") (o : okV y b nL ret n) (hw : Cond.methodLink own idx y ∈ gT) (hr : okR rm (kR κ) nL = true) (hn : As.length = n) (hst : st = As.reverse ++ .ref (gsa (kg κ) (8 + i)) :: rest) (hW : Nat.ble ((rest.map fun v => v.category).sum) 8 = true) (hcs : Nat.ble (kce κ) (kR κ).cells = true ∧ Nat.ble (kso κ) (kR κ).slots = true) (hd : decode cc pc = .ok (.invokevirtual idx, 3))
    (hP : va_P (gD (kg κ)) vwCl (Wd (kg κ) M) H) (hS : va_S (kA κ) (ks κ).heap H locs) (hl : lhas la (knL κ) ls) :
    va_Run (kp κ) (kl κ) (ke κ) (kR κ) (ks κ) (km κ) (ka κ) (kb κ) (kme κ) (kc κ) H locs (kce κ) (kso κ) 0 0 (F0 (km κ) pc la st) rest (Qc (Value.ref (gsa (kg κ) (8 + i)) :: As).toArray) (Ag (kg κ) H.size) :=
  va_runV C.1 hM ⟨x_callB C o.1 hw hr, C.ts _ o.2.1, C.ts _ o.2.2⟩ ⟨PreW.blind, by rw [hcl]; exact vk_recv (i := i) (adK := fun k => gsa (kg κ) (8 + k)) C.S.2.1 hi hS, fun U hU hW => ⟨rfl, x_pre C hP hS U hU hW⟩⟩ rfl hn hl.1 hst (lv_room (Nat.le_of_ble_eq_true hW)) hd ⟨Nat.le_of_ble_eq_true hcs.1, Nat.le_of_ble_eq_true hcs.2⟩
theorem x_ctE (C : Cx κ cc own) {y : MethodName} {b : ByteArray} {nL n idx i : Nat} {rt : FieldType} {f : Int32} {rm : Room} {As rest : List Value} (hM : Kp (kl κ) (kg κ) y b nL rt rm (.ref (gsa (kg κ) (8 + i)) :: As) M (fun r => r = f)) (hi : i < 13) (hcl : y.cls = "java/lang/String") (o : okV y b nL (some rt) n) (hw : Cond.methodLink own idx y ∈ gT) (hr : okR rm (kR κ) nL = true) (hn : As.length = n) (hst : st = As.reverse ++ .ref (gsa (kg κ) (8 + i)) :: rest) (hW : Nat.ble ((rest.map fun v => v.category).sum) 8 = true) (hcs : Nat.ble (kce κ) (kR κ).cells = true ∧ Nat.ble (kso κ) (kR κ).slots = true) (hd : decode cc pc = .ok (.invokevirtual idx, 3))
    (kk : X κ M (pc + 3) ls (.int f :: rest)) : X κ M pc ls st := fun H locs la hP hS hl =>
  va_calli (x_runT C (hM H.size) hi hcl o hw hr hn hst hW hcs hd hP hS hl) hS (fun q _ h => x_free C hS q h) (x_free C hS) (fun r M' t H1 locs1 ht _ hw1 hB _ _ hS1 => by
    obtain ⟨e1, e2⟩ := hw1
    rw [e2] at hB
    rw [e1]
    exact kk H1 locs1 la (by rw [← ht]; exact hB) hS1 hl)
end XS
theorem wln_8 : ∀ i, i < 13 → sLn.getD i 0 ≤ 8 := by decide +kernel
theorem shr_0 : ∀ i, i < 13 → nI (sLn.getD i 0) >>> ((0 : Int32) &&& 31) = nI (sLn.getD i 0) := by decide +kernel
theorem chr_k : ∀ i, i < 13 → ∀ k, k < 8 → (((sBy.getD i []).getD k 0 &&& 255).toUInt32 % 65536).toInt32 = (sBy.getD i []).getD k 0 := by decide +kernel
theorem chr_n : ∀ i, i < 13 → ∀ k, k < 8 → ((sBy.getD i []).getD k 0).toUInt32.toUInt16.toUInt32.toInt32 = (sBy.getD i []).getD k 0 := by decide +kernel
theorem chr_nar {i k : Nat} (hi : i < 13) (hk : k < 8) : narrow .char (.int ((sBy.getD i []).getD k 0)) = .int ((sBy.getD i []).getD k 0) := congrArg Value.int (chr_n i hi k hk)
