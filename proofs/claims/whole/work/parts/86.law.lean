/-! ===== THE LAW: an act on both sides; the loop ===== -/
theorem x_cvt {κ : Kx} {cc : ByteArray} {own : String} {M : Mem} {pc : Nat} {ls : List (Option Value)} {st : List Value} (C : Cx κ cc own) {y : MethodName} {b : ByteArray} {nL n idx k mc ms : Nat} {rt : FieldType} {post : Int32 → Mem → Prop} {rm : Room} {As rest : List Value} (hM : Kt (kl κ) (kg κ) y b nL rt rm (.ref (gad (kg κ) k) :: As) M post mc ms) (o : okV y b nL (some rt) n) (hw : Cond.methodLink own idx y ∈ gT) (hr : okRM rm (kR κ) nL mc ms = true) (hk : k < gn (kg κ)) (hrc : Rcv (kg κ) k y.cls) (hn : As.length = n) (hst : st = As.reverse ++ .ref (gad (kg κ) k) :: rest) (hW : Nat.ble ((rest.map fun v => v.category).sum) 8 = true) (hcs : Nat.ble (kce κ + mc) (kR κ).cells = true ∧ Nat.ble (kso κ + ms) (kR κ).slots = true) (hd : decode cc pc = .ok (.invokevirtual idx, 3))
    (kk : ∀ (r : Int32) (M' : Mem), post r M' → X (kre κ (kg κ) (kce κ + mc) (kso κ + ms)) M' (pc + 3) ls (.int r :: rest)) : X κ M pc ls st := fun H locs la hP hS hl => by
  obtain ⟨⟨o1, o2, o3, o4, o5⟩, o6, o7⟩ := o
  obtain ⟨hr1, hr2, hr3⟩ := okRM_spec hr
  refine va_calli (va_runV C.1 (hM H.size) ⟨⟨hr2, hr3, hr1.1, hr1.2, pay_in C.ts (fun w hw => ?_), List.mem_cons_self, C.ts _ o2, C.ts _ o1, ⟨o3, o4⟩, fun sig h => ?_, C.ts _ hw⟩, C.ts _ o6, C.ts _ o7⟩ ⟨PreW.blind, x_recv C hP hk hrc, fun U hU hW => ⟨rfl, x_pre C hP hS U hU hW⟩⟩ rfl hn hl.1 hst (lv_room (Nat.le_of_ble_eq_true hW)) hd ⟨Nat.le_of_ble_eq_true hcs.1, Nat.le_of_ble_eq_true hcs.2⟩) hS (fun q _ h => x_free C hS q h) (x_free C hS) (fun r M' t H1 locs1 ht _ hw1 hB _ _ hS1 => kk r M' hw1 H1 locs1 la (by rw [← ht]; exact hB) hS1 hl)
  · rcases List.mem_cons.mp hw with rfl | h
    · exact ⟨o2, gT_good _ o2⟩
    · exact ⟨h, gT_good w h⟩
  · rw [h] at o5
    exact (Option.some.inj o5).symm
theorem Cx.re {κ : Kx} {cc : ByteArray} {own : String} (C : Cx κ cc own) (ce so : Nat) : Cx (kre κ (kg κ) ce so) cc own := ⟨C.1, C.K, C.A, C.N, C.n, C.S, C.R⟩
theorem X.widen {κ : Kx} {M : Mem} {pc : Nat} {ls : List (Option Value)} {st : List Value} {ce so : Nat} (h1 : kce κ ≤ ce) (h2 : kso κ ≤ so) (k : X (kre κ (kg κ) ce so) M pc ls st) : X κ M pc ls st := fun H locs la hP hS hl => W.widen h1 h2 (k H locs la hP hS hl)
/-- both sides hold the same -/
def inv (M : Mem) : Prop := aC M = aM M ∧ okA (aC M) ∧ okLt M
theorem sameC.ok {M M' : Mem} (h : sameC M M') (o : okLt M) : okLt M' := by
  unfold okLt
  rw [h 48 (by decide), h 49 (by decide), h 50 (by decide), h 51 (by decide)]
  exact o
theorem sameM.ok {M M' : Mem} (h : sameM M M') (o : okLt M) : okLt M' := by
  unfold okLt
  rw [h 48 (Or.inr (Or.inl (by decide))), h 49 (Or.inr (Or.inl (by decide))), h 50 (Or.inr (Or.inl (by decide))), h 51 (Or.inr (Or.inl (by decide)))]
  exact o
theorem okA_of_inv {M M' : Mem} (h : inv M) (s : sameC M M') : okA (aM M') := by
  rw [s.aM, ← h.1]
  exact h.2.1
theorem law_step {ρ : Type} {M M1 M2 : Mem} {r1 r2 : ρ} (P : Abs → ρ × Abs) (hi : inv M) (h1 : (r1, aC M1) = P (aC M)) (s1 : sameC M M1) (h2 : (r2, aM M2) = P (aM M1)) (s2 : sameM M1 M2) (ok : okA (P (aC M)).2) : r1 = r2 ∧ inv M2 := by
  have e : (r1, aC M1) = (r2, aM M2) := by rw [h1, h2, s1.aM, hi.1]
  have e1 : r1 = r2 := (Prod.mk.inj e).1
  have e2 : aC M1 = aM M2 := (Prod.mk.inj e).2
  have e3 : aC M2 = aC M1 := s2.aC
  refine ⟨e1, e3.trans e2, ?_, s2.ok (s1.ok hi.2.2)⟩
  rw [e3]
  rw [← h1] at ok
  exact ok
def Scr (κ : Kx) (b L : Nat) (xs : Nat → Int32) : Prop := va_X b L xs (ks κ) (ks κ).heap ∧ b < (ks κ).heap.size ∧ ¬ kA κ b
theorem x_slen {κ : Kx} {cc : ByteArray} {own : String} {M : Mem} {pc b L : Nat} {xs : Nat → Int32} {ls : List (Option Value)} {st : List Value} (C : Cx κ cc own) (sc : Scr κ b L xs) (hd : decode cc pc = .ok (.arraylength, 1)) (k : X κ M (pc + 1) ls (.int (nI L) :: st)) : X κ M pc ls (.ref b :: st) := fun H locs la hP hS hl => va_slen C.x C.b sc.1 sc.2.1 sc.2.2 hS hd (k H locs la hP hS hl)
theorem x_sld {κ : Kx} {cc : ByteArray} {own : String} {M : Mem} {pc b L i : Nat} {xs : Nat → Int32} {ls : List (Option Value)} {st : List Value} (C : Cx κ cc own) (sc : Scr κ b L xs) {x : Int32} (hx : x = nI i) (hi : i < L) (hL : L ≤ 3072) (hd : decode cc pc = .ok (.iaload, 1)) (k : X κ M (pc + 1) ls (.int (xs i) :: st)) : X κ M pc ls (.int x :: .ref b :: st) := fun H locs la hP hS hl => by
  subst hx
  have h2 : L < 2 ^ 31 := Nat.lt_of_le_of_lt hL (by decide)
  refine va_sld C.x C.b sc.1 sc.2.1 sc.2.2 hS (vp_in_nI hi h2) hd ?_
  rw [nI_clamp (Nat.lt_trans hi h2)]
  exact k H locs la hP hS hl
/-- the act's argument j is read -/
theorem x_arg {κ : Kx} {cc : ByteArray} {own : String} {M : Mem} {pc b L i j : Nat} {n : Int} {xs : Nat → Int32} {ls : List (Option Value)} {st : List Value} (C : Cx κ cc own) (sc : Scr κ b L xs) (h6 : i + 6 ≤ L) (hj : Nat.blt j 6 = true) (hL : L ≤ 3072) (h0 : lget ls 0 = some (.ref b)) (h3 : lget ls 3 = some (.int (nI i))) (hn : Int32.ofInt n = nI j) (d0 : decode cc pc = .ok (.aload_n 0, 1)) (d1 : decode cc (pc + 1) = .ok (.iload_n 3, 1)) (d2 : decode cc (pc + 2) = .ok (.iconst n, 1)) (d3 : decode cc (pc + 3) = .ok (.iadd, 1)) (d4 : decode cc (pc + 4) = .ok (.iaload, 1)) (k : X κ M (pc + 5) ls (.int (xs (i + j)) :: st)) : X κ M pc ls st := by
  have hj' : j < 6 := Nat.le_of_ble_eq_true hj
  refine x_aload_n C d0 h0 ?_
  refine x_iload_n C d1 h3 ?_
  refine x_iconst C d2 hn ?_
  refine x_iadd C d3 ?_
  exact x_sld C sc (nI_add i j) (by omega) hL d4 k
theorem lg_cmp_r (x : Int64) : lg_cmp x x = 0 := by
  unfold lg_cmp
  rw [if_neg (by intro h; exact absurd h (Int64.lt_irrefl)), if_pos rfl]
theorem okR_1 {κ : Kx} {rm : Room} {nL : Nat} (hR : kR κ = room_1) (h : okR rm room_1 nL = true) : okR rm (kR κ) nL = true := by rw [hR]; exact h
theorem okRM_1 {κ : Kx} {rm : Room} {nL mc ms : Nat} (hR : kR κ = room_1) (h : okRM rm room_1 nL mc ms = true) : okRM rm (kR κ) nL mc ms = true := by rw [hR]; exact h
theorem ble_0 {a b c : Nat} (h : Nat.ble (a + c) b = true) : Nat.ble a b = true := Nat.ble_eq_true_of_le (Nat.le_trans (Nat.le_add_right a c) (Nat.le_of_ble_eq_true h))
abbrev Ll (g : Gp) (b i : Nat) : List (Option Value) := [some (.ref b), some (.ref (gad g 0)), some (.ref (gad g 40)), some (.int (nI i))]
/-- an act of the law begins -/
def Lw (κ : Kx) (b L : Nat) (xs : Nat → Int32) (M : Mem) (i : Nat) : Prop := Cx κ cL_law RL ∧ Scr κ b L xs ∧ kR κ = room_1 ∧ gn (kg κ) = 56 ∧ inv M ∧ i + 6 ≤ L ∧ L ≤ 3072 ∧ Nat.ble (kce κ + 1) (kR κ).cells = true ∧ Nat.ble (kso κ + 6) (kR κ).slots = true
/-- what an act leads to -/
abbrev Lk (κ : Kx) (b i : Nat) : Prop := ∀ M : Mem, inv M → X (kre κ (kg κ) (kce κ + 1) (kso κ + 6)) M 1525 (Ll (kg κ) b i) []
section LA
variable {κ : Kx} {b L i : Nat} {xs : Nat → Int32} {M : Mem}
theorem la_egg (hw : Lw κ b L xs M i) (k : Lk κ b i) : X κ M 240 (Ll (kg κ) b i) [] := by
  obtain ⟨C, sc, hR, hg, hi, h6, hL, hc1, hs1⟩ := hw
  have hc0 : Nat.ble (kce κ) (kR κ).cells = true ∧ Nat.ble (kso κ) (kR κ).slots = true := ⟨ble_0 hc1, ble_0 hs1⟩
  refine x_aload_n C dL_law_240 rfl ?_
  refine x_arg C sc (j := 1) h6 rfl hL rfl rfl (by decide) dL_law_241 dL_law_242 dL_law_243 dL_law_244 dL_law_245 ?_
  refine x_arg C sc (j := 2) h6 rfl hL rfl rfl (by decide) dL_law_246 dL_law_247 dL_law_248 dL_law_249 dL_law_250 ?_
  refine x_arg C sc (j := 3) h6 rfl hL rfl rfl (by decide) dL_law_251 dL_law_252 dL_law_253 dL_law_254 dL_law_255 ?_
  refine x_cvi C (k := 0) (As := [.int (xs (i + 1)), .int (xs (i + 2)), .int (xs (i + 3))]) (c_X7_egg (kl κ) (kg κ) M hi.2.1 _ _ _) o_X7_egg mw_L_13 (okR_1 hR rfl) (C.lt rfl) rcv_0 rfl rfl rfl hc0 dL_law_256 (fun r1 M1 q1 => ?_)
  refine x_aload_n C dL_law_259 rfl ?_
  refine x_arg C sc (j := 1) h6 rfl hL rfl rfl (by decide) dL_law_260 dL_law_261 dL_law_262 dL_law_263 dL_law_264 ?_
  refine x_arg C sc (j := 2) h6 rfl hL rfl rfl (by decide) dL_law_265 dL_law_266 dL_law_267 dL_law_268 dL_law_269 ?_
  refine x_arg C sc (j := 3) h6 rfl hL rfl rfl (by decide) dL_law_270 dL_law_271 dL_law_272 dL_law_273 dL_law_274 ?_
  refine x_cvi C (k := 40) (As := [.int (xs (i + 1)), .int (xs (i + 2)), .int (xs (i + 3))]) (c_X8_egg (kl κ) (kg κ) M1 (okA_of_inv hi q1.2) _ _ _) o_X8_egg mw_L_17 (okR_1 hR rfl) (C.lt rfl) rcv_40 rfl rfl rfl hc0 dL_law_275 (fun r2 M2 q2 => ?_)
  obtain ⟨e, hi2⟩ := law_step (fun A => F_egg (xs (i + 1)) (xs (i + 2)) (xs (i + 3)) A) hi q1.1 q1.2 q2.1 q2.2 (ok_egg hi.2.1 _ _ _)
  exact x_icmp_eq (tgt := 1525) C dL_law_278 (by decide) (fun _ => X.widen (Nat.le_add_right _ _) (Nat.le_add_right _ _) (k M2 hi2)) (fun z => absurd e z)
theorem la_of (hw : Lw κ b L xs M i) (k : Lk κ b i) : X κ M 283 (Ll (kg κ) b i) [] := by
  obtain ⟨C, sc, hR, hg, hi, h6, hL, hc1, hs1⟩ := hw
  have hc0 : Nat.ble (kce κ) (kR κ).cells = true ∧ Nat.ble (kso κ) (kR κ).slots = true := ⟨ble_0 hc1, ble_0 hs1⟩
  refine x_aload_n C dL_law_283 rfl ?_
  refine x_arg C sc (j := 1) h6 rfl hL rfl rfl (by decide) dL_law_284 dL_law_285 dL_law_286 dL_law_287 dL_law_288 ?_
  refine x_arg C sc (j := 2) h6 rfl hL rfl rfl (by decide) dL_law_289 dL_law_290 dL_law_291 dL_law_292 dL_law_293 ?_
  refine x_cvi C (k := 0) (As := [.int (xs (i + 1)), .int (xs (i + 2))]) (c_X7_of (kl κ) (kg κ) M hi.2.1 _ _) o_X7_of mw_L_18 (okR_1 hR rfl) (C.lt rfl) rcv_0 rfl rfl rfl hc0 dL_law_294 (fun r1 M1 q1 => ?_)
  refine x_aload_n C dL_law_297 rfl ?_
  refine x_arg C sc (j := 1) h6 rfl hL rfl rfl (by decide) dL_law_298 dL_law_299 dL_law_300 dL_law_301 dL_law_302 ?_
  refine x_arg C sc (j := 2) h6 rfl hL rfl rfl (by decide) dL_law_303 dL_law_304 dL_law_305 dL_law_306 dL_law_307 ?_
  refine x_cvi C (k := 40) (As := [.int (xs (i + 1)), .int (xs (i + 2))]) (c_X8_of (kl κ) (kg κ) M1 (okA_of_inv hi q1.2) _ _) o_X8_of mw_L_22 (okR_1 hR rfl) (C.lt rfl) rcv_40 rfl rfl rfl hc0 dL_law_308 (fun r2 M2 q2 => ?_)
  obtain ⟨e, hi2⟩ := law_step (fun A => F_of (xs (i + 1)) (xs (i + 2)) A) hi q1.1 q1.2 q2.1 q2.2 (ok_of hi.2.1 _ _)
  exact x_icmp_eq (tgt := 1525) C dL_law_311 (by decide) (fun _ => X.widen (Nat.le_add_right _ _) (Nat.le_add_right _ _) (k M2 hi2)) (fun z => absurd e z)
theorem la_change (hw : Lw κ b L xs M i) (k : Lk κ b i) : X κ M 316 (Ll (kg κ) b i) [] := by
  obtain ⟨C, sc, hR, hg, hi, h6, hL, hc1, hs1⟩ := hw
  have hc0 : Nat.ble (kce κ) (kR κ).cells = true ∧ Nat.ble (kso κ) (kR κ).slots = true := ⟨ble_0 hc1, ble_0 hs1⟩
  refine x_aload_n C dL_law_316 rfl ?_
  refine x_arg C sc (j := 1) h6 rfl hL rfl rfl (by decide) dL_law_317 dL_law_318 dL_law_319 dL_law_320 dL_law_321 ?_
  refine x_arg C sc (j := 2) h6 rfl hL rfl rfl (by decide) dL_law_322 dL_law_323 dL_law_324 dL_law_325 dL_law_326 ?_
  refine x_arg C sc (j := 3) h6 rfl hL rfl rfl (by decide) dL_law_327 dL_law_328 dL_law_329 dL_law_330 dL_law_331 ?_
  refine x_cvi C (k := 0) (As := [.int (xs (i + 1)), .int (xs (i + 2)), .int (xs (i + 3))]) (c_X7_change (kl κ) (kg κ) M hi.2.1 _ _ _) o_X7_change mw_L_23 (okR_1 hR rfl) (C.lt rfl) rcv_0 rfl rfl rfl hc0 dL_law_332 (fun r1 M1 q1 => ?_)
  refine x_aload_n C dL_law_335 rfl ?_
  refine x_arg C sc (j := 1) h6 rfl hL rfl rfl (by decide) dL_law_336 dL_law_337 dL_law_338 dL_law_339 dL_law_340 ?_
  refine x_arg C sc (j := 2) h6 rfl hL rfl rfl (by decide) dL_law_341 dL_law_342 dL_law_343 dL_law_344 dL_law_345 ?_
  refine x_arg C sc (j := 3) h6 rfl hL rfl rfl (by decide) dL_law_346 dL_law_347 dL_law_348 dL_law_349 dL_law_350 ?_
  refine x_cvi C (k := 40) (As := [.int (xs (i + 1)), .int (xs (i + 2)), .int (xs (i + 3))]) (c_X8_change (kl κ) (kg κ) M1 (okA_of_inv hi q1.2) _ _ _) o_X8_change mw_L_26 (okR_1 hR rfl) (C.lt rfl) rcv_40 rfl rfl rfl hc0 dL_law_351 (fun r2 M2 q2 => ?_)
  obtain ⟨e, hi2⟩ := law_step (fun A => F_change (xs (i + 1)) (xs (i + 2)) (xs (i + 3)) A) hi q1.1 q1.2 q2.1 q2.2 (ok_change hi.2.1 _ _ _)
  exact x_icmp_eq (tgt := 1525) C dL_law_354 (by decide) (fun _ => X.widen (Nat.le_add_right _ _) (Nat.le_add_right _ _) (k M2 hi2)) (fun z => absurd e z)
theorem la_hen (hw : Lw κ b L xs M i) (k : Lk κ b i) : X κ M 359 (Ll (kg κ) b i) [] := by
  obtain ⟨C, sc, hR, hg, hi, h6, hL, hc1, hs1⟩ := hw
  have hc0 : Nat.ble (kce κ) (kR κ).cells = true ∧ Nat.ble (kso κ) (kR κ).slots = true := ⟨ble_0 hc1, ble_0 hs1⟩
  refine x_aload_n C dL_law_359 rfl ?_
  refine x_arg C sc (j := 1) h6 rfl hL rfl rfl (by decide) dL_law_360 dL_law_361 dL_law_362 dL_law_363 dL_law_364 ?_
  refine x_arg C sc (j := 2) h6 rfl hL rfl rfl (by decide) dL_law_365 dL_law_366 dL_law_367 dL_law_368 dL_law_369 ?_
  refine x_arg C sc (j := 3) h6 rfl hL rfl rfl (by decide) dL_law_370 dL_law_371 dL_law_372 dL_law_373 dL_law_374 ?_
  refine x_cvi C (k := 0) (As := [.int (xs (i + 1)), .int (xs (i + 2)), .int (xs (i + 3))]) (c_X7_hen (kl κ) (kg κ) M hi.2.1 _ _ _) o_X7_hen mw_L_27 (okR_1 hR rfl) (C.lt rfl) rcv_0 rfl rfl rfl hc0 dL_law_375 (fun r1 M1 q1 => ?_)
  refine x_aload_n C dL_law_378 rfl ?_
  refine x_arg C sc (j := 1) h6 rfl hL rfl rfl (by decide) dL_law_379 dL_law_380 dL_law_381 dL_law_382 dL_law_383 ?_
  refine x_arg C sc (j := 2) h6 rfl hL rfl rfl (by decide) dL_law_384 dL_law_385 dL_law_386 dL_law_387 dL_law_388 ?_
  refine x_arg C sc (j := 3) h6 rfl hL rfl rfl (by decide) dL_law_389 dL_law_390 dL_law_391 dL_law_392 dL_law_393 ?_
  refine x_cvi C (k := 40) (As := [.int (xs (i + 1)), .int (xs (i + 2)), .int (xs (i + 3))]) (c_X8_hen (kl κ) (kg κ) M1 (okA_of_inv hi q1.2) _ _ _) o_X8_hen mw_L_30 (okR_1 hR rfl) (C.lt rfl) rcv_40 rfl rfl rfl hc0 dL_law_394 (fun r2 M2 q2 => ?_)
  obtain ⟨e, hi2⟩ := law_step (fun A => F_hen (xs (i + 1)) (xs (i + 2)) (xs (i + 3)) A) hi q1.1 q1.2 q2.1 q2.2 (ok_hen hi.2.1 _ _ _)
  exact x_icmp_eq (tgt := 1525) C dL_law_397 (by decide) (fun _ => X.widen (Nat.le_add_right _ _) (Nat.le_add_right _ _) (k M2 hi2)) (fun z => absurd e z)
theorem la_work (hw : Lw κ b L xs M i) (k : Lk κ b i) : X κ M 402 (Ll (kg κ) b i) [] := by
  obtain ⟨C, sc, hR, hg, hi, h6, hL, hc1, hs1⟩ := hw
  have hc0 : Nat.ble (kce κ) (kR κ).cells = true ∧ Nat.ble (kso κ) (kR κ).slots = true := ⟨ble_0 hc1, ble_0 hs1⟩
  refine x_aload_n C dL_law_402 rfl ?_
  refine x_arg C sc (j := 1) h6 rfl hL rfl rfl (by decide) dL_law_403 dL_law_404 dL_law_405 dL_law_406 dL_law_407 ?_
  refine x_arg C sc (j := 2) h6 rfl hL rfl rfl (by decide) dL_law_408 dL_law_409 dL_law_410 dL_law_411 dL_law_412 ?_
  refine x_arg C sc (j := 3) h6 rfl hL rfl rfl (by decide) dL_law_413 dL_law_414 dL_law_415 dL_law_416 dL_law_417 ?_
  refine x_cvi C (k := 0) (As := [.int (xs (i + 1)), .int (xs (i + 2)), .int (xs (i + 3))]) (c_X7_work (kl κ) (kg κ) M hi.2.1 _ _ _) o_X7_work mw_L_31 (okR_1 hR rfl) (C.lt rfl) rcv_0 rfl rfl rfl hc0 dL_law_418 (fun r1 M1 q1 => ?_)
  refine x_aload_n C dL_law_421 rfl ?_
  refine x_arg C sc (j := 1) h6 rfl hL rfl rfl (by decide) dL_law_422 dL_law_423 dL_law_424 dL_law_425 dL_law_426 ?_
  refine x_arg C sc (j := 2) h6 rfl hL rfl rfl (by decide) dL_law_427 dL_law_428 dL_law_429 dL_law_430 dL_law_431 ?_
  refine x_arg C sc (j := 3) h6 rfl hL rfl rfl (by decide) dL_law_432 dL_law_433 dL_law_434 dL_law_435 dL_law_436 ?_
  refine x_cvi C (k := 40) (As := [.int (xs (i + 1)), .int (xs (i + 2)), .int (xs (i + 3))]) (c_X8_work (kl κ) (kg κ) M1 (okA_of_inv hi q1.2) _ _ _) o_X8_work mw_L_34 (okR_1 hR rfl) (C.lt rfl) rcv_40 rfl rfl rfl hc0 dL_law_437 (fun r2 M2 q2 => ?_)
  obtain ⟨e, hi2⟩ := law_step (fun A => F_work (xs (i + 1)) (xs (i + 2)) (xs (i + 3)) A) hi q1.1 q1.2 q2.1 q2.2 (ok_work hi.2.1 _ _ _)
  exact x_icmp_eq (tgt := 1525) C dL_law_440 (by decide) (fun _ => X.widen (Nat.le_add_right _ _) (Nat.le_add_right _ _) (k M2 hi2)) (fun z => absurd e z)
theorem la_henOf (hw : Lw κ b L xs M i) (k : Lk κ b i) : X κ M 445 (Ll (kg κ) b i) [] := by
  obtain ⟨C, sc, hR, hg, hi, h6, hL, hc1, hs1⟩ := hw
  have hc0 : Nat.ble (kce κ) (kR κ).cells = true ∧ Nat.ble (kso κ) (kR κ).slots = true := ⟨ble_0 hc1, ble_0 hs1⟩
  refine x_aload_n C dL_law_445 rfl ?_
  refine x_arg C sc (j := 1) h6 rfl hL rfl rfl (by decide) dL_law_446 dL_law_447 dL_law_448 dL_law_449 dL_law_450 ?_
  refine x_arg C sc (j := 2) h6 rfl hL rfl rfl (by decide) dL_law_451 dL_law_452 dL_law_453 dL_law_454 dL_law_455 ?_
  refine x_cvi C (k := 0) (As := [.int (xs (i + 1)), .int (xs (i + 2))]) (c_X7_henOf (kl κ) (kg κ) M hi.2.1 _ _) o_X7_henOf mw_L_35 (okR_1 hR rfl) (C.lt rfl) rcv_0 rfl rfl rfl hc0 dL_law_456 (fun r1 M1 q1 => ?_)
  refine x_aload_n C dL_law_459 rfl ?_
  refine x_arg C sc (j := 1) h6 rfl hL rfl rfl (by decide) dL_law_460 dL_law_461 dL_law_462 dL_law_463 dL_law_464 ?_
  refine x_arg C sc (j := 2) h6 rfl hL rfl rfl (by decide) dL_law_465 dL_law_466 dL_law_467 dL_law_468 dL_law_469 ?_
  refine x_cvi C (k := 40) (As := [.int (xs (i + 1)), .int (xs (i + 2))]) (c_X8_henOf (kl κ) (kg κ) M1 (okA_of_inv hi q1.2) _ _) o_X8_henOf mw_L_38 (okR_1 hR rfl) (C.lt rfl) rcv_40 rfl rfl rfl hc0 dL_law_470 (fun r2 M2 q2 => ?_)
  obtain ⟨e, hi2⟩ := law_step (fun A => F_henOf (xs (i + 1)) (xs (i + 2)) A) hi q1.1 q1.2 q2.1 q2.2 (ok_henOf hi.2.1 _ _)
  exact x_icmp_eq (tgt := 1525) C dL_law_473 (by decide) (fun _ => X.widen (Nat.le_add_right _ _) (Nat.le_add_right _ _) (k M2 hi2)) (fun z => absurd e z)
theorem la_workOf (hw : Lw κ b L xs M i) (k : Lk κ b i) : X κ M 478 (Ll (kg κ) b i) [] := by
  obtain ⟨C, sc, hR, hg, hi, h6, hL, hc1, hs1⟩ := hw
  have hc0 : Nat.ble (kce κ) (kR κ).cells = true ∧ Nat.ble (kso κ) (kR κ).slots = true := ⟨ble_0 hc1, ble_0 hs1⟩
  refine x_aload_n C dL_law_478 rfl ?_
  refine x_arg C sc (j := 1) h6 rfl hL rfl rfl (by decide) dL_law_479 dL_law_480 dL_law_481 dL_law_482 dL_law_483 ?_
  refine x_arg C sc (j := 2) h6 rfl hL rfl rfl (by decide) dL_law_484 dL_law_485 dL_law_486 dL_law_487 dL_law_488 ?_
  refine x_cvi C (k := 0) (As := [.int (xs (i + 1)), .int (xs (i + 2))]) (c_X7_workOf (kl κ) (kg κ) M hi.2.1 _ _) o_X7_workOf mw_L_39 (okR_1 hR rfl) (C.lt rfl) rcv_0 rfl rfl rfl hc0 dL_law_489 (fun r1 M1 q1 => ?_)
  refine x_aload_n C dL_law_492 rfl ?_
  refine x_arg C sc (j := 1) h6 rfl hL rfl rfl (by decide) dL_law_493 dL_law_494 dL_law_495 dL_law_496 dL_law_497 ?_
  refine x_arg C sc (j := 2) h6 rfl hL rfl rfl (by decide) dL_law_498 dL_law_499 dL_law_500 dL_law_501 dL_law_502 ?_
  refine x_cvi C (k := 40) (As := [.int (xs (i + 1)), .int (xs (i + 2))]) (c_X8_workOf (kl κ) (kg κ) M1 (okA_of_inv hi q1.2) _ _) o_X8_workOf mw_L_42 (okR_1 hR rfl) (C.lt rfl) rcv_40 rfl rfl rfl hc0 dL_law_503 (fun r2 M2 q2 => ?_)
  obtain ⟨e, hi2⟩ := law_step (fun A => F_workOf (xs (i + 1)) (xs (i + 2)) A) hi q1.1 q1.2 q2.1 q2.2 (ok_workOf hi.2.1 _ _)
  exact x_icmp_eq (tgt := 1525) C dL_law_506 (by decide) (fun _ => X.widen (Nat.le_add_right _ _) (Nat.le_add_right _ _) (k M2 hi2)) (fun z => absurd e z)
theorem la_spend (hw : Lw κ b L xs M i) (k : Lk κ b i) : X κ M 511 (Ll (kg κ) b i) [] := by
  obtain ⟨C, sc, hR, hg, hi, h6, hL, hc1, hs1⟩ := hw
  have hc0 : Nat.ble (kce κ) (kR κ).cells = true ∧ Nat.ble (kso κ) (kR κ).slots = true := ⟨ble_0 hc1, ble_0 hs1⟩
  refine x_aload_n C dL_law_511 rfl ?_
  refine x_arg C sc (j := 1) h6 rfl hL rfl rfl (by decide) dL_law_512 dL_law_513 dL_law_514 dL_law_515 dL_law_516 ?_
  refine x_arg C sc (j := 2) h6 rfl hL rfl rfl (by decide) dL_law_517 dL_law_518 dL_law_519 dL_law_520 dL_law_521 ?_
  refine x_cvi C (k := 0) (As := [.int (xs (i + 1)), .int (xs (i + 2))]) (c_X7_spend (kl κ) (kg κ) M hi.2.1 _ _) o_X7_spend mw_L_43 (okR_1 hR rfl) (C.lt rfl) rcv_0 rfl rfl rfl hc0 dL_law_522 (fun r1 M1 q1 => ?_)
  refine x_aload_n C dL_law_525 rfl ?_
  refine x_arg C sc (j := 1) h6 rfl hL rfl rfl (by decide) dL_law_526 dL_law_527 dL_law_528 dL_law_529 dL_law_530 ?_
  refine x_arg C sc (j := 2) h6 rfl hL rfl rfl (by decide) dL_law_531 dL_law_532 dL_law_533 dL_law_534 dL_law_535 ?_
  refine x_cvi C (k := 40) (As := [.int (xs (i + 1)), .int (xs (i + 2))]) (c_X8_spend (kl κ) (kg κ) M1 (okA_of_inv hi q1.2) _ _) o_X8_spend mw_L_46 (okR_1 hR rfl) (C.lt rfl) rcv_40 rfl rfl rfl hc0 dL_law_536 (fun r2 M2 q2 => ?_)
  obtain ⟨e, hi2⟩ := law_step (fun A => F_spend (xs (i + 1)) (xs (i + 2)) A) hi q1.1 q1.2 q2.1 q2.2 (ok_spend hi.2.1 _ _)
  exact x_icmp_eq (tgt := 1525) C dL_law_539 (by decide) (fun _ => X.widen (Nat.le_add_right _ _) (Nat.le_add_right _ _) (k M2 hi2)) (fun z => absurd e z)
theorem la_broken (hw : Lw κ b L xs M i) (k : Lk κ b i) : X κ M 544 (Ll (kg κ) b i) [] := by
  obtain ⟨C, sc, hR, hg, hi, h6, hL, hc1, hs1⟩ := hw
  have hc0 : Nat.ble (kce κ) (kR κ).cells = true ∧ Nat.ble (kso κ) (kR κ).slots = true := ⟨ble_0 hc1, ble_0 hs1⟩
  refine x_aload_n C dL_law_544 rfl ?_
  refine x_arg C sc (j := 1) h6 rfl hL rfl rfl (by decide) dL_law_545 dL_law_546 dL_law_547 dL_law_548 dL_law_549 ?_
  refine x_cvi C (k := 0) (As := [.int (xs (i + 1))]) (c_X7_broken (kl κ) (kg κ) M hi.2.1 _) o_X7_broken mw_L_47 (okR_1 hR rfl) (C.lt rfl) rcv_0 rfl rfl rfl hc0 dL_law_550 (fun r1 M1 q1 => ?_)
  refine x_aload_n C dL_law_553 rfl ?_
  refine x_arg C sc (j := 1) h6 rfl hL rfl rfl (by decide) dL_law_554 dL_law_555 dL_law_556 dL_law_557 dL_law_558 ?_
  refine x_cvi C (k := 40) (As := [.int (xs (i + 1))]) (c_X8_broken (kl κ) (kg κ) M1 (okA_of_inv hi q1.2) _) o_X8_broken mw_L_51 (okR_1 hR rfl) (C.lt rfl) rcv_40 rfl rfl rfl hc0 dL_law_559 (fun r2 M2 q2 => ?_)
  obtain ⟨e, hi2⟩ := law_step (fun A => F_broken (xs (i + 1)) A) hi q1.1 q1.2 q2.1 q2.2 (ok_broken hi.2.1 _)
  exact x_icmp_eq (tgt := 1525) C dL_law_562 (by decide) (fun _ => X.widen (Nat.le_add_right _ _) (Nat.le_add_right _ _) (k M2 hi2)) (fun z => absurd e z)
theorem la_go (hw : Lw κ b L xs M i) (k : Lk κ b i) : X κ M 567 (Ll (kg κ) b i) [] := by
  obtain ⟨C, sc, hR, hg, hi, h6, hL, hc1, hs1⟩ := hw
  have hc0 : Nat.ble (kce κ) (kR κ).cells = true ∧ Nat.ble (kso κ) (kR κ).slots = true := ⟨ble_0 hc1, ble_0 hs1⟩
  refine x_aload_n C dL_law_567 rfl ?_
  refine x_arg C sc (j := 1) h6 rfl hL rfl rfl (by decide) dL_law_568 dL_law_569 dL_law_570 dL_law_571 dL_law_572 ?_
  refine x_cvi C (k := 0) (As := [.int (xs (i + 1))]) (c_X7_go (kl κ) (kg κ) M hi.2.1 _) o_X7_go mw_L_52 (okR_1 hR rfl) (C.lt rfl) rcv_0 rfl rfl rfl hc0 dL_law_573 (fun r1 M1 q1 => ?_)
  refine x_aload_n C dL_law_576 rfl ?_
  refine x_arg C sc (j := 1) h6 rfl hL rfl rfl (by decide) dL_law_577 dL_law_578 dL_law_579 dL_law_580 dL_law_581 ?_
  refine x_cvi C (k := 40) (As := [.int (xs (i + 1))]) (c_X8_go (kl κ) (kg κ) M1 (okA_of_inv hi q1.2) _) o_X8_go mw_L_55 (okR_1 hR rfl) (C.lt rfl) rcv_40 rfl rfl rfl hc0 dL_law_582 (fun r2 M2 q2 => ?_)
  obtain ⟨e, hi2⟩ := law_step (fun A => F_go (xs (i + 1)) A) hi q1.1 q1.2 q2.1 q2.2 (ok_go hi.2.1 _)
  exact x_icmp_eq (tgt := 1525) C dL_law_585 (by decide) (fun _ => X.widen (Nat.le_add_right _ _) (Nat.le_add_right _ _) (k M2 hi2)) (fun z => absurd e z)
theorem la_now (hw : Lw κ b L xs M i) (k : Lk κ b i) : X κ M 590 (Ll (kg κ) b i) [] := by
  obtain ⟨C, sc, hR, hg, hi, h6, hL, hc1, hs1⟩ := hw
  have hc0 : Nat.ble (kce κ) (kR κ).cells = true ∧ Nat.ble (kso κ) (kR κ).slots = true := ⟨ble_0 hc1, ble_0 hs1⟩
  refine x_aload_n C dL_law_590 rfl ?_
  refine x_arg C sc (j := 1) h6 rfl hL rfl rfl (by decide) dL_law_591 dL_law_592 dL_law_593 dL_law_594 dL_law_595 ?_
  refine x_cvi C (k := 0) (As := [.int (xs (i + 1))]) (c_X7_now (kl κ) (kg κ) M hi.2.1 _) o_X7_now mw_L_56 (okR_1 hR rfl) (C.lt rfl) rcv_0 rfl rfl rfl hc0 dL_law_596 (fun r1 M1 q1 => ?_)
  refine x_aload_n C dL_law_599 rfl ?_
  refine x_arg C sc (j := 1) h6 rfl hL rfl rfl (by decide) dL_law_600 dL_law_601 dL_law_602 dL_law_603 dL_law_604 ?_
  refine x_cvi C (k := 40) (As := [.int (xs (i + 1))]) (c_X8_now (kl κ) (kg κ) M1 (okA_of_inv hi q1.2) _) o_X8_now mw_L_59 (okR_1 hR rfl) (C.lt rfl) rcv_40 rfl rfl rfl hc0 dL_law_605 (fun r2 M2 q2 => ?_)
  obtain ⟨e, hi2⟩ := law_step (fun A => F_now (xs (i + 1)) A) hi q1.1 q1.2 q2.1 q2.2 (ok_now hi.2.1 _)
  exact x_icmp_eq (tgt := 1525) C dL_law_608 (by decide) (fun _ => X.widen (Nat.le_add_right _ _) (Nat.le_add_right _ _) (k M2 hi2)) (fun z => absurd e z)
theorem la_ahead (hw : Lw κ b L xs M i) (k : Lk κ b i) : X κ M 613 (Ll (kg κ) b i) [] := by
  obtain ⟨C, sc, hR, hg, hi, h6, hL, hc1, hs1⟩ := hw
  have hc0 : Nat.ble (kce κ) (kR κ).cells = true ∧ Nat.ble (kso κ) (kR κ).slots = true := ⟨ble_0 hc1, ble_0 hs1⟩
  refine x_aload_n C dL_law_613 rfl ?_
  refine x_arg C sc (j := 1) h6 rfl hL rfl rfl (by decide) dL_law_614 dL_law_615 dL_law_616 dL_law_617 dL_law_618 ?_
  refine x_cvi C (k := 0) (As := [.int (xs (i + 1))]) (c_X7_ahead (kl κ) (kg κ) M hi.2.1 _) o_X7_ahead mw_L_60 (okR_1 hR rfl) (C.lt rfl) rcv_0 rfl rfl rfl hc0 dL_law_619 (fun r1 M1 q1 => ?_)
  refine x_aload_n C dL_law_622 rfl ?_
  refine x_arg C sc (j := 1) h6 rfl hL rfl rfl (by decide) dL_law_623 dL_law_624 dL_law_625 dL_law_626 dL_law_627 ?_
  refine x_cvi C (k := 40) (As := [.int (xs (i + 1))]) (c_X8_ahead (kl κ) (kg κ) M1 (okA_of_inv hi q1.2) _) o_X8_ahead mw_L_63 (okR_1 hR rfl) (C.lt rfl) rcv_40 rfl rfl rfl hc0 dL_law_628 (fun r2 M2 q2 => ?_)
  obtain ⟨e, hi2⟩ := law_step (fun A => F_ahead (xs (i + 1)) A) hi q1.1 q1.2 q2.1 q2.2 (ok_ahead hi.2.1 _)
  exact x_icmp_eq (tgt := 1525) C dL_law_631 (by decide) (fun _ => X.widen (Nat.le_add_right _ _) (Nat.le_add_right _ _) (k M2 hi2)) (fun z => absurd e z)
theorem la_spoils (hw : Lw κ b L xs M i) (k : Lk κ b i) : X κ M 636 (Ll (kg κ) b i) [] := by
  obtain ⟨C, sc, hR, hg, hi, h6, hL, hc1, hs1⟩ := hw
  have hc0 : Nat.ble (kce κ) (kR κ).cells = true ∧ Nat.ble (kso κ) (kR κ).slots = true := ⟨ble_0 hc1, ble_0 hs1⟩
  refine x_aload_n C dL_law_636 rfl ?_
  refine x_arg C sc (j := 1) h6 rfl hL rfl rfl (by decide) dL_law_637 dL_law_638 dL_law_639 dL_law_640 dL_law_641 ?_
  refine x_cvi C (k := 0) (As := [.int (xs (i + 1))]) (c_X7_spoils (kl κ) (kg κ) M hi.2.1 _) o_X7_spoils mw_L_64 (okR_1 hR rfl) (C.lt rfl) rcv_0 rfl rfl rfl hc0 dL_law_642 (fun r1 M1 q1 => ?_)
  refine x_aload_n C dL_law_645 rfl ?_
  refine x_arg C sc (j := 1) h6 rfl hL rfl rfl (by decide) dL_law_646 dL_law_647 dL_law_648 dL_law_649 dL_law_650 ?_
  refine x_cvi C (k := 40) (As := [.int (xs (i + 1))]) (c_X8_spoils (kl κ) (kg κ) M1 (okA_of_inv hi q1.2) _) o_X8_spoils mw_L_67 (okR_1 hR rfl) (C.lt rfl) rcv_40 rfl rfl rfl hc0 dL_law_651 (fun r2 M2 q2 => ?_)
  obtain ⟨e, hi2⟩ := law_step (fun A => F_spoils (xs (i + 1)) A) hi q1.1 q1.2 q2.1 q2.2 (ok_spoils hi.2.1 _)
  exact x_icmp_eq (tgt := 1525) C dL_law_654 (by decide) (fun _ => X.widen (Nat.le_add_right _ _) (Nat.le_add_right _ _) (k M2 hi2)) (fun z => absurd e z)
theorem la_ripe (hw : Lw κ b L xs M i) (k : Lk κ b i) : X κ M 659 (Ll (kg κ) b i) [] := by
  obtain ⟨C, sc, hR, hg, hi, h6, hL, hc1, hs1⟩ := hw
  have hc0 : Nat.ble (kce κ) (kR κ).cells = true ∧ Nat.ble (kso κ) (kR κ).slots = true := ⟨ble_0 hc1, ble_0 hs1⟩
  refine x_aload_n C dL_law_659 rfl ?_
  refine x_arg C sc (j := 1) h6 rfl hL rfl rfl (by decide) dL_law_660 dL_law_661 dL_law_662 dL_law_663 dL_law_664 ?_
  refine x_cvi C (k := 0) (As := [.int (xs (i + 1))]) (c_X7_ripe (kl κ) (kg κ) M hi.2.1 _) o_X7_ripe mw_L_68 (okR_1 hR rfl) (C.lt rfl) rcv_0 rfl rfl rfl hc0 dL_law_665 (fun r1 M1 q1 => ?_)
  refine x_aload_n C dL_law_668 rfl ?_
  refine x_arg C sc (j := 1) h6 rfl hL rfl rfl (by decide) dL_law_669 dL_law_670 dL_law_671 dL_law_672 dL_law_673 ?_
  refine x_cvi C (k := 40) (As := [.int (xs (i + 1))]) (c_X8_ripe (kl κ) (kg κ) M1 (okA_of_inv hi q1.2) _) o_X8_ripe mw_L_71 (okR_1 hR rfl) (C.lt rfl) rcv_40 rfl rfl rfl hc0 dL_law_674 (fun r2 M2 q2 => ?_)
  obtain ⟨e, hi2⟩ := law_step (fun A => F_ripe (xs (i + 1)) A) hi q1.1 q1.2 q2.1 q2.2 (ok_ripe hi.2.1 _)
  exact x_icmp_eq (tgt := 1525) C dL_law_677 (by decide) (fun _ => X.widen (Nat.le_add_right _ _) (Nat.le_add_right _ _) (k M2 hi2)) (fun z => absurd e z)
theorem la_lasts (hw : Lw κ b L xs M i) (k : Lk κ b i) : X κ M 682 (Ll (kg κ) b i) [] := by
  obtain ⟨C, sc, hR, hg, hi, h6, hL, hc1, hs1⟩ := hw
  have hc0 : Nat.ble (kce κ) (kR κ).cells = true ∧ Nat.ble (kso κ) (kR κ).slots = true := ⟨ble_0 hc1, ble_0 hs1⟩
  refine x_aload_n C dL_law_682 rfl ?_
  refine x_arg C sc (j := 1) h6 rfl hL rfl rfl (by decide) dL_law_683 dL_law_684 dL_law_685 dL_law_686 dL_law_687 ?_
  refine x_cvi C (k := 0) (As := [.int (xs (i + 1))]) (c_X7_lasts (kl κ) (kg κ) M hi.2.1 _) o_X7_lasts mw_L_72 (okR_1 hR rfl) (C.lt rfl) rcv_0 rfl rfl rfl hc0 dL_law_688 (fun r1 M1 q1 => ?_)
  refine x_aload_n C dL_law_691 rfl ?_
  refine x_arg C sc (j := 1) h6 rfl hL rfl rfl (by decide) dL_law_692 dL_law_693 dL_law_694 dL_law_695 dL_law_696 ?_
  refine x_cvi C (k := 40) (As := [.int (xs (i + 1))]) (c_X8_lasts (kl κ) (kg κ) M1 (okA_of_inv hi q1.2) _) o_X8_lasts mw_L_75 (okR_1 hR rfl) (C.lt rfl) rcv_40 rfl rfl rfl hc0 dL_law_697 (fun r2 M2 q2 => ?_)
  obtain ⟨e, hi2⟩ := law_step (fun A => F_lasts (xs (i + 1)) A) hi q1.1 q1.2 q2.1 q2.2 (ok_lasts hi.2.1 _)
  exact x_icmp_eq (tgt := 1525) C dL_law_700 (by decide) (fun _ => X.widen (Nat.le_add_right _ _) (Nat.le_add_right _ _) (k M2 hi2)) (fun z => absurd e z)
theorem la_when (hw : Lw κ b L xs M i) (k : Lk κ b i) : X κ M 705 (Ll (kg κ) b i) [] := by
  obtain ⟨C, sc, hR, hg, hi, h6, hL, hc1, hs1⟩ := hw
  have hc0 : Nat.ble (kce κ) (kR κ).cells = true ∧ Nat.ble (kso κ) (kR κ).slots = true := ⟨ble_0 hc1, ble_0 hs1⟩
  refine x_aload_n C dL_law_705 rfl ?_
  refine x_arg C sc (j := 1) h6 rfl hL rfl rfl (by decide) dL_law_706 dL_law_707 dL_law_708 dL_law_709 dL_law_710 ?_
  refine x_cvi C (k := 0) (As := [.int (xs (i + 1))]) (c_X7_when (kl κ) (kg κ) M hi.2.1 _) o_X7_when mw_L_76 (okR_1 hR rfl) (C.lt rfl) rcv_0 rfl rfl rfl hc0 dL_law_711 (fun r1 M1 q1 => ?_)
  refine x_aload_n C dL_law_714 rfl ?_
  refine x_arg C sc (j := 1) h6 rfl hL rfl rfl (by decide) dL_law_715 dL_law_716 dL_law_717 dL_law_718 dL_law_719 ?_
  refine x_cvi C (k := 40) (As := [.int (xs (i + 1))]) (c_X8_when (kl κ) (kg κ) M1 (okA_of_inv hi q1.2) _) o_X8_when mw_L_79 (okR_1 hR rfl) (C.lt rfl) rcv_40 rfl rfl rfl hc0 dL_law_720 (fun r2 M2 q2 => ?_)
  obtain ⟨e, hi2⟩ := law_step (fun A => F_when (xs (i + 1)) A) hi q1.1 q1.2 q2.1 q2.2 (ok_when hi.2.1 _)
  exact x_icmp_eq (tgt := 1525) C dL_law_723 (by decide) (fun _ => X.widen (Nat.le_add_right _ _) (Nat.le_add_right _ _) (k M2 hi2)) (fun z => absurd e z)
theorem la_kindFor (hw : Lw κ b L xs M i) (k : Lk κ b i) : X κ M 728 (Ll (kg κ) b i) [] := by
  obtain ⟨C, sc, hR, hg, hi, h6, hL, hc1, hs1⟩ := hw
  have hc0 : Nat.ble (kce κ) (kR κ).cells = true ∧ Nat.ble (kso κ) (kR κ).slots = true := ⟨ble_0 hc1, ble_0 hs1⟩
  refine x_aload_n C dL_law_728 rfl ?_
  refine x_arg C sc (j := 1) h6 rfl hL rfl rfl (by decide) dL_law_729 dL_law_730 dL_law_731 dL_law_732 dL_law_733 ?_
  refine x_arg C sc (j := 2) h6 rfl hL rfl rfl (by decide) dL_law_734 dL_law_735 dL_law_736 dL_law_737 dL_law_738 ?_
  refine x_cvi C (k := 0) (As := [.int (xs (i + 1)), .int (xs (i + 2))]) (c_X7_kindFor (kl κ) (kg κ) M hi.2.1 _ _) o_X7_kindFor mw_L_80 (okR_1 hR rfl) (C.lt rfl) rcv_0 rfl rfl rfl hc0 dL_law_739 (fun r1 M1 q1 => ?_)
  refine x_aload_n C dL_law_742 rfl ?_
  refine x_arg C sc (j := 1) h6 rfl hL rfl rfl (by decide) dL_law_743 dL_law_744 dL_law_745 dL_law_746 dL_law_747 ?_
  refine x_arg C sc (j := 2) h6 rfl hL rfl rfl (by decide) dL_law_748 dL_law_749 dL_law_750 dL_law_751 dL_law_752 ?_
  refine x_cvi C (k := 40) (As := [.int (xs (i + 1)), .int (xs (i + 2))]) (c_X8_kindFor (kl κ) (kg κ) M1 (okA_of_inv hi q1.2) _ _) o_X8_kindFor mw_L_83 (okR_1 hR rfl) (C.lt rfl) rcv_40 rfl rfl rfl hc0 dL_law_753 (fun r2 M2 q2 => ?_)
  obtain ⟨e, hi2⟩ := law_step (fun A => F_kindFor (xs (i + 1)) (xs (i + 2)) A) hi q1.1 q1.2 q2.1 q2.2 (ok_kindFor hi.2.1 _ _)
  exact x_icmp_eq (tgt := 1525) C dL_law_756 (by decide) (fun _ => X.widen (Nat.le_add_right _ _) (Nat.le_add_right _ _) (k M2 hi2)) (fun z => absurd e z)
theorem la_everyFor (hw : Lw κ b L xs M i) (k : Lk κ b i) : X κ M 761 (Ll (kg κ) b i) [] := by
  obtain ⟨C, sc, hR, hg, hi, h6, hL, hc1, hs1⟩ := hw
  have hc0 : Nat.ble (kce κ) (kR κ).cells = true ∧ Nat.ble (kso κ) (kR κ).slots = true := ⟨ble_0 hc1, ble_0 hs1⟩
  refine x_aload_n C dL_law_761 rfl ?_
  refine x_arg C sc (j := 1) h6 rfl hL rfl rfl (by decide) dL_law_762 dL_law_763 dL_law_764 dL_law_765 dL_law_766 ?_
  refine x_arg C sc (j := 2) h6 rfl hL rfl rfl (by decide) dL_law_767 dL_law_768 dL_law_769 dL_law_770 dL_law_771 ?_
  refine x_cvi C (k := 0) (As := [.int (xs (i + 1)), .int (xs (i + 2))]) (c_X7_everyFor (kl κ) (kg κ) M hi.2.1 _ _) o_X7_everyFor mw_L_84 (okR_1 hR rfl) (C.lt rfl) rcv_0 rfl rfl rfl hc0 dL_law_772 (fun r1 M1 q1 => ?_)
  refine x_aload_n C dL_law_775 rfl ?_
  refine x_arg C sc (j := 1) h6 rfl hL rfl rfl (by decide) dL_law_776 dL_law_777 dL_law_778 dL_law_779 dL_law_780 ?_
  refine x_arg C sc (j := 2) h6 rfl hL rfl rfl (by decide) dL_law_781 dL_law_782 dL_law_783 dL_law_784 dL_law_785 ?_
  refine x_cvi C (k := 40) (As := [.int (xs (i + 1)), .int (xs (i + 2))]) (c_X8_everyFor (kl κ) (kg κ) M1 (okA_of_inv hi q1.2) _ _) o_X8_everyFor mw_L_87 (okR_1 hR rfl) (C.lt rfl) rcv_40 rfl rfl rfl hc0 dL_law_786 (fun r2 M2 q2 => ?_)
  obtain ⟨e, hi2⟩ := law_step (fun A => F_everyFor (xs (i + 1)) (xs (i + 2)) A) hi q1.1 q1.2 q2.1 q2.2 (ok_everyFor hi.2.1 _ _)
  exact x_icmp_eq (tgt := 1525) C dL_law_789 (by decide) (fun _ => X.widen (Nat.le_add_right _ _) (Nat.le_add_right _ _) (k M2 hi2)) (fun z => absurd e z)
theorem la_fewest (hw : Lw κ b L xs M i) (k : Lk κ b i) : X κ M 794 (Ll (kg κ) b i) [] := by
  obtain ⟨C, sc, hR, hg, hi, h6, hL, hc1, hs1⟩ := hw
  have hc0 : Nat.ble (kce κ) (kR κ).cells = true ∧ Nat.ble (kso κ) (kR κ).slots = true := ⟨ble_0 hc1, ble_0 hs1⟩
  refine x_aload_n C dL_law_794 rfl ?_
  refine x_arg C sc (j := 1) h6 rfl hL rfl rfl (by decide) dL_law_795 dL_law_796 dL_law_797 dL_law_798 dL_law_799 ?_
  refine x_cvi C (k := 0) (As := [.int (xs (i + 1))]) (c_X7_fewest (kl κ) (kg κ) M hi.2.1 _) o_X7_fewest mw_L_88 (okR_1 hR rfl) (C.lt rfl) rcv_0 rfl rfl rfl hc0 dL_law_800 (fun r1 M1 q1 => ?_)
  refine x_aload_n C dL_law_803 rfl ?_
  refine x_arg C sc (j := 1) h6 rfl hL rfl rfl (by decide) dL_law_804 dL_law_805 dL_law_806 dL_law_807 dL_law_808 ?_
  refine x_cvi C (k := 40) (As := [.int (xs (i + 1))]) (c_X8_fewest (kl κ) (kg κ) M1 (okA_of_inv hi q1.2) _) o_X8_fewest mw_L_91 (okR_1 hR rfl) (C.lt rfl) rcv_40 rfl rfl rfl hc0 dL_law_809 (fun r2 M2 q2 => ?_)
  obtain ⟨e, hi2⟩ := law_step (fun A => F_fewest (xs (i + 1)) A) hi q1.1 q1.2 q2.1 q2.2 (ok_fewest hi.2.1 _)
  exact x_icmp_eq (tgt := 1525) C dL_law_812 (by decide) (fun _ => X.widen (Nat.le_add_right _ _) (Nat.le_add_right _ _) (k M2 hi2)) (fun z => absurd e z)
theorem la_thrifty (hw : Lw κ b L xs M i) (k : Lk κ b i) : X κ M 817 (Ll (kg κ) b i) [] := by
  obtain ⟨C, sc, hR, hg, hi, h6, hL, hc1, hs1⟩ := hw
  have hc0 : Nat.ble (kce κ) (kR κ).cells = true ∧ Nat.ble (kso κ) (kR κ).slots = true := ⟨ble_0 hc1, ble_0 hs1⟩
  refine x_aload_n C dL_law_817 rfl ?_
  refine x_arg C sc (j := 1) h6 rfl hL rfl rfl (by decide) dL_law_818 dL_law_819 dL_law_820 dL_law_821 dL_law_822 ?_
  refine x_cvi C (k := 0) (As := [.int (xs (i + 1))]) (c_X7_thrifty (kl κ) (kg κ) M hi.2.1 _) o_X7_thrifty mw_L_92 (okR_1 hR rfl) (C.lt rfl) rcv_0 rfl rfl rfl hc0 dL_law_823 (fun r1 M1 q1 => ?_)
  refine x_aload_n C dL_law_826 rfl ?_
  refine x_arg C sc (j := 1) h6 rfl hL rfl rfl (by decide) dL_law_827 dL_law_828 dL_law_829 dL_law_830 dL_law_831 ?_
  refine x_cvi C (k := 40) (As := [.int (xs (i + 1))]) (c_X8_thrifty (kl κ) (kg κ) M1 (okA_of_inv hi q1.2) _) o_X8_thrifty mw_L_95 (okR_1 hR rfl) (C.lt rfl) rcv_40 rfl rfl rfl hc0 dL_law_832 (fun r2 M2 q2 => ?_)
  obtain ⟨e, hi2⟩ := law_step (fun A => F_thrifty (xs (i + 1)) A) hi q1.1 q1.2 q2.1 q2.2 (ok_thrifty hi.2.1 _)
  exact x_icmp_eq (tgt := 1525) C dL_law_835 (by decide) (fun _ => X.widen (Nat.le_add_right _ _) (Nat.le_add_right _ _) (k M2 hi2)) (fun z => absurd e z)
theorem la_best (hw : Lw κ b L xs M i) (k : Lk κ b i) : X κ M 840 (Ll (kg κ) b i) [] := by
  obtain ⟨C, sc, hR, hg, hi, h6, hL, hc1, hs1⟩ := hw
  have hc0 : Nat.ble (kce κ) (kR κ).cells = true ∧ Nat.ble (kso κ) (kR κ).slots = true := ⟨ble_0 hc1, ble_0 hs1⟩
  refine x_aload_n C dL_law_840 rfl ?_
  refine x_cvi C (k := 0) (As := []) (c_X7_best (kl κ) (kg κ) M hi.2.1) o_X7_best mw_L_96 (okR_1 hR rfl) (C.lt rfl) rcv_0 rfl rfl rfl hc0 dL_law_841 (fun r1 M1 q1 => ?_)
  refine x_aload_n C dL_law_844 rfl ?_
  refine x_cvi C (k := 40) (As := []) (c_X8_best (kl κ) (kg κ) M1 (okA_of_inv hi q1.2)) o_X8_best mw_L_100 (okR_1 hR rfl) (C.lt rfl) rcv_40 rfl rfl rfl hc0 dL_law_845 (fun r2 M2 q2 => ?_)
  obtain ⟨e, hi2⟩ := law_step (fun A => F_best A) hi q1.1 q1.2 q2.1 q2.2 (ok_best hi.2.1)
  exact x_icmp_eq (tgt := 1525) C dL_law_848 (by decide) (fun _ => X.widen (Nat.le_add_right _ _) (Nat.le_add_right _ _) (k M2 hi2)) (fun z => absurd e z)
theorem la_bestWorks (hw : Lw κ b L xs M i) (k : Lk κ b i) : X κ M 853 (Ll (kg κ) b i) [] := by
  obtain ⟨C, sc, hR, hg, hi, h6, hL, hc1, hs1⟩ := hw
  have hc0 : Nat.ble (kce κ) (kR κ).cells = true ∧ Nat.ble (kso κ) (kR κ).slots = true := ⟨ble_0 hc1, ble_0 hs1⟩
  refine x_aload_n C dL_law_853 rfl ?_
  refine x_cvi C (k := 0) (As := []) (c_X7_bestWorks (kl κ) (kg κ) M hi.2.1) o_X7_bestWorks mw_L_101 (okR_1 hR rfl) (C.lt rfl) rcv_0 rfl rfl rfl hc0 dL_law_854 (fun r1 M1 q1 => ?_)
  refine x_aload_n C dL_law_857 rfl ?_
  refine x_cvi C (k := 40) (As := []) (c_X8_bestWorks (kl κ) (kg κ) M1 (okA_of_inv hi q1.2)) o_X8_bestWorks mw_L_104 (okR_1 hR rfl) (C.lt rfl) rcv_40 rfl rfl rfl hc0 dL_law_858 (fun r2 M2 q2 => ?_)
  obtain ⟨e, hi2⟩ := law_step (fun A => F_bestWorks A) hi q1.1 q1.2 q2.1 q2.2 (ok_bestWorks hi.2.1)
  exact x_icmp_eq (tgt := 1525) C dL_law_861 (by decide) (fun _ => X.widen (Nat.le_add_right _ _) (Nat.le_add_right _ _) (k M2 hi2)) (fun z => absurd e z)
theorem la_soonest (hw : Lw κ b L xs M i) (k : Lk κ b i) : X κ M 866 (Ll (kg κ) b i) [] := by
  obtain ⟨C, sc, hR, hg, hi, h6, hL, hc1, hs1⟩ := hw
  have hc0 : Nat.ble (kce κ) (kR κ).cells = true ∧ Nat.ble (kso κ) (kR κ).slots = true := ⟨ble_0 hc1, ble_0 hs1⟩
  refine x_aload_n C dL_law_866 rfl ?_
  refine x_arg C sc (j := 1) h6 rfl hL rfl rfl (by decide) dL_law_867 dL_law_868 dL_law_869 dL_law_870 dL_law_871 ?_
  refine x_cvi C (k := 0) (As := [.int (xs (i + 1))]) (c_X7_soonest (kl κ) (kg κ) M hi.2.1 _) o_X7_soonest mw_L_105 (okR_1 hR rfl) (C.lt rfl) rcv_0 rfl rfl rfl hc0 dL_law_872 (fun r1 M1 q1 => ?_)
  refine x_aload_n C dL_law_875 rfl ?_
  refine x_arg C sc (j := 1) h6 rfl hL rfl rfl (by decide) dL_law_876 dL_law_877 dL_law_878 dL_law_879 dL_law_880 ?_
  refine x_cvi C (k := 40) (As := [.int (xs (i + 1))]) (c_X8_soonest (kl κ) (kg κ) M1 (okA_of_inv hi q1.2) _) o_X8_soonest mw_L_108 (okR_1 hR rfl) (C.lt rfl) rcv_40 rfl rfl rfl hc0 dL_law_881 (fun r2 M2 q2 => ?_)
  obtain ⟨e, hi2⟩ := law_step (fun A => F_soonest (xs (i + 1)) A) hi q1.1 q1.2 q2.1 q2.2 (ok_soonest hi.2.1 _)
  exact x_icmp_eq (tgt := 1525) C dL_law_884 (by decide) (fun _ => X.widen (Nat.le_add_right _ _) (Nat.le_add_right _ _) (k M2 hi2)) (fun z => absurd e z)
theorem la_nest (hw : Lw κ b L xs M i) (k : Lk κ b i) : X κ M 889 (Ll (kg κ) b i) [] := by
  obtain ⟨C, sc, hR, hg, hi, h6, hL, hc1, hs1⟩ := hw
  have hc0 : Nat.ble (kce κ) (kR κ).cells = true ∧ Nat.ble (kso κ) (kR κ).slots = true := ⟨ble_0 hc1, ble_0 hs1⟩
  refine x_aload_n C dL_law_889 rfl ?_
  refine x_arg C sc (j := 1) h6 rfl hL rfl rfl (by decide) dL_law_890 dL_law_891 dL_law_892 dL_law_893 dL_law_894 ?_
  refine x_cvi C (k := 0) (As := [.int (xs (i + 1))]) (c_X7_nest (kl κ) (kg κ) M hi.2.1 _) o_X7_nest mw_L_109 (okR_1 hR rfl) (C.lt rfl) rcv_0 rfl rfl rfl hc0 dL_law_895 (fun r1 M1 q1 => ?_)
  refine x_aload_n C dL_law_898 rfl ?_
  refine x_arg C sc (j := 1) h6 rfl hL rfl rfl (by decide) dL_law_899 dL_law_900 dL_law_901 dL_law_902 dL_law_903 ?_
  refine x_cvi C (k := 40) (As := [.int (xs (i + 1))]) (c_X8_nest (kl κ) (kg κ) M1 (okA_of_inv hi q1.2) _) o_X8_nest mw_L_112 (okR_1 hR rfl) (C.lt rfl) rcv_40 rfl rfl rfl hc0 dL_law_904 (fun r2 M2 q2 => ?_)
  obtain ⟨e, hi2⟩ := law_step (fun A => F_nest (xs (i + 1)) A) hi q1.1 q1.2 q2.1 q2.2 (ok_nest hi.2.1 _)
  exact x_icmp_eq (tgt := 1525) C dL_law_907 (by decide) (fun _ => X.widen (Nat.le_add_right _ _) (Nat.le_add_right _ _) (k M2 hi2)) (fun z => absurd e z)
theorem la_guard (hw : Lw κ b L xs M i) (k : Lk κ b i) : X κ M 912 (Ll (kg κ) b i) [] := by
  obtain ⟨C, sc, hR, hg, hi, h6, hL, hc1, hs1⟩ := hw
  have hc0 : Nat.ble (kce κ) (kR κ).cells = true ∧ Nat.ble (kso κ) (kR κ).slots = true := ⟨ble_0 hc1, ble_0 hs1⟩
  refine x_aload_n C dL_law_912 rfl ?_
  refine x_cvi C (k := 0) (As := []) (c_X7_guard (kl κ) (kg κ) M hi.2.1) o_X7_guard mw_L_113 (okR_1 hR rfl) (C.lt rfl) rcv_0 rfl rfl rfl hc0 dL_law_913 (fun r1 M1 q1 => ?_)
  refine x_aload_n C dL_law_916 rfl ?_
  refine x_cvi C (k := 40) (As := []) (c_X8_guard (kl κ) (kg κ) M1 (okA_of_inv hi q1.2)) o_X8_guard mw_L_116 (okR_1 hR rfl) (C.lt rfl) rcv_40 rfl rfl rfl hc0 dL_law_917 (fun r2 M2 q2 => ?_)
  obtain ⟨e, hi2⟩ := law_step (fun A => F_guard A) hi q1.1 q1.2 q2.1 q2.2 (ok_guard hi.2.1)
  exact x_icmp_eq (tgt := 1525) C dL_law_920 (by decide) (fun _ => X.widen (Nat.le_add_right _ _) (Nat.le_add_right _ _) (k M2 hi2)) (fun z => absurd e z)
theorem la_halves (hw : Lw κ b L xs M i) (k : Lk κ b i) : X κ M 925 (Ll (kg κ) b i) [] := by
  obtain ⟨C, sc, hR, hg, hi, h6, hL, hc1, hs1⟩ := hw
  have hc0 : Nat.ble (kce κ) (kR κ).cells = true ∧ Nat.ble (kso κ) (kR κ).slots = true := ⟨ble_0 hc1, ble_0 hs1⟩
  refine x_aload_n C dL_law_925 rfl ?_
  refine x_cvi C (k := 0) (As := []) (c_X7_halves (kl κ) (kg κ) M hi.2.1) o_X7_halves mw_L_117 (okR_1 hR rfl) (C.lt rfl) rcv_0 rfl rfl rfl hc0 dL_law_926 (fun r1 M1 q1 => ?_)
  refine x_aload_n C dL_law_929 rfl ?_
  refine x_cvi C (k := 40) (As := []) (c_X8_halves (kl κ) (kg κ) M1 (okA_of_inv hi q1.2)) o_X8_halves mw_L_120 (okR_1 hR rfl) (C.lt rfl) rcv_40 rfl rfl rfl hc0 dL_law_930 (fun r2 M2 q2 => ?_)
  obtain ⟨e, hi2⟩ := law_step (fun A => F_halves A) hi q1.1 q1.2 q2.1 q2.2 (ok_halves hi.2.1)
  exact x_icmp_eq (tgt := 1525) C dL_law_933 (by decide) (fun _ => X.widen (Nat.le_add_right _ _) (Nat.le_add_right _ _) (k M2 hi2)) (fun z => absurd e z)
theorem la_apart (hw : Lw κ b L xs M i) (k : Lk κ b i) : X κ M 938 (Ll (kg κ) b i) [] := by
  obtain ⟨C, sc, hR, hg, hi, h6, hL, hc1, hs1⟩ := hw
  have hc0 : Nat.ble (kce κ) (kR κ).cells = true ∧ Nat.ble (kso κ) (kR κ).slots = true := ⟨ble_0 hc1, ble_0 hs1⟩
  refine x_aload_n C dL_law_938 rfl ?_
  refine x_cvi C (k := 0) (As := []) (c_X7_apart (kl κ) (kg κ) M hi.2.1) o_X7_apart mw_L_121 (okR_1 hR rfl) (C.lt rfl) rcv_0 rfl rfl rfl hc0 dL_law_939 (fun r1 M1 q1 => ?_)
  refine x_aload_n C dL_law_942 rfl ?_
  refine x_cvi C (k := 40) (As := []) (c_X8_apart (kl κ) (kg κ) M1 (okA_of_inv hi q1.2)) o_X8_apart mw_L_124 (okR_1 hR rfl) (C.lt rfl) rcv_40 rfl rfl rfl hc0 dL_law_943 (fun r2 M2 q2 => ?_)
  obtain ⟨e, hi2⟩ := law_step (fun A => F_apart A) hi q1.1 q1.2 q2.1 q2.2 (ok_apart hi.2.1)
  exact x_icmp_eq (tgt := 1525) C dL_law_946 (by decide) (fun _ => X.widen (Nat.le_add_right _ _) (Nat.le_add_right _ _) (k M2 hi2)) (fun z => absurd e z)
theorem la_sets (hw : Lw κ b L xs M i) (k : Lk κ b i) : X κ M 951 (Ll (kg κ) b i) [] := by
  obtain ⟨C, sc, hR, hg, hi, h6, hL, hc1, hs1⟩ := hw
  have hc0 : Nat.ble (kce κ) (kR κ).cells = true ∧ Nat.ble (kso κ) (kR κ).slots = true := ⟨ble_0 hc1, ble_0 hs1⟩
  refine x_aload_n C dL_law_951 rfl ?_
  refine x_arg C sc (j := 1) h6 rfl hL rfl rfl (by decide) dL_law_952 dL_law_953 dL_law_954 dL_law_955 dL_law_956 ?_
  refine x_cvi C (k := 0) (As := [.int (xs (i + 1))]) (c_X7_sets (kl κ) (kg κ) M hi.2.1 _) o_X7_sets mw_L_125 (okR_1 hR rfl) (C.lt rfl) rcv_0 rfl rfl rfl hc0 dL_law_957 (fun r1 M1 q1 => ?_)
  refine x_aload_n C dL_law_960 rfl ?_
  refine x_arg C sc (j := 1) h6 rfl hL rfl rfl (by decide) dL_law_961 dL_law_962 dL_law_963 dL_law_964 dL_law_965 ?_
  refine x_cvi C (k := 40) (As := [.int (xs (i + 1))]) (c_X8_sets (kl κ) (kg κ) M1 (okA_of_inv hi q1.2) _) o_X8_sets mw_L_128 (okR_1 hR rfl) (C.lt rfl) rcv_40 rfl rfl rfl hc0 dL_law_966 (fun r2 M2 q2 => ?_)
  obtain ⟨e, hi2⟩ := law_step (fun A => F_sets (xs (i + 1)) A) hi q1.1 q1.2 q2.1 q2.2 (ok_sets hi.2.1 _)
  exact x_icmp_eq (tgt := 1525) C dL_law_969 (by decide) (fun _ => X.widen (Nat.le_add_right _ _) (Nat.le_add_right _ _) (k M2 hi2)) (fun z => absurd e z)
theorem la_ages (hw : Lw κ b L xs M i) (k : Lk κ b i) : X κ M 974 (Ll (kg κ) b i) [] := by
  obtain ⟨C, sc, hR, hg, hi, h6, hL, hc1, hs1⟩ := hw
  have hc0 : Nat.ble (kce κ) (kR κ).cells = true ∧ Nat.ble (kso κ) (kR κ).slots = true := ⟨ble_0 hc1, ble_0 hs1⟩
  refine x_aload_n C dL_law_974 rfl ?_
  refine x_arg C sc (j := 1) h6 rfl hL rfl rfl (by decide) dL_law_975 dL_law_976 dL_law_977 dL_law_978 dL_law_979 ?_
  refine x_arg C sc (j := 2) h6 rfl hL rfl rfl (by decide) dL_law_980 dL_law_981 dL_law_982 dL_law_983 dL_law_984 ?_
  refine x_cvi C (k := 0) (As := [.int (xs (i + 1)), .int (xs (i + 2))]) (c_X7_ages (kl κ) (kg κ) M hi.2.1 _ _) o_X7_ages mw_L_129 (okR_1 hR rfl) (C.lt rfl) rcv_0 rfl rfl rfl hc0 dL_law_985 (fun r1 M1 q1 => ?_)
  refine x_aload_n C dL_law_988 rfl ?_
  refine x_arg C sc (j := 1) h6 rfl hL rfl rfl (by decide) dL_law_989 dL_law_990 dL_law_991 dL_law_992 dL_law_993 ?_
  refine x_arg C sc (j := 2) h6 rfl hL rfl rfl (by decide) dL_law_994 dL_law_995 dL_law_996 dL_law_997 dL_law_998 ?_
  refine x_cvi C (k := 40) (As := [.int (xs (i + 1)), .int (xs (i + 2))]) (c_X8_ages (kl κ) (kg κ) M1 (okA_of_inv hi q1.2) _ _) o_X8_ages mw_L_132 (okR_1 hR rfl) (C.lt rfl) rcv_40 rfl rfl rfl hc0 dL_law_999 (fun r2 M2 q2 => ?_)
  obtain ⟨e, hi2⟩ := law_step (fun A => F_ages (xs (i + 1)) (xs (i + 2)) A) hi q1.1 q1.2 q2.1 q2.2 (ok_ages hi.2.1 _ _)
  exact x_icmp_eq (tgt := 1525) C dL_law_1002 (by decide) (fun _ => X.widen (Nat.le_add_right _ _) (Nat.le_add_right _ _) (k M2 hi2)) (fun z => absurd e z)
theorem la_youngest (hw : Lw κ b L xs M i) (k : Lk κ b i) : X κ M 1007 (Ll (kg κ) b i) [] := by
  obtain ⟨C, sc, hR, hg, hi, h6, hL, hc1, hs1⟩ := hw
  have hc0 : Nat.ble (kce κ) (kR κ).cells = true ∧ Nat.ble (kso κ) (kR κ).slots = true := ⟨ble_0 hc1, ble_0 hs1⟩
  refine x_aload_n C dL_law_1007 rfl ?_
  refine x_arg C sc (j := 1) h6 rfl hL rfl rfl (by decide) dL_law_1008 dL_law_1009 dL_law_1010 dL_law_1011 dL_law_1012 ?_
  refine x_arg C sc (j := 2) h6 rfl hL rfl rfl (by decide) dL_law_1013 dL_law_1014 dL_law_1015 dL_law_1016 dL_law_1017 ?_
  refine x_cvi C (k := 0) (As := [.int (xs (i + 1)), .int (xs (i + 2))]) (c_X7_youngest (kl κ) (kg κ) M hi.2.1 _ _) o_X7_youngest mw_L_133 (okR_1 hR rfl) (C.lt rfl) rcv_0 rfl rfl rfl hc0 dL_law_1018 (fun r1 M1 q1 => ?_)
  refine x_aload_n C dL_law_1021 rfl ?_
  refine x_arg C sc (j := 1) h6 rfl hL rfl rfl (by decide) dL_law_1022 dL_law_1023 dL_law_1024 dL_law_1025 dL_law_1026 ?_
  refine x_arg C sc (j := 2) h6 rfl hL rfl rfl (by decide) dL_law_1027 dL_law_1028 dL_law_1029 dL_law_1030 dL_law_1031 ?_
  refine x_cvi C (k := 40) (As := [.int (xs (i + 1)), .int (xs (i + 2))]) (c_X8_youngest (kl κ) (kg κ) M1 (okA_of_inv hi q1.2) _ _) o_X8_youngest mw_L_136 (okR_1 hR rfl) (C.lt rfl) rcv_40 rfl rfl rfl hc0 dL_law_1032 (fun r2 M2 q2 => ?_)
  obtain ⟨e, hi2⟩ := law_step (fun A => F_youngest (xs (i + 1)) (xs (i + 2)) A) hi q1.1 q1.2 q2.1 q2.2 (ok_youngest hi.2.1 _ _)
  exact x_icmp_eq (tgt := 1525) C dL_law_1035 (by decide) (fun _ => X.widen (Nat.le_add_right _ _) (Nat.le_add_right _ _) (k M2 hi2)) (fun z => absurd e z)
theorem la_foxes (hw : Lw κ b L xs M i) (k : Lk κ b i) : X κ M 1040 (Ll (kg κ) b i) [] := by
  obtain ⟨C, sc, hR, hg, hi, h6, hL, hc1, hs1⟩ := hw
  have hc0 : Nat.ble (kce κ) (kR κ).cells = true ∧ Nat.ble (kso κ) (kR κ).slots = true := ⟨ble_0 hc1, ble_0 hs1⟩
  refine x_aload_n C dL_law_1040 rfl ?_
  refine x_arg C sc (j := 1) h6 rfl hL rfl rfl (by decide) dL_law_1041 dL_law_1042 dL_law_1043 dL_law_1044 dL_law_1045 ?_
  refine x_cvi C (k := 0) (As := [.int (xs (i + 1))]) (c_X7_foxes (kl κ) (kg κ) M hi.2.1 _) o_X7_foxes mw_L_137 (okR_1 hR rfl) (C.lt rfl) rcv_0 rfl rfl rfl hc0 dL_law_1046 (fun r1 M1 q1 => ?_)
  refine x_aload_n C dL_law_1049 rfl ?_
  refine x_arg C sc (j := 1) h6 rfl hL rfl rfl (by decide) dL_law_1050 dL_law_1051 dL_law_1052 dL_law_1053 dL_law_1054 ?_
  refine x_cvi C (k := 40) (As := [.int (xs (i + 1))]) (c_X8_foxes (kl κ) (kg κ) M1 (okA_of_inv hi q1.2) _) o_X8_foxes mw_L_140 (okR_1 hR rfl) (C.lt rfl) rcv_40 rfl rfl rfl hc0 dL_law_1055 (fun r2 M2 q2 => ?_)
  obtain ⟨e, hi2⟩ := law_step (fun A => F_foxes (xs (i + 1)) A) hi q1.1 q1.2 q2.1 q2.2 (ok_foxes hi.2.1 _)
  exact x_icmp_eq (tgt := 1525) C dL_law_1058 (by decide) (fun _ => X.widen (Nat.le_add_right _ _) (Nat.le_add_right _ _) (k M2 hi2)) (fun z => absurd e z)
theorem la_odds (hw : Lw κ b L xs M i) (k : Lk κ b i) : X κ M 1063 (Ll (kg κ) b i) [] := by
  obtain ⟨C, sc, hR, hg, hi, h6, hL, hc1, hs1⟩ := hw
  have hc0 : Nat.ble (kce κ) (kR κ).cells = true ∧ Nat.ble (kso κ) (kR κ).slots = true := ⟨ble_0 hc1, ble_0 hs1⟩
  refine x_aload_n C dL_law_1063 rfl ?_
  refine x_arg C sc (j := 1) h6 rfl hL rfl rfl (by decide) dL_law_1064 dL_law_1065 dL_law_1066 dL_law_1067 dL_law_1068 ?_
  refine x_arg C sc (j := 2) h6 rfl hL rfl rfl (by decide) dL_law_1069 dL_law_1070 dL_law_1071 dL_law_1072 dL_law_1073 ?_
  refine x_cvl C (k := 0) (As := [.int (xs (i + 1)), .int (xs (i + 2))]) (c_X7_odds (kl κ) (kg κ) M hi.2.1 _ _) o_X7_odds mw_L_141 (okR_1 hR rfl) (C.lt rfl) rcv_0 rfl rfl rfl hc0 dL_law_1074 (fun r1 M1 q1 => ?_)
  refine x_aload_n C dL_law_1077 rfl ?_
  refine x_arg C sc (j := 1) h6 rfl hL rfl rfl (by decide) dL_law_1078 dL_law_1079 dL_law_1080 dL_law_1081 dL_law_1082 ?_
  refine x_arg C sc (j := 2) h6 rfl hL rfl rfl (by decide) dL_law_1083 dL_law_1084 dL_law_1085 dL_law_1086 dL_law_1087 ?_
  refine x_cvl C (k := 40) (As := [.int (xs (i + 1)), .int (xs (i + 2))]) (c_X8_odds (kl κ) (kg κ) M1 (okA_of_inv hi q1.2) _ _) o_X8_odds mw_L_145 (okR_1 hR rfl) (C.lt rfl) rcv_40 rfl rfl rfl hc0 dL_law_1088 (fun r2 M2 q2 => ?_)
  obtain ⟨e, hi2⟩ := law_step (fun A => F_odds (xs (i + 1)) (xs (i + 2)) A) hi q1.1 q1.2 q2.1 q2.2 (ok_odds hi.2.1 _ _)
  refine x_lcmp C dL_law_1091 ?_
  rw [← e, lg_cmp_r]
  exact x_if_eqT (tgt := 1525) C dL_law_1092 (by decide) rfl (X.widen (Nat.le_add_right _ _) (Nat.le_add_right _ _) (k M2 hi2))
theorem la_seed (hw : Lw κ b L xs M i) (k : Lk κ b i) : X κ M 1097 (Ll (kg κ) b i) [] := by
  obtain ⟨C, sc, hR, hg, hi, h6, hL, hc1, hs1⟩ := hw
  have hc0 : Nat.ble (kce κ) (kR κ).cells = true ∧ Nat.ble (kso κ) (kR κ).slots = true := ⟨ble_0 hc1, ble_0 hs1⟩
  refine x_aload_n C dL_law_1097 rfl ?_
  refine x_arg C sc (j := 1) h6 rfl hL rfl rfl (by decide) dL_law_1098 dL_law_1099 dL_law_1100 dL_law_1101 dL_law_1102 ?_
  refine x_cvi C (k := 0) (As := [.int (xs (i + 1))]) (c_X7_seed (kl κ) (kg κ) M hi.2.1 _) o_X7_seed mw_L_146 (okR_1 hR rfl) (C.lt rfl) rcv_0 rfl rfl rfl hc0 dL_law_1103 (fun r1 M1 q1 => ?_)
  refine x_aload_n C dL_law_1106 rfl ?_
  refine x_arg C sc (j := 1) h6 rfl hL rfl rfl (by decide) dL_law_1107 dL_law_1108 dL_law_1109 dL_law_1110 dL_law_1111 ?_
  refine x_cvi C (k := 40) (As := [.int (xs (i + 1))]) (c_X8_seed (kl κ) (kg κ) M1 (okA_of_inv hi q1.2) _) o_X8_seed mw_L_149 (okR_1 hR rfl) (C.lt rfl) rcv_40 rfl rfl rfl hc0 dL_law_1112 (fun r2 M2 q2 => ?_)
  obtain ⟨e, hi2⟩ := law_step (fun A => F_seed (xs (i + 1)) A) hi q1.1 q1.2 q2.1 q2.2 (ok_seed hi.2.1 _)
  exact x_icmp_eq (tgt := 1525) C dL_law_1115 (by decide) (fun _ => X.widen (Nat.le_add_right _ _) (Nat.le_add_right _ _) (k M2 hi2)) (fun z => absurd e z)
theorem la_feed (hw : Lw κ b L xs M i) (k : Lk κ b i) : X κ M 1120 (Ll (kg κ) b i) [] := by
  obtain ⟨C, sc, hR, hg, hi, h6, hL, hc1, hs1⟩ := hw
  have hc0 : Nat.ble (kce κ) (kR κ).cells = true ∧ Nat.ble (kso κ) (kR κ).slots = true := ⟨ble_0 hc1, ble_0 hs1⟩
  refine x_aload_n C dL_law_1120 rfl ?_
  refine x_arg C sc (j := 1) h6 rfl hL rfl rfl (by decide) dL_law_1121 dL_law_1122 dL_law_1123 dL_law_1124 dL_law_1125 ?_
  refine x_arg C sc (j := 2) h6 rfl hL rfl rfl (by decide) dL_law_1126 dL_law_1127 dL_law_1128 dL_law_1129 dL_law_1130 ?_
  refine x_cvi C (k := 0) (As := [.int (xs (i + 1)), .int (xs (i + 2))]) (c_X7_feed (kl κ) (kg κ) M hi.2.1 _ _) o_X7_feed mw_L_150 (okR_1 hR rfl) (C.lt rfl) rcv_0 rfl rfl rfl hc0 dL_law_1131 (fun r1 M1 q1 => ?_)
  refine x_aload_n C dL_law_1134 rfl ?_
  refine x_arg C sc (j := 1) h6 rfl hL rfl rfl (by decide) dL_law_1135 dL_law_1136 dL_law_1137 dL_law_1138 dL_law_1139 ?_
  refine x_arg C sc (j := 2) h6 rfl hL rfl rfl (by decide) dL_law_1140 dL_law_1141 dL_law_1142 dL_law_1143 dL_law_1144 ?_
  refine x_cvi C (k := 40) (As := [.int (xs (i + 1)), .int (xs (i + 2))]) (c_X8_feed (kl κ) (kg κ) M1 (okA_of_inv hi q1.2) _ _) o_X8_feed mw_L_153 (okR_1 hR rfl) (C.lt rfl) rcv_40 rfl rfl rfl hc0 dL_law_1145 (fun r2 M2 q2 => ?_)
  obtain ⟨e, hi2⟩ := law_step (fun A => F_feed (xs (i + 1)) (xs (i + 2)) A) hi q1.1 q1.2 q2.1 q2.2 (ok_feed hi.2.1 _ _)
  exact x_icmp_eq (tgt := 1525) C dL_law_1148 (by decide) (fun _ => X.widen (Nat.le_add_right _ _) (Nat.le_add_right _ _) (k M2 hi2)) (fun z => absurd e z)
theorem la_wipe (hw : Lw κ b L xs M i) (k : Lk κ b i) : X κ M 1153 (Ll (kg κ) b i) [] := by
  obtain ⟨C, sc, hR, hg, hi, h6, hL, hc1, hs1⟩ := hw
  have hc0 : Nat.ble (kce κ) (kR κ).cells = true ∧ Nat.ble (kso κ) (kR κ).slots = true := ⟨ble_0 hc1, ble_0 hs1⟩
  refine x_aload_n C dL_law_1153 rfl ?_
  refine x_cvi C (k := 0) (As := []) (c_X7_wipe (kl κ) (kg κ) M hi.2.1) o_X7_wipe mw_L_154 (okR_1 hR rfl) (C.lt rfl) rcv_0 rfl rfl rfl hc0 dL_law_1154 (fun r1 M1 q1 => ?_)
  refine x_aload_n C dL_law_1157 rfl ?_
  refine x_cvi C (k := 40) (As := []) (c_X8_wipe (kl κ) (kg κ) M1 (okA_of_inv hi q1.2)) o_X8_wipe mw_L_157 (okR_1 hR rfl) (C.lt rfl) rcv_40 rfl rfl rfl hc0 dL_law_1158 (fun r2 M2 q2 => ?_)
  obtain ⟨e, hi2⟩ := law_step (fun A => F_wipe A) hi q1.1 q1.2 q2.1 q2.2 (ok_wipe hi.2.1)
  exact x_icmp_eq (tgt := 1525) C dL_law_1161 (by decide) (fun _ => X.widen (Nat.le_add_right _ _) (Nat.le_add_right _ _) (k M2 hi2)) (fun z => absurd e z)
theorem la_text (hw : Lw κ b L xs M i) (k : Lk κ b i) : X κ M 1166 (Ll (kg κ) b i) [] := by
  obtain ⟨C, sc, hR, hg, hi, h6, hL, hc1, hs1⟩ := hw
  have hc0 : Nat.ble (kce κ) (kR κ).cells = true ∧ Nat.ble (kso κ) (kR κ).slots = true := ⟨ble_0 hc1, ble_0 hs1⟩
  refine x_aload_n C dL_law_1166 rfl ?_
  refine x_cvt C (k := 0) (As := []) (c_X7_text (kl κ) (kg κ) hg M hi.2.1) o_X7_text mw_L_158 (okRM_1 hR rfl) (C.lt rfl) rcv_0 rfl rfl rfl ⟨hc1, hs1⟩ dL_law_1167 (fun r1 M1 q1 => ?_)
  have C2 : Cx (kre κ (kg κ) (kce κ + 1) (kso κ + 6)) cL_law RL := C.re _ _
  refine x_aload_n C2 dL_law_1170 rfl ?_
  refine x_cvi C2 (k := 40) (As := []) (c_X8_text (kl κ) (kg κ) M1 (okA_of_inv hi q1.2) (q1.2.ok hi.2.2)) o_X8_text mw_L_161 (okR_1 hR rfl) (C.lt rfl) rcv_40 rfl rfl rfl ⟨hc1, hs1⟩ dL_law_1171 (fun r2 M2 q2 => ?_)
  obtain ⟨e, hi2⟩ := law_step (fun A => F_text A) hi q1.1 q1.2 q2.1 q2.2 (ok_text hi.2.1)
  exact x_icmp_eq (tgt := 1525) C2 dL_law_1174 (by decide) (fun _ => k M2 hi2) (fun z => absurd e z)
theorem la_hold (hw : Lw κ b L xs M i) (k : Lk κ b i) : X κ M 1179 (Ll (kg κ) b i) [] := by
  obtain ⟨C, sc, hR, hg, hi, h6, hL, hc1, hs1⟩ := hw
  have hc0 : Nat.ble (kce κ) (kR κ).cells = true ∧ Nat.ble (kso κ) (kR κ).slots = true := ⟨ble_0 hc1, ble_0 hs1⟩
  refine x_aload_n C dL_law_1179 rfl ?_
  refine x_arg C sc (j := 1) h6 rfl hL rfl rfl (by decide) dL_law_1180 dL_law_1181 dL_law_1182 dL_law_1183 dL_law_1184 ?_
  refine x_arg C sc (j := 2) h6 rfl hL rfl rfl (by decide) dL_law_1185 dL_law_1186 dL_law_1187 dL_law_1188 dL_law_1189 ?_
  refine x_cvi C (k := 0) (As := [.int (xs (i + 1)), .int (xs (i + 2))]) (c_X7_hold (kl κ) (kg κ) M hi.2.1 _ _) o_X7_hold mw_L_162 (okR_1 hR rfl) (C.lt rfl) rcv_0 rfl rfl rfl hc0 dL_law_1190 (fun r1 M1 q1 => ?_)
  refine x_aload_n C dL_law_1193 rfl ?_
  refine x_arg C sc (j := 1) h6 rfl hL rfl rfl (by decide) dL_law_1194 dL_law_1195 dL_law_1196 dL_law_1197 dL_law_1198 ?_
  refine x_arg C sc (j := 2) h6 rfl hL rfl rfl (by decide) dL_law_1199 dL_law_1200 dL_law_1201 dL_law_1202 dL_law_1203 ?_
  refine x_cvi C (k := 40) (As := [.int (xs (i + 1)), .int (xs (i + 2))]) (c_X8_hold (kl κ) (kg κ) M1 (okA_of_inv hi q1.2) _ _) o_X8_hold mw_L_165 (okR_1 hR rfl) (C.lt rfl) rcv_40 rfl rfl rfl hc0 dL_law_1204 (fun r2 M2 q2 => ?_)
  obtain ⟨e, hi2⟩ := law_step (fun A => F_hold (xs (i + 1)) (xs (i + 2)) A) hi q1.1 q1.2 q2.1 q2.2 (ok_hold hi.2.1 _ _)
  exact x_icmp_eq (tgt := 1525) C dL_law_1207 (by decide) (fun _ => X.widen (Nat.le_add_right _ _) (Nat.le_add_right _ _) (k M2 hi2)) (fun z => absurd e z)
theorem la_as (hw : Lw κ b L xs M i) (k : Lk κ b i) : X κ M 1212 (Ll (kg κ) b i) [] := by
  obtain ⟨C, sc, hR, hg, hi, h6, hL, hc1, hs1⟩ := hw
  have hc0 : Nat.ble (kce κ) (kR κ).cells = true ∧ Nat.ble (kso κ) (kR κ).slots = true := ⟨ble_0 hc1, ble_0 hs1⟩
  refine x_aload_n C dL_law_1212 rfl ?_
  refine x_arg C sc (j := 1) h6 rfl hL rfl rfl (by decide) dL_law_1213 dL_law_1214 dL_law_1215 dL_law_1216 dL_law_1217 ?_
  refine x_arg C sc (j := 2) h6 rfl hL rfl rfl (by decide) dL_law_1218 dL_law_1219 dL_law_1220 dL_law_1221 dL_law_1222 ?_
  refine x_cvi C (k := 0) (As := [.int (xs (i + 1)), .int (xs (i + 2))]) (c_X7_as (kl κ) (kg κ) M hi.2.1 _ _) o_X7_as mw_L_166 (okR_1 hR rfl) (C.lt rfl) rcv_0 rfl rfl rfl hc0 dL_law_1223 (fun r1 M1 q1 => ?_)
  refine x_aload_n C dL_law_1226 rfl ?_
  refine x_arg C sc (j := 1) h6 rfl hL rfl rfl (by decide) dL_law_1227 dL_law_1228 dL_law_1229 dL_law_1230 dL_law_1231 ?_
  refine x_arg C sc (j := 2) h6 rfl hL rfl rfl (by decide) dL_law_1232 dL_law_1233 dL_law_1234 dL_law_1235 dL_law_1236 ?_
  refine x_cvi C (k := 40) (As := [.int (xs (i + 1)), .int (xs (i + 2))]) (c_X8_as (kl κ) (kg κ) M1 (okA_of_inv hi q1.2) _ _) o_X8_as mw_L_169 (okR_1 hR rfl) (C.lt rfl) rcv_40 rfl rfl rfl hc0 dL_law_1237 (fun r2 M2 q2 => ?_)
  obtain ⟨e, hi2⟩ := law_step (fun A => F_as (xs (i + 1)) (xs (i + 2)) A) hi q1.1 q1.2 q2.1 q2.2 (ok_as hi.2.1 _ _)
  exact x_icmp_eq (tgt := 1525) C dL_law_1240 (by decide) (fun _ => X.widen (Nat.le_add_right _ _) (Nat.le_add_right _ _) (k M2 hi2)) (fun z => absurd e z)
theorem la_sheet (hw : Lw κ b L xs M i) (k : Lk κ b i) : X κ M 1245 (Ll (kg κ) b i) [] := by
  obtain ⟨C, sc, hR, hg, hi, h6, hL, hc1, hs1⟩ := hw
  have hc0 : Nat.ble (kce κ) (kR κ).cells = true ∧ Nat.ble (kso κ) (kR κ).slots = true := ⟨ble_0 hc1, ble_0 hs1⟩
  refine x_aload_n C dL_law_1245 rfl ?_
  refine x_arg C sc (j := 1) h6 rfl hL rfl rfl (by decide) dL_law_1246 dL_law_1247 dL_law_1248 dL_law_1249 dL_law_1250 ?_
  refine x_arg C sc (j := 2) h6 rfl hL rfl rfl (by decide) dL_law_1251 dL_law_1252 dL_law_1253 dL_law_1254 dL_law_1255 ?_
  refine x_arg C sc (j := 3) h6 rfl hL rfl rfl (by decide) dL_law_1256 dL_law_1257 dL_law_1258 dL_law_1259 dL_law_1260 ?_
  refine x_cvi C (k := 0) (As := [.int (xs (i + 1)), .int (xs (i + 2)), .int (xs (i + 3))]) (c_X7_sheet (kl κ) (kg κ) M hi.2.1 _ _ _) o_X7_sheet mw_L_170 (okR_1 hR rfl) (C.lt rfl) rcv_0 rfl rfl rfl hc0 dL_law_1261 (fun r1 M1 q1 => ?_)
  refine x_aload_n C dL_law_1264 rfl ?_
  refine x_arg C sc (j := 1) h6 rfl hL rfl rfl (by decide) dL_law_1265 dL_law_1266 dL_law_1267 dL_law_1268 dL_law_1269 ?_
  refine x_arg C sc (j := 2) h6 rfl hL rfl rfl (by decide) dL_law_1270 dL_law_1271 dL_law_1272 dL_law_1273 dL_law_1274 ?_
  refine x_arg C sc (j := 3) h6 rfl hL rfl rfl (by decide) dL_law_1275 dL_law_1276 dL_law_1277 dL_law_1278 dL_law_1279 ?_
  refine x_cvi C (k := 40) (As := [.int (xs (i + 1)), .int (xs (i + 2)), .int (xs (i + 3))]) (c_X8_sheet (kl κ) (kg κ) M1 (okA_of_inv hi q1.2) _ _ _) o_X8_sheet mw_L_173 (okR_1 hR rfl) (C.lt rfl) rcv_40 rfl rfl rfl hc0 dL_law_1280 (fun r2 M2 q2 => ?_)
  obtain ⟨e, hi2⟩ := law_step (fun A => F_sheet (xs (i + 1)) (xs (i + 2)) (xs (i + 3)) A) hi q1.1 q1.2 q2.1 q2.2 (ok_sheet hi.2.1 _ _ _)
  exact x_icmp_eq (tgt := 1525) C dL_law_1283 (by decide) (fun _ => X.widen (Nat.le_add_right _ _) (Nat.le_add_right _ _) (k M2 hi2)) (fun z => absurd e z)
theorem la_write (hw : Lw κ b L xs M i) (k : Lk κ b i) : X κ M 1288 (Ll (kg κ) b i) [] := by
  obtain ⟨C, sc, hR, hg, hi, h6, hL, hc1, hs1⟩ := hw
  have hc0 : Nat.ble (kce κ) (kR κ).cells = true ∧ Nat.ble (kso κ) (kR κ).slots = true := ⟨ble_0 hc1, ble_0 hs1⟩
  refine x_aload_n C dL_law_1288 rfl ?_
  refine x_arg C sc (j := 1) h6 rfl hL rfl rfl (by decide) dL_law_1289 dL_law_1290 dL_law_1291 dL_law_1292 dL_law_1293 ?_
  refine x_arg C sc (j := 2) h6 rfl hL rfl rfl (by decide) dL_law_1294 dL_law_1295 dL_law_1296 dL_law_1297 dL_law_1298 ?_
  refine x_arg C sc (j := 3) h6 rfl hL rfl rfl (by decide) dL_law_1299 dL_law_1300 dL_law_1301 dL_law_1302 dL_law_1303 ?_
  refine x_cvi C (k := 0) (As := [.int (xs (i + 1)), .int (xs (i + 2)), .int (xs (i + 3))]) (c_X7_write (kl κ) (kg κ) M hi.2.1 _ _ _) o_X7_write mw_L_174 (okR_1 hR rfl) (C.lt rfl) rcv_0 rfl rfl rfl hc0 dL_law_1304 (fun r1 M1 q1 => ?_)
  refine x_aload_n C dL_law_1307 rfl ?_
  refine x_arg C sc (j := 1) h6 rfl hL rfl rfl (by decide) dL_law_1308 dL_law_1309 dL_law_1310 dL_law_1311 dL_law_1312 ?_
  refine x_arg C sc (j := 2) h6 rfl hL rfl rfl (by decide) dL_law_1313 dL_law_1314 dL_law_1315 dL_law_1316 dL_law_1317 ?_
  refine x_arg C sc (j := 3) h6 rfl hL rfl rfl (by decide) dL_law_1318 dL_law_1319 dL_law_1320 dL_law_1321 dL_law_1322 ?_
  refine x_cvi C (k := 40) (As := [.int (xs (i + 1)), .int (xs (i + 2)), .int (xs (i + 3))]) (c_X8_write (kl κ) (kg κ) M1 (okA_of_inv hi q1.2) _ _ _) o_X8_write mw_L_177 (okR_1 hR rfl) (C.lt rfl) rcv_40 rfl rfl rfl hc0 dL_law_1323 (fun r2 M2 q2 => ?_)
  obtain ⟨e, hi2⟩ := law_step (fun A => F_write (xs (i + 1)) (xs (i + 2)) (xs (i + 3)) A) hi q1.1 q1.2 q2.1 q2.2 (ok_write hi.2.1 _ _ _)
  exact x_icmp_eq (tgt := 1525) C dL_law_1326 (by decide) (fun _ => X.widen (Nat.le_add_right _ _) (Nat.le_add_right _ _) (k M2 hi2)) (fun z => absurd e z)
theorem la_copy (hw : Lw κ b L xs M i) (k : Lk κ b i) : X κ M 1331 (Ll (kg κ) b i) [] := by
  obtain ⟨C, sc, hR, hg, hi, h6, hL, hc1, hs1⟩ := hw
  have hc0 : Nat.ble (kce κ) (kR κ).cells = true ∧ Nat.ble (kso κ) (kR κ).slots = true := ⟨ble_0 hc1, ble_0 hs1⟩
  refine x_aload_n C dL_law_1331 rfl ?_
  refine x_arg C sc (j := 1) h6 rfl hL rfl rfl (by decide) dL_law_1332 dL_law_1333 dL_law_1334 dL_law_1335 dL_law_1336 ?_
  refine x_arg C sc (j := 2) h6 rfl hL rfl rfl (by decide) dL_law_1337 dL_law_1338 dL_law_1339 dL_law_1340 dL_law_1341 ?_
  refine x_arg C sc (j := 3) h6 rfl hL rfl rfl (by decide) dL_law_1342 dL_law_1343 dL_law_1344 dL_law_1345 dL_law_1346 ?_
  refine x_arg C sc (j := 4) h6 rfl hL rfl rfl (by decide) dL_law_1347 dL_law_1348 dL_law_1349 dL_law_1350 dL_law_1351 ?_
  refine x_arg C sc (j := 5) h6 rfl hL rfl rfl (by decide) dL_law_1352 dL_law_1353 dL_law_1354 dL_law_1355 dL_law_1356 ?_
  refine x_cvi C (k := 0) (As := [.int (xs (i + 1)), .int (xs (i + 2)), .int (xs (i + 3)), .int (xs (i + 4)), .int (xs (i + 5))]) (c_X7_copy (kl κ) (kg κ) M hi.2.1 _ _ _ _ _) o_X7_copy mw_L_178 (okR_1 hR rfl) (C.lt rfl) rcv_0 rfl rfl rfl hc0 dL_law_1357 (fun r1 M1 q1 => ?_)
  refine x_aload_n C dL_law_1360 rfl ?_
  refine x_arg C sc (j := 1) h6 rfl hL rfl rfl (by decide) dL_law_1361 dL_law_1362 dL_law_1363 dL_law_1364 dL_law_1365 ?_
  refine x_arg C sc (j := 2) h6 rfl hL rfl rfl (by decide) dL_law_1366 dL_law_1367 dL_law_1368 dL_law_1369 dL_law_1370 ?_
  refine x_arg C sc (j := 3) h6 rfl hL rfl rfl (by decide) dL_law_1371 dL_law_1372 dL_law_1373 dL_law_1374 dL_law_1375 ?_
  refine x_arg C sc (j := 4) h6 rfl hL rfl rfl (by decide) dL_law_1376 dL_law_1377 dL_law_1378 dL_law_1379 dL_law_1380 ?_
  refine x_arg C sc (j := 5) h6 rfl hL rfl rfl (by decide) dL_law_1381 dL_law_1382 dL_law_1383 dL_law_1384 dL_law_1385 ?_
  refine x_cvi C (k := 40) (As := [.int (xs (i + 1)), .int (xs (i + 2)), .int (xs (i + 3)), .int (xs (i + 4)), .int (xs (i + 5))]) (c_X8_copy (kl κ) (kg κ) M1 (okA_of_inv hi q1.2) _ _ _ _ _) o_X8_copy mw_L_182 (okR_1 hR rfl) (C.lt rfl) rcv_40 rfl rfl rfl hc0 dL_law_1386 (fun r2 M2 q2 => ?_)
  obtain ⟨e, hi2⟩ := law_step (fun A => F_copy (xs (i + 1)) (xs (i + 2)) (xs (i + 3)) (xs (i + 4)) (xs (i + 5)) A) hi q1.1 q1.2 q2.1 q2.2 (ok_copy hi.2.1 _ _ _ _ _)
  exact x_icmp_eq (tgt := 1525) C dL_law_1389 (by decide) (fun _ => X.widen (Nat.le_add_right _ _) (Nat.le_add_right _ _) (k M2 hi2)) (fun z => absurd e z)
theorem la_load (hw : Lw κ b L xs M i) (k : Lk κ b i) : X κ M 1394 (Ll (kg κ) b i) [] := by
  obtain ⟨C, sc, hR, hg, hi, h6, hL, hc1, hs1⟩ := hw
  have hc0 : Nat.ble (kce κ) (kR κ).cells = true ∧ Nat.ble (kso κ) (kR κ).slots = true := ⟨ble_0 hc1, ble_0 hs1⟩
  refine x_aload_n C dL_law_1394 rfl ?_
  refine x_arg C sc (j := 1) h6 rfl hL rfl rfl (by decide) dL_law_1395 dL_law_1396 dL_law_1397 dL_law_1398 dL_law_1399 ?_
  refine x_cvi C (k := 0) (As := [.int (xs (i + 1))]) (c_X7_load (kl κ) (kg κ) M hi.2.1 _) o_X7_load mw_L_183 (okR_1 hR rfl) (C.lt rfl) rcv_0 rfl rfl rfl hc0 dL_law_1400 (fun r1 M1 q1 => ?_)
  refine x_aload_n C dL_law_1403 rfl ?_
  refine x_arg C sc (j := 1) h6 rfl hL rfl rfl (by decide) dL_law_1404 dL_law_1405 dL_law_1406 dL_law_1407 dL_law_1408 ?_
  refine x_cvi C (k := 40) (As := [.int (xs (i + 1))]) (c_X8_load (kl κ) (kg κ) M1 (okA_of_inv hi q1.2) _) o_X8_load mw_L_186 (okR_1 hR rfl) (C.lt rfl) rcv_40 rfl rfl rfl hc0 dL_law_1409 (fun r2 M2 q2 => ?_)
  obtain ⟨e, hi2⟩ := law_step (fun A => F_load (xs (i + 1)) A) hi q1.1 q1.2 q2.1 q2.2 (ok_load hi.2.1 _)
  exact x_icmp_eq (tgt := 1525) C dL_law_1412 (by decide) (fun _ => X.widen (Nat.le_add_right _ _) (Nat.le_add_right _ _) (k M2 hi2)) (fun z => absurd e z)
theorem la_judge (hw : Lw κ b L xs M i) (k : Lk κ b i) : X κ M 1417 (Ll (kg κ) b i) [] := by
  obtain ⟨C, sc, hR, hg, hi, h6, hL, hc1, hs1⟩ := hw
  have hc0 : Nat.ble (kce κ) (kR κ).cells = true ∧ Nat.ble (kso κ) (kR κ).slots = true := ⟨ble_0 hc1, ble_0 hs1⟩
  refine x_aload_n C dL_law_1417 rfl ?_
  refine x_arg C sc (j := 1) h6 rfl hL rfl rfl (by decide) dL_law_1418 dL_law_1419 dL_law_1420 dL_law_1421 dL_law_1422 ?_
  refine x_cvi C (k := 0) (As := [.int (xs (i + 1))]) (c_X7_judge (kl κ) (kg κ) M hi.2.1 _) o_X7_judge mw_L_187 (okR_1 hR rfl) (C.lt rfl) rcv_0 rfl rfl rfl hc0 dL_law_1423 (fun r1 M1 q1 => ?_)
  refine x_aload_n C dL_law_1426 rfl ?_
  refine x_arg C sc (j := 1) h6 rfl hL rfl rfl (by decide) dL_law_1427 dL_law_1428 dL_law_1429 dL_law_1430 dL_law_1431 ?_
  refine x_cvi C (k := 40) (As := [.int (xs (i + 1))]) (c_X8_judge (kl κ) (kg κ) M1 (okA_of_inv hi q1.2) _) o_X8_judge mw_L_190 (okR_1 hR rfl) (C.lt rfl) rcv_40 rfl rfl rfl hc0 dL_law_1432 (fun r2 M2 q2 => ?_)
  obtain ⟨e, hi2⟩ := law_step (fun A => F_judge (xs (i + 1)) A) hi q1.1 q1.2 q2.1 q2.2 (ok_judge hi.2.1 _)
  exact x_icmp_eq (tgt := 1525) C dL_law_1435 (by decide) (fun _ => X.widen (Nat.le_add_right _ _) (Nat.le_add_right _ _) (k M2 hi2)) (fun z => absurd e z)
theorem la_image (hw : Lw κ b L xs M i) (k : Lk κ b i) : X κ M 1440 (Ll (kg κ) b i) [] := by
  obtain ⟨C, sc, hR, hg, hi, h6, hL, hc1, hs1⟩ := hw
  have hc0 : Nat.ble (kce κ) (kR κ).cells = true ∧ Nat.ble (kso κ) (kR κ).slots = true := ⟨ble_0 hc1, ble_0 hs1⟩
  refine x_aload_n C dL_law_1440 rfl ?_
  refine x_cvi C (k := 0) (As := []) (c_X7_image (kl κ) (kg κ) M hi.2.1) o_X7_image mw_L_191 (okR_1 hR rfl) (C.lt rfl) rcv_0 rfl rfl rfl hc0 dL_law_1441 (fun r1 M1 q1 => ?_)
  refine x_aload_n C dL_law_1444 rfl ?_
  refine x_cvi C (k := 40) (As := []) (c_X8_image (kl κ) (kg κ) M1 (okA_of_inv hi q1.2)) o_X8_image mw_L_194 (okR_1 hR rfl) (C.lt rfl) rcv_40 rfl rfl rfl hc0 dL_law_1445 (fun r2 M2 q2 => ?_)
  obtain ⟨e, hi2⟩ := law_step (fun A => F_image A) hi q1.1 q1.2 q2.1 q2.2 (ok_image hi.2.1)
  exact x_icmp_eq (tgt := 1525) C dL_law_1448 (by decide) (fun _ => X.widen (Nat.le_add_right _ _) (Nat.le_add_right _ _) (k M2 hi2)) (fun z => absurd e z)
theorem la_undo (hw : Lw κ b L xs M i) (k : Lk κ b i) : X κ M 1453 (Ll (kg κ) b i) [] := by
  obtain ⟨C, sc, hR, hg, hi, h6, hL, hc1, hs1⟩ := hw
  have hc0 : Nat.ble (kce κ) (kR κ).cells = true ∧ Nat.ble (kso κ) (kR κ).slots = true := ⟨ble_0 hc1, ble_0 hs1⟩
  refine x_aload_n C dL_law_1453 rfl ?_
  refine x_cvi C (k := 0) (As := []) (c_X7_undo (kl κ) (kg κ) M hi.2.1) o_X7_undo mw_L_195 (okR_1 hR rfl) (C.lt rfl) rcv_0 rfl rfl rfl hc0 dL_law_1454 (fun r1 M1 q1 => ?_)
  refine x_aload_n C dL_law_1457 rfl ?_
  refine x_cvi C (k := 40) (As := []) (c_X8_undo (kl κ) (kg κ) M1 (okA_of_inv hi q1.2)) o_X8_undo mw_L_198 (okR_1 hR rfl) (C.lt rfl) rcv_40 rfl rfl rfl hc0 dL_law_1458 (fun r2 M2 q2 => ?_)
  obtain ⟨e, hi2⟩ := law_step (fun A => F_undo A) hi q1.1 q1.2 q2.1 q2.2 (ok_undo hi.2.1)
  exact x_icmp_eq (tgt := 1525) C dL_law_1461 (by decide) (fun _ => X.widen (Nat.le_add_right _ _) (Nat.le_add_right _ _) (k M2 hi2)) (fun z => absurd e z)
theorem la_tear (hw : Lw κ b L xs M i) (k : Lk κ b i) : X κ M 1466 (Ll (kg κ) b i) [] := by
  obtain ⟨C, sc, hR, hg, hi, h6, hL, hc1, hs1⟩ := hw
  have hc0 : Nat.ble (kce κ) (kR κ).cells = true ∧ Nat.ble (kso κ) (kR κ).slots = true := ⟨ble_0 hc1, ble_0 hs1⟩
  refine x_aload_n C dL_law_1466 rfl ?_
  refine x_cvi C (k := 0) (As := []) (c_X7_tear (kl κ) (kg κ) M hi.2.1) o_X7_tear mw_L_199 (okR_1 hR rfl) (C.lt rfl) rcv_0 rfl rfl rfl hc0 dL_law_1467 (fun r1 M1 q1 => ?_)
  refine x_aload_n C dL_law_1470 rfl ?_
  refine x_cvi C (k := 40) (As := []) (c_X8_tear (kl κ) (kg κ) M1 (okA_of_inv hi q1.2)) o_X8_tear mw_L_202 (okR_1 hR rfl) (C.lt rfl) rcv_40 rfl rfl rfl hc0 dL_law_1471 (fun r2 M2 q2 => ?_)
  obtain ⟨e, hi2⟩ := law_step (fun A => F_tear A) hi q1.1 q1.2 q2.1 q2.2 (ok_tear hi.2.1)
  exact x_icmp_eq (tgt := 1525) C dL_law_1474 (by decide) (fun _ => X.widen (Nat.le_add_right _ _) (Nat.le_add_right _ _) (k M2 hi2)) (fun z => absurd e z)
theorem la_count (hw : Lw κ b L xs M i) (k : Lk κ b i) : X κ M 1479 (Ll (kg κ) b i) [] := by
  obtain ⟨C, sc, hR, hg, hi, h6, hL, hc1, hs1⟩ := hw
  have hc0 : Nat.ble (kce κ) (kR κ).cells = true ∧ Nat.ble (kso κ) (kR κ).slots = true := ⟨ble_0 hc1, ble_0 hs1⟩
  refine x_aload_n C dL_law_1479 rfl ?_
  refine x_arg C sc (j := 1) h6 rfl hL rfl rfl (by decide) dL_law_1480 dL_law_1481 dL_law_1482 dL_law_1483 dL_law_1484 ?_
  refine x_cvi C (k := 0) (As := [.int (xs (i + 1))]) (c_X7_count (kl κ) (kg κ) M hi.2.1 _) o_X7_count mw_L_203 (okR_1 hR rfl) (C.lt rfl) rcv_0 rfl rfl rfl hc0 dL_law_1485 (fun r1 M1 q1 => ?_)
  refine x_aload_n C dL_law_1488 rfl ?_
  refine x_arg C sc (j := 1) h6 rfl hL rfl rfl (by decide) dL_law_1489 dL_law_1490 dL_law_1491 dL_law_1492 dL_law_1493 ?_
  refine x_cvi C (k := 40) (As := [.int (xs (i + 1))]) (c_X8_count (kl κ) (kg κ) M1 (okA_of_inv hi q1.2) _) o_X8_count mw_L_206 (okR_1 hR rfl) (C.lt rfl) rcv_40 rfl rfl rfl hc0 dL_law_1494 (fun r2 M2 q2 => ?_)
  obtain ⟨e, hi2⟩ := law_step (fun A => F_count (xs (i + 1)) A) hi q1.1 q1.2 q2.1 q2.2 (ok_count hi.2.1 _)
  exact x_icmp_eq (tgt := 1525) C dL_law_1497 (by decide) (fun _ => X.widen (Nat.le_add_right _ _) (Nat.le_add_right _ _) (k M2 hi2)) (fun z => absurd e z)
theorem la_status (hw : Lw κ b L xs M i) (k : Lk κ b i) : X κ M 1502 (Ll (kg κ) b i) [] := by
  obtain ⟨C, sc, hR, hg, hi, h6, hL, hc1, hs1⟩ := hw
  have hc0 : Nat.ble (kce κ) (kR κ).cells = true ∧ Nat.ble (kso κ) (kR κ).slots = true := ⟨ble_0 hc1, ble_0 hs1⟩
  refine x_aload_n C dL_law_1502 rfl ?_
  refine x_arg C sc (j := 1) h6 rfl hL rfl rfl (by decide) dL_law_1503 dL_law_1504 dL_law_1505 dL_law_1506 dL_law_1507 ?_
  refine x_cvi C (k := 0) (As := [.int (xs (i + 1))]) (c_X7_status (kl κ) (kg κ) M hi.2.1 _) o_X7_status mw_L_207 (okR_1 hR rfl) (C.lt rfl) rcv_0 rfl rfl rfl hc0 dL_law_1508 (fun r1 M1 q1 => ?_)
  refine x_aload_n C dL_law_1511 rfl ?_
  refine x_arg C sc (j := 1) h6 rfl hL rfl rfl (by decide) dL_law_1512 dL_law_1513 dL_law_1514 dL_law_1515 dL_law_1516 ?_
  refine x_cvi C (k := 40) (As := [.int (xs (i + 1))]) (c_X8_status (kl κ) (kg κ) M1 (okA_of_inv hi q1.2) _) o_X8_status mw_L_210 (okR_1 hR rfl) (C.lt rfl) rcv_40 rfl rfl rfl hc0 dL_law_1517 (fun r2 M2 q2 => ?_)
  obtain ⟨e, hi2⟩ := law_step (fun A => F_status (xs (i + 1)) A) hi q1.1 q1.2 q2.1 q2.2 (ok_status hi.2.1 _)
  exact x_icmp_eq (tgt := 1525) C dL_law_1520 (by decide) (fun _ => X.widen (Nat.le_add_right _ _) (Nat.le_add_right _ _) (k M2 hi2)) (fun z => absurd e z)
theorem and63 (x : Int32) : ∃ t : Nat, t < 64 ∧ x &&& 63 = nI t := by
  refine ⟨(x &&& 63).toBitVec.toNat, ?_, ?_⟩
  · show (x.toBitVec &&& 63#32).toNat < 64
    rw [BitVec.toNat_and]
    exact Nat.lt_of_le_of_lt Nat.and_le_right (by decide)
  · apply Int32.toBitVec_inj.mp
    show (x &&& 63).toBitVec = BitVec.ofNat 32 (x &&& 63).toBitVec.toNat
    rw [BitVec.ofNat_toNat, BitVec.setWidth_eq]
set_option maxRecDepth 100000 in
theorem la_all (hw : Lw κ b L xs M i) (k : Lk κ b i) : X κ M 27 (Ll (kg κ) b i) [] := by
  have hw' := hw
  obtain ⟨C, sc, hR, hg, hi, h6, hL, hc1, hs1⟩ := hw'
  refine x_aload_n C dL_law_27 rfl ?_
  refine x_iload_n C dL_law_28 rfl ?_
  refine x_sld C sc rfl (by omega) hL dL_law_29 ?_
  refine x_bipush (v := 63) C dL_law_30 (by decide) ?_
  refine x_iand C dL_law_32 ?_
  obtain ⟨t, ht, e⟩ := and63 (xs i)
  rw [e]
  clear e
  match t, ht with
  | 0, _ => exact x_tableIn (off := 207) (tgt := 240) C dL_law_33 (by decide +kernel) (by decide +kernel) (by decide +kernel) (by decide) (la_egg hw k)
  | 1, _ => exact x_tableIn (off := 250) (tgt := 283) C dL_law_33 (by decide +kernel) (by decide +kernel) (by decide +kernel) (by decide) (la_of hw k)
  | 2, _ => exact x_tableIn (off := 283) (tgt := 316) C dL_law_33 (by decide +kernel) (by decide +kernel) (by decide +kernel) (by decide) (la_change hw k)
  | 3, _ => exact x_tableIn (off := 326) (tgt := 359) C dL_law_33 (by decide +kernel) (by decide +kernel) (by decide +kernel) (by decide) (la_hen hw k)
  | 4, _ => exact x_tableIn (off := 369) (tgt := 402) C dL_law_33 (by decide +kernel) (by decide +kernel) (by decide +kernel) (by decide) (la_work hw k)
  | 5, _ => exact x_tableIn (off := 412) (tgt := 445) C dL_law_33 (by decide +kernel) (by decide +kernel) (by decide +kernel) (by decide) (la_henOf hw k)
  | 6, _ => exact x_tableIn (off := 445) (tgt := 478) C dL_law_33 (by decide +kernel) (by decide +kernel) (by decide +kernel) (by decide) (la_workOf hw k)
  | 7, _ => exact x_tableIn (off := 478) (tgt := 511) C dL_law_33 (by decide +kernel) (by decide +kernel) (by decide +kernel) (by decide) (la_spend hw k)
  | 8, _ => exact x_tableIn (off := 511) (tgt := 544) C dL_law_33 (by decide +kernel) (by decide +kernel) (by decide +kernel) (by decide) (la_broken hw k)
  | 9, _ => exact x_tableIn (off := 534) (tgt := 567) C dL_law_33 (by decide +kernel) (by decide +kernel) (by decide +kernel) (by decide) (la_go hw k)
  | 10, _ => exact x_tableIn (off := 557) (tgt := 590) C dL_law_33 (by decide +kernel) (by decide +kernel) (by decide +kernel) (by decide) (la_now hw k)
  | 11, _ => exact x_tableIn (off := 580) (tgt := 613) C dL_law_33 (by decide +kernel) (by decide +kernel) (by decide +kernel) (by decide) (la_ahead hw k)
  | 12, _ => exact x_tableIn (off := 603) (tgt := 636) C dL_law_33 (by decide +kernel) (by decide +kernel) (by decide +kernel) (by decide) (la_spoils hw k)
  | 13, _ => exact x_tableIn (off := 626) (tgt := 659) C dL_law_33 (by decide +kernel) (by decide +kernel) (by decide +kernel) (by decide) (la_ripe hw k)
  | 14, _ => exact x_tableIn (off := 649) (tgt := 682) C dL_law_33 (by decide +kernel) (by decide +kernel) (by decide +kernel) (by decide) (la_lasts hw k)
  | 15, _ => exact x_tableIn (off := 672) (tgt := 705) C dL_law_33 (by decide +kernel) (by decide +kernel) (by decide +kernel) (by decide) (la_when hw k)
  | 16, _ => exact x_tableIn (off := 695) (tgt := 728) C dL_law_33 (by decide +kernel) (by decide +kernel) (by decide +kernel) (by decide) (la_kindFor hw k)
  | 17, _ => exact x_tableIn (off := 728) (tgt := 761) C dL_law_33 (by decide +kernel) (by decide +kernel) (by decide +kernel) (by decide) (la_everyFor hw k)
  | 18, _ => exact x_tableIn (off := 761) (tgt := 794) C dL_law_33 (by decide +kernel) (by decide +kernel) (by decide +kernel) (by decide) (la_fewest hw k)
  | 19, _ => exact x_tableIn (off := 784) (tgt := 817) C dL_law_33 (by decide +kernel) (by decide +kernel) (by decide +kernel) (by decide) (la_thrifty hw k)
  | 20, _ => exact x_tableIn (off := 807) (tgt := 840) C dL_law_33 (by decide +kernel) (by decide +kernel) (by decide +kernel) (by decide) (la_best hw k)
  | 21, _ => exact x_tableIn (off := 820) (tgt := 853) C dL_law_33 (by decide +kernel) (by decide +kernel) (by decide +kernel) (by decide) (la_bestWorks hw k)
  | 22, _ => exact x_tableIn (off := 833) (tgt := 866) C dL_law_33 (by decide +kernel) (by decide +kernel) (by decide +kernel) (by decide) (la_soonest hw k)
  | 23, _ => exact x_tableIn (off := 856) (tgt := 889) C dL_law_33 (by decide +kernel) (by decide +kernel) (by decide +kernel) (by decide) (la_nest hw k)
  | 24, _ => exact x_tableIn (off := 879) (tgt := 912) C dL_law_33 (by decide +kernel) (by decide +kernel) (by decide +kernel) (by decide) (la_guard hw k)
  | 25, _ => exact x_tableIn (off := 892) (tgt := 925) C dL_law_33 (by decide +kernel) (by decide +kernel) (by decide +kernel) (by decide) (la_halves hw k)
  | 26, _ => exact x_tableIn (off := 905) (tgt := 938) C dL_law_33 (by decide +kernel) (by decide +kernel) (by decide +kernel) (by decide) (la_apart hw k)
  | 27, _ => exact x_tableIn (off := 918) (tgt := 951) C dL_law_33 (by decide +kernel) (by decide +kernel) (by decide +kernel) (by decide) (la_sets hw k)
  | 28, _ => exact x_tableIn (off := 941) (tgt := 974) C dL_law_33 (by decide +kernel) (by decide +kernel) (by decide +kernel) (by decide) (la_ages hw k)
  | 29, _ => exact x_tableIn (off := 974) (tgt := 1007) C dL_law_33 (by decide +kernel) (by decide +kernel) (by decide +kernel) (by decide) (la_youngest hw k)
  | 30, _ => exact x_tableIn (off := 1007) (tgt := 1040) C dL_law_33 (by decide +kernel) (by decide +kernel) (by decide +kernel) (by decide) (la_foxes hw k)
  | 31, _ => exact x_tableIn (off := 1030) (tgt := 1063) C dL_law_33 (by decide +kernel) (by decide +kernel) (by decide +kernel) (by decide) (la_odds hw k)
  | 32, _ => exact x_tableIn (off := 1064) (tgt := 1097) C dL_law_33 (by decide +kernel) (by decide +kernel) (by decide +kernel) (by decide) (la_seed hw k)
  | 33, _ => exact x_tableIn (off := 1087) (tgt := 1120) C dL_law_33 (by decide +kernel) (by decide +kernel) (by decide +kernel) (by decide) (la_feed hw k)
  | 34, _ => exact x_tableIn (off := 1120) (tgt := 1153) C dL_law_33 (by decide +kernel) (by decide +kernel) (by decide +kernel) (by decide) (la_wipe hw k)
  | 35, _ => exact x_tableIn (off := 1133) (tgt := 1166) C dL_law_33 (by decide +kernel) (by decide +kernel) (by decide +kernel) (by decide) (la_text hw k)
  | 36, _ => exact x_tableIn (off := 1146) (tgt := 1179) C dL_law_33 (by decide +kernel) (by decide +kernel) (by decide +kernel) (by decide) (la_hold hw k)
  | 37, _ => exact x_tableIn (off := 1179) (tgt := 1212) C dL_law_33 (by decide +kernel) (by decide +kernel) (by decide +kernel) (by decide) (la_as hw k)
  | 38, _ => exact x_tableIn (off := 1212) (tgt := 1245) C dL_law_33 (by decide +kernel) (by decide +kernel) (by decide +kernel) (by decide) (la_sheet hw k)
  | 39, _ => exact x_tableIn (off := 1255) (tgt := 1288) C dL_law_33 (by decide +kernel) (by decide +kernel) (by decide +kernel) (by decide) (la_write hw k)
  | 40, _ => exact x_tableIn (off := 1298) (tgt := 1331) C dL_law_33 (by decide +kernel) (by decide +kernel) (by decide +kernel) (by decide) (la_copy hw k)
  | 41, _ => exact x_tableIn (off := 1361) (tgt := 1394) C dL_law_33 (by decide +kernel) (by decide +kernel) (by decide +kernel) (by decide) (la_load hw k)
  | 42, _ => exact x_tableIn (off := 1384) (tgt := 1417) C dL_law_33 (by decide +kernel) (by decide +kernel) (by decide +kernel) (by decide) (la_judge hw k)
  | 43, _ => exact x_tableIn (off := 1407) (tgt := 1440) C dL_law_33 (by decide +kernel) (by decide +kernel) (by decide +kernel) (by decide) (la_image hw k)
  | 44, _ => exact x_tableIn (off := 1420) (tgt := 1453) C dL_law_33 (by decide +kernel) (by decide +kernel) (by decide +kernel) (by decide) (la_undo hw k)
  | 45, _ => exact x_tableIn (off := 1433) (tgt := 1466) C dL_law_33 (by decide +kernel) (by decide +kernel) (by decide +kernel) (by decide) (la_tear hw k)
  | 46, _ => exact x_tableIn (off := 1446) (tgt := 1479) C dL_law_33 (by decide +kernel) (by decide +kernel) (by decide +kernel) (by decide) (la_count hw k)
  | 47, _ => exact x_tableIn (off := 1469) (tgt := 1502) C dL_law_33 (by decide +kernel) (by decide +kernel) (by decide +kernel) (by decide) (la_status hw k)
  | 48, _ => exact x_tableOut (tgt := 1525) C dL_law_33 (Or.inr (by decide +kernel)) (by decide) (X.widen (Nat.le_add_right _ _) (Nat.le_add_right _ _) (k M hi))
  | 49, _ => exact x_tableOut (tgt := 1525) C dL_law_33 (Or.inr (by decide +kernel)) (by decide) (X.widen (Nat.le_add_right _ _) (Nat.le_add_right _ _) (k M hi))
  | 50, _ => exact x_tableOut (tgt := 1525) C dL_law_33 (Or.inr (by decide +kernel)) (by decide) (X.widen (Nat.le_add_right _ _) (Nat.le_add_right _ _) (k M hi))
  | 51, _ => exact x_tableOut (tgt := 1525) C dL_law_33 (Or.inr (by decide +kernel)) (by decide) (X.widen (Nat.le_add_right _ _) (Nat.le_add_right _ _) (k M hi))
  | 52, _ => exact x_tableOut (tgt := 1525) C dL_law_33 (Or.inr (by decide +kernel)) (by decide) (X.widen (Nat.le_add_right _ _) (Nat.le_add_right _ _) (k M hi))
  | 53, _ => exact x_tableOut (tgt := 1525) C dL_law_33 (Or.inr (by decide +kernel)) (by decide) (X.widen (Nat.le_add_right _ _) (Nat.le_add_right _ _) (k M hi))
  | 54, _ => exact x_tableOut (tgt := 1525) C dL_law_33 (Or.inr (by decide +kernel)) (by decide) (X.widen (Nat.le_add_right _ _) (Nat.le_add_right _ _) (k M hi))
  | 55, _ => exact x_tableOut (tgt := 1525) C dL_law_33 (Or.inr (by decide +kernel)) (by decide) (X.widen (Nat.le_add_right _ _) (Nat.le_add_right _ _) (k M hi))
  | 56, _ => exact x_tableOut (tgt := 1525) C dL_law_33 (Or.inr (by decide +kernel)) (by decide) (X.widen (Nat.le_add_right _ _) (Nat.le_add_right _ _) (k M hi))
  | 57, _ => exact x_tableOut (tgt := 1525) C dL_law_33 (Or.inr (by decide +kernel)) (by decide) (X.widen (Nat.le_add_right _ _) (Nat.le_add_right _ _) (k M hi))
  | 58, _ => exact x_tableOut (tgt := 1525) C dL_law_33 (Or.inr (by decide +kernel)) (by decide) (X.widen (Nat.le_add_right _ _) (Nat.le_add_right _ _) (k M hi))
  | 59, _ => exact x_tableOut (tgt := 1525) C dL_law_33 (Or.inr (by decide +kernel)) (by decide) (X.widen (Nat.le_add_right _ _) (Nat.le_add_right _ _) (k M hi))
  | 60, _ => exact x_tableOut (tgt := 1525) C dL_law_33 (Or.inr (by decide +kernel)) (by decide) (X.widen (Nat.le_add_right _ _) (Nat.le_add_right _ _) (k M hi))
  | 61, _ => exact x_tableOut (tgt := 1525) C dL_law_33 (Or.inr (by decide +kernel)) (by decide) (X.widen (Nat.le_add_right _ _) (Nat.le_add_right _ _) (k M hi))
  | 62, _ => exact x_tableOut (tgt := 1525) C dL_law_33 (Or.inr (by decide +kernel)) (by decide) (X.widen (Nat.le_add_right _ _) (Nat.le_add_right _ _) (k M hi))
  | 63, _ => exact x_tableOut (tgt := 1525) C dL_law_33 (Or.inr (by decide +kernel)) (by decide) (X.widen (Nat.le_add_right _ _) (Nat.le_add_right _ _) (k M hi))
  | t + 64, h => exact absurd h (by omega)
end LA
theorem end_lt {L i : Nat} (hL : L ≤ 3072) (hi : i ≤ 4000) : nI L - 6 < nI i ↔ L < i + 6 := by
  by_cases h : 6 ≤ L
  · rw [show (6 : Int32) = nI 6 from rfl, nI_subN h, nI_ltI (by omega) (by omega)]
    omega
  · refine ⟨fun _ => by omega, fun _ => ?_⟩
    have h1 : nI L - 6 < 0 := by
      rcases (show L = 0 ∨ L = 1 ∨ L = 2 ∨ L = 3 ∨ L = 4 ∨ L = 5 by omega) with rfl | rfl | rfl | rfl | rfl | rfl <;> decide
    have h2 : nI 0 ≤ nI i := nI_le (Nat.zero_le i) (by omega)
    rw [nI_0] at h2
    exact Int32.lt_of_lt_of_le h1 h2
section LL
variable {l : Launch} {g : Gp} {p : Program} {e : Env} {s : State} {m : MethodId} {below : List Frame} {meth : Method} {c : Code} {b L : Nat} {xs : Nat → Int32}
theorem law_end (C : Cx (kL l g p e s m below meth c b 0 0) cL_law RL) (hr : meth.sig.returnType = ret) (hlocks : meth.locks = false) {ce so : Nat} (h1 : ce ≤ 600000) (h2 : so ≤ 7302250) (M : Mem) (ls : List (Option Value)) : X (kL l g p e s m below meth c b ce so) M 1531 ls [] := by
  refine x_iconst (v := 1) (C.re ce so) dL_law_1531 (by decide) ?_
  exact fun H locs la hP hS hl => va_forget hS.2.2 (W.widen h1 h2 (lw_ret C.x C.b hr hlocks dL_law_1532))
theorem law_loop (C : Cx (kL l g p e s m below meth c b 0 0) cL_law RL) (sc : Scr (kL l g p e s m below meth c b 0 0) b L xs) (hg : gn g = 56) (hL : L ≤ 3072) (hr : meth.sig.returnType = ret) (hlocks : meth.locks = false) : ∀ (n i ce so : Nat) (M : Mem), L < i + 6 * n → i ≤ 3200 → ce + n ≤ 600000 → so + 6 * n ≤ 7302250 → inv M → X (kL l g p e s m below meth c b ce so) M 18 (Ll g b i) []
  | n, i, ce, so, M, hn, hi, hce, hso, hv => by
    have C1 : Cx (kL l g p e s m below meth c b ce so) cL_law RL := C.re ce so
    have sc1 : Scr (kL l g p e s m below meth c b ce so) b L xs := sc
    refine x_iload_n C1 dL_law_18 rfl ?_
    refine x_aload_n C1 dL_law_19 rfl ?_
    refine x_slen C1 sc1 dL_law_20 ?_
    refine x_bipush (v := 6) C1 dL_law_21 (by decide) ?_
    refine x_isub C1 dL_law_23 ?_
    refine x_icmp_gt (tgt := 1531) C1 dL_law_24 (by decide) (fun _ => law_end C hr hlocks (by omega) (by omega) M _) (fun q => ?_)
    have h6 : i + 6 ≤ L := by
      rw [end_lt hL (by omega)] at q
      omega
    match n, hn, hce, hso with
    | 0, hn, _, _ => exact absurd hn (by omega)
    | n + 1, hn, hce, hso =>
      refine la_all (κ := kL l g p e s m below meth c b ce so) (L := L) (xs := xs) ⟨C1, sc1, rfl, hg, hv, h6, hL, Nat.ble_eq_true_of_le (show ce + 1 ≤ 600000 by omega), Nat.ble_eq_true_of_le (show so + 6 ≤ 7302250 by omega)⟩ (fun M2 hv2 => ?_)
      have C3 : Cx (kL l g p e s m below meth c b (ce + 1) (so + 6)) cL_law RL := C.re (ce + 1) (so + 6)
      refine x_iinc (v := nI (i + 6)) C3 dL_law_1525 rfl (nI_add i 6) rfl ?_
      refine x_goto (tgt := 18) C3 dL_law_1528 (by decide) ?_
      exact law_loop C sc hg hL hr hlocks n (i + 6) (ce + 1) (so + 6) M2 (by omega) (by omega) (by omega) (by omega) hv2
end LL
theorem inv_M0 : inv M0 := ⟨ca_M0, okA_M0, okLt_M0⟩
set_option maxRecDepth 100000 in
set_option maxHeartbeats 4000000 in
/-- the law from its entry to the loop, over cells that are made -/
theorem law_made {l : Launch} {g : Gp} {p : Program} {e : Env} {s : State} {m : MethodId} {below : List Frame} {meth : Method} {c : Code} {b L : Nat} {xs : Nat → Int32} (C : Cy (kL l g p e s m below meth c b 0 0) cL_law RL true) (sc : Scr (kL l g p e s m below meth c b 0 0) b L xs) (hL : L ≤ 3072) (hr : meth.sig.returnType = ret) (hlocks : meth.locks = false) : Y (kL l g p e s m below meth c b 0 0) 0 0 [] 0 (linit 4 [.ref b]) [] := by
  refine y_new C bk_X7 kl_L_7 ki_X7 iw_X7 dv_X7 rfl rfl dL_law_0 (fun a => ?_)
  refine y_dup C dL_law_3 rfl ?_
  refine y_init C (fun h => h) (c_X7_init l g [] a) o_X7_init rfl mw_L_9 rfl rfl rfl rfl ⟨rfl, rfl⟩ dL_law_4 (fun u _ => ?_)
  refine Y.to (ws' := L40 g a u) rfl ?_
  refine y_astore_n C dL_law_7 rfl ?_
  refine y_new C bk_X8 kl_L_10 ki_X8 iw_X8 dv_X8 rfl rfl dL_law_8 (fun a2 => ?_)
  refine y_dup C dL_law_11 rfl ?_
  refine y_init C (fun h => absurd h (by decide)) (c_X8_init l g (L40 g a u) a2) o_X8_init rfl mw_L_12 rfl rfl rfl rfl ⟨rfl, rfl⟩ dL_law_12 (fun w _ => ?_)
  refine Y.to (ws' := L56 g a a2 u w) rfl ?_
  refine y_astore_n C dL_law_15 rfl ?_
  refine y_iconst (v := 0) C dL_law_16 (by decide) ?_
  refine y_istore_n C dL_law_17 rfl ?_
  intro H locs la hP hD hS hl
  have hA := Adok_0 hD
  have hW := Wd_0 hP
  have C2 : Cx (kL l (g56 g a a2 u w) p e s m below meth c b 0 0) cL_law RL := ⟨C.1, C.K, hA, C.N, Nat.le_refl 56, Sta.g (g := g) rfl C.S, StR.g (g := g) rfl C.R⟩
  have hX := law_loop (xs := xs) (L := L) C2 sc rfl hL hr hlocks 513 0 56 18582 M0 (by omega) (by omega) (by omega) (by omega) inv_M0
  exact hX H locs la hW hS hl
theorem whole_start {p : Program} {e : Env} {s : State} {m : MethodId} {below : List Frame} {meth : Method} {c : Code} (l : Launch) (hflags : l.flags = flags0) {b L : Nat} {xs : Nat → Int32} (hL : L ≤ 3072) (C0 : lw_At p s m meth c b L xs) : W p l e room_1 s m #[Value.ref b] below meth c s.heap [] 0 0 (lw_Z below #[Value.ref b] s) (entryFrame m ([Value.ref b] : List Value).toArray 4) := by
  obtain ⟨g, C⟩ := start_Cy (l := l) (e := e) (below := below) C0
  obtain ⟨hx, hb, hr, hml, hown, hts, hX, hbl, hlocks, hgv⟩ := C0
  have hl := lv_entry ([.ref b]) (n := 4) (Nat.le_of_ble_eq_true rfl)
  rw [lg_entry_eq]
  exact law_made (xs := xs) C ⟨hX, hbl, Nat.not_le.mpr hbl⟩ hL hr hlocks s.heap [] _ (fun k q h => by simp at h) ⟨fun i j p q h => by simp at h, fun k q h => by simp at h⟩ va_S.rf (lhas_init (vs := [.ref b]) rfl hl)
