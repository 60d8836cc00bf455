/-! ===== a Reader is made: the world grows by a place; the class's text ===== -/
def gw (g : Gp) (ad : Nat → Nat) (n : Nat) : Gp := (ad, g.2.1, g.2.2.1, g.2.2.2.1, n)
def gx (g : Gp) (u : Nat) : Gp := gw g (fun k => if k = 56 then u else gad g k) 57
theorem gx_o {g : Gp} {u k : Nat} (h : ¬ k = 56) : gad (gx g u) k = gad g k := if_neg h
theorem ent_28 {g : Gp} {f : Nat → Int32} : ent g 28 f = .inl (gcO g, 4, .inr (.inr (.inr (.inr (fun i => some (gad g (29 + 2 * i))))))) := rfl
theorem ent_gx {g : Gp} {u : Nat} : ∀ (k : Nat), k < 56 → ∀ f : Nat → Int32, ent (gx g u) k f = ent g k f
  | 0, _, _ => rfl
  | 1, _, _ => rfl
  | 2, _, _ => rfl
  | 3, _, _ => rfl
  | 4, _, _ => rfl
  | 5, _, _ => rfl
  | 6, _, _ => rfl
  | 7, _, _ => rfl
  | 8, _, _ => rfl
  | 9, _, _ => rfl
  | 10, _, _ => rfl
  | 11, _, _ => rfl
  | 12, _, _ => rfl
  | 13, _, _ => rfl
  | 14, _, _ => rfl
  | 15, _, _ => rfl
  | 16, _, _ => rfl
  | 17, _, _ => rfl
  | 18, _, _ => rfl
  | 19, _, _ => rfl
  | 20, _, _ => rfl
  | 21, _, _ => rfl
  | 22, _, _ => rfl
  | 23, _, _ => rfl
  | 24, _, _ => rfl
  | 25, _, _ => rfl
  | 26, _, _ => rfl
  | 27, _, _ => rfl
  | 28, _, f => by
    rw [ent_28, ent_28]
    have e : (fun i => some (gad (gx g u) (29 + 2 * i))) = fun i => some (gad g (29 + 2 * i)) := by
      funext i
      rw [gx_o (by omega)]
    rw [e]
    rfl
  | 29, _, _ => rfl
  | 30, _, _ => rfl
  | 31, _, _ => rfl
  | 32, _, _ => rfl
  | 33, _, _ => rfl
  | 34, _, _ => rfl
  | 35, _, _ => rfl
  | 36, _, _ => rfl
  | 37, _, _ => rfl
  | 38, _, _ => rfl
  | 39, _, _ => rfl
  | 40, _, _ => rfl
  | 41, _, _ => rfl
  | 42, _, _ => rfl
  | 43, _, _ => rfl
  | 44, _, _ => rfl
  | 45, _, _ => rfl
  | 46, _, _ => rfl
  | 47, _, _ => rfl
  | 48, _, _ => rfl
  | 49, _, _ => rfl
  | 50, _, _ => rfl
  | 51, _, _ => rfl
  | 52, _, _ => rfl
  | 53, _, _ => rfl
  | 54, _, _ => rfl
  | 55, _, _ => rfl
  | k + 56, h, _ => absurd h (by omega)
theorem Wd_gx {g : Gp} {u : Nat} {M M1 : Mem} (hg : gn g = 56) (h : ∀ k, k < 56 → M1 k = M k) : Wd (gx g u) M1 = Wd g M ++ [(u, ent (gx g u) 56 (M1 56))] := by
  unfold Wd
  rw [hg, show gn (gx g u) = 56 + 1 from rfl, List.range_succ, List.map_append]
  congr 1
  refine List.map_congr_left (fun k hk => ?_)
  have hk' : k < 56 := List.mem_range.mp hk
  show (gad (gx g u) k, ent (gx g u) k (M1 k)) = (gad g k, ent g k (M k))
  rw [gx_o (by omega), ent_gx k hk', h k hk']
theorem Wd_ix {g : Gp} {M : Mem} {t : va_W} {k : Nat} (hk : k < gn g) : (Wd g M ++ t)[k]? = some (gad g k, ent g k (M k)) := by
  rw [List.getElem?_append_left (by rw [Wd_len]; exact hk)]; exact Wd_at hk
theorem Wd_low {g : Gp} {M M1 : Mem} (h : ∀ k, k < gn g → M1 k = M k) : Wd g M1 = Wd g M := by
  unfold Wd
  exact List.map_congr_left (fun k hk => by rw [h k (List.mem_range.mp hk)])
abbrev kre (κ : Kx) (g : Gp) (ce so : Nat) : Kx := ((kl κ, kR κ, g, knL κ), (κ.2.1, κ.2.2.1, kQ κ, kA κ, (ce, so)))
theorem Cx.y {κ : Kx} {cc : ByteArray} {own : String} (C : Cx κ cc own) : Cy κ cc own false := ⟨C.1, C.K, C.N, C.S, C.R, fun h => absurd h (by decide)⟩
theorem X.ofY {κ : Kx} {cc : ByteArray} {own : String} {M : Mem} {pc ce so : Nat} {ls : List (Option Value)} {st : List Value} (C : Cx κ cc own) (h1 : kce κ = ce) (h2 : kso κ = so) (k : Y κ ce so (Wd (kg κ) M) pc ls st) : X κ M pc ls st := fun H locs la hP hS hl => by
  rw [h1, h2]
  exact k H locs la hP (C.A.D M) hS hl
theorem Y.ofX {κ : Kx} {cc : ByteArray} {own : String} {fl : Bool} {M : Mem} {pc ce so : Nat} {ls : List (Option Value)} {st : List Value} (C : Cy κ cc own fl) {ad : Nat → Nat} {n : Nat} (h56 : 56 ≤ n) (k : Cx (kre κ (gw (kg κ) ad n) ce so) cc own → X (kre κ (gw (kg κ) ad n) ce so) M pc ls st) : Y κ ce so (Wd (gw (kg κ) ad n) M) pc ls st := fun H locs la hP hD hS hl =>
  k ⟨C.1, C.K, Adok.of hD, C.N, h56, Sta.g (g := kg κ) rfl C.S, StR.g (g := kg κ) rfl C.R⟩ H locs la hP hS hl
/-- the contract of a method that makes cells in the world of 56 places -/
def Kt (l : Launch) (g : Gp) (y : MethodName) (b : ByteArray) (nL : Nat) (rt : FieldType) (rm : Room) (av : List Value) (M : Mem) (post : Int32 → Mem → Prop) (mc ms : Nat) : Prop :=
  ∀ sz : Nat, Met l y (.code y b nL (some rt) :: gT) rm (va_Pc av (PreW g M sz)) (va_Qi post (PosW g) (Ag g sz)) mc ms (Ag g sz)
set_option maxHeartbeats 4000000 in
theorem Kt.of {l : Launch} {g : Gp} {y : MethodName} {b : ByteArray} {nL : Nat} {rt : FieldType} {post : Int32 → Mem → Prop} {rm : Room} {av : List Value} {M : Mem} {mc ms : Nat} (hy : plainName y.cls = true) (hn : Nat.ble av.length nL = true) (hc : (av.all fun v => v.category == 1) = true)
    (body : ∀ q : Kr, Cx (kmk l rm g nL q) b y.cls → kce (kmk l rm g nL q) = 0 → kso (kmk l rm g nL q) = 0 → (∀ (g2 : Gp) (M1 M2 : Mem) (pc : Nat) (ls : List (Option Value)) (r : Int32), (∀ H, va_P (gD g2) vwCl (Wd g2 M1) H → va_P (gD g) vwCl (Wd g M2) H) → decode b pc = .ok (.ireturn, 1) → narrow rt (.int r) = .int r → post r M2 → X (kre (kmk l rm g nL q) g2 mc ms) M1 pc ls [.int r]) → X (kmk l rm g nL q) M 0 (linit nL av) []) : Kt l g y b nL rt rm av M post mc ms := by
  intro sz
  refine Met.ofW (cc := b) (maxL := nL) (ret := (some rt)) hy rfl ?_
  intro p e s m args below meth c s₁ B hml hv
  obtain ⟨rfl, hsz, hP, hK, hA, h56, hSt, hStR⟩ := hv
  subst hsz
  have hlen : av.length ≤ nL := Nat.le_of_ble_eq_true hn
  have hlg : lg_sl av = av.map Slot.val := by
    have hc' := hc
    clear body hn hlen hP hK hA hSt hStR B
    induction av with
    | nil => rfl
    | cons a t ih =>
      rw [List.all_cons, Bool.and_eq_true, beq_iff_eq] at hc'
      have := ih hc'.2 hc'.2
      simp only [lg_sl] at this ⊢
      rw [List.flatMap_cons, this]
      simp [hc'.1]
  have C : Cx (kmk l rm g nL ((p, e, s, m), (av.toArray, below, meth, c), MQ below (va_Qi post (PosW g) (Ag g s.heap.size)) av.toArray s mc ms (Ag g s.heap.size), Ag g s.heap.size, (0, 0))) b y.cls :=
    ⟨⟨B.exec, B.bytes, hml, findClass_of_methodNamed B.named, fun w hw => atoms_spec (ws := .code y b nL (some rt) :: gT) B.pre w (List.mem_cons_of_mem _ hw)⟩, hK, hA, fun q h => Or.inr h, h56, hSt, hStR⟩
  have hX := body _ C rfl rfl (fun g2 M1 M2 pc ls r hg2 hd hnr hp => fun H locs la hP1 hS1 hl1 => W.zret B.exec B.bytes B.returns hnr (fun t ht hW => ⟨⟨r, M2, rfl, hp, by unfold PosW; rw [ht]; exact hg2 H hP1⟩, hS1.F ht⟩) hS1.2.2 hd B.notSynchronized)
  have hl := lv_entry av (n := nL) (by rw [hlg, List.length_map]; exact hlen)
  rw [lg_entry_eq]
  exact hX s.heap [] _ hP va_S.rf (lhas_init hc hl)
theorem aC_X {M M' : Mem} {S : Row} {n : Int32} (hv : vw M' 1 = S) (hn : M' 37 1 = n) (hs : same (37 :: 56 :: (HOU ++ SCR)) M M') : aC M' = wT (wS (aC M) S) (aT (aC M), n) := by
  have hh : ∀ k, k = 0 ∨ (9 ≤ k ∧ k < 17) ∨ (28 ≤ k ∧ k < 37) ∨ k = 38 ∨ k = 39 → M' k = M k := fun k hk => hs k (by simp [HOU, SCR]; omega)
  unfold aC wT wS aT
  rw [hv, hn, vw_eqK (h := 9) (hh _ (by decide)) (hh _ (by decide)) (hh _ (by decide)) (hh _ (by decide)) (hh _ (by decide)), hh 0 (by decide), hh 39 (by decide), hh 38 (by decide), shC_eq (fun k h1 h2 => hh k (by omega))]
def rm_X7_text : Room := { frames := 9, cells := 1, slots := 6, locals := 199 }
set_option maxRecDepth 100000 in
set_option maxHeartbeats 4000000 in
theorem c_X7_text (l : Launch) (g : Gp) (hg : gn g = 56) (M : Mem) (oa : okA (aC M)) : Kt l g yX7_text cX7_text 2 .int rm_X7_text [.ref (gad g (0))] M (fun r M' => (r, aC M') = F_text (aC M) ∧ sameC M M') 1 6 := by
  refine Kt.of rfl rfl rfl (fun q C hce hso hret => ?_)
  have o : okRow (vw M 1) := oa.1
  have hcs : Nat.ble (kce (kmk l rm_X7_text g 2 q)) (kR (kmk l rm_X7_text g 2 q)).cells = true ∧ Nat.ble (kso (kmk l rm_X7_text g 2 q)) (kR (kmk l rm_X7_text g 2 q)).slots = true := by rw [hce, hso]; exact ⟨rfl, rfl⟩
  refine x_aload_n C dX7_text_0 rfl ?_
  refine x_getf (k := 0) C bk_X7 (C.lt rfl) rfl ent_0 2 fw_X7_19 rfl rfl dX7_text_1 ?_
  refine x_aload_n C dX7_text_4 rfl ?_
  refine x_getf (k := 0) C bk_X7 (C.lt rfl) rfl ent_0 0 fw_X7_10 rfl rfl dX7_text_5 ?_
  refine x_cvv C (k := 17) (c_X1_become l g (h := 17) (h2 := 1) (Or.inr (Or.inr rfl)) (Or.inl rfl) (by decide) _ ) o_X1_become mw_X7_147 rfl (C.lt' (isH_lt (Or.inr (Or.inr rfl)) 0 (by decide))) (rcv_H (Or.inr (Or.inr rfl))) rfl rfl rfl hcs dX7_text_8 (fun M2 h2 => ?_)
  refine X.ofY C hce hso ?_
  refine y_new C.y bk_X3 kl_X7_234 ki_X3 iw_X3 dv_X3 rfl rfl dX7_text_11 (fun u => ?_)
  refine y_dup C.y dX7_text_14 rfl ?_
  refine y_aload_n C.y dX7_text_15 rfl ?_
  refine y_getf C.y bk_X7 (i := 0) ((Wd_ix (C.lt rfl)).trans (by rw [ent_0])) 5 fw_X7_39 rfl rfl dX7_text_16 ?_
  refine y_aload_n C.y dX7_text_19 rfl ?_
  refine y_getf C.y bk_X7 (i := 0) ((Wd_ix (C.lt rfl)).trans (by rw [ent_0])) 2 fw_X7_19 rfl rfl dX7_text_20 ?_
  refine y_init C.y (fun h => h) (c_X3_init l g (Wd g M2) u (gad g 37) (gad g 17)) o_X3_init rfl mw_X7_236 rfl rfl rfl rfl ⟨rfl, rfl⟩ dX7_text_23 (fun _ _ => ?_)
  obtain ⟨M1, hM1⟩ : ∃ M1, M1 = upR M2 56 (fun _ => 0) := ⟨_, rfl⟩
  have hlow : ∀ k, k < 56 → M1 k = M2 k := fun k hk => by rw [hM1]; exact upR_n (by omega)
  have h56z : M1 56 = fun _ => 0 := by rw [hM1]; exact upR_s
  refine Y.to (ws' := Wd (gx g u) M1) (by rw [Wd_gx hg hlow, h56z]; rfl) ?_
  obtain ⟨g2, hg2⟩ : ∃ g2, g2 = gx g u := ⟨_, rfl⟩
  have key : Cx (kre (kmk l rm_X7_text g 2 q) g2 1 6) cX7_text yX7_text.cls → X (kre (kmk l rm_X7_text g 2 q) g2 1 6) M1 26 [some (.ref (gad g2 0)), none] [.ref (gad g2 56)] := by
    intro C2
    have hgn : gn g2 = 57 := by rw [hg2]; rfl
    have hrd : 56 < gn g2 := by rw [hgn]; decide
    have hv1 : vw M1 17 = vw M 1 := by
      rw [← h2.1]
      exact vw_eqK (hlow _ (by decide)) (hlow _ (by decide)) (hlow _ (by decide)) (hlow _ (by decide)) (hlow _ (by decide))
    have hz2 : same SCR M M2 := h2.2.mono (by simp [SCR])
    have o17 : okRow (vw M1 17) := by rw [hv1]; exact o
    obtain ⟨T, hT⟩ : ∃ T, T = aT (aC M) := ⟨_, rfl⟩
    obtain ⟨L, hL⟩ : ∃ L, L = tn (aL (aC M)) := ⟨_, rfl⟩
    have qL := inB_tn (n := 120) (by decide) (okL_C oa)
    have htp : tpC M1 T L := by
      refine ⟨?_, ?_, fun k hk => ?_, ?_⟩
      · rw [hlow 37 (by decide), hz2 37 (by decide), hL]; exact qL.2
      · rw [hL]; have h9 := qL.1; show tn (M 37 1) ≤ 120; omega
      · rw [hlow 38 (by decide), hz2 38 (by decide), hT]; exact (cut_at hk).symm
      · rw [hT]; exact oa.2.2.1.2
    have he4 : M1 56 4 = nI 0 := by rw [h56z]; rfl
    have hs1 : same (56 :: SCR) M M1 := (hz2.mono (fun k hk => List.mem_cons_of_mem _ hk)).tr (by rw [hM1]; exact same.upR (by simp))
    have hfin : ∀ (M5 : Mem) (H : Heap), va_P (gD g2) vwCl (Wd g2 M5) H → va_P (gD g) vwCl (Wd g (upR M5 56 (M 56))) H := fun M5 H hP k x hx => by
      have hk : k < gn g := (Wd_atI hx).1
      have e := Wd_gx (g := g) (u := u) (M := M5) (M1 := M5) hg (fun k _ => rfl)
      rw [hg2, e] at hP
      refine hP k x ?_
      rw [List.getElem?_append_left (by rw [Wd_len]; exact hk)]
      rw [← hx]
      rw [Wd_low (M := M5) (M1 := upR M5 56 (M 56)) (fun k hk => upR_n (by omega))]
    refine x_cvi C2 (k := 56) (c_X3_readText l g2 hrd _ (T := T) (L := L) htp he4 o17 ) o_X3_readText mw_X7_239 rfl hrd rcv_56 rfl rfl rfl ⟨rfl, rfl⟩ dX7_text_26 (fun r M3 h3 => ?_)
    refine x_istore_n C2 dX7_text_29 rfl ?_
    refine x_iload_n C2 dX7_text_30 rfl ?_
    refine x_if_lt (tgt := 45) C2 dX7_text_31 (by decide) (fun c31 => ?_) (fun c31 => ?_)
    · skip
      refine x_aload_n C2 dX7_text_45 rfl ?_
      refine x_getf (k := 0) C2 bk_X7 (C2.lt rfl) rfl ent_0 5 fw_X7_39 rfl rfl dX7_text_46 ?_
      refine x_iconst (v := 0) C2 dX7_text_49 (by decide) ?_
      refine x_putf (k := 37) C2 bk_X6 (C2.lt rfl) rfl ent_37 1 fw_X7_230 rfl (fun _ => rfl) rfl rfl rfl rfl dX7_text_50 ?_
      refine x_memI (fun M5 eM5 => ?_)
      refine x_iload_n C2 dX7_text_53 rfl ?_
      refine hret g2 _ (upR M5 56 (M 56)) _ _ _ (hfin M5) dX7_text_54 rfl ?_
      rw [hv1] at h3
      have hs5 : same (37 :: 56 :: SCR) M M5 := (hs1.mono (by simp [SCR])).tr ((h3.2.mono (by simp [SCR])).tr (by rw [eM5]; exact same.up (by simp)))
      have hs6 : same (37 :: 56 :: SCR) M (upR M5 56 (M 56)) := hs5.tr (same.upR (by simp))
      have eF := F_tx (A := aC M) (R := txtN T L 121 1 0 (vw M 1)) hT hL rfl
      obtain ⟨e1, e2⟩ := h3.1
      have e3 : (txtN T L 121 1 0 (vw M 1)).2 = none := by
        rcases e2 with ⟨-, z⟩ | ⟨z, -⟩
        · rw [← e1] at z; exact absurd c31 (Int32.not_lt.mpr z)
        · exact z
      have eX : aC (upR M5 56 (M 56)) = wT (wS (aC M) (vw M 1)) (aT (aC M), 0) := aC_X (vw_same hs6 (by decide) (by decide) (by decide) (by decide) (by decide)) (by rw [upR_n (by decide), eM5]; exact up_ss) (hs6.mono (fun k hk => by simp [SCR, HOU] at hk ⊢; omega))
      refine ⟨?_, fun k hk => ?_⟩
      · rw [eF, e3, eX, ← hT, e1]; rfl
      · rcases Nat.decEq k 56 with z | z
        · exact hs6 k (by simp [SCR]; omega)
        · rw [z]; exact upR_s
    · skip
      refine x_aload_n C2 dX7_text_34 rfl ?_
      refine x_getf (k := 0) C2 bk_X7 (C2.lt rfl) rfl ent_0 0 fw_X7_10 rfl rfl dX7_text_35 ?_
      refine x_aload_n C2 dX7_text_38 rfl ?_
      refine x_getf (k := 0) C2 bk_X7 (C2.lt rfl) rfl ent_0 2 fw_X7_19 rfl rfl dX7_text_39 ?_
      refine x_cvv C2 (k := 1) (c_X1_become l g2 (h := 1) (h2 := 17) (Or.inl rfl) (Or.inr (Or.inr rfl)) (by decide) _ ) o_X1_become mw_X7_147 rfl (C2.lt' (isH_lt (Or.inl rfl) 0 (by decide))) (rcv_H (Or.inl rfl)) rfl rfl rfl ⟨rfl, rfl⟩ dX7_text_42 (fun M4 h4 => ?_)
      refine x_aload_n C2 dX7_text_45 rfl ?_
      refine x_getf (k := 0) C2 bk_X7 (C2.lt rfl) rfl ent_0 5 fw_X7_39 rfl rfl dX7_text_46 ?_
      refine x_iconst (v := 0) C2 dX7_text_49 (by decide) ?_
      refine x_putf (k := 37) C2 bk_X6 (C2.lt rfl) rfl ent_37 1 fw_X7_230 rfl (fun _ => rfl) rfl rfl rfl rfl dX7_text_50 ?_
      refine x_memI (fun M5 eM5 => ?_)
      refine x_iload_n C2 dX7_text_53 rfl ?_
      refine hret g2 _ (upR M5 56 (M 56)) _ _ _ (hfin M5) dX7_text_54 rfl ?_
      rw [hv1] at h3
      have hs5 : same (37 :: 56 :: (HOU ++ SCR)) M M5 := (hs1.mono (by simp [SCR, HOU])).tr ((h3.2.mono (by simp [SCR, HOU])).tr ((h4.2.mono (by simp [SCR, HOU])).tr (by rw [eM5]; exact same.up (by simp))))
      have hs6 : same (37 :: 56 :: (HOU ++ SCR)) M (upR M5 56 (M 56)) := hs5.tr (same.upR (by simp))
      have eF := F_tx (A := aC M) (R := txtN T L 121 1 0 (vw M 1)) hT hL rfl
      obtain ⟨e1, e2⟩ := h3.1
      have e3 : (txtN T L 121 1 0 (vw M 1)).2 = some (vw M3 17) := by
        rcases e2 with ⟨z, -⟩ | ⟨-, z⟩
        · exact z
        · rw [← e1] at z; exact absurd z c31
      have hv6 : vw (upR M5 56 (M 56)) 1 = vw M3 17 := by
        rw [← h4.1]
        exact vw_eqK (by rw [upR_n (by decide), eM5, up_n (by decide)]) (by rw [upR_n (by decide), eM5, up_n (by decide)]) (by rw [upR_n (by decide), eM5, up_n (by decide)]) (by rw [upR_n (by decide), eM5, up_n (by decide)]) (by rw [upR_n (by decide), eM5, up_n (by decide)])
      have eX : aC (upR M5 56 (M 56)) = wT (wS (aC M) (vw M3 17)) (aT (aC M), 0) := aC_X hv6 (by rw [upR_n (by decide), eM5]; exact up_ss) hs6
      refine ⟨?_, fun k hk => ?_⟩
      · rw [eF, e3, eX, ← hT, e1]
      · rcases Nat.decEq k 56 with z | z
        · exact hs6 k (by simp [SCR, HOU]; omega)
        · rw [z]; exact upR_s
  subst hg2
  exact Y.ofX C.y (by decide) key
