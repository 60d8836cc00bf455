/-! ===== constructors: the small ones, a House ===== -/
theorem kl_L_7 : Cond.classLink RL 7 RX7 ∈ gT := tb_0 16 rfl rfl
theorem ki_X7 : Cond.instantiable RX7 8 ∈ gT := tb_0 17 rfl rfl
theorem ko_1 : Cond.instanceMethod objectInit ∈ gT := tb_0 22 rfl rfl
theorem ko_2 : Cond.code objectInit ⟨#[0xb1]⟩ 1 none ∈ gT := tb_0 23 rfl rfl
theorem kl_X7_7 : Cond.classLink RX7 7 RX1 ∈ gT := tb_0 24 rfl rfl
theorem ki_X1 : Cond.instantiable RX1 7 ∈ gT := tb_0 25 rfl rfl
theorem kl_X1_7 : Cond.classLink RX1 7 RX5 ∈ gT := tb_0 30 rfl rfl
theorem ki_X5 : Cond.instantiable RX5 4 ∈ gT := tb_0 31 rfl rfl
theorem ka_I : Cond.arrayClass .int ∈ gT := tb_0 56 rfl rfl
theorem kl_X7_22 : Cond.classLink RX7 22 RX0 ∈ gT := tb_0 101 rfl rfl
theorem ki_X0 : Cond.instantiable RX0 3 ∈ gT := tb_0 102 rfl rfl
theorem kl_X7_29 : Cond.classLink RX7 29 RX4 ∈ gT := tb_0 117 rfl rfl
theorem ki_X4 : Cond.instantiable RX4 3 ∈ gT := tb_0 119 rfl rfl
theorem kl_X7_36 : Cond.classLink RX7 36 RX6 ∈ gT := tb_0 136 rfl rfl
theorem ki_X6 : Cond.instantiable RX6 2 ∈ gT := tb_0 137 rfl rfl
theorem kl_X7_234 : Cond.classLink RX7 234 RX3 ∈ gT := tb_2 95 rfl rfl
theorem ki_X3 : Cond.instantiable RX3 6 ∈ gT := tb_2 96 rfl rfl
theorem kl_L_10 : Cond.classLink RL 10 RX8 ∈ gT := tb_3 81 rfl rfl
theorem ki_X8 : Cond.instantiable RX8 21 ∈ gT := tb_3 82 rfl rfl
theorem ka_Z : Cond.arrayClass .boolean ∈ gT := tb_3 152 rfl rfl
theorem ka_C : Cond.arrayClass .char ∈ gT := tb_3 153 rfl rfl
theorem dv_X0 : ∀ j, j < 3 → defaultValue (tyX0 j) = vp_V [.null, .null, .int 0] j := fun j hj => by rcases (show j = 0 ∨ j = 1 ∨ j = 2 by omega) with rfl | rfl | rfl <;> rfl
theorem dv_X1 : ∀ j, j < 7 → defaultValue (tyX1 j) = vp_V [.null, .null, .null, .null, .int 0, .int 0, .int 0] j := fun j hj => by rcases (show j = 0 ∨ j = 1 ∨ j = 2 ∨ j = 3 ∨ j = 4 ∨ j = 5 ∨ j = 6 by omega) with rfl | rfl | rfl | rfl | rfl | rfl | rfl <;> rfl
theorem dv_X3 : ∀ j, j < 6 → defaultValue (tyX3 j) = vp_V [.null, .null, .int 0, .int 0, .int 0, .int 0] j := fun j hj => by rcases (show j = 0 ∨ j = 1 ∨ j = 2 ∨ j = 3 ∨ j = 4 ∨ j = 5 by omega) with rfl | rfl | rfl | rfl | rfl | rfl <;> rfl
theorem dv_X4 : ∀ j, j < 3 → defaultValue (tyX4 j) = vp_V [.null, .int 0, .int 0] j := fun j hj => by rcases (show j = 0 ∨ j = 1 ∨ j = 2 by omega) with rfl | rfl | rfl <;> rfl
theorem dv_X5 : ∀ j, j < 4 → defaultValue (tyX5 j) = vp_V [.int 0, .null, .null, .null] j := fun j hj => by rcases (show j = 0 ∨ j = 1 ∨ j = 2 ∨ j = 3 by omega) with rfl | rfl | rfl | rfl <;> rfl
theorem dv_X6 : ∀ j, j < 2 → defaultValue (tyX6 j) = vp_V [.null, .int 0] j := fun j hj => by rcases (show j = 0 ∨ j = 1 by omega) with rfl | rfl <;> rfl
theorem dv_X7 : ∀ j, j < 8 → defaultValue (tyX7 j) = vp_V [.null, .null, .null, .null, .null, .null, .null, .int 0] j := fun j hj => by rcases (show j = 0 ∨ j = 1 ∨ j = 2 ∨ j = 3 ∨ j = 4 ∨ j = 5 ∨ j = 6 ∨ j = 7 by omega) with rfl | rfl | rfl | rfl | rfl | rfl | rfl | rfl <;> rfl
theorem dv_X8 : ∀ j, j < 21 → defaultValue (tyX8 j) = vp_V [.null, .null, .null, .int 0, .null, .null, .null, .null, .int 0, .int 0, .int 0, .int 0, .long 0, .null, .null, .null, .null, .null, .null, .null, .null] j := fun j hj => by rcases (show j = 0 ∨ j = 1 ∨ j = 2 ∨ j = 3 ∨ j = 4 ∨ j = 5 ∨ j = 6 ∨ j = 7 ∨ j = 8 ∨ j = 9 ∨ j = 10 ∨ j = 11 ∨ j = 12 ∨ j = 13 ∨ j = 14 ∨ j = 15 ∨ j = 16 ∨ j = 17 ∨ j = 18 ∨ j = 19 ∨ j = 20 by omega) with rfl | rfl | rfl | rfl | rfl | rfl | rfl | rfl | rfl | rfl | rfl | rfl | rfl | rfl | rfl | rfl | rfl | rfl | rfl | rfl | rfl <;> rfl
def egF : Nat → Nat → Int32
  | 0 => fun _ => 0
  | n + 1 => upd (egF n) (4 * n + 0) (-1)
def hnF : Nat → Nat → Int32
  | 0 => fun _ => 0
  | n + 1 => upd (upd (hnF n) (4 * n + 2) 60) (4 * n + 3) (nI n)
def wkF : Nat → Nat → Int32
  | 0 => fun _ => 0
  | n + 1 => upd (wkF n) (4 * n + 1) 99999
def spF : Nat → Nat → Int32
  | 0 => fun _ => 0
  | n + 1 => upd (spF n) n (-1)
def md0 : Nat → Int32 := upd (fun _ => 0) 2 1
def mdH : Nat → Nat → Int32
  | 0 => md0
  | n + 1 => upd (upd (mdH n) (43 + 4 * n + 2) 60) (43 + 4 * n + 3) (nI n)
def mdW : Nat → Nat → Int32
  | 0 => mdH 4
  | n + 1 => upd (mdW n) (59 + 4 * n + 1) 99999
def mdS : Nat → Nat → Int32
  | 0 => mdW 6
  | n + 1 => upd (mdS n) (83 + n) (-1)
def chF (L : List Int32) : Nat → Nat → Int32
  | 0 => fun _ => 0
  | k + 1 => upd (chF L k) k (L.getD k 0)
section YI
variable {κ : Kx} {cc : ByteArray} {own : String} {fl : Bool} {ce so : Nat} {ws : va_W} {pc : Nat} {ls : List (Option Value)} {st : List Value}
theorem y_if_lt (C : Cy κ cc own fl) {x : Int32} {off : Int} {tgt : Nat} (hd : decode cc pc = .ok (.ifCond .lt off, 3)) (ht : (pc : Int) + off = (tgt : Int)) (kt : x < 0 → Y κ ce so ws tgt ls st) (kf : ¬ x < 0 → Y κ ce so ws (pc + 3) ls st) : Y κ ce so ws pc ls (.int x :: st) := fun H locs la hP hD hS hl => lv_if_lt C.x C.b hd ht (fun z => kt z H locs la hP hD hS hl) (fun z => kf z H locs la hP hD hS hl)
end YI
def rm_X5_putY : Room := { frames := 0, cells := 0, slots := 0, locals := 0 }
set_option maxHeartbeats 4000000 in
theorem c_X5_putY (l : Launch) (g : Gp) (ws : va_W) {i k t c p1 p2 : Nat} {rw : Int32} (hi : ws[i]? = some (t, .inr (4, [.int rw, .ref p1, .ref p2, .ref c]))) {f : Nat → Int32} (hk : ws[k]? = some (c, eI g 32 f)) {a b : Nat} {row col : Int32} (hr : row = nI a) (hc : col = nI b) (h1 : nI a < rw) (h8 : a < 8) (h4 : b < 4) (v : Int32) : KyS l g false yX5_put cX5_put 4 rm_X5_putY [.ref t, .int row, .int col, .int v] ws (fun _ : Nat → Nat => True) (fun _ => ws.set k (c, eI g 32 (upd f (4 * a + b) v))) 0 0 := by
  refine KyS.of rfl rfl rfl (fun q C hin hret => ?_)
  refine y_iload_n C dX5_put_0 rfl ?_
  refine y_if_lt (tgt := 32) C dX5_put_1 (by decide) (fun z => absurd z (by rw [hr]; exact nI_pos (by omega))) (fun _ => ?_)
  refine y_iload_n C dX5_put_4 rfl ?_
  refine y_aload_n C dX5_put_5 rfl ?_
  refine y_getf C bk_X5 (i := i) hi 0 fw_X5_15 rfl rfl dX5_put_6 ?_
  refine y_icmp_ge (tgt := 32) C dX5_put_9 (by decide) (fun z => absurd z (by rw [hr]; exact Int32.not_le.mpr h1)) (fun _ => ?_)
  refine y_iload_n C dX5_put_12 rfl ?_
  refine y_if_lt (tgt := 32) C dX5_put_13 (by decide) (fun z => absurd z (by rw [hc]; exact nI_pos (by omega))) (fun _ => ?_)
  refine y_iload_n C dX5_put_16 rfl ?_
  refine y_iconst (v := 4) C dX5_put_17 (by decide) ?_
  refine y_icmp_ge (tgt := 32) C dX5_put_18 (by decide) (fun z => absurd z (by rw [hc]; exact nI_ge h4 (by decide))) (fun _ => ?_)
  refine y_aload_n C dX5_put_21 rfl ?_
  refine y_getf C bk_X5 (i := i) hi 3 fw_X5_26 rfl rfl dX5_put_22 ?_
  refine y_iload_n C dX5_put_25 rfl ?_
  refine y_iconst (v := 4) C dX5_put_26 (by decide) ?_
  refine y_imul C dX5_put_27 ?_
  refine y_iload_n C dX5_put_28 rfl ?_
  refine y_iadd C dX5_put_29 ?_
  refine y_iload_n C dX5_put_30 rfl ?_
  refine y_iast C (i := k) hk (j := 4 * a + b) (by rw [hr, hc, show (4 : Int32) = nI 4 from rfl, pk_mul, nI_add, Nat.mul_comm]) (by omega) rfl (ws' := ws.set k (c, eI g 32 (upd f (4 * a + b) v))) rfl dX5_put_31 ?_
  exact hret (fun _ => 0) _ _ dX5_put_32 trivial
def rm_X4_init : Room := { frames := 1, cells := 1, slots := 40, locals := 12 }
set_option maxRecDepth 100000 in
set_option maxHeartbeats 4000000 in
theorem c_X4_init (l : Launch) (g : Gp) (w0 : va_W) (a : Nat): KyS l g false yX4_init cX4_init 1 rm_X4_init [.ref a] (w0 ++ [(a, .inr (3, [.null, .int 0, .int 0]))]) (fun _ : Nat → Nat => True) (fun u => w0 ++ [(a, .inr (3, [.ref (u 0), .int 0, .int 0])), ((u 0), eI g 40 (fun _ => 0))]) 1 40 := by
  refine KyS.of rfl rfl rfl (fun q C hin hret => ?_)
  refine y_aload_n C dX4_init_0 rfl ?_
  refine y_obj C mw_X4_1 ko_1 ko_2 rfl rfl dX4_init_1 ?_
  refine y_aload_n C dX4_init_4 rfl ?_
  refine y_bipush (v := 40) C dX4_init_5 (by decide) ?_
  refine y_newI C ka_I (N := 40) rfl rfl rfl rfl dX4_init_7 (fun v1 => ?_)
  refine Y.to (ws' := w0 ++ [(a, .inr (3, [.null, .int 0, .int 0])), (v1, eI g 40 (fun _ => 0))]) (w_app rfl) ?_
  refine y_putF C hin bk_X4 (i := w0.length + 0) (w_ix rfl) 0 fw_X4_9 rfl rfl rfl rfl rfl rfl (ws' := w0 ++ [(a, .inr (3, [.ref v1, .int 0, .int 0])), (v1, eI g 40 (fun _ => 0))]) (w_set rfl) dX4_init_9 ?_
  exact hret (fun k => [v1].getD k 0) _ _ dX4_init_12 trivial

def rm_X6_init : Room := { frames := 1, cells := 1, slots := 120, locals := 12 }
set_option maxRecDepth 100000 in
set_option maxHeartbeats 4000000 in
theorem c_X6_init (l : Launch) (g : Gp) (w0 : va_W) (a : Nat): KyS l g false yX6_init cX6_init 1 rm_X6_init [.ref a] (w0 ++ [(a, .inr (5, [.null, .int 0]))]) (fun _ : Nat → Nat => True) (fun u => w0 ++ [(a, .inr (5, [.ref (u 0), .int 0])), ((u 0), eI g 120 (fun _ => 0))]) 1 120 := by
  refine KyS.of rfl rfl rfl (fun q C hin hret => ?_)
  refine y_aload_n C dX6_init_0 rfl ?_
  refine y_obj C mw_X6_1 ko_1 ko_2 rfl rfl dX6_init_1 ?_
  refine y_aload_n C dX6_init_4 rfl ?_
  refine y_bipush (v := 120) C dX6_init_5 (by decide) ?_
  refine y_newI C ka_I (N := 120) rfl rfl rfl rfl dX6_init_7 (fun v1 => ?_)
  refine Y.to (ws' := w0 ++ [(a, .inr (5, [.null, .int 0])), (v1, eI g 120 (fun _ => 0))]) (w_app rfl) ?_
  refine y_putF C hin bk_X6 (i := w0.length + 0) (w_ix rfl) 0 fw_X6_9 rfl rfl rfl rfl rfl rfl (ws' := w0 ++ [(a, .inr (5, [.ref v1, .int 0])), (v1, eI g 120 (fun _ => 0))]) (w_set rfl) dX6_init_9 ?_
  exact hret (fun k => [v1].getD k 0) _ _ dX6_init_12 trivial

def rm_X0_init : Room := { frames := 1, cells := 2, slots := 512, locals := 12 }
set_option maxRecDepth 100000 in
set_option maxHeartbeats 4000000 in
theorem c_X0_init (l : Launch) (g : Gp) (w0 : va_W) (a : Nat): KyS l g false yX0_init cX0_init 1 rm_X0_init [.ref a] (w0 ++ [(a, .inr (0, [.null, .null, .int 0]))]) (fun _ : Nat → Nat => True) (fun u => w0 ++ [(a, .inr (0, [.ref (u 0), .ref (u 1), .int 0])), ((u 0), eI g 256 (fun _ => 0)), ((u 1), eI g 256 (fun _ => 0))]) 2 512 := by
  refine KyS.of rfl rfl rfl (fun q C hin hret => ?_)
  refine y_aload_n C dX0_init_0 rfl ?_
  refine y_obj C mw_X0_3 ko_1 ko_2 rfl rfl dX0_init_1 ?_
  refine y_aload_n C dX0_init_4 rfl ?_
  refine y_sipush (v := 256) C dX0_init_5 (by decide) ?_
  refine y_newI C ka_I (N := 256) rfl rfl rfl rfl dX0_init_8 (fun v1 => ?_)
  refine Y.to (ws' := w0 ++ [(a, .inr (0, [.null, .null, .int 0])), (v1, eI g 256 (fun _ => 0))]) (w_app rfl) ?_
  refine y_putF C hin bk_X0 (i := w0.length + 0) (w_ix rfl) 0 fw_X0_11 rfl rfl rfl rfl rfl rfl (ws' := w0 ++ [(a, .inr (0, [.ref v1, .null, .int 0])), (v1, eI g 256 (fun _ => 0))]) (w_set rfl) dX0_init_10 ?_
  refine y_aload_n C dX0_init_13 rfl ?_
  refine y_sipush (v := 256) C dX0_init_14 (by decide) ?_
  refine y_newI C ka_I (N := 256) rfl rfl rfl rfl dX0_init_17 (fun v2 => ?_)
  refine Y.to (ws' := w0 ++ [(a, .inr (0, [.ref v1, .null, .int 0])), (v1, eI g 256 (fun _ => 0)), (v2, eI g 256 (fun _ => 0))]) (w_app rfl) ?_
  refine y_putF C hin bk_X0 (i := w0.length + 0) (w_ix rfl) 1 fw_X0_15 rfl rfl rfl rfl rfl rfl (ws' := w0 ++ [(a, .inr (0, [.ref v1, .ref v2, .int 0])), (v1, eI g 256 (fun _ => 0)), (v2, eI g 256 (fun _ => 0))]) (w_set rfl) dX0_init_19 ?_
  exact hret (fun k => [v1, v2].getD k 0) _ _ dX0_init_22 trivial

def rm_X5_init : Room := { frames := 1, cells := 1, slots := 32, locals := 14 }
set_option maxRecDepth 100000 in
set_option maxHeartbeats 4000000 in
theorem c_X5_init (l : Launch) (g : Gp) (w0 : va_W) (a : Nat) {r : Int32} (hr : (if (8 : Int32) < r then 8 else r) = r) (x y : Nat): KyS l g false yX5_init cX5_init 4 rm_X5_init [.ref a, .int r, .ref x, .ref y] (w0 ++ [(a, .inr (4, [.int 0, .null, .null, .null]))]) (fun _ : Nat → Nat => True) (fun u => w0 ++ [(a, .inr (4, [.int r, .ref x, .ref y, .ref (u 0)])), ((u 0), eI g 32 (fun _ => 0))]) 1 32 := by
  refine KyS.of rfl rfl rfl (fun q C hin hret => ?_)
  refine y_aload_n C dX5_init_0 rfl ?_
  refine y_obj C mw_X5_1 ko_1 ko_2 rfl rfl dX5_init_1 ?_
  refine y_aload_n C dX5_init_4 rfl ?_
  refine y_iload_n C dX5_init_5 rfl ?_
  refine y_bipush (v := 8) C dX5_init_6 (by decide) ?_
  refine y_min C mw_X5_9 sw_Math_min iw_J9 ow_Math_min rfl rfl rfl rfl dX5_init_8 ?_
  refine y_topE (y := r) (hr) ?_
  refine y_putF C hin bk_X5 (i := w0.length + 0) (w_ix rfl) 0 fw_X5_15 rfl rfl rfl rfl rfl rfl (ws' := w0 ++ [(a, .inr (4, [.int (r), .null, .null, .null]))]) (w_set rfl) dX5_init_11 ?_
  refine y_aload_n C dX5_init_14 rfl ?_
  refine y_aload_n C dX5_init_15 rfl ?_
  refine y_putF C hin bk_X5 (i := w0.length + 0) (w_ix rfl) 1 fw_X5_19 rfl rfl rfl rfl rfl rfl (ws' := w0 ++ [(a, .inr (4, [.int (r), .ref x, .null, .null]))]) (w_set rfl) dX5_init_16 ?_
  refine y_aload_n C dX5_init_19 rfl ?_
  refine y_aload_n C dX5_init_20 rfl ?_
  refine y_putF C hin bk_X5 (i := w0.length + 0) (w_ix rfl) 2 fw_X5_23 rfl rfl rfl rfl rfl rfl (ws' := w0 ++ [(a, .inr (4, [.int (r), .ref x, .ref y, .null]))]) (w_set rfl) dX5_init_21 ?_
  refine y_aload_n C dX5_init_24 rfl ?_
  refine y_bipush (v := 32) C dX5_init_25 (by decide) ?_
  refine y_newI C ka_I (N := 32) rfl rfl rfl rfl dX5_init_27 (fun v1 => ?_)
  refine Y.to (ws' := w0 ++ [(a, .inr (4, [.int (r), .ref x, .ref y, .null])), (v1, eI g 32 (fun _ => 0))]) (w_app rfl) ?_
  refine y_putF C hin bk_X5 (i := w0.length + 0) (w_ix rfl) 3 fw_X5_26 rfl rfl rfl rfl rfl rfl (ws' := w0 ++ [(a, .inr (4, [.int (r), .ref x, .ref y, .ref v1])), (v1, eI g 32 (fun _ => 0))]) (w_set rfl) dX5_init_29 ?_
  exact hret (fun k => [v1].getD k 0) _ _ dX5_init_32 trivial

def rm_X3_init : Room := { frames := 1, cells := 0, slots := 0, locals := 12 }
set_option maxRecDepth 100000 in
set_option maxHeartbeats 4000000 in
theorem c_X3_init (l : Launch) (g : Gp) (w0 : va_W) (a x y : Nat): KyS l g false yX3_init cX3_init 3 rm_X3_init [.ref a, .ref x, .ref y] (w0 ++ [(a, .inr (2, [.null, .null, .int 0, .int 0, .int 0, .int 0]))]) (fun _ : Nat → Nat => True) (fun u => w0 ++ [(a, .inr (2, [.ref x, .ref y, .int 0, .int 0, .int 0, .int 0]))]) 0 0 := by
  refine KyS.of rfl rfl rfl (fun q C hin hret => ?_)
  refine y_aload_n C dX3_init_0 rfl ?_
  refine y_obj C mw_X3_3 ko_1 ko_2 rfl rfl dX3_init_1 ?_
  refine y_aload_n C dX3_init_4 rfl ?_
  refine y_aload_n C dX3_init_5 rfl ?_
  refine y_putF C hin bk_X3 (i := w0.length + 0) (w_ix rfl) 0 fw_X3_9 rfl rfl rfl rfl rfl rfl (ws' := w0 ++ [(a, .inr (2, [.ref x, .null, .int 0, .int 0, .int 0, .int 0]))]) (w_set rfl) dX3_init_6 ?_
  refine y_aload_n C dX3_init_9 rfl ?_
  refine y_aload_n C dX3_init_10 rfl ?_
  refine y_putF C hin bk_X3 (i := w0.length + 0) (w_ix rfl) 1 fw_X3_15 rfl rfl rfl rfl rfl rfl (ws' := w0 ++ [(a, .inr (2, [.ref x, .ref y, .int 0, .int 0, .int 0, .int 0]))]) (w_set rfl) dX3_init_11 ?_
  exact hret (fun _ => 0) _ _ dX3_init_14 trivial

def rm_X1_init : Room := { frames := 2, cells := 7, slots := 118, locals := 37 }
set_option maxRecDepth 100000 in
set_option maxHeartbeats 4000000 in
theorem c_X1_init (l : Launch) (g : Gp) (w0 : va_W) (a : Nat): KyS l g false yX1_init cX1_init 2 rm_X1_init [.ref a] (w0 ++ [(a, .inr (1, [.null, .null, .null, .null, .int 0, .int 0, .int 0]))]) (fun _ : Nat → Nat => True) (fun u => w0 ++ [(a, .inr (1, [.ref (u 0), .ref (u 2), .ref (u 4), .ref (u 6), .int 0, .int 0, .int 1])), ((u 0), .inr (4, [.int 8, .ref (gsa g 0), .ref (gsa g 1), .ref (u 1)])), ((u 1), eI g 32 (egF 8)), ((u 2), .inr (4, [.int 4, .ref (gsa g 2), .ref (gsa g 3), .ref (u 3)])), ((u 3), eI g 32 (hnF 4)), ((u 4), .inr (4, [.int 6, .ref (gsa g 4), .ref (gsa g 5), .ref (u 5)])), ((u 5), eI g 32 (wkF 6)), ((u 6), eI g 10 (spF 10))]) 7 118 := by
  refine KyS.of rfl rfl rfl (fun q C hin hret => ?_)
  refine y_aload_n C dX1_init_0 rfl ?_
  refine y_obj C mw_X1_1 ko_1 ko_2 rfl rfl dX1_init_1 ?_
  refine y_aload_n C dX1_init_4 rfl ?_
  refine y_new C bk_X5 kl_X1_7 ki_X5 iw_X5 dv_X5 rfl rfl dX1_init_5 (fun u1 => ?_)
  refine y_dup C dX1_init_8 rfl ?_
  refine y_bipush (v := 8) C dX1_init_9 (by decide) ?_
  refine y_gets C (i := 0) (by decide) fw_X1_11 dX1_init_11 ?_
  refine y_gets C (i := 1) (by decide) fw_X1_15 dX1_init_14 ?_
  refine y_init C (fun h => h) (c_X5_init l g (w0 ++ [(a, .inr (1, [.null, .null, .null, .null, .int 0, .int 0, .int 0]))]) u1 (by decide) _ _) o_X5_init rfl mw_X1_18 rfl rfl rfl rfl ⟨rfl, rfl⟩ dX1_init_17 (fun v2 _ => ?_)
  refine Y.to (ws' := w0 ++ [(a, .inr (1, [.null, .null, .null, .null, .int 0, .int 0, .int 0])), (u1, .inr (4, [.int 8, .ref (gsa g 0), .ref (gsa g 1), .ref (v2 0)])), ((v2 0), eI g 32 (fun _ => 0))]) (w_app rfl) ?_
  refine y_putF C hin bk_X1 (i := w0.length + 0) (w_ix rfl) 0 fw_X1_21 rfl rfl rfl rfl rfl rfl (ws' := w0 ++ [(a, .inr (1, [.ref u1, .null, .null, .null, .int 0, .int 0, .int 0])), (u1, .inr (4, [.int 8, .ref (gsa g 0), .ref (gsa g 1), .ref (v2 0)])), ((v2 0), eI g 32 (fun _ => 0))]) (w_set rfl) dX1_init_20 ?_
  refine y_iconst (v := 0) C dX1_init_23 (by decide) ?_
  refine y_istore_n C dX1_init_24 rfl ?_
  refine up_to 8 (P := fun i => Y (kmk l rm_X1_init g 2 q) 2 36 (w0 ++ [(a, .inr (1, [.ref u1, .null, .null, .null, .int 0, .int 0, .int 0])), (u1, .inr (4, [.int 8, .ref (gsa g 0), .ref (gsa g 1), .ref (v2 0)])), ((v2 0), eI g 32 (egF i))]) 25 [some (.ref a), some (.int (nI i))] []) (fun i hi ih => ?_) 0 (by omega)
  refine y_iload_n C dX1_init_25 rfl ?_
  refine y_bipush (v := 8) C dX1_init_26 (by decide) ?_
  refine y_icmp_ge (tgt := 47) C dX1_init_28 (by decide) (fun c28 => ?_) (fun c28 => ?_)
  · skip
    have hlt := lp_ge (N := 8) (by decide) hi c28
    subst hlt
    refine y_aload_n C dX1_init_47 rfl ?_
    refine y_new C bk_X5 kl_X1_7 ki_X5 iw_X5 dv_X5 rfl rfl dX1_init_48 (fun u3 => ?_)
    refine y_dup C dX1_init_51 rfl ?_
    refine y_iconst (v := 4) C dX1_init_52 (by decide) ?_
    refine y_gets C (i := 2) (by decide) fw_X1_29 dX1_init_53 ?_
    refine y_gets C (i := 3) (by decide) fw_X1_32 dX1_init_56 ?_
    refine y_init C (fun h => h) (c_X5_init l g (w0 ++ [(a, .inr (1, [.ref u1, .null, .null, .null, .int 0, .int 0, .int 0])), (u1, .inr (4, [.int 8, .ref (gsa g 0), .ref (gsa g 1), .ref (v2 0)])), ((v2 0), eI g 32 (egF 8))]) u3 (by decide) _ _) o_X5_init rfl mw_X1_18 rfl rfl rfl rfl ⟨rfl, rfl⟩ dX1_init_59 (fun v4 _ => ?_)
    refine Y.to (ws' := w0 ++ [(a, .inr (1, [.ref u1, .null, .null, .null, .int 0, .int 0, .int 0])), (u1, .inr (4, [.int 8, .ref (gsa g 0), .ref (gsa g 1), .ref (v2 0)])), ((v2 0), eI g 32 (egF 8)), (u3, .inr (4, [.int 4, .ref (gsa g 2), .ref (gsa g 3), .ref (v4 0)])), ((v4 0), eI g 32 (fun _ => 0))]) (w_app rfl) ?_
    refine y_putF C hin bk_X1 (i := w0.length + 0) (w_ix rfl) 1 fw_X1_35 rfl rfl rfl rfl rfl rfl (ws' := w0 ++ [(a, .inr (1, [.ref u1, .ref u3, .null, .null, .int 0, .int 0, .int 0])), (u1, .inr (4, [.int 8, .ref (gsa g 0), .ref (gsa g 1), .ref (v2 0)])), ((v2 0), eI g 32 (egF 8)), (u3, .inr (4, [.int 4, .ref (gsa g 2), .ref (gsa g 3), .ref (v4 0)])), ((v4 0), eI g 32 (fun _ => 0))]) (w_set rfl) dX1_init_62 ?_
    refine y_iconst (v := 0) C dX1_init_65 (by decide) ?_
    refine y_istore_n C dX1_init_66 rfl ?_
    refine up_to 4 (P := fun i => Y (kmk l rm_X1_init g 2 q) 4 72 (w0 ++ [(a, .inr (1, [.ref u1, .ref u3, .null, .null, .int 0, .int 0, .int 0])), (u1, .inr (4, [.int 8, .ref (gsa g 0), .ref (gsa g 1), .ref (v2 0)])), ((v2 0), eI g 32 (egF 8)), (u3, .inr (4, [.int 4, .ref (gsa g 2), .ref (gsa g 3), .ref (v4 0)])), ((v4 0), eI g 32 (hnF i))]) 67 [some (.ref a), some (.int (nI i))] []) (fun i hi ih => ?_) 0 (by omega)
    refine y_iload_n C dX1_init_67 rfl ?_
    refine y_iconst (v := 4) C dX1_init_68 (by decide) ?_
    refine y_icmp_ge (tgt := 99) C dX1_init_69 (by decide) (fun c69 => ?_) (fun c69 => ?_)
    · skip
      have hlt := lp_ge (N := 4) (by decide) hi c69
      subst hlt
      refine y_aload_n C dX1_init_99 rfl ?_
      refine y_new C bk_X5 kl_X1_7 ki_X5 iw_X5 dv_X5 rfl rfl dX1_init_100 (fun u5 => ?_)
      refine y_dup C dX1_init_103 rfl ?_
      refine y_bipush (v := 6) C dX1_init_104 (by decide) ?_
      refine y_gets C (i := 4) (by decide) fw_X1_38 dX1_init_106 ?_
      refine y_gets C (i := 5) (by decide) fw_X1_41 dX1_init_109 ?_
      refine y_init C (fun h => h) (c_X5_init l g (w0 ++ [(a, .inr (1, [.ref u1, .ref u3, .null, .null, .int 0, .int 0, .int 0])), (u1, .inr (4, [.int 8, .ref (gsa g 0), .ref (gsa g 1), .ref (v2 0)])), ((v2 0), eI g 32 (egF 8)), (u3, .inr (4, [.int 4, .ref (gsa g 2), .ref (gsa g 3), .ref (v4 0)])), ((v4 0), eI g 32 (hnF 4))]) u5 (by decide) _ _) o_X5_init rfl mw_X1_18 rfl rfl rfl rfl ⟨rfl, rfl⟩ dX1_init_112 (fun v6 _ => ?_)
      refine Y.to (ws' := w0 ++ [(a, .inr (1, [.ref u1, .ref u3, .null, .null, .int 0, .int 0, .int 0])), (u1, .inr (4, [.int 8, .ref (gsa g 0), .ref (gsa g 1), .ref (v2 0)])), ((v2 0), eI g 32 (egF 8)), (u3, .inr (4, [.int 4, .ref (gsa g 2), .ref (gsa g 3), .ref (v4 0)])), ((v4 0), eI g 32 (hnF 4)), (u5, .inr (4, [.int 6, .ref (gsa g 4), .ref (gsa g 5), .ref (v6 0)])), ((v6 0), eI g 32 (fun _ => 0))]) (w_app rfl) ?_
      refine y_putF C hin bk_X1 (i := w0.length + 0) (w_ix rfl) 2 fw_X1_44 rfl rfl rfl rfl rfl rfl (ws' := w0 ++ [(a, .inr (1, [.ref u1, .ref u3, .ref u5, .null, .int 0, .int 0, .int 0])), (u1, .inr (4, [.int 8, .ref (gsa g 0), .ref (gsa g 1), .ref (v2 0)])), ((v2 0), eI g 32 (egF 8)), (u3, .inr (4, [.int 4, .ref (gsa g 2), .ref (gsa g 3), .ref (v4 0)])), ((v4 0), eI g 32 (hnF 4)), (u5, .inr (4, [.int 6, .ref (gsa g 4), .ref (gsa g 5), .ref (v6 0)])), ((v6 0), eI g 32 (fun _ => 0))]) (w_set rfl) dX1_init_115 ?_
      refine y_iconst (v := 0) C dX1_init_118 (by decide) ?_
      refine y_istore_n C dX1_init_119 rfl ?_
      refine up_to 6 (P := fun i => Y (kmk l rm_X1_init g 2 q) 6 108 (w0 ++ [(a, .inr (1, [.ref u1, .ref u3, .ref u5, .null, .int 0, .int 0, .int 0])), (u1, .inr (4, [.int 8, .ref (gsa g 0), .ref (gsa g 1), .ref (v2 0)])), ((v2 0), eI g 32 (egF 8)), (u3, .inr (4, [.int 4, .ref (gsa g 2), .ref (gsa g 3), .ref (v4 0)])), ((v4 0), eI g 32 (hnF 4)), (u5, .inr (4, [.int 6, .ref (gsa g 4), .ref (gsa g 5), .ref (v6 0)])), ((v6 0), eI g 32 (wkF i))]) 120 [some (.ref a), some (.int (nI i))] []) (fun i hi ih => ?_) 0 (by omega)
      refine y_iload_n C dX1_init_120 rfl ?_
      refine y_bipush (v := 6) C dX1_init_121 (by decide) ?_
      refine y_icmp_ge (tgt := 143) C dX1_init_123 (by decide) (fun c123 => ?_) (fun c123 => ?_)
      · skip
        have hlt := lp_ge (N := 6) (by decide) hi c123
        subst hlt
        refine y_aload_n C dX1_init_143 rfl ?_
        refine y_bipush (v := 10) C dX1_init_144 (by decide) ?_
        refine y_newI C ka_I (N := 10) rfl rfl rfl rfl dX1_init_146 (fun v7 => ?_)
        refine Y.to (ws' := w0 ++ [(a, .inr (1, [.ref u1, .ref u3, .ref u5, .null, .int 0, .int 0, .int 0])), (u1, .inr (4, [.int 8, .ref (gsa g 0), .ref (gsa g 1), .ref (v2 0)])), ((v2 0), eI g 32 (egF 8)), (u3, .inr (4, [.int 4, .ref (gsa g 2), .ref (gsa g 3), .ref (v4 0)])), ((v4 0), eI g 32 (hnF 4)), (u5, .inr (4, [.int 6, .ref (gsa g 4), .ref (gsa g 5), .ref (v6 0)])), ((v6 0), eI g 32 (wkF 6)), (v7, eI g 10 (fun _ => 0))]) (w_app rfl) ?_
        refine y_putF C hin bk_X1 (i := w0.length + 0) (w_ix rfl) 3 fw_X1_48 rfl rfl rfl rfl rfl rfl (ws' := w0 ++ [(a, .inr (1, [.ref u1, .ref u3, .ref u5, .ref v7, .int 0, .int 0, .int 0])), (u1, .inr (4, [.int 8, .ref (gsa g 0), .ref (gsa g 1), .ref (v2 0)])), ((v2 0), eI g 32 (egF 8)), (u3, .inr (4, [.int 4, .ref (gsa g 2), .ref (gsa g 3), .ref (v4 0)])), ((v4 0), eI g 32 (hnF 4)), (u5, .inr (4, [.int 6, .ref (gsa g 4), .ref (gsa g 5), .ref (v6 0)])), ((v6 0), eI g 32 (wkF 6)), (v7, eI g 10 (fun _ => 0))]) (w_set rfl) dX1_init_148 ?_
        refine y_iconst (v := 0) C dX1_init_151 (by decide) ?_
        refine y_istore_n C dX1_init_152 rfl ?_
        refine up_to 10 (P := fun i => Y (kmk l rm_X1_init g 2 q) 7 118 (w0 ++ [(a, .inr (1, [.ref u1, .ref u3, .ref u5, .ref v7, .int 0, .int 0, .int 0])), (u1, .inr (4, [.int 8, .ref (gsa g 0), .ref (gsa g 1), .ref (v2 0)])), ((v2 0), eI g 32 (egF 8)), (u3, .inr (4, [.int 4, .ref (gsa g 2), .ref (gsa g 3), .ref (v4 0)])), ((v4 0), eI g 32 (hnF 4)), (u5, .inr (4, [.int 6, .ref (gsa g 4), .ref (gsa g 5), .ref (v6 0)])), ((v6 0), eI g 32 (wkF 6)), (v7, eI g 10 (spF i))]) 153 [some (.ref a), some (.int (nI i))] []) (fun i hi ih => ?_) 0 (by omega)
        refine y_iload_n C dX1_init_153 rfl ?_
        refine y_bipush (v := 10) C dX1_init_154 (by decide) ?_
        refine y_icmp_ge (tgt := 172) C dX1_init_156 (by decide) (fun c156 => ?_) (fun c156 => ?_)
        · skip
          have hlt := lp_ge (N := 10) (by decide) hi c156
          subst hlt
          refine y_aload_n C dX1_init_172 rfl ?_
          refine y_iconst (v := 0) C dX1_init_173 (by decide) ?_
          refine y_put C bk_X1 (i := w0.length + 0) (w_ix rfl) 4 fw_X1_51 rfl rfl rfl rfl rfl (ws' := w0 ++ [(a, .inr (1, [.ref u1, .ref u3, .ref u5, .ref v7, .int 0, .int 0, .int 0])), (u1, .inr (4, [.int 8, .ref (gsa g 0), .ref (gsa g 1), .ref (v2 0)])), ((v2 0), eI g 32 (egF 8)), (u3, .inr (4, [.int 4, .ref (gsa g 2), .ref (gsa g 3), .ref (v4 0)])), ((v4 0), eI g 32 (hnF 4)), (u5, .inr (4, [.int 6, .ref (gsa g 4), .ref (gsa g 5), .ref (v6 0)])), ((v6 0), eI g 32 (wkF 6)), (v7, eI g 10 (spF 10))]) (w_set rfl) dX1_init_174 ?_
          refine y_aload_n C dX1_init_177 rfl ?_
          refine y_iconst (v := 0) C dX1_init_178 (by decide) ?_
          refine y_put C bk_X1 (i := w0.length + 0) (w_ix rfl) 5 fw_X1_55 rfl rfl rfl rfl rfl (ws' := w0 ++ [(a, .inr (1, [.ref u1, .ref u3, .ref u5, .ref v7, .int 0, .int 0, .int 0])), (u1, .inr (4, [.int 8, .ref (gsa g 0), .ref (gsa g 1), .ref (v2 0)])), ((v2 0), eI g 32 (egF 8)), (u3, .inr (4, [.int 4, .ref (gsa g 2), .ref (gsa g 3), .ref (v4 0)])), ((v4 0), eI g 32 (hnF 4)), (u5, .inr (4, [.int 6, .ref (gsa g 4), .ref (gsa g 5), .ref (v6 0)])), ((v6 0), eI g 32 (wkF 6)), (v7, eI g 10 (spF 10))]) (w_set rfl) dX1_init_179 ?_
          refine y_aload_n C dX1_init_182 rfl ?_
          refine y_iconst (v := 1) C dX1_init_183 (by decide) ?_
          refine y_put C bk_X1 (i := w0.length + 0) (w_ix rfl) 6 fw_X1_58 rfl rfl rfl rfl rfl (ws' := w0 ++ [(a, .inr (1, [.ref u1, .ref u3, .ref u5, .ref v7, .int 0, .int 0, .int 1])), (u1, .inr (4, [.int 8, .ref (gsa g 0), .ref (gsa g 1), .ref (v2 0)])), ((v2 0), eI g 32 (egF 8)), (u3, .inr (4, [.int 4, .ref (gsa g 2), .ref (gsa g 3), .ref (v4 0)])), ((v4 0), eI g 32 (hnF 4)), (u5, .inr (4, [.int 6, .ref (gsa g 4), .ref (gsa g 5), .ref (v6 0)])), ((v6 0), eI g 32 (wkF 6)), (v7, eI g 10 (spF 10))]) (w_set rfl) dX1_init_184 ?_
          exact hret (fun k => [u1, (v2 0), u3, (v4 0), u5, (v6 0), v7].getD k 0) _ _ dX1_init_187 trivial
        · skip
          have hlt := lp_lt (N := 10) (by decide) hi c156
          refine y_aload_n C dX1_init_159 rfl ?_
          refine y_getf C bk_X1 (i := w0.length + 0) (w_ix rfl) 3 fw_X1_48 rfl rfl dX1_init_160 ?_
          refine y_iload_n C dX1_init_163 rfl ?_
          refine y_iconst (v := -1) C dX1_init_164 (by decide) ?_
          refine y_iast C (i := w0.length + 7) (w_ix rfl) (j := i) (rfl) (by omega) rfl (ws' := w0 ++ [(a, .inr (1, [.ref u1, .ref u3, .ref u5, .ref v7, .int 0, .int 0, .int 0])), (u1, .inr (4, [.int 8, .ref (gsa g 0), .ref (gsa g 1), .ref (v2 0)])), ((v2 0), eI g 32 (egF 8)), (u3, .inr (4, [.int 4, .ref (gsa g 2), .ref (gsa g 3), .ref (v4 0)])), ((v4 0), eI g 32 (hnF 4)), (u5, .inr (4, [.int 6, .ref (gsa g 4), .ref (gsa g 5), .ref (v6 0)])), ((v6 0), eI g 32 (wkF 6)), (v7, eI g 10 (spF (i + 1)))]) (w_set rfl) dX1_init_165 ?_
          refine y_iinc (v := nI (i + 1)) C dX1_init_166 rfl (nI_1 i) rfl ?_
          refine y_goto (tgt := 153) C dX1_init_169 (by decide) ?_
          exact ih hlt
      · skip
        have hlt := lp_lt (N := 6) (by decide) hi c123
        refine y_aload_n C dX1_init_126 rfl ?_
        refine y_getf C bk_X1 (i := w0.length + 0) (w_ix rfl) 2 fw_X1_44 rfl rfl dX1_init_127 ?_
        refine y_iload_n C dX1_init_130 rfl ?_
        refine y_iconst (v := 1) C dX1_init_131 (by decide) ?_
        refine y_ldc C kw_X1_47 dX1_init_132 ?_
        refine y_callV C (fun h => absurd h (by decide)) (c_X5_putY l g _ (i := w0.length + 5) (k := w0.length + 6) (w_ix rfl) (w_ix rfl) (a := i) (b := 1) rfl rfl (nI_lt hlt (by decide)) (by omega) (by decide) _) o_X5_put mw_X1_25 (i := w0.length + 5) (w_ix rfl) rfl rfl rfl rfl rfl rfl ⟨rfl, rfl⟩ dX1_init_134 (fun _ _ => ?_)
        refine Y.to (ws' := w0 ++ [(a, .inr (1, [.ref u1, .ref u3, .ref u5, .null, .int 0, .int 0, .int 0])), (u1, .inr (4, [.int 8, .ref (gsa g 0), .ref (gsa g 1), .ref (v2 0)])), ((v2 0), eI g 32 (egF 8)), (u3, .inr (4, [.int 4, .ref (gsa g 2), .ref (gsa g 3), .ref (v4 0)])), ((v4 0), eI g 32 (hnF 4)), (u5, .inr (4, [.int 6, .ref (gsa g 4), .ref (gsa g 5), .ref (v6 0)])), ((v6 0), eI g 32 (wkF (i + 1)))]) (w_set rfl) ?_
        refine y_iinc (v := nI (i + 1)) C dX1_init_137 rfl (nI_1 i) rfl ?_
        refine y_goto (tgt := 120) C dX1_init_140 (by decide) ?_
        exact ih hlt
    · skip
      have hlt := lp_lt (N := 4) (by decide) hi c69
      refine y_aload_n C dX1_init_72 rfl ?_
      refine y_getf C bk_X1 (i := w0.length + 0) (w_ix rfl) 1 fw_X1_35 rfl rfl dX1_init_73 ?_
      refine y_iload_n C dX1_init_76 rfl ?_
      refine y_iconst (v := 2) C dX1_init_77 (by decide) ?_
      refine y_bipush (v := 60) C dX1_init_78 (by decide) ?_
      refine y_callV C (fun h => absurd h (by decide)) (c_X5_putY l g _ (i := w0.length + 3) (k := w0.length + 4) (w_ix rfl) (w_ix rfl) (a := i) (b := 2) rfl rfl (nI_lt hlt (by decide)) (by omega) (by decide) _) o_X5_put mw_X1_25 (i := w0.length + 3) (w_ix rfl) rfl rfl rfl rfl rfl rfl ⟨rfl, rfl⟩ dX1_init_80 (fun _ _ => ?_)
      refine Y.to (ws' := w0 ++ [(a, .inr (1, [.ref u1, .ref u3, .null, .null, .int 0, .int 0, .int 0])), (u1, .inr (4, [.int 8, .ref (gsa g 0), .ref (gsa g 1), .ref (v2 0)])), ((v2 0), eI g 32 (egF 8)), (u3, .inr (4, [.int 4, .ref (gsa g 2), .ref (gsa g 3), .ref (v4 0)])), ((v4 0), eI g 32 (upd (hnF i) (4 * i + 2) 60))]) (w_set rfl) ?_
      refine y_aload_n C dX1_init_83 rfl ?_
      refine y_getf C bk_X1 (i := w0.length + 0) (w_ix rfl) 1 fw_X1_35 rfl rfl dX1_init_84 ?_
      refine y_iload_n C dX1_init_87 rfl ?_
      refine y_iconst (v := 3) C dX1_init_88 (by decide) ?_
      refine y_iload_n C dX1_init_89 rfl ?_
      refine y_callV C (fun h => absurd h (by decide)) (c_X5_putY l g _ (i := w0.length + 3) (k := w0.length + 4) (w_ix rfl) (w_ix rfl) (a := i) (b := 3) rfl rfl (nI_lt hlt (by decide)) (by omega) (by decide) _) o_X5_put mw_X1_25 (i := w0.length + 3) (w_ix rfl) rfl rfl rfl rfl rfl rfl ⟨rfl, rfl⟩ dX1_init_90 (fun _ _ => ?_)
      refine Y.to (ws' := w0 ++ [(a, .inr (1, [.ref u1, .ref u3, .null, .null, .int 0, .int 0, .int 0])), (u1, .inr (4, [.int 8, .ref (gsa g 0), .ref (gsa g 1), .ref (v2 0)])), ((v2 0), eI g 32 (egF 8)), (u3, .inr (4, [.int 4, .ref (gsa g 2), .ref (gsa g 3), .ref (v4 0)])), ((v4 0), eI g 32 (hnF (i + 1)))]) (w_set rfl) ?_
      refine y_iinc (v := nI (i + 1)) C dX1_init_93 rfl (nI_1 i) rfl ?_
      refine y_goto (tgt := 67) C dX1_init_96 (by decide) ?_
      exact ih hlt
  · skip
    have hlt := lp_lt (N := 8) (by decide) hi c28
    refine y_aload_n C dX1_init_31 rfl ?_
    refine y_getf C bk_X1 (i := w0.length + 0) (w_ix rfl) 0 fw_X1_21 rfl rfl dX1_init_32 ?_
    refine y_iload_n C dX1_init_35 rfl ?_
    refine y_iconst (v := 0) C dX1_init_36 (by decide) ?_
    refine y_iconst (v := -1) C dX1_init_37 (by decide) ?_
    refine y_callV C (fun h => absurd h (by decide)) (c_X5_putY l g _ (i := w0.length + 1) (k := w0.length + 2) (w_ix rfl) (w_ix rfl) (a := i) (b := 0) rfl rfl (nI_lt hlt (by decide)) hlt (by decide) _) o_X5_put mw_X1_25 (i := w0.length + 1) (w_ix rfl) rfl rfl rfl rfl rfl rfl ⟨rfl, rfl⟩ dX1_init_38 (fun _ _ => ?_)
    refine Y.to (ws' := w0 ++ [(a, .inr (1, [.ref u1, .null, .null, .null, .int 0, .int 0, .int 0])), (u1, .inr (4, [.int 8, .ref (gsa g 0), .ref (gsa g 1), .ref (v2 0)])), ((v2 0), eI g 32 (egF (i + 1)))]) (w_set rfl) ?_
    refine y_iinc (v := nI (i + 1)) C dX1_init_41 rfl (nI_1 i) rfl ?_
    refine y_goto (tgt := 25) C dX1_init_44 (by decide) ?_
    exact ih hlt

