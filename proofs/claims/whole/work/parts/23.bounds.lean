set_option maxHeartbeats 4000000 in
set_option maxRecDepth 100000 in
theorem c_X1_begin (lc : Launch) (D : va_G) (cI cZ : ClassId) (N : Nat) (k : Nat) (kn : Nat) (nb : Nat → Int) : CM lc D cI cZ N yX1_begin wsX1_begin (rmK 1 26) [.ref k] [(k, .inr (1, [.ref kn])), (kn, .inl (cI, 24, .inl (vI nb)))] none [(k, .inr (1, [.ref kn])), (kn, .inl (cI, 24, .inl (vI nbFirst)))] := by
  refine CM.V (cc := cX1_begin) (maxL := 2) (by decide) rfl (Nat.le_of_ble_eq_true rfl) ?_
  intro p e s m args below meth c R Q S hE A hAN hfr hlo hP hD hS hret ls hl
  have S : CallFix p m c cX1_begin 2 s args wsX1_begin RX1 := S
  have hx := S.1
  have hb := S.2.1
  have hl : lv_has ls 2 [(0, .ref k)] := hl
  obtain ⟨z0, hZ, hT⟩ := hE.2.2.2.2.2
  refine lv_iconst (v := iI 0) hx hb dX1_begin_0 rfl ?_
  refine lv_istore_n (lv' := [(1, .int (iI 0)), (0, .ref k)]) hx hb dX1_begin_1 rfl hl (by decide) rfl (fun ls hl => ?_)
  have loop : ∀ (n i : Nat), i + n = 4 → ∀ (H : Heap) (locs : List Loc) (ls : Array Slot), va_P D vwCl [(k, .inr (1, [.ref kn])), (kn, .inl (cI, 24, .inl (vI (fun j => if j < i * 6 then nbFirst j else nb j))))] H → va_D A [(k, .inr (1, [.ref kn])), (kn, .inl (cI, 24, .inl (vI (fun j => if j < i * 6 then nbFirst j else nb j))))] → va_S A s.heap H locs → lv_has ls 2 [(1, .int (iI ((i : Nat) : Int))), (0, .ref k)] → W p lc e R s m args below meth c H locs 0 0 Q (F0 m 2 ls []) := by
    intro n
    induction n with
    | zero =>
      intro i hm H locs ls hP hD hS hl
      refine lv_iload_n hx hb dX1_begin_2 rfl (lv_at hl 0 rfl) ?_
      refine lv_iconst (v := iI 4) hx hb dX1_begin_3 rfl ?_
      refine c_geT (tgt := 30) S dX1_begin_4 (by decide) (by omega) (by omega) (by omega) ?_
      exact hret _ _ _ _ dX1_begin_30 (P_row (q0 := 1) (g := vI nbFirst) hP rfl (fun k hk => by simp only [vI]; rw [if_pos (by omega)])) hS
    | succ n ih =>
      intro i hm H locs ls hP hD hS hl
      refine lv_iload_n hx hb dX1_begin_2 rfl (lv_at hl 0 rfl) ?_
      refine lv_iconst (v := iI 4) hx hb dX1_begin_3 rfl ?_
      refine c_geF (tgt := 30) S dX1_begin_4 (by decide) (by omega) (by omega) (by omega) ?_
      refine w_getsN S hZ hAN hS hE.2.2.1.2.2.2.2.2.2.2 dX1_begin_7 ?_
      refine lv_iconst (v := iI 0) hx hb dX1_begin_10 rfl ?_
      refine lv_aload_n hx hb dX1_begin_11 rfl (lv_at hl 1 rfl) ?_
      refine w_get (C := RX1) (T := TX1) (Nf := 1) (ci := 1) (v := .ref kn) S (fun _ h => List.mem_cons_of_mem _ (List.mem_append_right _ h)) hE hP 0 rfl rfl 0 (by decide) (List.mem_of_getElem? (i := 1) rfl) rfl dX1_begin_12 ?_
      refine lv_iload_n hx hb dX1_begin_15 rfl (lv_at hl 0 rfl) ?_
      refine lv_bipush (v := iI 6) hx hb dX1_begin_16 (by decide) ?_
      refine w_imul S dX1_begin_18 ?_
      refine lv_bipush (v := iI 6) hx hb dX1_begin_19 (by decide) ?_
      refine w_copyT S hE hl.1 (List.mem_of_getElem? (i := 2) rfl) (List.mem_of_getElem? (i := 3) rfl) (List.mem_of_getElem? (i := 4) rfl) (List.mem_of_getElem? (i := 5) rfl) (Nat.le_trans (Nat.le_of_ble_eq_true rfl) hfr) (Nat.le_trans (Nat.le_of_ble_eq_true rfl) hlo) (Nat.le_of_ble_eq_true rfl) hP hD hS hAN hT 1 rfl (by omega) (i * 6) 6 (by omega) (by omega) (by omega) (by omega) dX1_begin_21 (fun H locs hP hD hS => ?_)
      rw [first_s] at hP hD
      refine w_iinc (v := ((i + 1 : Nat) : Int)) (lv' := [(1, .int (iI ((i + 1 : Nat) : Int))), (0, .ref k)]) S dX1_begin_24 hl (k := 0) rfl (by omega) (by decide) rfl (fun ls hl => ?_)
      refine lv_goto (tgt := 2) hx hb dX1_begin_27 (by decide) ?_
      exact ih (i + 1) (by omega) _ _ _ hP hD hS hl
  have h0 : nb = (fun j => if j < 0 * 6 then nbFirst j else nb j) := funext fun j => by simp
  rw [h0] at hP hD
  exact loop 4 0 (by omega) _ _ _ hP hD hS hl
set_option maxHeartbeats 4000000 in
set_option maxRecDepth 100000 in
theorem c_X0_cell (lc : Launch) (D : va_G) (cI cZ : ClassId) (N : Nat) (x : Int) (y : Int)  : CR lc D cI cZ N yX0_cell wsX0_cell (rmK 0 0) [.int (iI (x)), .int (iI (y))] [] (some (.int (iI (x * 5 + y)))) := by
  refine CR.I (cc := cX0_cell) (maxL := 2) (by decide) rfl (Nat.le_of_ble_eq_true rfl) ?_
  intro p e s m args below meth c R Q S hE A hAN hfr hlo hP hD hS hret ls hl
  have S : CallFix p m c cX0_cell 2 s args wsX0_cell RX0 := S
  have hx := S.1
  have hb := S.2.1
  have hl : lv_has ls 2 [(0, .int (iI (x))), (1, .int (iI (y)))] := hl
  refine lv_iload_n hx hb dX0_cell_0 rfl (lv_at hl 0 rfl) ?_
  refine lv_iconst (v := iI (5)) hx hb dX0_cell_1 rfl ?_
  refine w_imul S dX0_cell_2 ?_
  refine lv_iload_n hx hb dX0_cell_3 rfl (lv_at hl 1 rfl) ?_
  refine w_iadd S dX0_cell_4 ?_
  exact hret _ _ _ dX0_cell_5 (congrArg iI (by omega))
set_option maxHeartbeats 4000000 in
set_option maxRecDepth 100000 in
theorem c_X0_begin (lc : Launch) (D : va_G) (cI cZ : ClassId) (N : Nat) (b : Nat) (bm : Nat) (br : Nat) (mo : Nat → Int) (re : Nat → Int)  : CM lc D cI cZ N yX0_begin wsX0_begin (rmK 1 23) [.ref b] [(b, .inr (0, [.ref bm, .ref br])), (bm, .inl (cI, 25, .inl (vI mo))), (br, .inl (cI, 5, .inl (vI re)))] none [(b, .inr (0, [.ref bm, .ref br])), (bm, .inl (cI, 25, .inl (vI (fun _ => 1000000000)))), (br, .inl (cI, 5, .inl (vI re)))] := by
  refine CM.V (cc := cX0_begin) (maxL := 1) (by decide) rfl (Nat.le_of_ble_eq_true rfl) ?_
  intro p e s m args below meth c R Q S hE A hAN hfr hlo hP hD hS hret ls hl
  have S : CallFix p m c cX0_begin 1 s args wsX0_begin RX0 := S
  have hx := S.1
  have hb := S.2.1
  have hl : lv_has ls 1 [(0, .ref b)] := hl
  refine lv_aload_n hx hb dX0_begin_0 rfl (lv_at hl 0 rfl) ?_
  refine w_get (C := RX0) (T := TX0) (Nf := 2) (ci := 0) (v := .ref bm) S (fun _ h => List.mem_cons_of_mem _ (List.mem_append_right _ h)) hE hP 0 rfl rfl 0 (by decide) (List.mem_of_getElem? (i := 1) rfl) rfl dX0_begin_1 ?_
  refine w_ldc (z := 1000000000) S (List.mem_of_getElem? (i := 2) rfl) (by decide) dX0_begin_4 ?_
  refine kS_M (n := 2) S (c_fill lc D cI cZ N bm 25 mo 1000000000 (by omega)) gX0_begin_J7_fill_53178 rfl (by decide +kernel) rfl rfl ⟨Nat.le_trans (Nat.le_of_ble_eq_true rfl) hfr, Nat.le_trans (Nat.le_of_ble_eq_true rfl) hlo⟩ hE hAN hP hD hS [1] rfl (by decide) rfl rfl hl.1 [] rfl (Nat.le_of_ble_eq_true rfl) dX0_begin_6 ⟨Nat.zero_le _, Nat.zero_le _⟩ (fun H locs hP hD hS => ?_)
  have hP : va_P D vwCl [(b, .inr (0, [.ref bm, .ref br])), (bm, .inl (cI, 25, .inl (vI (fun _ => 1000000000)))), (br, .inl (cI, 5, .inl (vI re)))] H := hP
  have hD : va_D A [(b, .inr (0, [.ref bm, .ref br])), (bm, .inl (cI, 25, .inl (vI (fun _ => 1000000000)))), (br, .inl (cI, 5, .inl (vI re)))] := hD
  refine W.eq (g2 := F0 m 9 ls []) rfl ?_
  exact hret _ _ _ _ dX0_begin_9 hP hS
set_option maxHeartbeats 4000000 in
set_option maxRecDepth 100000 in
theorem c_X0_copyFrom (lc : Launch) (D : va_G) (cI cZ : ClassId) (N : Nat) (b : Nat) (bm : Nat) (br : Nat) (mo : Nat → Int) (re : Nat → Int) (b2 : Nat) (bm2 : Nat) (br2 : Nat) (mo2 : Nat → Int) (re2 : Nat → Int)  : CM lc D cI cZ N yX0_copyFrom wsX0_copyFrom (rmK 1 26) [.ref b, .ref b2] [(b, .inr (0, [.ref bm, .ref br])), (bm, .inl (cI, 25, .inl (vI mo))), (br, .inl (cI, 5, .inl (vI re))), (b2, .inr (0, [.ref bm2, .ref br2])), (bm2, .inl (cI, 25, .inl (vI mo2))), (br2, .inl (cI, 5, .inl (vI re2)))] none [(b, .inr (0, [.ref bm, .ref br])), (bm, .inl (cI, 25, .inl (vI mo2))), (br, .inl (cI, 5, .inl (vI re))), (b2, .inr (0, [.ref bm2, .ref br2])), (bm2, .inl (cI, 25, .inl (vI mo2))), (br2, .inl (cI, 5, .inl (vI re2)))] := by
  refine CM.V (cc := cX0_copyFrom) (maxL := 2) (by decide) rfl (Nat.le_of_ble_eq_true rfl) ?_
  intro p e s m args below meth c R Q S hE A hAN hfr hlo hP hD hS hret ls hl
  have S : CallFix p m c cX0_copyFrom 2 s args wsX0_copyFrom RX0 := S
  have hx := S.1
  have hb := S.2.1
  have hl : lv_has ls 2 [(0, .ref b), (1, .ref b2)] := hl
  refine lv_aload_n hx hb dX0_copyFrom_0 rfl (lv_at hl 1 rfl) ?_
  refine w_get (C := RX0) (T := TX0) (Nf := 2) (ci := 0) (v := .ref bm2) S (fun _ h => List.mem_cons_of_mem _ (List.mem_append_right _ h)) hE hP 3 rfl rfl 0 (by decide) (List.mem_of_getElem? (i := 1) rfl) rfl dX0_copyFrom_1 ?_
  refine lv_iconst (v := iI (0)) hx hb dX0_copyFrom_4 rfl ?_
  refine lv_aload_n hx hb dX0_copyFrom_5 rfl (lv_at hl 0 rfl) ?_
  refine w_get (C := RX0) (T := TX0) (Nf := 2) (ci := 0) (v := .ref bm) S (fun _ h => List.mem_cons_of_mem _ (List.mem_append_right _ h)) hE hP 0 rfl rfl 0 (by decide) (List.mem_of_getElem? (i := 1) rfl) rfl dX0_copyFrom_6 ?_
  refine lv_iconst (v := iI (0)) hx hb dX0_copyFrom_9 rfl ?_
  refine lv_aload_n hx hb dX0_copyFrom_10 rfl (lv_at hl 0 rfl) ?_
  refine w_get (C := RX0) (T := TX0) (Nf := 2) (ci := 0) (v := .ref bm) S (fun _ h => List.mem_cons_of_mem _ (List.mem_append_right _ h)) hE hP 0 rfl rfl 0 (by decide) (List.mem_of_getElem? (i := 1) rfl) rfl dX0_copyFrom_11 ?_
  refine w_alen S hE hP 1 rfl dX0_copyFrom_14 ?_
  refine w_copy S hE hl.1 (List.mem_of_getElem? (i := 2) rfl) (List.mem_of_getElem? (i := 3) rfl) (List.mem_of_getElem? (i := 4) rfl) (List.mem_of_getElem? (i := 5) rfl) (Nat.le_trans (Nat.le_of_ble_eq_true rfl) hfr) (Nat.le_trans (Nat.le_of_ble_eq_true rfl) hlo) (Nat.le_of_ble_eq_true rfl) hP hD hS 4 1 rfl rfl (by decide) (by omega) dX0_copyFrom_15 (fun H locs hP hD hS => ?_)
  have hP : va_P D vwCl [(b, .inr (0, [.ref bm, .ref br])), (bm, .inl (cI, 25, .inl (vI mo2))), (br, .inl (cI, 5, .inl (vI re))), (b2, .inr (0, [.ref bm2, .ref br2])), (bm2, .inl (cI, 25, .inl (vI mo2))), (br2, .inl (cI, 5, .inl (vI re2)))] H := hP
  have hD : va_D A [(b, .inr (0, [.ref bm, .ref br])), (bm, .inl (cI, 25, .inl (vI mo2))), (br, .inl (cI, 5, .inl (vI re))), (b2, .inr (0, [.ref bm2, .ref br2])), (bm2, .inl (cI, 25, .inl (vI mo2))), (br2, .inl (cI, 5, .inl (vI re2)))] := hD
  exact hret _ _ _ _ dX0_copyFrom_18 hP hS
set_option maxHeartbeats 4000000 in
set_option maxRecDepth 100000 in
theorem c_forget (lc : Launch) (D : va_G) (cI cZ : ClassId) (N : Nat) (b : Nat) (bm : Nat) (br : Nat) (mo : Nat → Int) (re : Nat → Int) (n : Nat) (hn : n < 5) : CM lc D cI cZ N yX0_forget wsX0_forget (rmK 1 21) [.ref b, .int (iI (((n : Nat) : Int)))] [(b, .inr (0, [.ref bm, .ref br])), (bm, .inl (cI, 25, .inl (vI mo))), (br, .inl (cI, 5, .inl (vI re)))] none [(b, .inr (0, [.ref bm, .ref br])), (bm, .inl (cI, 25, .inl (vI (fgt mo n 5)))), (br, .inl (cI, 5, .inl (vI re)))] := by
  refine CM.V (cc := cX0_forget) (maxL := 3) (by decide) rfl (Nat.le_of_ble_eq_true rfl) ?_
  intro p e s m args below meth c R Q S hE A hAN hfr hlo hP hD hS hret ls hl
  have S : CallFix p m c cX0_forget 3 s args wsX0_forget RX0 := S
  have hx := S.1
  have hb := S.2.1
  have hl : lv_has ls 3 [(0, .ref b), (1, .int (iI (((n : Nat) : Int))))] := hl
  refine lv_iconst (v := iI (0)) hx hb dX0_forget_0 rfl ?_
  refine lv_istore_n (lv' := [(2, .int (iI (0))), (0, .ref b), (1, .int (iI (((n : Nat) : Int))))]) hx hb dX0_forget_1 rfl hl (by decide) rfl (fun ls hl => ?_)
  have loop1 : ∀ (q i : Nat) , i + q = 5 → ∀ (H : Heap) (locs : List Loc) (ls : Array Slot), va_P D vwCl [(b, .inr (0, [.ref bm, .ref br])), (bm, .inl (cI, 25, .inl (vI (fgt mo n i)))), (br, .inl (cI, 5, .inl (vI re)))] H → va_D A [(b, .inr (0, [.ref bm, .ref br])), (bm, .inl (cI, 25, .inl (vI (fgt mo n i)))), (br, .inl (cI, 5, .inl (vI re)))] → va_S A s.heap H locs → lv_has ls 3 [(2, .int (iI (((i : Nat) : Int)))), (0, .ref b), (1, .int (iI (((n : Nat) : Int))))] → W p lc e R s m args below meth c H locs 0 0 Q (F0 m 2 ls []) := by
    intro q
    induction q with
    | zero =>
      intro i  hm  H locs ls hP hD hS hl
      refine lv_iload_n hx hb dX0_forget_2 rfl (lv_at hl 0 rfl) ?_
      refine lv_iconst (v := iI (5)) hx hb dX0_forget_3 rfl ?_
      refine c_geT (tgt := 37) S dX0_forget_4 (by decide) (by omega) (by omega) (by omega) ?_
      have hi5 : i = 5 := by omega
      subst hi5
      exact hret _ _ _ _ dX0_forget_37 hP hS
    | succ q ih1 =>
      intro i  hm  H locs ls hP hD hS hl
      refine lv_iload_n hx hb dX0_forget_2 rfl (lv_at hl 0 rfl) ?_
      refine lv_iconst (v := iI (5)) hx hb dX0_forget_3 rfl ?_
      refine c_geF (tgt := 37) S dX0_forget_4 (by decide) (by omega) (by omega) (by omega) ?_
      refine lv_aload_n hx hb dX0_forget_7 rfl (lv_at hl 1 rfl) ?_
      refine w_get (C := RX0) (T := TX0) (Nf := 2) (ci := 0) (v := .ref bm) S (fun _ h => List.mem_cons_of_mem _ (List.mem_append_right _ h)) hE hP 0 rfl rfl 0 (by decide) (List.mem_of_getElem? (i := 1) rfl) rfl dX0_forget_8 ?_
      refine lv_iload_n hx hb dX0_forget_11 rfl (lv_at hl 2 rfl) ?_
      refine lv_iload_n hx hb dX0_forget_12 rfl (lv_at hl 0 rfl) ?_
      refine kS_R (n := 2) S (c_X0_cell lc D cI cZ N ((n : Nat) : Int) ((i : Nat) : Int) ) gX0_forget_X0_cell rfl (by decide +kernel) rfl rfl ⟨Nat.le_trans (Nat.le_of_ble_eq_true rfl) hfr, Nat.le_trans (Nat.le_of_ble_eq_true rfl) hlo⟩ hE hAN hP hD hS [] rfl (by decide) rfl hl.1 [.ref bm] rfl (Nat.le_of_ble_eq_true rfl) dX0_forget_13 ⟨Nat.zero_le _, Nat.zero_le _⟩ ?_
      refine W.eq (g2 := F0 m 16 ls [.int (iI (((n : Nat) : Int) * 5 + ((i : Nat) : Int))), .ref bm]) rfl ?_
      refine w_ldc (z := 1000000000) S (List.mem_of_getElem? (i := 2) rfl) (by decide) dX0_forget_16 ?_
      refine w_iast S hE hP hD hS 1 rfl (n * 5 + i) (by omega) (by omega) (by omega) dX0_forget_18 (fun H locs hP hD hS => ?_)
      have hP : va_P D vwCl [(b, .inr (0, [.ref bm, .ref br])), (bm, .inl (cI, 25, .inl (vI (updI (fgt mo n i) (n * 5 + i) 1000000000)))), (br, .inl (cI, 5, .inl (vI re)))] H := hP
      have hD : va_D A [(b, .inr (0, [.ref bm, .ref br])), (bm, .inl (cI, 25, .inl (vI (updI (fgt mo n i) (n * 5 + i) 1000000000)))), (br, .inl (cI, 5, .inl (vI re)))] := hD
      refine lv_aload_n hx hb dX0_forget_19 rfl (lv_at hl 1 rfl) ?_
      refine w_get (C := RX0) (T := TX0) (Nf := 2) (ci := 0) (v := .ref bm) S (fun _ h => List.mem_cons_of_mem _ (List.mem_append_right _ h)) hE hP 0 rfl rfl 0 (by decide) (List.mem_of_getElem? (i := 1) rfl) rfl dX0_forget_20 ?_
      refine lv_iload_n hx hb dX0_forget_23 rfl (lv_at hl 0 rfl) ?_
      refine lv_iload_n hx hb dX0_forget_24 rfl (lv_at hl 2 rfl) ?_
      refine kS_R (n := 2) S (c_X0_cell lc D cI cZ N ((i : Nat) : Int) ((n : Nat) : Int) ) gX0_forget_X0_cell rfl (by decide +kernel) rfl rfl ⟨Nat.le_trans (Nat.le_of_ble_eq_true rfl) hfr, Nat.le_trans (Nat.le_of_ble_eq_true rfl) hlo⟩ hE hAN hP hD hS [] rfl (by decide) rfl hl.1 [.ref bm] rfl (Nat.le_of_ble_eq_true rfl) dX0_forget_25 ⟨Nat.zero_le _, Nat.zero_le _⟩ ?_
      refine W.eq (g2 := F0 m 28 ls [.int (iI (((i : Nat) : Int) * 5 + ((n : Nat) : Int))), .ref bm]) rfl ?_
      refine w_ldc (z := 1000000000) S (List.mem_of_getElem? (i := 2) rfl) (by decide) dX0_forget_28 ?_
      refine w_iast S hE hP hD hS 1 rfl (i * 5 + n) (by omega) (by omega) (by omega) dX0_forget_30 (fun H locs hP hD hS => ?_)
      have hP : va_P D vwCl [(b, .inr (0, [.ref bm, .ref br])), (bm, .inl (cI, 25, .inl (vI (updI (updI (fgt mo n i) (n * 5 + i) 1000000000) (i * 5 + n) 1000000000)))), (br, .inl (cI, 5, .inl (vI re)))] H := hP
      have hD : va_D A [(b, .inr (0, [.ref bm, .ref br])), (bm, .inl (cI, 25, .inl (vI (updI (updI (fgt mo n i) (n * 5 + i) 1000000000) (i * 5 + n) 1000000000)))), (br, .inl (cI, 5, .inl (vI re)))] := hD
      refine w_iinc (v := ((i + 1 : Nat) : Int)) (lv' := [(2, .int (iI (((i + 1 : Nat) : Int)))), (0, .ref b), (1, .int (iI (((n : Nat) : Int))))]) S dX0_forget_31 hl (k := 0) rfl (by omega) (by decide) rfl (fun ls hl => ?_)
      refine lv_goto (tgt := 2) hx hb dX0_forget_34 (by decide) ?_
      have hcell : updI (updI (fgt mo n i) (n * 5 + i) 1000000000) (i * 5 + n) 1000000000 = fgt mo n (i + 1) := (fgt_s mo n i hn (by omega))
      rw [hcell] at hP hD
      exact ih1 (i + 1)  (by omega)  _ _ _ hP hD hS (lv_sub hl [0, 1, 2] rfl)
  have hcell : mo = fgt mo n 0 := (fgt_0 mo n)
  rw [hcell] at hP hD
  exact loop1 5 0  (by omega)  _ _ _ hP hD hS (lv_sub hl [0, 1, 2] rfl)
set_option maxHeartbeats 4000000 in
set_option maxRecDepth 100000 in
theorem c_narrow (lc : Launch) (D : va_G) (cI cZ : ClassId) (N : Nat) (b : Nat) (bm : Nat) (br : Nat) (mo : Nat → Int) (re : Nat → Int) (f : Nat) (g : Nat) (x : Int) (y : Int) (hf : f < 5) (hg : g < 5) (hmo : ∀ k, k < 25 → -1000 ≤ mo k ∧ mo k ≤ 1000000000) (hx1 : -100000 ≤ x ∧ x ≤ 100000) (hy1 : -100000 ≤ y ∧ y ≤ 100000) : CM lc D cI cZ N yX0_narrow wsX0_narrow (rmK 1 21) [.ref b, .int (iI (((f : Nat) : Int))), .int (iI (((g : Nat) : Int))), .int (iI (x)), .int (iI (y))] [(b, .inr (0, [.ref bm, .ref br])), (bm, .inl (cI, 25, .inl (vI mo))), (br, .inl (cI, 5, .inl (vI re)))] none [(b, .inr (0, [.ref bm, .ref br])), (bm, .inl (cI, 25, .inl (vI (nrw mo f g x y)))), (br, .inl (cI, 5, .inl (vI re)))] := by
  refine CM.V (cc := cX0_narrow) (maxL := 5) (by decide) rfl (Nat.le_of_ble_eq_true rfl) ?_
  intro p e s m args below meth c R Q S hE A hAN hfr hlo hP hD hS hret ls hl
  have S : CallFix p m c cX0_narrow 5 s args wsX0_narrow RX0 := S
  have hx := S.1
  have hb := S.2.1
  have hl : lv_has ls 5 [(0, .ref b), (1, .int (iI (((f : Nat) : Int)))), (2, .int (iI (((g : Nat) : Int)))), (3, .int (iI (x))), (4, .int (iI (y)))] := hl
  have h1 := hmo (f * 5 + g) (by omega)
  have h2 := hmo (g * 5 + f) (by omega)
  have h3 : -100000 ≤ updI mo (f * 5 + g) (if x < mo (f * 5 + g) then x else mo (f * 5 + g)) (g * 5 + f) ∧ updI mo (f * 5 + g) (if x < mo (f * 5 + g) then x else mo (f * 5 + g)) (g * 5 + f) ≤ 1000000000 := by
    unfold updI
    split
    · split <;> omega
    · omega
  refine lv_aload_n hx hb dX0_narrow_0 rfl (lv_at hl 0 rfl) ?_
  refine w_get (C := RX0) (T := TX0) (Nf := 2) (ci := 0) (v := .ref bm) S (fun _ h => List.mem_cons_of_mem _ (List.mem_append_right _ h)) hE hP 0 rfl rfl 0 (by decide) (List.mem_of_getElem? (i := 1) rfl) rfl dX0_narrow_1 ?_
  refine lv_iload_n hx hb dX0_narrow_4 rfl (lv_at hl 1 rfl) ?_
  refine lv_iload_n hx hb dX0_narrow_5 rfl (lv_at hl 2 rfl) ?_
  refine kS_R (n := 2) S (c_X0_cell lc D cI cZ N ((f : Nat) : Int) ((g : Nat) : Int) ) gX0_narrow_X0_cell rfl (by decide +kernel) rfl rfl ⟨Nat.le_trans (Nat.le_of_ble_eq_true rfl) hfr, Nat.le_trans (Nat.le_of_ble_eq_true rfl) hlo⟩ hE hAN hP hD hS [] rfl (by decide) rfl hl.1 [.ref bm] rfl (Nat.le_of_ble_eq_true rfl) dX0_narrow_6 ⟨Nat.zero_le _, Nat.zero_le _⟩ ?_
  refine W.eq (g2 := F0 m 9 ls [.int (iI (((f : Nat) : Int) * 5 + ((g : Nat) : Int))), .ref bm]) rfl ?_
  refine lv_aload_n hx hb dX0_narrow_9 rfl (lv_at hl 0 rfl) ?_
  refine w_get (C := RX0) (T := TX0) (Nf := 2) (ci := 0) (v := .ref bm) S (fun _ h => List.mem_cons_of_mem _ (List.mem_append_right _ h)) hE hP 0 rfl rfl 0 (by decide) (List.mem_of_getElem? (i := 1) rfl) rfl dX0_narrow_10 ?_
  refine lv_iload_n hx hb dX0_narrow_13 rfl (lv_at hl 1 rfl) ?_
  refine lv_iload_n hx hb dX0_narrow_14 rfl (lv_at hl 2 rfl) ?_
  refine kS_R (n := 2) S (c_X0_cell lc D cI cZ N ((f : Nat) : Int) ((g : Nat) : Int) ) gX0_narrow_X0_cell rfl (by decide +kernel) rfl rfl ⟨Nat.le_trans (Nat.le_of_ble_eq_true rfl) hfr, Nat.le_trans (Nat.le_of_ble_eq_true rfl) hlo⟩ hE hAN hP hD hS [] rfl (by decide) rfl hl.1 [.ref bm, .int (iI (((f : Nat) : Int) * 5 + ((g : Nat) : Int))), .ref bm] rfl (Nat.le_of_ble_eq_true rfl) dX0_narrow_15 ⟨Nat.zero_le _, Nat.zero_le _⟩ ?_
  refine W.eq (g2 := F0 m 18 ls [.int (iI (((f : Nat) : Int) * 5 + ((g : Nat) : Int))), .ref bm, .int (iI (((f : Nat) : Int) * 5 + ((g : Nat) : Int))), .ref bm]) rfl ?_
  refine w_iald S hE hP 1 rfl (f * 5 + g) (by omega) (by omega) (by omega) dX0_narrow_18 ?_
  refine lv_iload_n hx hb dX0_narrow_19 rfl (lv_at hl 3 rfl) ?_
  refine w_min S hl.1 (List.mem_of_getElem? (i := 2) rfl) (List.mem_of_getElem? (i := 3) rfl) (List.mem_of_getElem? (i := 4) rfl) (List.mem_of_getElem? (i := 5) rfl) (Nat.le_trans (Nat.le_of_ble_eq_true rfl) hfr) (Nat.le_trans (Nat.le_of_ble_eq_true rfl) hlo) (Nat.le_of_ble_eq_true rfl) (by omega) (by omega) dX0_narrow_20 ?_
  refine w_iast S hE hP hD hS 1 rfl (f * 5 + g) (by omega) (by omega) (by omega) dX0_narrow_23 (fun H locs hP hD hS => ?_)
  have hP : va_P D vwCl [(b, .inr (0, [.ref bm, .ref br])), (bm, .inl (cI, 25, .inl (vI (updI mo (f * 5 + g) (if x < mo (f * 5 + g) then x else mo (f * 5 + g)))))), (br, .inl (cI, 5, .inl (vI re)))] H := hP
  have hD : va_D A [(b, .inr (0, [.ref bm, .ref br])), (bm, .inl (cI, 25, .inl (vI (updI mo (f * 5 + g) (if x < mo (f * 5 + g) then x else mo (f * 5 + g)))))), (br, .inl (cI, 5, .inl (vI re)))] := hD
  refine lv_aload_n hx hb dX0_narrow_24 rfl (lv_at hl 0 rfl) ?_
  refine w_get (C := RX0) (T := TX0) (Nf := 2) (ci := 0) (v := .ref bm) S (fun _ h => List.mem_cons_of_mem _ (List.mem_append_right _ h)) hE hP 0 rfl rfl 0 (by decide) (List.mem_of_getElem? (i := 1) rfl) rfl dX0_narrow_25 ?_
  refine lv_iload_n hx hb dX0_narrow_28 rfl (lv_at hl 2 rfl) ?_
  refine lv_iload_n hx hb dX0_narrow_29 rfl (lv_at hl 1 rfl) ?_
  refine kS_R (n := 2) S (c_X0_cell lc D cI cZ N ((g : Nat) : Int) ((f : Nat) : Int) ) gX0_narrow_X0_cell rfl (by decide +kernel) rfl rfl ⟨Nat.le_trans (Nat.le_of_ble_eq_true rfl) hfr, Nat.le_trans (Nat.le_of_ble_eq_true rfl) hlo⟩ hE hAN hP hD hS [] rfl (by decide) rfl hl.1 [.ref bm] rfl (Nat.le_of_ble_eq_true rfl) dX0_narrow_30 ⟨Nat.zero_le _, Nat.zero_le _⟩ ?_
  refine W.eq (g2 := F0 m 33 ls [.int (iI (((g : Nat) : Int) * 5 + ((f : Nat) : Int))), .ref bm]) rfl ?_
  refine lv_aload_n hx hb dX0_narrow_33 rfl (lv_at hl 0 rfl) ?_
  refine w_get (C := RX0) (T := TX0) (Nf := 2) (ci := 0) (v := .ref bm) S (fun _ h => List.mem_cons_of_mem _ (List.mem_append_right _ h)) hE hP 0 rfl rfl 0 (by decide) (List.mem_of_getElem? (i := 1) rfl) rfl dX0_narrow_34 ?_
  refine lv_iload_n hx hb dX0_narrow_37 rfl (lv_at hl 2 rfl) ?_
  refine lv_iload_n hx hb dX0_narrow_38 rfl (lv_at hl 1 rfl) ?_
  refine kS_R (n := 2) S (c_X0_cell lc D cI cZ N ((g : Nat) : Int) ((f : Nat) : Int) ) gX0_narrow_X0_cell rfl (by decide +kernel) rfl rfl ⟨Nat.le_trans (Nat.le_of_ble_eq_true rfl) hfr, Nat.le_trans (Nat.le_of_ble_eq_true rfl) hlo⟩ hE hAN hP hD hS [] rfl (by decide) rfl hl.1 [.ref bm, .int (iI (((g : Nat) : Int) * 5 + ((f : Nat) : Int))), .ref bm] rfl (Nat.le_of_ble_eq_true rfl) dX0_narrow_39 ⟨Nat.zero_le _, Nat.zero_le _⟩ ?_
  refine W.eq (g2 := F0 m 42 ls [.int (iI (((g : Nat) : Int) * 5 + ((f : Nat) : Int))), .ref bm, .int (iI (((g : Nat) : Int) * 5 + ((f : Nat) : Int))), .ref bm]) rfl ?_
  refine w_iald S hE hP 1 rfl (g * 5 + f) (by omega) (by omega) (by omega) dX0_narrow_42 ?_
  refine lv_iload hx hb dX0_narrow_43 (lv_at hl 4 rfl) ?_
  refine w_ineg S dX0_narrow_45 ?_
  refine w_min S hl.1 (List.mem_of_getElem? (i := 2) rfl) (List.mem_of_getElem? (i := 3) rfl) (List.mem_of_getElem? (i := 4) rfl) (List.mem_of_getElem? (i := 5) rfl) (Nat.le_trans (Nat.le_of_ble_eq_true rfl) hfr) (Nat.le_trans (Nat.le_of_ble_eq_true rfl) hlo) (Nat.le_of_ble_eq_true rfl) (by omega) (by omega) dX0_narrow_46 ?_
  refine w_iast S hE hP hD hS 1 rfl (g * 5 + f) (by omega) (by omega) (by omega) dX0_narrow_49 (fun H locs hP hD hS => ?_)
  have hP : va_P D vwCl [(b, .inr (0, [.ref bm, .ref br])), (bm, .inl (cI, 25, .inl (vI (updI (updI mo (f * 5 + g) (if x < mo (f * 5 + g) then x else mo (f * 5 + g))) (g * 5 + f) (if -y < (updI mo (f * 5 + g) (if x < mo (f * 5 + g) then x else mo (f * 5 + g))) (g * 5 + f) then -y else (updI mo (f * 5 + g) (if x < mo (f * 5 + g) then x else mo (f * 5 + g))) (g * 5 + f)))))), (br, .inl (cI, 5, .inl (vI re)))] H := hP
  have hD : va_D A [(b, .inr (0, [.ref bm, .ref br])), (bm, .inl (cI, 25, .inl (vI (updI (updI mo (f * 5 + g) (if x < mo (f * 5 + g) then x else mo (f * 5 + g))) (g * 5 + f) (if -y < (updI mo (f * 5 + g) (if x < mo (f * 5 + g) then x else mo (f * 5 + g))) (g * 5 + f) then -y else (updI mo (f * 5 + g) (if x < mo (f * 5 + g) then x else mo (f * 5 + g))) (g * 5 + f)))))), (br, .inl (cI, 5, .inl (vI re)))] := hD
  exact hret _ _ _ _ dX0_narrow_50 hP hS
set_option maxHeartbeats 4000000 in
set_option maxRecDepth 100000 in
theorem c_hasBoth_T (lc : Launch) (D : va_G) (cI cZ : ClassId) (N : Nat) (b : Nat) (bm : Nat) (br : Nat) (mo : Nat → Int) (re : Nat → Int) (f : Nat) (g : Nat) (hf : f < 5) (hg : g < 5) (hmo : ∀ k, k < 25 → -1000 ≤ mo k ∧ mo k ≤ 1000000000) (h : mo (f * 5 + g) ≠ 1000000000) : CR lc D cI cZ N yX0_hasBoth wsX0_hasBoth (rmK 1 21) [.ref b, .int (iI (((f : Nat) : Int))), .int (iI (((g : Nat) : Int)))] [(b, .inr (0, [.ref bm, .ref br])), (bm, .inl (cI, 25, .inl (vI mo))), (br, .inl (cI, 5, .inl (vI re)))] (some (.int (iI (1)))) := by
  refine CR.Z (cc := cX0_hasBoth) (maxL := 3) (by decide) rfl (Nat.le_of_ble_eq_true rfl) ?_
  intro p e s m args below meth c R Q S hE A hAN hfr hlo hP hD hS hret ls hl
  have S : CallFix p m c cX0_hasBoth 3 s args wsX0_hasBoth RX0 := S
  have hx := S.1
  have hb := S.2.1
  have hl : lv_has ls 3 [(0, .ref b), (1, .int (iI (((f : Nat) : Int)))), (2, .int (iI (((g : Nat) : Int))))] := hl
  have h1 := hmo (f * 5 + g) (by omega)
  refine lv_aload_n hx hb dX0_hasBoth_0 rfl (lv_at hl 0 rfl) ?_
  refine w_get (C := RX0) (T := TX0) (Nf := 2) (ci := 0) (v := .ref bm) S (fun _ h => List.mem_cons_of_mem _ (List.mem_append_right _ h)) hE hP 0 rfl rfl 0 (by decide) (List.mem_of_getElem? (i := 1) rfl) rfl dX0_hasBoth_1 ?_
  refine lv_iload_n hx hb dX0_hasBoth_4 rfl (lv_at hl 1 rfl) ?_
  refine lv_iload_n hx hb dX0_hasBoth_5 rfl (lv_at hl 2 rfl) ?_
  refine kS_R (n := 2) S (c_X0_cell lc D cI cZ N ((f : Nat) : Int) ((g : Nat) : Int) ) gX0_hasBoth_X0_cell rfl (by decide +kernel) rfl rfl ⟨Nat.le_trans (Nat.le_of_ble_eq_true rfl) hfr, Nat.le_trans (Nat.le_of_ble_eq_true rfl) hlo⟩ hE hAN hP hD hS [] rfl (by decide) rfl hl.1 [.ref bm] rfl (Nat.le_of_ble_eq_true rfl) dX0_hasBoth_6 ⟨Nat.zero_le _, Nat.zero_le _⟩ ?_
  refine W.eq (g2 := F0 m 9 ls [.int (iI (((f : Nat) : Int) * 5 + ((g : Nat) : Int))), .ref bm]) rfl ?_
  refine w_iald S hE hP 1 rfl (f * 5 + g) (by omega) (by omega) (by omega) dX0_hasBoth_9 ?_
  refine w_ldc (z := 1000000000) S (List.mem_of_getElem? (i := 2) rfl) (by decide) dX0_hasBoth_10 ?_
  refine c_eqF (tgt := 19) S dX0_hasBoth_12 (by decide) (by omega) (by omega) (by omega) ?_
  refine lv_iconst (v := iI (1)) hx hb dX0_hasBoth_15 rfl ?_
  refine lv_goto (tgt := 20) hx hb dX0_hasBoth_16 (by decide) ?_
  exact hret _ _ _ dX0_hasBoth_20 rfl (Or.inr rfl)
set_option maxHeartbeats 4000000 in
set_option maxRecDepth 100000 in
theorem c_hasBoth_F (lc : Launch) (D : va_G) (cI cZ : ClassId) (N : Nat) (b : Nat) (bm : Nat) (br : Nat) (mo : Nat → Int) (re : Nat → Int) (f : Nat) (g : Nat) (hf : f < 5) (hg : g < 5) (h : mo (f * 5 + g) = 1000000000) : CR lc D cI cZ N yX0_hasBoth wsX0_hasBoth (rmK 1 21) [.ref b, .int (iI (((f : Nat) : Int))), .int (iI (((g : Nat) : Int)))] [(b, .inr (0, [.ref bm, .ref br])), (bm, .inl (cI, 25, .inl (vI mo))), (br, .inl (cI, 5, .inl (vI re)))] (some (.int (iI (0)))) := by
  refine CR.Z (cc := cX0_hasBoth) (maxL := 3) (by decide) rfl (Nat.le_of_ble_eq_true rfl) ?_
  intro p e s m args below meth c R Q S hE A hAN hfr hlo hP hD hS hret ls hl
  have S : CallFix p m c cX0_hasBoth 3 s args wsX0_hasBoth RX0 := S
  have hx := S.1
  have hb := S.2.1
  have hl : lv_has ls 3 [(0, .ref b), (1, .int (iI (((f : Nat) : Int)))), (2, .int (iI (((g : Nat) : Int))))] := hl
  refine lv_aload_n hx hb dX0_hasBoth_0 rfl (lv_at hl 0 rfl) ?_
  refine w_get (C := RX0) (T := TX0) (Nf := 2) (ci := 0) (v := .ref bm) S (fun _ h => List.mem_cons_of_mem _ (List.mem_append_right _ h)) hE hP 0 rfl rfl 0 (by decide) (List.mem_of_getElem? (i := 1) rfl) rfl dX0_hasBoth_1 ?_
  refine lv_iload_n hx hb dX0_hasBoth_4 rfl (lv_at hl 1 rfl) ?_
  refine lv_iload_n hx hb dX0_hasBoth_5 rfl (lv_at hl 2 rfl) ?_
  refine kS_R (n := 2) S (c_X0_cell lc D cI cZ N ((f : Nat) : Int) ((g : Nat) : Int) ) gX0_hasBoth_X0_cell rfl (by decide +kernel) rfl rfl ⟨Nat.le_trans (Nat.le_of_ble_eq_true rfl) hfr, Nat.le_trans (Nat.le_of_ble_eq_true rfl) hlo⟩ hE hAN hP hD hS [] rfl (by decide) rfl hl.1 [.ref bm] rfl (Nat.le_of_ble_eq_true rfl) dX0_hasBoth_6 ⟨Nat.zero_le _, Nat.zero_le _⟩ ?_
  refine W.eq (g2 := F0 m 9 ls [.int (iI (((f : Nat) : Int) * 5 + ((g : Nat) : Int))), .ref bm]) rfl ?_
  refine w_iald S hE hP 1 rfl (f * 5 + g) (by omega) (by omega) (by omega) dX0_hasBoth_9 ?_
  refine w_ldc (z := 1000000000) S (List.mem_of_getElem? (i := 2) rfl) (by decide) dX0_hasBoth_10 ?_
  refine c_eqT (tgt := 19) S dX0_hasBoth_12 (by decide) (by omega) ?_
  refine lv_iconst (v := iI (0)) hx hb dX0_hasBoth_19 rfl ?_
  exact hret _ _ _ dX0_hasBoth_20 rfl (Or.inl rfl)
set_option maxHeartbeats 4000000 in
set_option maxRecDepth 100000 in
theorem c_high (lc : Launch) (D : va_G) (cI cZ : ClassId) (N : Nat) (b : Nat) (bm : Nat) (br : Nat) (mo : Nat → Int) (re : Nat → Int) (f : Nat) (g : Nat) (hf : f < 5) (hg : g < 5) : CR lc D cI cZ N yX0_high wsX0_high (rmK 1 21) [.ref b, .int (iI (((f : Nat) : Int))), .int (iI (((g : Nat) : Int)))] [(b, .inr (0, [.ref bm, .ref br])), (bm, .inl (cI, 25, .inl (vI mo))), (br, .inl (cI, 5, .inl (vI re)))] (some (.int (iI (mo (f * 5 + g))))) := by
  refine CR.I (cc := cX0_high) (maxL := 3) (by decide) rfl (Nat.le_of_ble_eq_true rfl) ?_
  intro p e s m args below meth c R Q S hE A hAN hfr hlo hP hD hS hret ls hl
  have S : CallFix p m c cX0_high 3 s args wsX0_high RX0 := S
  have hx := S.1
  have hb := S.2.1
  have hl : lv_has ls 3 [(0, .ref b), (1, .int (iI (((f : Nat) : Int)))), (2, .int (iI (((g : Nat) : Int))))] := hl
  refine lv_aload_n hx hb dX0_high_0 rfl (lv_at hl 0 rfl) ?_
  refine w_get (C := RX0) (T := TX0) (Nf := 2) (ci := 0) (v := .ref bm) S (fun _ h => List.mem_cons_of_mem _ (List.mem_append_right _ h)) hE hP 0 rfl rfl 0 (by decide) (List.mem_of_getElem? (i := 1) rfl) rfl dX0_high_1 ?_
  refine lv_iload_n hx hb dX0_high_4 rfl (lv_at hl 1 rfl) ?_
  refine lv_iload_n hx hb dX0_high_5 rfl (lv_at hl 2 rfl) ?_
  refine kS_R (n := 2) S (c_X0_cell lc D cI cZ N ((f : Nat) : Int) ((g : Nat) : Int) ) gX0_high_X0_cell rfl (by decide +kernel) rfl rfl ⟨Nat.le_trans (Nat.le_of_ble_eq_true rfl) hfr, Nat.le_trans (Nat.le_of_ble_eq_true rfl) hlo⟩ hE hAN hP hD hS [] rfl (by decide) rfl hl.1 [.ref bm] rfl (Nat.le_of_ble_eq_true rfl) dX0_high_6 ⟨Nat.zero_le _, Nat.zero_le _⟩ ?_
  refine W.eq (g2 := F0 m 9 ls [.int (iI (((f : Nat) : Int) * 5 + ((g : Nat) : Int))), .ref bm]) rfl ?_
  refine w_iald S hE hP 1 rfl (f * 5 + g) (by omega) (by omega) (by omega) dX0_high_9 ?_
  exact hret _ _ _ dX0_high_10 rfl
set_option maxHeartbeats 4000000 in
set_option maxRecDepth 100000 in
theorem c_low (lc : Launch) (D : va_G) (cI cZ : ClassId) (N : Nat) (b : Nat) (bm : Nat) (br : Nat) (mo : Nat → Int) (re : Nat → Int) (f : Nat) (g : Nat) (hf : f < 5) (hg : g < 5) : CR lc D cI cZ N yX0_low wsX0_low (rmK 1 21) [.ref b, .int (iI (((f : Nat) : Int))), .int (iI (((g : Nat) : Int)))] [(b, .inr (0, [.ref bm, .ref br])), (bm, .inl (cI, 25, .inl (vI mo))), (br, .inl (cI, 5, .inl (vI re)))] (some (.int (iI (-(mo (g * 5 + f)))))) := by
  refine CR.I (cc := cX0_low) (maxL := 3) (by decide) rfl (Nat.le_of_ble_eq_true rfl) ?_
  intro p e s m args below meth c R Q S hE A hAN hfr hlo hP hD hS hret ls hl
  have S : CallFix p m c cX0_low 3 s args wsX0_low RX0 := S
  have hx := S.1
  have hb := S.2.1
  have hl : lv_has ls 3 [(0, .ref b), (1, .int (iI (((f : Nat) : Int)))), (2, .int (iI (((g : Nat) : Int))))] := hl
  refine lv_aload_n hx hb dX0_low_0 rfl (lv_at hl 0 rfl) ?_
  refine w_get (C := RX0) (T := TX0) (Nf := 2) (ci := 0) (v := .ref bm) S (fun _ h => List.mem_cons_of_mem _ (List.mem_append_right _ h)) hE hP 0 rfl rfl 0 (by decide) (List.mem_of_getElem? (i := 1) rfl) rfl dX0_low_1 ?_
  refine lv_iload_n hx hb dX0_low_4 rfl (lv_at hl 2 rfl) ?_
  refine lv_iload_n hx hb dX0_low_5 rfl (lv_at hl 1 rfl) ?_
  refine kS_R (n := 2) S (c_X0_cell lc D cI cZ N ((g : Nat) : Int) ((f : Nat) : Int) ) gX0_low_X0_cell rfl (by decide +kernel) rfl rfl ⟨Nat.le_trans (Nat.le_of_ble_eq_true rfl) hfr, Nat.le_trans (Nat.le_of_ble_eq_true rfl) hlo⟩ hE hAN hP hD hS [] rfl (by decide) rfl hl.1 [.ref bm] rfl (Nat.le_of_ble_eq_true rfl) dX0_low_6 ⟨Nat.zero_le _, Nat.zero_le _⟩ ?_
  refine W.eq (g2 := F0 m 9 ls [.int (iI (((g : Nat) : Int) * 5 + ((f : Nat) : Int))), .ref bm]) rfl ?_
  refine w_iald S hE hP 1 rfl (g * 5 + f) (by omega) (by omega) (by omega) dX0_low_9 ?_
  refine w_ineg S dX0_low_10 ?_
  exact hret _ _ _ dX0_low_11 rfl
set_option maxHeartbeats 4000000 in
set_option maxRecDepth 100000 in
theorem c_X0_pairs (lc : Launch) (D : va_G) (cI cZ : ClassId) (N : Nat) (b : Nat) (bm : Nat) (br : Nat) (mo : Nat → Int) (re : Nat → Int) (hmo : ∀ k, k < 25 → -1000 ≤ mo k ∧ mo k ≤ 1000000000) : CR lc D cI cZ N yX0_pairs wsX0_pairs (rmK 2 43) [.ref b] [(b, .inr (0, [.ref bm, .ref br])), (bm, .inl (cI, 25, .inl (vI mo))), (br, .inl (cI, 5, .inl (vI re)))] (some (.int (iI (prO mo 5)))) := by
  refine CR.I (cc := cX0_pairs) (maxL := 4) (by decide) rfl (Nat.le_of_ble_eq_true rfl) ?_
  intro p e s m args below meth c R Q S hE A hAN hfr hlo hP hD hS hret ls hl
  have S : CallFix p m c cX0_pairs 4 s args wsX0_pairs RX0 := S
  have hx := S.1
  have hb := S.2.1
  have hl : lv_has ls 4 [(0, .ref b)] := hl
  refine lv_iconst (v := iI (0)) hx hb dX0_pairs_0 rfl ?_
  refine lv_istore_n (lv' := [(1, .int (iI (0))), (0, .ref b)]) hx hb dX0_pairs_1 rfl hl (by decide) rfl (fun ls hl => ?_)
  refine lv_iconst (v := iI (0)) hx hb dX0_pairs_2 rfl ?_
  refine lv_istore_n (lv' := [(2, .int (iI (0))), (1, .int (iI (0))), (0, .ref b)]) hx hb dX0_pairs_3 rfl hl (by decide) rfl (fun ls hl => ?_)
  have loop2 : ∀ (n f : Nat) , f + n = 5 → ∀ (ls : Array Slot), lv_has ls 4 [(2, .int (iI (((f : Nat) : Int)))), (1, .int (iI (prO mo f))), (0, .ref b)] → W p lc e R s m args below meth c s.heap [] 0 0 Q (F0 m 4 ls []) := by
    intro n
    induction n with
    | zero =>
      intro f  hm  ls hl
      refine lv_iload_n hx hb dX0_pairs_4 rfl (lv_at hl 0 rfl) ?_
      refine lv_iconst (v := iI (5)) hx hb dX0_pairs_5 rfl ?_
      refine c_geT (tgt := 42) S dX0_pairs_6 (by decide) (by omega) (by omega) (by omega) ?_
      refine lv_iload_n hx hb dX0_pairs_42 rfl (lv_at hl 1 rfl) ?_
      exact hret _ _ _ dX0_pairs_43 (by rw [show f = 5 by omega])
    | succ n ih2 =>
      intro f  hm  ls hl
      refine lv_iload_n hx hb dX0_pairs_4 rfl (lv_at hl 0 rfl) ?_
      refine lv_iconst (v := iI (5)) hx hb dX0_pairs_5 rfl ?_
      refine c_geF (tgt := 42) S dX0_pairs_6 (by decide) (by omega) (by omega) (by omega) ?_
      refine lv_iload_n hx hb dX0_pairs_9 rfl (lv_at hl 0 rfl) ?_
      refine lv_iconst (v := iI (1)) hx hb dX0_pairs_10 rfl ?_
      refine w_iadd S dX0_pairs_11 ?_
      refine lv_istore_n (lv' := [(3, .int (iI (((f : Nat) : Int) + 1))), (2, .int (iI (((f : Nat) : Int)))), (1, .int (iI (prO mo f))), (0, .ref b)]) hx hb dX0_pairs_12 rfl hl (by decide) rfl (fun ls hl => ?_)
      have loop3 : ∀ (q j : Nat) , f + 1 + j + q = 5 → ∀ (ls : Array Slot), lv_has ls 4 [(3, .int (iI (((f + 1 + j : Nat) : Int)))), (2, .int (iI (((f : Nat) : Int)))), (1, .int (iI (prO mo f + prI mo f j))), (0, .ref b)] → W p lc e R s m args below meth c s.heap [] 0 0 Q (F0 m 13 ls []) := by
        intro q
        induction q with
        | zero =>
          intro j  hm  ls hl
          refine lv_iload_n hx hb dX0_pairs_13 rfl (lv_at hl 0 rfl) ?_
          refine lv_iconst (v := iI (5)) hx hb dX0_pairs_14 rfl ?_
          refine c_geT (tgt := 36) S dX0_pairs_15 (by decide) (by omega) (by omega) (by omega) ?_
          refine w_iinc (v := ((f + 1 : Nat) : Int)) (lv' := [(2, .int (iI (((f + 1 : Nat) : Int)))), (3, .int (iI (((f + 1 + j : Nat) : Int)))), (1, .int (iI (prO mo f + prI mo f j))), (0, .ref b)]) S dX0_pairs_36 hl (k := 1) rfl (by omega) (by decide) rfl (fun ls hl => ?_)
          refine lv_goto (tgt := 4) hx hb dX0_pairs_39 (by decide) ?_
          have hloc : (prO mo f + prI mo f j : Int) = prO mo (f + 1) := (by show _ = prO mo f + prI mo f (4 - f); rw [show j = 4 - f by omega])
          rw [hloc] at hl
          exact ih2 (f + 1)  (by omega)  _ (lv_sub hl [0, 2, 3] rfl)
        | succ q ih3 =>
          intro j  hm  ls hl
          refine lv_iload_n hx hb dX0_pairs_13 rfl (lv_at hl 0 rfl) ?_
          refine lv_iconst (v := iI (5)) hx hb dX0_pairs_14 rfl ?_
          refine c_geF (tgt := 36) S dX0_pairs_15 (by decide) (by omega) (by omega) (by omega) ?_
          by_cases h2 : mo (f * 5 + (f + 1 + j)) = 1000000000
          · refine lv_aload_n hx hb dX0_pairs_18 rfl (lv_at hl 3 rfl) ?_
            refine lv_iload_n hx hb dX0_pairs_19 rfl (lv_at hl 1 rfl) ?_
            refine lv_iload_n hx hb dX0_pairs_20 rfl (lv_at hl 0 rfl) ?_
            refine kV_R (n := 2) (ci := 0) (q := (RX0, TX0, 2)) S (c_hasBoth_F lc D cI cZ N b bm br mo re f (f + 1 + j) (by omega) (by omega) (by omega)) gX0_pairs_X0_hasBoth rfl rfl (by decide +kernel) rfl rfl ⟨Nat.le_trans (Nat.le_of_ble_eq_true rfl) hfr, Nat.le_trans (Nat.le_of_ble_eq_true rfl) hlo⟩ hE hAN hP hD hS [0, 1, 2] rfl (by decide) rfl rfl rfl rfl hl.1 [] rfl (Nat.le_of_ble_eq_true rfl) dX0_pairs_21 ⟨Nat.zero_le _, Nat.zero_le _⟩ ?_
            refine W.eq (g2 := F0 m 24 ls [.int (iI (0))]) rfl ?_
            refine b_eqT (tgt := 30) S dX0_pairs_24 (by decide) (by decide) ?_
            refine w_iinc (v := (((f + 1 + j) + 1 : Nat) : Int)) (lv' := [(3, .int (iI ((((f + 1 + j) + 1 : Nat) : Int)))), (2, .int (iI (((f : Nat) : Int)))), (1, .int (iI (prO mo f + prI mo f j))), (0, .ref b)]) S dX0_pairs_30 hl (k := 0) rfl (by omega) (by decide) rfl (fun ls hl => ?_)
            refine lv_goto (tgt := 13) hx hb dX0_pairs_33 (by decide) ?_
            have hloc : ((((f + 1 + j) + 1 : Nat) : Int) : Int) = ((f + 1 + (j + 1) : Nat) : Int) := (by omega)
            rw [hloc] at hl
            have hloc : (prO mo f + prI mo f j : Int) = prO mo f + prI mo f (j + 1) := (by show _ = prO mo f + (prI mo f j + _); rw [if_pos h2]; omega)
            rw [hloc] at hl
            exact ih3 (j + 1)  (by omega)  _ (lv_sub hl [0, 1, 2, 3] rfl)
          · refine lv_aload_n hx hb dX0_pairs_18 rfl (lv_at hl 3 rfl) ?_
            refine lv_iload_n hx hb dX0_pairs_19 rfl (lv_at hl 1 rfl) ?_
            refine lv_iload_n hx hb dX0_pairs_20 rfl (lv_at hl 0 rfl) ?_
            refine kV_R (n := 2) (ci := 0) (q := (RX0, TX0, 2)) S (c_hasBoth_T lc D cI cZ N b bm br mo re f (f + 1 + j) (by omega) (by omega) (by omega) (by omega)) gX0_pairs_X0_hasBoth rfl rfl (by decide +kernel) rfl rfl ⟨Nat.le_trans (Nat.le_of_ble_eq_true rfl) hfr, Nat.le_trans (Nat.le_of_ble_eq_true rfl) hlo⟩ hE hAN hP hD hS [0, 1, 2] rfl (by decide) rfl rfl rfl rfl hl.1 [] rfl (Nat.le_of_ble_eq_true rfl) dX0_pairs_21 ⟨Nat.zero_le _, Nat.zero_le _⟩ ?_
            refine W.eq (g2 := F0 m 24 ls [.int (iI (1))]) rfl ?_
            refine b_eqF (tgt := 30) S dX0_pairs_24 (by decide) (by decide) (by decide) ?_
            refine w_iinc (v := (prO mo f + prI mo f j) + 1) (lv' := [(1, .int (iI ((prO mo f + prI mo f j) + 1))), (3, .int (iI (((f + 1 + j : Nat) : Int)))), (2, .int (iI (((f : Nat) : Int)))), (0, .ref b)]) S dX0_pairs_27 hl (k := 2) rfl rfl (by decide) rfl (fun ls hl => ?_)
            refine w_iinc (v := (((f + 1 + j) + 1 : Nat) : Int)) (lv' := [(3, .int (iI ((((f + 1 + j) + 1 : Nat) : Int)))), (1, .int (iI ((prO mo f + prI mo f j) + 1))), (2, .int (iI (((f : Nat) : Int)))), (0, .ref b)]) S dX0_pairs_30 hl (k := 1) rfl (by omega) (by decide) rfl (fun ls hl => ?_)
            refine lv_goto (tgt := 13) hx hb dX0_pairs_33 (by decide) ?_
            have hloc : ((((f + 1 + j) + 1 : Nat) : Int) : Int) = ((f + 1 + (j + 1) : Nat) : Int) := (by omega)
            rw [hloc] at hl
            have hloc : ((prO mo f + prI mo f j) + 1 : Int) = prO mo f + prI mo f (j + 1) := (by show _ = prO mo f + (prI mo f j + _); rw [if_neg h2]; omega)
            rw [hloc] at hl
            exact ih3 (j + 1)  (by omega)  _ (lv_sub hl [0, 2, 1, 3] rfl)
      have hloc : (((f : Nat) : Int) + 1 : Int) = ((f + 1 + 0 : Nat) : Int) := (by omega)
      rw [hloc] at hl
      have hloc : (prO mo f : Int) = prO mo f + prI mo f 0 := (by show _ = prO mo f + 0; omega)
      rw [hloc] at hl
      exact loop3 (4 - f) 0  (by omega)  _ (lv_sub hl [0, 1, 2, 3] rfl)
  have hloc : (0 : Int) = prO mo 0 := rfl
  rw [hloc] at hl
  exact loop2 5 0  (by omega)  _ (lv_sub hl [0, 1, 2] rfl)
set_option maxHeartbeats 4000000 in
set_option maxRecDepth 100000 in
theorem c_stepFrom (lc : Launch) (D : va_G) (cI cZ : ClassId) (N : Nat) (b : Nat) (bm : Nat) (br : Nat) (mo : Nat → Int) (re : Nat → Int) (a : Nat) (L : Int) (ha : a < 5) (hmo : ∀ k, k < 25 → -1000 ≤ mo k ∧ mo k ≤ 1000000000) (hre : ∀ k, k < 5 → -L ≤ re k ∧ re k ≤ 1000000000) (hL : 0 ≤ L ∧ L ≤ 10000000) : CM lc D cI cZ N yX0_stepFrom wsX0_stepFrom (rmK 1 21) [.ref b, .int (iI (((a : Nat) : Int)))] [(b, .inr (0, [.ref bm, .ref br])), (bm, .inl (cI, 25, .inl (vI mo))), (br, .inl (cI, 5, .inl (vI re)))] none [(b, .inr (0, [.ref bm, .ref br])), (bm, .inl (cI, 25, .inl (vI mo))), (br, .inl (cI, 5, .inl (vI (stp mo a re))))] := by
  refine CM.V (cc := cX0_stepFrom) (maxL := 4) (by decide) rfl (Nat.le_of_ble_eq_true rfl) ?_
  intro p e s m args below meth c R Q S hE A hAN hfr hlo hP hD hS hret ls hl
  have S : CallFix p m c cX0_stepFrom 4 s args wsX0_stepFrom RX0 := S
  have hx := S.1
  have hb := S.2.1
  have hl : lv_has ls 4 [(0, .ref b), (1, .int (iI (((a : Nat) : Int))))] := hl
  have g0 := hre a ha
  refine lv_aload_n hx hb dX0_stepFrom_0 rfl (lv_at hl 0 rfl) ?_
  refine w_get (C := RX0) (T := TX0) (Nf := 2) (ci := 0) (v := .ref br) S (fun _ h => List.mem_cons_of_mem _ (List.mem_append_right _ h)) hE hP 0 rfl rfl 1 (by decide) (List.mem_of_getElem? (i := 1) rfl) rfl dX0_stepFrom_1 ?_
  refine lv_iload_n hx hb dX0_stepFrom_4 rfl (lv_at hl 1 rfl) ?_
  refine w_iald S hE hP 2 rfl (a) (by omega) (by omega) (by omega) dX0_stepFrom_5 ?_
  refine w_ldc (z := 1000000000) S (List.mem_of_getElem? (i := 2) rfl) (by decide) dX0_stepFrom_6 ?_
  by_cases h1 : re a = 1000000000
  · refine c_neF (tgt := 12) S dX0_stepFrom_8 (by decide) (by omega) ?_
    have hst : re = stp mo a re := by unfold stp; rw [if_pos h1]
    exact hret _ _ _ _ dX0_stepFrom_11 (by rw [← hst]; exact hP) hS
  · refine c_neT (tgt := 12) S dX0_stepFrom_8 (by decide) (by omega) (by omega) (by omega) ?_
    refine lv_iconst (v := iI (0)) hx hb dX0_stepFrom_12 rfl ?_
    refine lv_istore_n (lv' := [(2, .int (iI (0))), (0, .ref b), (1, .int (iI (((a : Nat) : Int))))]) hx hb dX0_stepFrom_13 rfl hl (by decide) rfl (fun ls hl => ?_)
    have loop4 : ∀ (q j : Nat) , j + q = 5 → ∀ (H : Heap) (locs : List Loc) (ls : Array Slot), va_P D vwCl [(b, .inr (0, [.ref bm, .ref br])), (bm, .inl (cI, 25, .inl (vI mo))), (br, .inl (cI, 5, .inl (vI (rlx mo a re j))))] H → va_D A [(b, .inr (0, [.ref bm, .ref br])), (bm, .inl (cI, 25, .inl (vI mo))), (br, .inl (cI, 5, .inl (vI (rlx mo a re j))))] → va_S A s.heap H locs → lv_has ls 4 [(2, .int (iI (((j : Nat) : Int)))), (0, .ref b), (1, .int (iI (((a : Nat) : Int))))] → W p lc e R s m args below meth c H locs 0 0 Q (F0 m 14 ls []) := by
      intro q
      induction q with
      | zero =>
        intro j  hm  H locs ls hP hD hS hl
        refine lv_iload_n hx hb dX0_stepFrom_14 rfl (lv_at hl 0 rfl) ?_
        refine lv_iconst (v := iI (5)) hx hb dX0_stepFrom_15 rfl ?_
        refine c_geT (tgt := 65) S dX0_stepFrom_16 (by decide) (by omega) (by omega) (by omega) ?_
        have hj5 : j = 5 := by omega
        subst hj5
        have hst : rlx mo a re 5 = stp mo a re := by unfold stp; rw [if_neg h1]
        rw [hst] at hP
        exact hret _ _ _ _ dX0_stepFrom_65 hP hS
      | succ q ih4 =>
        intro j  hm  H locs ls hP hD hS hl
        refine lv_iload_n hx hb dX0_stepFrom_14 rfl (lv_at hl 0 rfl) ?_
        refine lv_iconst (v := iI (5)) hx hb dX0_stepFrom_15 rfl ?_
        refine c_geF (tgt := 65) S dX0_stepFrom_16 (by decide) (by omega) (by omega) (by omega) ?_
        have g1 := hmo (a * 5 + j) (by omega)
        have g2 := rlx_rng ha hmo hre j (by omega) a ha
        have g3 := rlx_rng ha hmo hre j (by omega) j (by omega)
        refine lv_aload_n hx hb dX0_stepFrom_19 rfl (lv_at hl 1 rfl) ?_
        refine w_get (C := RX0) (T := TX0) (Nf := 2) (ci := 0) (v := .ref bm) S (fun _ h => List.mem_cons_of_mem _ (List.mem_append_right _ h)) hE hP 0 rfl rfl 0 (by decide) (List.mem_of_getElem? (i := 3) rfl) rfl dX0_stepFrom_20 ?_
        refine lv_iload_n hx hb dX0_stepFrom_23 rfl (lv_at hl 2 rfl) ?_
        refine lv_iload_n hx hb dX0_stepFrom_24 rfl (lv_at hl 0 rfl) ?_
        refine kS_R (n := 2) S (c_X0_cell lc D cI cZ N ((a : Nat) : Int) ((j : Nat) : Int) ) gX0_stepFrom_X0_cell rfl (by decide +kernel) rfl rfl ⟨Nat.le_trans (Nat.le_of_ble_eq_true rfl) hfr, Nat.le_trans (Nat.le_of_ble_eq_true rfl) hlo⟩ hE hAN hP hD hS [] rfl (by decide) rfl hl.1 [.ref bm] rfl (Nat.le_of_ble_eq_true rfl) dX0_stepFrom_25 ⟨Nat.zero_le _, Nat.zero_le _⟩ ?_
        refine W.eq (g2 := F0 m 28 ls [.int (iI (((a : Nat) : Int) * 5 + ((j : Nat) : Int))), .ref bm]) rfl ?_
        refine w_iald S hE hP 1 rfl (a * 5 + j) (by omega) (by omega) (by omega) dX0_stepFrom_28 ?_
        refine lv_istore_n (lv' := [(3, .int (iI (mo (a * 5 + j)))), (2, .int (iI (((j : Nat) : Int)))), (0, .ref b), (1, .int (iI (((a : Nat) : Int))))]) hx hb dX0_stepFrom_29 rfl hl (by decide) rfl (fun ls hl => ?_)
        by_cases h2 : mo (a * 5 + j) = 1000000000
        · refine lv_iload_n hx hb dX0_stepFrom_30 rfl (lv_at hl 0 rfl) ?_
          refine w_ldc (z := 1000000000) S (List.mem_of_getElem? (i := 2) rfl) (by decide) dX0_stepFrom_31 ?_
          refine c_eqT (tgt := 59) S dX0_stepFrom_33 (by decide) (by omega) ?_
          refine w_iinc (v := ((j + 1 : Nat) : Int)) (lv' := [(2, .int (iI (((j + 1 : Nat) : Int)))), (3, .int (iI (mo (a * 5 + j)))), (0, .ref b), (1, .int (iI (((a : Nat) : Int))))]) S dX0_stepFrom_59 hl (k := 1) rfl (by omega) (by decide) rfl (fun ls hl => ?_)
          refine lv_goto (tgt := 14) hx hb dX0_stepFrom_62 (by decide) ?_
          have hcell : rlx mo a re j = rlx mo a re (j + 1) := (by show _ = if _ then _ else _; rw [if_pos h2])
          rw [hcell] at hP hD
          exact ih4 (j + 1)  (by omega)  _ _ _ hP hD hS (lv_sub hl [0, 2, 3] rfl)
        · refine lv_iload_n hx hb dX0_stepFrom_30 rfl (lv_at hl 0 rfl) ?_
          refine w_ldc (z := 1000000000) S (List.mem_of_getElem? (i := 2) rfl) (by decide) dX0_stepFrom_31 ?_
          refine c_eqF (tgt := 59) S dX0_stepFrom_33 (by decide) (by omega) (by omega) (by omega) ?_
          refine lv_aload_n hx hb dX0_stepFrom_36 rfl (lv_at hl 2 rfl) ?_
          refine w_get (C := RX0) (T := TX0) (Nf := 2) (ci := 0) (v := .ref br) S (fun _ h => List.mem_cons_of_mem _ (List.mem_append_right _ h)) hE hP 0 rfl rfl 1 (by decide) (List.mem_of_getElem? (i := 1) rfl) rfl dX0_stepFrom_37 ?_
          refine lv_iload_n hx hb dX0_stepFrom_40 rfl (lv_at hl 1 rfl) ?_
          refine lv_aload_n hx hb dX0_stepFrom_41 rfl (lv_at hl 2 rfl) ?_
          refine w_get (C := RX0) (T := TX0) (Nf := 2) (ci := 0) (v := .ref br) S (fun _ h => List.mem_cons_of_mem _ (List.mem_append_right _ h)) hE hP 0 rfl rfl 1 (by decide) (List.mem_of_getElem? (i := 1) rfl) rfl dX0_stepFrom_42 ?_
          refine lv_iload_n hx hb dX0_stepFrom_45 rfl (lv_at hl 1 rfl) ?_
          refine w_iald S hE hP 2 rfl (j) (by omega) (by omega) (by omega) dX0_stepFrom_46 ?_
          refine lv_aload_n hx hb dX0_stepFrom_47 rfl (lv_at hl 2 rfl) ?_
          refine w_get (C := RX0) (T := TX0) (Nf := 2) (ci := 0) (v := .ref br) S (fun _ h => List.mem_cons_of_mem _ (List.mem_append_right _ h)) hE hP 0 rfl rfl 1 (by decide) (List.mem_of_getElem? (i := 1) rfl) rfl dX0_stepFrom_48 ?_
          refine lv_iload_n hx hb dX0_stepFrom_51 rfl (lv_at hl 3 rfl) ?_
          refine w_iald S hE hP 2 rfl (a) (by omega) (by omega) (by omega) dX0_stepFrom_52 ?_
          refine lv_iload_n hx hb dX0_stepFrom_53 rfl (lv_at hl 0 rfl) ?_
          refine w_iadd S dX0_stepFrom_54 ?_
          refine w_min S hl.1 (List.mem_of_getElem? (i := 4) rfl) (List.mem_of_getElem? (i := 5) rfl) (List.mem_of_getElem? (i := 6) rfl) (List.mem_of_getElem? (i := 7) rfl) (Nat.le_trans (Nat.le_of_ble_eq_true rfl) hfr) (Nat.le_trans (Nat.le_of_ble_eq_true rfl) hlo) (Nat.le_of_ble_eq_true rfl) (by omega) (by omega) dX0_stepFrom_55 ?_
          refine w_iast S hE hP hD hS 2 rfl (j) (by omega) (by omega) (by omega) dX0_stepFrom_58 (fun H locs hP hD hS => ?_)
          have hP : va_P D vwCl [(b, .inr (0, [.ref bm, .ref br])), (bm, .inl (cI, 25, .inl (vI mo))), (br, .inl (cI, 5, .inl (vI (updI (rlx mo a re j) j (if ((rlx mo a re j) a) + (mo (a * 5 + j)) < (rlx mo a re j) j then ((rlx mo a re j) a) + (mo (a * 5 + j)) else (rlx mo a re j) j)))))] H := hP
          have hD : va_D A [(b, .inr (0, [.ref bm, .ref br])), (bm, .inl (cI, 25, .inl (vI mo))), (br, .inl (cI, 5, .inl (vI (updI (rlx mo a re j) j (if ((rlx mo a re j) a) + (mo (a * 5 + j)) < (rlx mo a re j) j then ((rlx mo a re j) a) + (mo (a * 5 + j)) else (rlx mo a re j) j)))))] := hD
          refine w_iinc (v := ((j + 1 : Nat) : Int)) (lv' := [(2, .int (iI (((j + 1 : Nat) : Int)))), (3, .int (iI (mo (a * 5 + j)))), (0, .ref b), (1, .int (iI (((a : Nat) : Int))))]) S dX0_stepFrom_59 hl (k := 1) rfl (by omega) (by decide) rfl (fun ls hl => ?_)
          refine lv_goto (tgt := 14) hx hb dX0_stepFrom_62 (by decide) ?_
          have hcell : updI (rlx mo a re j) j (if ((rlx mo a re j) a) + (mo (a * 5 + j)) < (rlx mo a re j) j then ((rlx mo a re j) a) + (mo (a * 5 + j)) else (rlx mo a re j) j) = rlx mo a re (j + 1) := (by show _ = if _ then _ else _; rw [if_neg h2])
          rw [hcell] at hP hD
          exact ih4 (j + 1)  (by omega)  _ _ _ hP hD hS (lv_sub hl [0, 2, 3] rfl)
    have hcell : re = rlx mo a re 0 := rfl
    rw [hcell] at hP hD
    exact loop4 5 0  (by omega)  _ _ _ hP hD hS (lv_sub hl [0, 1, 2] rfl)
set_option maxHeartbeats 4000000 in
set_option maxRecDepth 100000 in
theorem c_tightest (lc : Launch) (D : va_G) (cI cZ : ClassId) (N : Nat) (b : Nat) (bm : Nat) (br : Nat) (mo : Nat → Int) (re : Nat → Int) (x : Nat) (y : Nat) (hx5 : x < 5) (hy5 : y < 5) (hmo : ∀ k, k < 25 → -1000 ≤ mo k ∧ mo k ≤ 1000000000) : CM lc D cI cZ N yX0_tightest wsX0_tightest (rmK 2 44) [.ref b, .int (iI (((x : Nat) : Int))), .int (iI (((y : Nat) : Int)))] [(b, .inr (0, [.ref bm, .ref br])), (bm, .inl (cI, 25, .inl (vI mo))), (br, .inl (cI, 5, .inl (vI re)))] (some (.int (iI (rnds mo (re0 x) 4 y)))) [(b, .inr (0, [.ref bm, .ref br])), (bm, .inl (cI, 25, .inl (vI mo))), (br, .inl (cI, 5, .inl (vI (rnds mo (re0 x) 4))))] := by
  refine CM.I (cc := cX0_tightest) (maxL := 5) (by decide) rfl (Nat.le_of_ble_eq_true rfl) ?_
  intro p e s m args below meth c R Q S hE A hAN hfr hlo hP hD hS hret ls hl
  have S : CallFix p m c cX0_tightest 5 s args wsX0_tightest RX0 := S
  have hx := S.1
  have hb := S.2.1
  have hl : lv_has ls 5 [(0, .ref b), (1, .int (iI (((x : Nat) : Int)))), (2, .int (iI (((y : Nat) : Int))))] := hl
  refine lv_aload_n hx hb dX0_tightest_0 rfl (lv_at hl 0 rfl) ?_
  refine w_get (C := RX0) (T := TX0) (Nf := 2) (ci := 0) (v := .ref br) S (fun _ h => List.mem_cons_of_mem _ (List.mem_append_right _ h)) hE hP 0 rfl rfl 1 (by decide) (List.mem_of_getElem? (i := 1) rfl) rfl dX0_tightest_1 ?_
  refine w_ldc (z := 1000000000) S (List.mem_of_getElem? (i := 2) rfl) (by decide) dX0_tightest_4 ?_
  refine kS_M (n := 2) S (c_fill lc D cI cZ N br 5 re 1000000000 (by omega)) gX0_tightest_J7_fill_53178 rfl (by decide +kernel) rfl rfl ⟨Nat.le_trans (Nat.le_of_ble_eq_true rfl) hfr, Nat.le_trans (Nat.le_of_ble_eq_true rfl) hlo⟩ hE hAN hP hD hS [2] rfl (by decide) rfl rfl hl.1 [] rfl (Nat.le_of_ble_eq_true rfl) dX0_tightest_6 ⟨Nat.zero_le _, Nat.zero_le _⟩ (fun H locs hP hD hS => ?_)
  have hP : va_P D vwCl [(b, .inr (0, [.ref bm, .ref br])), (bm, .inl (cI, 25, .inl (vI mo))), (br, .inl (cI, 5, .inl (vI (fun _ => 1000000000))))] H := hP
  have hD : va_D A [(b, .inr (0, [.ref bm, .ref br])), (bm, .inl (cI, 25, .inl (vI mo))), (br, .inl (cI, 5, .inl (vI (fun _ => 1000000000))))] := hD
  refine W.eq (g2 := F0 m 9 ls []) rfl ?_
  refine lv_aload_n hx hb dX0_tightest_9 rfl (lv_at hl 0 rfl) ?_
  refine w_get (C := RX0) (T := TX0) (Nf := 2) (ci := 0) (v := .ref br) S (fun _ h => List.mem_cons_of_mem _ (List.mem_append_right _ h)) hE hP 0 rfl rfl 1 (by decide) (List.mem_of_getElem? (i := 1) rfl) rfl dX0_tightest_10 ?_
  refine lv_iload_n hx hb dX0_tightest_13 rfl (lv_at hl 1 rfl) ?_
  refine lv_iconst (v := iI (0)) hx hb dX0_tightest_14 rfl ?_
  refine w_iast S hE hP hD hS 2 rfl (x) (by omega) (by omega) (by omega) dX0_tightest_15 (fun H locs hP hD hS => ?_)
  have hP : va_P D vwCl [(b, .inr (0, [.ref bm, .ref br])), (bm, .inl (cI, 25, .inl (vI mo))), (br, .inl (cI, 5, .inl (vI (updI (fun _ => 1000000000) x 0))))] H := hP
  have hD : va_D A [(b, .inr (0, [.ref bm, .ref br])), (bm, .inl (cI, 25, .inl (vI mo))), (br, .inl (cI, 5, .inl (vI (updI (fun _ => 1000000000) x 0))))] := hD
  refine lv_iconst (v := iI (1)) hx hb dX0_tightest_16 rfl ?_
  refine lv_istore_n (lv' := [(3, .int (iI (1))), (0, .ref b), (1, .int (iI (((x : Nat) : Int)))), (2, .int (iI (((y : Nat) : Int))))]) hx hb dX0_tightest_17 rfl hl (by decide) rfl (fun ls hl => ?_)
  have loop5 : ∀ (q r : Nat) , r + q = 4 → ∀ (H : Heap) (locs : List Loc) (ls : Array Slot), va_P D vwCl [(b, .inr (0, [.ref bm, .ref br])), (bm, .inl (cI, 25, .inl (vI mo))), (br, .inl (cI, 5, .inl (vI (rnds mo (re0 x) r))))] H → va_D A [(b, .inr (0, [.ref bm, .ref br])), (bm, .inl (cI, 25, .inl (vI mo))), (br, .inl (cI, 5, .inl (vI (rnds mo (re0 x) r))))] → va_S A s.heap H locs → lv_has ls 5 [(3, .int (iI (((r + 1 : Nat) : Int)))), (0, .ref b), (1, .int (iI (((x : Nat) : Int)))), (2, .int (iI (((y : Nat) : Int))))] → W p lc e R s m args below meth c H locs 0 0 Q (F0 m 18 ls []) := by
    intro q
    induction q with
    | zero =>
      intro r  hm  H locs ls hP hD hS hl
      refine lv_iload_n hx hb dX0_tightest_18 rfl (lv_at hl 0 rfl) ?_
      refine lv_iconst (v := iI (5)) hx hb dX0_tightest_19 rfl ?_
      refine c_geT (tgt := 50) S dX0_tightest_20 (by decide) (by omega) (by omega) (by omega) ?_
      have hr4 : r = 4 := by omega
      subst hr4
      refine lv_aload_n hx hb dX0_tightest_50 rfl (lv_at hl 1 rfl) ?_
      refine w_get (C := RX0) (T := TX0) (Nf := 2) (ci := 0) (v := .ref br) S (fun _ h => List.mem_cons_of_mem _ (List.mem_append_right _ h)) hE hP 0 rfl rfl 1 (by decide) (List.mem_of_getElem? (i := 1) rfl) rfl dX0_tightest_51 ?_
      refine lv_iload_n hx hb dX0_tightest_54 rfl (lv_at hl 3 rfl) ?_
      refine w_iald S hE hP 2 rfl (y) (by omega) (by omega) (by omega) dX0_tightest_55 ?_
      exact hret _ _ _ _ _ dX0_tightest_56 (congrArg iI (by omega)) hP hS
    | succ q ih5 =>
      intro r  hm  H locs ls hP hD hS hl
      refine lv_iload_n hx hb dX0_tightest_18 rfl (lv_at hl 0 rfl) ?_
      refine lv_iconst (v := iI (5)) hx hb dX0_tightest_19 rfl ?_
      refine c_geF (tgt := 50) S dX0_tightest_20 (by decide) (by omega) (by omega) (by omega) ?_
      refine lv_iconst (v := iI (0)) hx hb dX0_tightest_23 rfl ?_
      refine lv_istore (lv' := [(4, .int (iI (0))), (3, .int (iI (((r + 1 : Nat) : Int)))), (0, .ref b), (1, .int (iI (((x : Nat) : Int)))), (2, .int (iI (((y : Nat) : Int))))]) hx hb dX0_tightest_24 hl (by decide) rfl (fun ls hl => ?_)
      have loop6 : ∀ (w a : Nat) , a + w = 5 → ∀ (H : Heap) (locs : List Loc) (ls : Array Slot), va_P D vwCl [(b, .inr (0, [.ref bm, .ref br])), (bm, .inl (cI, 25, .inl (vI mo))), (br, .inl (cI, 5, .inl (vI (rnd mo (rnds mo (re0 x) r) a))))] H → va_D A [(b, .inr (0, [.ref bm, .ref br])), (bm, .inl (cI, 25, .inl (vI mo))), (br, .inl (cI, 5, .inl (vI (rnd mo (rnds mo (re0 x) r) a))))] → va_S A s.heap H locs → lv_has ls 5 [(4, .int (iI (((a : Nat) : Int)))), (3, .int (iI (((r + 1 : Nat) : Int)))), (0, .ref b), (1, .int (iI (((x : Nat) : Int)))), (2, .int (iI (((y : Nat) : Int))))] → W p lc e R s m args below meth c H locs 0 0 Q (F0 m 26 ls []) := by
        intro w
        induction w with
        | zero =>
          intro a  hm  H locs ls hP hD hS hl
          refine lv_iload hx hb dX0_tightest_26 (lv_at hl 0 rfl) ?_
          refine lv_iconst (v := iI (5)) hx hb dX0_tightest_28 rfl ?_
          refine c_geT (tgt := 44) S dX0_tightest_29 (by decide) (by omega) (by omega) (by omega) ?_
          refine w_iinc (v := (((r + 1) + 1 : Nat) : Int)) (lv' := [(3, .int (iI ((((r + 1) + 1 : Nat) : Int)))), (4, .int (iI (((a : Nat) : Int)))), (0, .ref b), (1, .int (iI (((x : Nat) : Int)))), (2, .int (iI (((y : Nat) : Int))))]) S dX0_tightest_44 hl (k := 1) rfl (by omega) (by decide) rfl (fun ls hl => ?_)
          refine lv_goto (tgt := 18) hx hb dX0_tightest_47 (by decide) ?_
          have hcell : rnd mo (rnds mo (re0 x) r) a = rnds mo (re0 x) (r + 1) := (by show _ = rnd mo (rnds mo (re0 x) r) 5; rw [show a = 5 by omega])
          rw [hcell] at hP hD
          exact ih5 (r + 1)  (by omega)  _ _ _ hP hD hS (lv_sub hl [0, 2, 3, 4] rfl)
        | succ w ih6 =>
          intro a  hm  H locs ls hP hD hS hl
          refine lv_iload hx hb dX0_tightest_26 (lv_at hl 0 rfl) ?_
          refine lv_iconst (v := iI (5)) hx hb dX0_tightest_28 rfl ?_
          refine c_geF (tgt := 44) S dX0_tightest_29 (by decide) (by omega) (by omega) (by omega) ?_
          refine lv_aload_n hx hb dX0_tightest_32 rfl (lv_at hl 2 rfl) ?_
          refine lv_iload hx hb dX0_tightest_33 (lv_at hl 0 rfl) ?_
          refine kV_M (n := 1) (ci := 0) (q := (RX0, TX0, 2)) S (c_stepFrom lc D cI cZ N b bm br mo (rnd mo (rnds mo (re0 x) r) a) a (0 + 25000 * (r : Int) + 5000 * (a : Int)) (by omega) (by omega) (rnd_rng (by omega) hmo (rnds_rng (by omega) hmo (re0_rng x) r) a (by omega)) (by omega)) gX0_tightest_X0_stepFrom rfl rfl (by decide +kernel) rfl rfl ⟨Nat.le_trans (Nat.le_of_ble_eq_true rfl) hfr, Nat.le_trans (Nat.le_of_ble_eq_true rfl) hlo⟩ hE hAN hP hD hS [0, 1, 2] rfl (by decide) rfl rfl rfl rfl rfl hl.1 [] rfl (Nat.le_of_ble_eq_true rfl) dX0_tightest_35 ⟨Nat.zero_le _, Nat.zero_le _⟩ (fun H locs hP hD hS => ?_)
          have hP : va_P D vwCl [(b, .inr (0, [.ref bm, .ref br])), (bm, .inl (cI, 25, .inl (vI mo))), (br, .inl (cI, 5, .inl (vI (stp mo a (rnd mo (rnds mo (re0 x) r) a)))))] H := hP
          have hD : va_D A [(b, .inr (0, [.ref bm, .ref br])), (bm, .inl (cI, 25, .inl (vI mo))), (br, .inl (cI, 5, .inl (vI (stp mo a (rnd mo (rnds mo (re0 x) r) a)))))] := hD
          refine W.eq (g2 := F0 m 38 ls []) rfl ?_
          refine w_iinc (v := ((a + 1 : Nat) : Int)) (lv' := [(4, .int (iI (((a + 1 : Nat) : Int)))), (3, .int (iI (((r + 1 : Nat) : Int)))), (0, .ref b), (1, .int (iI (((x : Nat) : Int)))), (2, .int (iI (((y : Nat) : Int))))]) S dX0_tightest_38 hl (k := 0) rfl (by omega) (by decide) rfl (fun ls hl => ?_)
          refine lv_goto (tgt := 26) hx hb dX0_tightest_41 (by decide) ?_
          have hcell : (stp mo a (rnd mo (rnds mo (re0 x) r) a)) = rnd mo (rnds mo (re0 x) r) (a + 1) := rfl
          rw [hcell] at hP hD
          exact ih6 (a + 1)  (by omega)  _ _ _ hP hD hS (lv_sub hl [0, 1, 2, 3, 4] rfl)
      have hcell : rnds mo (re0 x) r = rnd mo (rnds mo (re0 x) r) 0 := rfl
      rw [hcell] at hP hD
      exact loop6 5 0  (by omega)  _ _ _ hP hD hS (lv_sub hl [0, 1, 2, 3, 4] rfl)
  have hcell : updI (fun _ => 1000000000) x 0 = rnds mo (re0 x) 0 := rfl
  rw [hcell] at hP hD
  have hloc : (1 : Int) = ((0 + 1 : Nat) : Int) := (by omega)
  rw [hloc] at hl
  exact loop5 4 0  (by omega)  _ _ _ hP hD hS (lv_sub hl [0, 1, 2, 3] rfl)
