set_option maxHeartbeats 4000000 in
set_option maxRecDepth 100000 in
theorem c_X2_cell (lc : Launch) (D : va_G) (cI cZ : ClassId) (N : Nat) (x : Int) (y : Int)  : CR lc D cI cZ N yX2_cell wsX2_cell (rmK 0 0) [.int (iI (x)), .int (iI (y))] [] (some (.int (iI (x * 200 + y)))) := by
  refine CR.I (cc := cX2_cell) (maxL := 2) (by decide) rfl (Nat.le_of_ble_eq_true rfl) ?_
  intro p e s m args below meth c R Q S hE A hAN hfr hlo hP hD hS hret ls hl
  have S : CallFix p m c cX2_cell 2 s args wsX2_cell RX2 := S
  have hx := S.1
  have hb := S.2.1
  have hl : lv_has ls 2 [(0, .int (iI (x))), (1, .int (iI (y)))] := hl
  refine lv_iload_n hx hb dX2_cell_0 rfl (lv_at hl 0 rfl) ?_
  refine lv_sipush (v := iI (200)) hx hb dX2_cell_1 (by decide) ?_
  refine w_imul S dX2_cell_4 ?_
  refine lv_iload_n hx hb dX2_cell_5 rfl (lv_at hl 1 rfl) ?_
  refine w_iadd S dX2_cell_6 ?_
  exact hret _ _ _ dX2_cell_7 (congrArg iI (by omega))
set_option maxHeartbeats 4000000 in
set_option maxRecDepth 100000 in
theorem c_countOf (lc : Launch) (D : va_G) (cI cZ : ClassId) (N : Nat) (t : Nat) (tc : Nat) (ts : Nat) (cn : Nat → Int) (sm : Nat → Int) (n : Nat) (b : Nat) (hn : n < 5) (hb2 : b < 200) : CR lc D cI cZ N yX2_countOf wsX2_countOf (rmK 1 21) [.ref t, .int (iI (((n : Nat) : Int))), .int (iI (((b : Nat) : Int)))] [(t, .inr (2, [.ref tc, .ref ts])), (tc, .inl (cI, 1000, .inl (vI cn))), (ts, .inl (cI, 1000, .inl (vI sm)))] (some (.int (iI (cn (n * 200 + b))))) := by
  refine CR.I (cc := cX2_countOf) (maxL := 3) (by decide) rfl (Nat.le_of_ble_eq_true rfl) ?_
  intro p e s m args below meth c R Q S hE A hAN hfr hlo hP hD hS hret ls hl
  have S : CallFix p m c cX2_countOf 3 s args wsX2_countOf RX2 := S
  have hx := S.1
  have hb := S.2.1
  have hl : lv_has ls 3 [(0, .ref t), (1, .int (iI (((n : Nat) : Int)))), (2, .int (iI (((b : Nat) : Int))))] := hl
  refine lv_aload_n hx hb dX2_countOf_0 rfl (lv_at hl 0 rfl) ?_
  refine w_get (C := RX2) (T := TX2) (Nf := 2) (ci := 2) (v := .ref tc) S (fun _ h => List.mem_cons_of_mem _ (List.mem_append_right _ h)) hE hP 0 rfl rfl 0 (by decide) (List.mem_of_getElem? (i := 1) rfl) rfl dX2_countOf_1 ?_
  refine lv_iload_n hx hb dX2_countOf_4 rfl (lv_at hl 1 rfl) ?_
  refine lv_iload_n hx hb dX2_countOf_5 rfl (lv_at hl 2 rfl) ?_
  refine kS_R (n := 2) S (c_X2_cell lc D cI cZ N ((n : Nat) : Int) ((b : Nat) : Int) ) gX2_countOf_X2_cell rfl (by decide +kernel) rfl rfl ⟨Nat.le_trans (Nat.le_of_ble_eq_true rfl) hfr, Nat.le_trans (Nat.le_of_ble_eq_true rfl) hlo⟩ hE hAN hP hD hS [] rfl (by decide) rfl hl.1 [.ref tc] rfl (Nat.le_of_ble_eq_true rfl) dX2_countOf_6 ⟨Nat.zero_le _, Nat.zero_le _⟩ ?_
  refine W.eq (g2 := F0 m 9 ls [.int (iI (((n : Nat) : Int) * 200 + ((b : Nat) : Int))), .ref tc]) rfl ?_
  refine w_iald S hE hP 1 rfl (n * 200 + b) (by omega) (by omega) (by omega) dX2_countOf_9 ?_
  exact hret _ _ _ dX2_countOf_10 rfl
set_option maxHeartbeats 4000000 in
set_option maxRecDepth 100000 in
theorem c_sumOf (lc : Launch) (D : va_G) (cI cZ : ClassId) (N : Nat) (t : Nat) (tc : Nat) (ts : Nat) (cn : Nat → Int) (sm : Nat → Int) (n : Nat) (b : Nat) (hn : n < 5) (hb2 : b < 200) : CR lc D cI cZ N yX2_sumOf wsX2_sumOf (rmK 1 21) [.ref t, .int (iI (((n : Nat) : Int))), .int (iI (((b : Nat) : Int)))] [(t, .inr (2, [.ref tc, .ref ts])), (tc, .inl (cI, 1000, .inl (vI cn))), (ts, .inl (cI, 1000, .inl (vI sm)))] (some (.int (iI (sm (n * 200 + b))))) := by
  refine CR.I (cc := cX2_sumOf) (maxL := 3) (by decide) rfl (Nat.le_of_ble_eq_true rfl) ?_
  intro p e s m args below meth c R Q S hE A hAN hfr hlo hP hD hS hret ls hl
  have S : CallFix p m c cX2_sumOf 3 s args wsX2_sumOf RX2 := S
  have hx := S.1
  have hb := S.2.1
  have hl : lv_has ls 3 [(0, .ref t), (1, .int (iI (((n : Nat) : Int)))), (2, .int (iI (((b : Nat) : Int))))] := hl
  refine lv_aload_n hx hb dX2_sumOf_0 rfl (lv_at hl 0 rfl) ?_
  refine w_get (C := RX2) (T := TX2) (Nf := 2) (ci := 2) (v := .ref ts) S (fun _ h => List.mem_cons_of_mem _ (List.mem_append_right _ h)) hE hP 0 rfl rfl 1 (by decide) (List.mem_of_getElem? (i := 1) rfl) rfl dX2_sumOf_1 ?_
  refine lv_iload_n hx hb dX2_sumOf_4 rfl (lv_at hl 1 rfl) ?_
  refine lv_iload_n hx hb dX2_sumOf_5 rfl (lv_at hl 2 rfl) ?_
  refine kS_R (n := 2) S (c_X2_cell lc D cI cZ N ((n : Nat) : Int) ((b : Nat) : Int) ) gX2_sumOf_X2_cell rfl (by decide +kernel) rfl rfl ⟨Nat.le_trans (Nat.le_of_ble_eq_true rfl) hfr, Nat.le_trans (Nat.le_of_ble_eq_true rfl) hlo⟩ hE hAN hP hD hS [] rfl (by decide) rfl hl.1 [.ref ts] rfl (Nat.le_of_ble_eq_true rfl) dX2_sumOf_6 ⟨Nat.zero_le _, Nat.zero_le _⟩ ?_
  refine W.eq (g2 := F0 m 9 ls [.int (iI (((n : Nat) : Int) * 200 + ((b : Nat) : Int))), .ref ts]) rfl ?_
  refine w_iald S hE hP 2 rfl (n * 200 + b) (by omega) (by omega) (by omega) dX2_sumOf_9 ?_
  exact hret _ _ _ dX2_sumOf_10 rfl
set_option maxHeartbeats 4000000 in
set_option maxRecDepth 100000 in
theorem c_add (lc : Launch) (D : va_G) (cI cZ : ClassId) (N : Nat) (t : Nat) (tc : Nat) (ts : Nat) (cn : Nat → Int) (sm : Nat → Int) (n : Nat) (b : Nat) (x : Int) (hn : n < 5) (hb2 : b < 200) : CM lc D cI cZ N yX2_add wsX2_add (rmK 1 21) [.ref t, .int (iI (((n : Nat) : Int))), .int (iI (((b : Nat) : Int))), .int (iI (x))] [(t, .inr (2, [.ref tc, .ref ts])), (tc, .inl (cI, 1000, .inl (vI cn))), (ts, .inl (cI, 1000, .inl (vI sm)))] none [(t, .inr (2, [.ref tc, .ref ts])), (tc, .inl (cI, 1000, .inl (vI (updI cn (n * 200 + b) (cn (n * 200 + b) + 1))))), (ts, .inl (cI, 1000, .inl (vI (updI sm (n * 200 + b) (sm (n * 200 + b) + x)))))] := by
  refine CM.V (cc := cX2_add) (maxL := 4) (by decide) rfl (Nat.le_of_ble_eq_true rfl) ?_
  intro p e s m args below meth c R Q S hE A hAN hfr hlo hP hD hS hret ls hl
  have S : CallFix p m c cX2_add 4 s args wsX2_add RX2 := S
  have hx := S.1
  have hb := S.2.1
  have hl : lv_has ls 4 [(0, .ref t), (1, .int (iI (((n : Nat) : Int)))), (2, .int (iI (((b : Nat) : Int)))), (3, .int (iI (x)))] := hl
  refine lv_aload_n hx hb dX2_add_0 rfl (lv_at hl 0 rfl) ?_
  refine w_get (C := RX2) (T := TX2) (Nf := 2) (ci := 2) (v := .ref tc) S (fun _ h => List.mem_cons_of_mem _ (List.mem_append_right _ h)) hE hP 0 rfl rfl 0 (by decide) (List.mem_of_getElem? (i := 1) rfl) rfl dX2_add_1 ?_
  refine lv_iload_n hx hb dX2_add_4 rfl (lv_at hl 1 rfl) ?_
  refine lv_iload_n hx hb dX2_add_5 rfl (lv_at hl 2 rfl) ?_
  refine kS_R (n := 2) S (c_X2_cell lc D cI cZ N ((n : Nat) : Int) ((b : Nat) : Int) ) gX2_add_X2_cell rfl (by decide +kernel) rfl rfl ⟨Nat.le_trans (Nat.le_of_ble_eq_true rfl) hfr, Nat.le_trans (Nat.le_of_ble_eq_true rfl) hlo⟩ hE hAN hP hD hS [] rfl (by decide) rfl hl.1 [.ref tc] rfl (Nat.le_of_ble_eq_true rfl) dX2_add_6 ⟨Nat.zero_le _, Nat.zero_le _⟩ ?_
  refine W.eq (g2 := F0 m 9 ls [.int (iI (((n : Nat) : Int) * 200 + ((b : Nat) : Int))), .ref tc]) rfl ?_
  refine lv_dup2_11 hx hb dX2_add_9 rfl rfl ?_
  refine w_iald S hE hP 1 rfl (n * 200 + b) (by omega) (by omega) (by omega) dX2_add_10 ?_
  refine lv_iconst (v := iI (1)) hx hb dX2_add_11 rfl ?_
  refine w_iadd S dX2_add_12 ?_
  refine w_iast S hE hP hD hS 1 rfl (n * 200 + b) (by omega) (by omega) (by omega) dX2_add_13 (fun H locs hP hD hS => ?_)
  have hP : va_P D vwCl [(t, .inr (2, [.ref tc, .ref ts])), (tc, .inl (cI, 1000, .inl (vI (updI cn (n * 200 + b) ((cn (n * 200 + b)) + 1))))), (ts, .inl (cI, 1000, .inl (vI sm)))] H := hP
  have hD : va_D A [(t, .inr (2, [.ref tc, .ref ts])), (tc, .inl (cI, 1000, .inl (vI (updI cn (n * 200 + b) ((cn (n * 200 + b)) + 1))))), (ts, .inl (cI, 1000, .inl (vI sm)))] := hD
  refine lv_aload_n hx hb dX2_add_14 rfl (lv_at hl 0 rfl) ?_
  refine w_get (C := RX2) (T := TX2) (Nf := 2) (ci := 2) (v := .ref ts) S (fun _ h => List.mem_cons_of_mem _ (List.mem_append_right _ h)) hE hP 0 rfl rfl 1 (by decide) (List.mem_of_getElem? (i := 2) rfl) rfl dX2_add_15 ?_
  refine lv_iload_n hx hb dX2_add_18 rfl (lv_at hl 1 rfl) ?_
  refine lv_iload_n hx hb dX2_add_19 rfl (lv_at hl 2 rfl) ?_
  refine kS_R (n := 2) S (c_X2_cell lc D cI cZ N ((n : Nat) : Int) ((b : Nat) : Int) ) gX2_add_X2_cell rfl (by decide +kernel) rfl rfl ⟨Nat.le_trans (Nat.le_of_ble_eq_true rfl) hfr, Nat.le_trans (Nat.le_of_ble_eq_true rfl) hlo⟩ hE hAN hP hD hS [] rfl (by decide) rfl hl.1 [.ref ts] rfl (Nat.le_of_ble_eq_true rfl) dX2_add_20 ⟨Nat.zero_le _, Nat.zero_le _⟩ ?_
  refine W.eq (g2 := F0 m 23 ls [.int (iI (((n : Nat) : Int) * 200 + ((b : Nat) : Int))), .ref ts]) rfl ?_
  refine lv_dup2_11 hx hb dX2_add_23 rfl rfl ?_
  refine w_iald S hE hP 2 rfl (n * 200 + b) (by omega) (by omega) (by omega) dX2_add_24 ?_
  refine lv_iload_n hx hb dX2_add_25 rfl (lv_at hl 3 rfl) ?_
  refine w_iadd S dX2_add_26 ?_
  refine w_iast S hE hP hD hS 2 rfl (n * 200 + b) (by omega) (by omega) (by omega) dX2_add_27 (fun H locs hP hD hS => ?_)
  have hP : va_P D vwCl [(t, .inr (2, [.ref tc, .ref ts])), (tc, .inl (cI, 1000, .inl (vI (updI cn (n * 200 + b) ((cn (n * 200 + b)) + 1))))), (ts, .inl (cI, 1000, .inl (vI (updI sm (n * 200 + b) ((sm (n * 200 + b)) + x)))))] H := hP
  have hD : va_D A [(t, .inr (2, [.ref tc, .ref ts])), (tc, .inl (cI, 1000, .inl (vI (updI cn (n * 200 + b) ((cn (n * 200 + b)) + 1))))), (ts, .inl (cI, 1000, .inl (vI (updI sm (n * 200 + b) ((sm (n * 200 + b)) + x)))))] := hD
  exact hret _ _ _ _ dX2_add_28 hP hS
set_option maxHeartbeats 4000000 in
set_option maxRecDepth 100000 in
theorem c_lostBetween (lc : Launch) (D : va_G) (cI cZ : ClassId) (N : Nat) (t : Nat) (tc : Nat) (ts : Nat) (cn : Nat → Int) (sm : Nat → Int) (f : Nat) (g : Nat) (b : Nat) (hf : f < 5) (hg : g < 5) (hb2 : b < 200) : CR lc D cI cZ N yX2_lostBetween wsX2_lostBetween (rmK 2 43) [.ref t, .int (iI (((f : Nat) : Int))), .int (iI (((g : Nat) : Int))), .int (iI (((b : Nat) : Int)))] [(t, .inr (2, [.ref tc, .ref ts])), (tc, .inl (cI, 1000, .inl (vI cn))), (ts, .inl (cI, 1000, .inl (vI sm)))] (some (.int (iI (cn (f * 200 + b) - cn (g * 200 + b))))) := by
  refine CR.I (cc := cX2_lostBetween) (maxL := 4) (by decide) rfl (Nat.le_of_ble_eq_true rfl) ?_
  intro p e s m args below meth c R Q S hE A hAN hfr hlo hP hD hS hret ls hl
  have S : CallFix p m c cX2_lostBetween 4 s args wsX2_lostBetween RX2 := S
  have hx := S.1
  have hb := S.2.1
  have hl : lv_has ls 4 [(0, .ref t), (1, .int (iI (((f : Nat) : Int)))), (2, .int (iI (((g : Nat) : Int)))), (3, .int (iI (((b : Nat) : Int))))] := hl
  refine lv_aload_n hx hb dX2_lostBetween_0 rfl (lv_at hl 0 rfl) ?_
  refine lv_iload_n hx hb dX2_lostBetween_1 rfl (lv_at hl 1 rfl) ?_
  refine lv_iload_n hx hb dX2_lostBetween_2 rfl (lv_at hl 3 rfl) ?_
  refine kV_R (n := 2) (ci := 2) (q := (RX2, TX2, 2)) S (c_countOf lc D cI cZ N t tc ts cn sm f b (by omega) (by omega)) gX2_lostBetween_X2_countOf rfl rfl (by decide +kernel) rfl rfl ⟨Nat.le_trans (Nat.le_of_ble_eq_true rfl) hfr, Nat.le_trans (Nat.le_of_ble_eq_true rfl) hlo⟩ hE hAN hP hD hS [0, 1, 2] rfl (by decide) rfl rfl rfl rfl hl.1 [] rfl (Nat.le_of_ble_eq_true rfl) dX2_lostBetween_3 ⟨Nat.zero_le _, Nat.zero_le _⟩ ?_
  refine W.eq (g2 := F0 m 6 ls [.int (iI (cn (f * 200 + b)))]) rfl ?_
  refine lv_aload_n hx hb dX2_lostBetween_6 rfl (lv_at hl 0 rfl) ?_
  refine lv_iload_n hx hb dX2_lostBetween_7 rfl (lv_at hl 2 rfl) ?_
  refine lv_iload_n hx hb dX2_lostBetween_8 rfl (lv_at hl 3 rfl) ?_
  refine kV_R (n := 2) (ci := 2) (q := (RX2, TX2, 2)) S (c_countOf lc D cI cZ N t tc ts cn sm g b (by omega) (by omega)) gX2_lostBetween_X2_countOf rfl rfl (by decide +kernel) rfl rfl ⟨Nat.le_trans (Nat.le_of_ble_eq_true rfl) hfr, Nat.le_trans (Nat.le_of_ble_eq_true rfl) hlo⟩ hE hAN hP hD hS [0, 1, 2] rfl (by decide) rfl rfl rfl rfl hl.1 [.int (iI (cn (f * 200 + b)))] rfl (Nat.le_of_ble_eq_true rfl) dX2_lostBetween_9 ⟨Nat.zero_le _, Nat.zero_le _⟩ ?_
  refine W.eq (g2 := F0 m 12 ls [.int (iI (cn (g * 200 + b))), .int (iI (cn (f * 200 + b)))]) rfl ?_
  refine w_isub S dX2_lostBetween_12 ?_
  exact hret _ _ _ dX2_lostBetween_13 (congrArg iI (by omega))
set_option maxHeartbeats 4000000 in
set_option maxRecDepth 100000 in
theorem c_lostOfAll (lc : Launch) (D : va_G) (cI cZ : ClassId) (N : Nat) (t : Nat) (tc : Nat) (ts : Nat) (cn : Nat → Int) (sm : Nat → Int) (l : Nat) (hl4 : l < 4) : CR lc D cI cZ N yX2_lostOfAll wsX2_lostOfAll (rmK 3 66) [.ref t, .int (iI (((l : Nat) : Int)))] [(t, .inr (2, [.ref tc, .ref ts])), (tc, .inl (cI, 1000, .inl (vI cn))), (ts, .inl (cI, 1000, .inl (vI sm)))] (some (.int (iI (sumTo (fun b => cn (l * 200 + b) - cn ((l + 1) * 200 + b)) 200)))) := by
  refine CR.I (cc := cX2_lostOfAll) (maxL := 4) (by decide) rfl (Nat.le_of_ble_eq_true rfl) ?_
  intro p e s m args below meth c R Q S hE A hAN hfr hlo hP hD hS hret ls hl
  have S : CallFix p m c cX2_lostOfAll 4 s args wsX2_lostOfAll RX2 := S
  have hx := S.1
  have hb := S.2.1
  have hl : lv_has ls 4 [(0, .ref t), (1, .int (iI (((l : Nat) : Int))))] := hl
  refine lv_iconst (v := iI (0)) hx hb dX2_lostOfAll_0 rfl ?_
  refine lv_istore_n (lv' := [(2, .int (iI (0))), (0, .ref t), (1, .int (iI (((l : Nat) : Int))))]) hx hb dX2_lostOfAll_1 rfl hl (by decide) rfl (fun ls hl => ?_)
  refine lv_iconst (v := iI (0)) hx hb dX2_lostOfAll_2 rfl ?_
  refine lv_istore_n (lv' := [(3, .int (iI (0))), (2, .int (iI (0))), (0, .ref t), (1, .int (iI (((l : Nat) : Int))))]) hx hb dX2_lostOfAll_3 rfl hl (by decide) rfl (fun ls hl => ?_)
  have loop1 : ∀ (n i : Nat) , i + n = 200 → ∀ (ls : Array Slot), lv_has ls 4 [(3, .int (iI (((i : Nat) : Int)))), (2, .int (iI (sumTo (fun b => cn (l * 200 + b) - cn ((l + 1) * 200 + b)) i))), (0, .ref t), (1, .int (iI (((l : Nat) : Int))))] → W p lc e R s m args below meth c s.heap [] 0 0 Q (F0 m 4 ls []) := by
    intro n
    induction n with
    | zero =>
      intro i  hm  ls hl
      refine lv_iload_n hx hb dX2_lostOfAll_4 rfl (lv_at hl 0 rfl) ?_
      refine lv_sipush (v := iI (200)) hx hb dX2_lostOfAll_5 (by decide) ?_
      refine c_geT (tgt := 29) S dX2_lostOfAll_8 (by decide) (by omega) (by omega) (by omega) ?_
      refine lv_iload_n hx hb dX2_lostOfAll_29 rfl (lv_at hl 1 rfl) ?_
      exact hret _ _ _ dX2_lostOfAll_30 (by rw [show i = 200 by omega])
    | succ n ih1 =>
      intro i  hm  ls hl
      refine lv_iload_n hx hb dX2_lostOfAll_4 rfl (lv_at hl 0 rfl) ?_
      refine lv_sipush (v := iI (200)) hx hb dX2_lostOfAll_5 (by decide) ?_
      refine c_geF (tgt := 29) S dX2_lostOfAll_8 (by decide) (by omega) (by omega) (by omega) ?_
      refine lv_iload_n hx hb dX2_lostOfAll_11 rfl (lv_at hl 1 rfl) ?_
      refine lv_aload_n hx hb dX2_lostOfAll_12 rfl (lv_at hl 2 rfl) ?_
      refine lv_iload_n hx hb dX2_lostOfAll_13 rfl (lv_at hl 3 rfl) ?_
      refine lv_iload_n hx hb dX2_lostOfAll_14 rfl (lv_at hl 3 rfl) ?_
      refine lv_iconst (v := iI (1)) hx hb dX2_lostOfAll_15 rfl ?_
      refine w_iadd S dX2_lostOfAll_16 ?_
      refine lv_iload_n hx hb dX2_lostOfAll_17 rfl (lv_at hl 0 rfl) ?_
      refine kV_R (n := 3) (ci := 2) (q := (RX2, TX2, 2)) S (c_lostBetween lc D cI cZ N t tc ts cn sm l (l + 1) i (by omega) (by omega) (by omega)) gX2_lostOfAll_X2_lostBetween rfl rfl (by decide +kernel) rfl rfl ⟨Nat.le_trans (Nat.le_of_ble_eq_true rfl) hfr, Nat.le_trans (Nat.le_of_ble_eq_true rfl) hlo⟩ hE hAN hP hD hS [0, 1, 2] rfl (by decide) rfl rfl rfl rfl hl.1 [.int (iI (sumTo (fun b => cn (l * 200 + b) - cn ((l + 1) * 200 + b)) i))] rfl (Nat.le_of_ble_eq_true rfl) dX2_lostOfAll_18 ⟨Nat.zero_le _, Nat.zero_le _⟩ ?_
      refine W.eq (g2 := F0 m 21 ls [.int (iI (cn (l * 200 + i) - cn ((l + 1) * 200 + i))), .int (iI (sumTo (fun b => cn (l * 200 + b) - cn ((l + 1) * 200 + b)) i))]) rfl ?_
      refine w_iadd S dX2_lostOfAll_21 ?_
      refine lv_istore_n (lv' := [(2, .int (iI ((sumTo (fun b => cn (l * 200 + b) - cn ((l + 1) * 200 + b)) i) + (cn (l * 200 + i) - cn ((l + 1) * 200 + i))))), (3, .int (iI (((i : Nat) : Int)))), (0, .ref t), (1, .int (iI (((l : Nat) : Int))))]) hx hb dX2_lostOfAll_22 rfl hl (by decide) rfl (fun ls hl => ?_)
      refine w_iinc (v := ((i + 1 : Nat) : Int)) (lv' := [(3, .int (iI (((i + 1 : Nat) : Int)))), (2, .int (iI ((sumTo (fun b => cn (l * 200 + b) - cn ((l + 1) * 200 + b)) i) + (cn (l * 200 + i) - cn ((l + 1) * 200 + i))))), (0, .ref t), (1, .int (iI (((l : Nat) : Int))))]) S dX2_lostOfAll_23 hl (k := 1) rfl (by omega) (by decide) rfl (fun ls hl => ?_)
      refine lv_goto (tgt := 4) hx hb dX2_lostOfAll_26 (by decide) ?_
      have hloc : ((sumTo (fun b => cn (l * 200 + b) - cn ((l + 1) * 200 + b)) i) + (cn (l * 200 + i) - cn ((l + 1) * 200 + i)) : Int) = sumTo (fun b => cn (l * 200 + b) - cn ((l + 1) * 200 + b)) (i + 1) := rfl
      rw [hloc] at hl
      exact ih1 (i + 1)  (by omega)  _ (lv_sub hl [0, 1, 2, 3] rfl)
  have hloc : (0 : Int) = sumTo (fun b => cn (l * 200 + b) - cn ((l + 1) * 200 + b)) 0 := rfl
  rw [hloc] at hl
  exact loop1 200 0  (by omega)  _ (lv_sub hl [0, 1, 2, 3] rfl)
set_option maxHeartbeats 4000000 in
set_option maxRecDepth 100000 in
theorem c_hasTook_T (lc : Launch) (D : va_G) (cI cZ : ClassId) (N : Nat) (t : Nat) (tc : Nat) (ts : Nat) (cn : Nat → Int) (sm : Nat → Int) (f : Nat) (g : Nat) (b : Nat) (hf : f < 5) (hg : g < 5) (hb2 : b < 200) (hcn : ∀ k, k < 1000 → 0 ≤ cn k ∧ cn k ≤ 200) (h : 0 < cn (f * 200 + b) ∧ cn (f * 200 + b) = cn (g * 200 + b)) : CR lc D cI cZ N yX2_hasTook wsX2_hasTook (rmK 2 43) [.ref t, .int (iI (((f : Nat) : Int))), .int (iI (((g : Nat) : Int))), .int (iI (((b : Nat) : Int)))] [(t, .inr (2, [.ref tc, .ref ts])), (tc, .inl (cI, 1000, .inl (vI cn))), (ts, .inl (cI, 1000, .inl (vI sm)))] (some (.int (iI (1)))) := by
  refine CR.Z (cc := cX2_hasTook) (maxL := 4) (by decide) rfl (Nat.le_of_ble_eq_true rfl) ?_
  intro p e s m args below meth c R Q S hE A hAN hfr hlo hP hD hS hret ls hl
  have S : CallFix p m c cX2_hasTook 4 s args wsX2_hasTook RX2 := S
  have hx := S.1
  have hb := S.2.1
  have hl : lv_has ls 4 [(0, .ref t), (1, .int (iI (((f : Nat) : Int)))), (2, .int (iI (((g : Nat) : Int)))), (3, .int (iI (((b : Nat) : Int))))] := hl
  have h1 := hcn (f * 200 + b) (by omega)
  have h2 := hcn (g * 200 + b) (by omega)
  refine lv_aload_n hx hb dX2_hasTook_0 rfl (lv_at hl 0 rfl) ?_
  refine lv_iload_n hx hb dX2_hasTook_1 rfl (lv_at hl 1 rfl) ?_
  refine lv_iload_n hx hb dX2_hasTook_2 rfl (lv_at hl 3 rfl) ?_
  refine kV_R (n := 2) (ci := 2) (q := (RX2, TX2, 2)) S (c_countOf lc D cI cZ N t tc ts cn sm f b (by omega) (by omega)) gX2_hasTook_X2_countOf rfl rfl (by decide +kernel) rfl rfl ⟨Nat.le_trans (Nat.le_of_ble_eq_true rfl) hfr, Nat.le_trans (Nat.le_of_ble_eq_true rfl) hlo⟩ hE hAN hP hD hS [0, 1, 2] rfl (by decide) rfl rfl rfl rfl hl.1 [] rfl (Nat.le_of_ble_eq_true rfl) dX2_hasTook_3 ⟨Nat.zero_le _, Nat.zero_le _⟩ ?_
  refine W.eq (g2 := F0 m 6 ls [.int (iI (cn (f * 200 + b)))]) rfl ?_
  refine b_leF (tgt := 28) S dX2_hasTook_6 (by decide) (by omega) (by omega) ?_
  refine lv_aload_n hx hb dX2_hasTook_9 rfl (lv_at hl 0 rfl) ?_
  refine lv_iload_n hx hb dX2_hasTook_10 rfl (lv_at hl 1 rfl) ?_
  refine lv_iload_n hx hb dX2_hasTook_11 rfl (lv_at hl 3 rfl) ?_
  refine kV_R (n := 2) (ci := 2) (q := (RX2, TX2, 2)) S (c_countOf lc D cI cZ N t tc ts cn sm f b (by omega) (by omega)) gX2_hasTook_X2_countOf rfl rfl (by decide +kernel) rfl rfl ⟨Nat.le_trans (Nat.le_of_ble_eq_true rfl) hfr, Nat.le_trans (Nat.le_of_ble_eq_true rfl) hlo⟩ hE hAN hP hD hS [0, 1, 2] rfl (by decide) rfl rfl rfl rfl hl.1 [] rfl (Nat.le_of_ble_eq_true rfl) dX2_hasTook_12 ⟨Nat.zero_le _, Nat.zero_le _⟩ ?_
  refine W.eq (g2 := F0 m 15 ls [.int (iI (cn (f * 200 + b)))]) rfl ?_
  refine lv_aload_n hx hb dX2_hasTook_15 rfl (lv_at hl 0 rfl) ?_
  refine lv_iload_n hx hb dX2_hasTook_16 rfl (lv_at hl 2 rfl) ?_
  refine lv_iload_n hx hb dX2_hasTook_17 rfl (lv_at hl 3 rfl) ?_
  refine kV_R (n := 2) (ci := 2) (q := (RX2, TX2, 2)) S (c_countOf lc D cI cZ N t tc ts cn sm g b (by omega) (by omega)) gX2_hasTook_X2_countOf rfl rfl (by decide +kernel) rfl rfl ⟨Nat.le_trans (Nat.le_of_ble_eq_true rfl) hfr, Nat.le_trans (Nat.le_of_ble_eq_true rfl) hlo⟩ hE hAN hP hD hS [0, 1, 2] rfl (by decide) rfl rfl rfl rfl hl.1 [.int (iI (cn (f * 200 + b)))] rfl (Nat.le_of_ble_eq_true rfl) dX2_hasTook_18 ⟨Nat.zero_le _, Nat.zero_le _⟩ ?_
  refine W.eq (g2 := F0 m 21 ls [.int (iI (cn (g * 200 + b))), .int (iI (cn (f * 200 + b)))]) rfl ?_
  refine c_neF (tgt := 28) S dX2_hasTook_21 (by decide) (by omega) ?_
  refine lv_iconst (v := iI (1)) hx hb dX2_hasTook_24 rfl ?_
  refine lv_goto (tgt := 29) hx hb dX2_hasTook_25 (by decide) ?_
  exact hret _ _ _ dX2_hasTook_29 rfl (Or.inr rfl)
set_option maxHeartbeats 4000000 in
set_option maxRecDepth 100000 in
theorem c_hasTook_F (lc : Launch) (D : va_G) (cI cZ : ClassId) (N : Nat) (t : Nat) (tc : Nat) (ts : Nat) (cn : Nat → Int) (sm : Nat → Int) (f : Nat) (g : Nat) (b : Nat) (hf : f < 5) (hg : g < 5) (hb2 : b < 200) (hcn : ∀ k, k < 1000 → 0 ≤ cn k ∧ cn k ≤ 200) (h : ¬ (0 < cn (f * 200 + b) ∧ cn (f * 200 + b) = cn (g * 200 + b))) : CR lc D cI cZ N yX2_hasTook wsX2_hasTook (rmK 2 43) [.ref t, .int (iI (((f : Nat) : Int))), .int (iI (((g : Nat) : Int))), .int (iI (((b : Nat) : Int)))] [(t, .inr (2, [.ref tc, .ref ts])), (tc, .inl (cI, 1000, .inl (vI cn))), (ts, .inl (cI, 1000, .inl (vI sm)))] (some (.int (iI (0)))) := by
  refine CR.Z (cc := cX2_hasTook) (maxL := 4) (by decide) rfl (Nat.le_of_ble_eq_true rfl) ?_
  intro p e s m args below meth c R Q S hE A hAN hfr hlo hP hD hS hret ls hl
  have S : CallFix p m c cX2_hasTook 4 s args wsX2_hasTook RX2 := S
  have hx := S.1
  have hb := S.2.1
  have hl : lv_has ls 4 [(0, .ref t), (1, .int (iI (((f : Nat) : Int)))), (2, .int (iI (((g : Nat) : Int)))), (3, .int (iI (((b : Nat) : Int))))] := hl
  have h1 := hcn (f * 200 + b) (by omega)
  have h2 := hcn (g * 200 + b) (by omega)
  by_cases h3 : 0 < cn (f * 200 + b)
  · refine lv_aload_n hx hb dX2_hasTook_0 rfl (lv_at hl 0 rfl) ?_
    refine lv_iload_n hx hb dX2_hasTook_1 rfl (lv_at hl 1 rfl) ?_
    refine lv_iload_n hx hb dX2_hasTook_2 rfl (lv_at hl 3 rfl) ?_
    refine kV_R (n := 2) (ci := 2) (q := (RX2, TX2, 2)) S (c_countOf lc D cI cZ N t tc ts cn sm f b (by omega) (by omega)) gX2_hasTook_X2_countOf rfl rfl (by decide +kernel) rfl rfl ⟨Nat.le_trans (Nat.le_of_ble_eq_true rfl) hfr, Nat.le_trans (Nat.le_of_ble_eq_true rfl) hlo⟩ hE hAN hP hD hS [0, 1, 2] rfl (by decide) rfl rfl rfl rfl hl.1 [] rfl (Nat.le_of_ble_eq_true rfl) dX2_hasTook_3 ⟨Nat.zero_le _, Nat.zero_le _⟩ ?_
    refine W.eq (g2 := F0 m 6 ls [.int (iI (cn (f * 200 + b)))]) rfl ?_
    refine b_leF (tgt := 28) S dX2_hasTook_6 (by decide) (by omega) (by omega) ?_
    refine lv_aload_n hx hb dX2_hasTook_9 rfl (lv_at hl 0 rfl) ?_
    refine lv_iload_n hx hb dX2_hasTook_10 rfl (lv_at hl 1 rfl) ?_
    refine lv_iload_n hx hb dX2_hasTook_11 rfl (lv_at hl 3 rfl) ?_
    refine kV_R (n := 2) (ci := 2) (q := (RX2, TX2, 2)) S (c_countOf lc D cI cZ N t tc ts cn sm f b (by omega) (by omega)) gX2_hasTook_X2_countOf rfl rfl (by decide +kernel) rfl rfl ⟨Nat.le_trans (Nat.le_of_ble_eq_true rfl) hfr, Nat.le_trans (Nat.le_of_ble_eq_true rfl) hlo⟩ hE hAN hP hD hS [0, 1, 2] rfl (by decide) rfl rfl rfl rfl hl.1 [] rfl (Nat.le_of_ble_eq_true rfl) dX2_hasTook_12 ⟨Nat.zero_le _, Nat.zero_le _⟩ ?_
    refine W.eq (g2 := F0 m 15 ls [.int (iI (cn (f * 200 + b)))]) rfl ?_
    refine lv_aload_n hx hb dX2_hasTook_15 rfl (lv_at hl 0 rfl) ?_
    refine lv_iload_n hx hb dX2_hasTook_16 rfl (lv_at hl 2 rfl) ?_
    refine lv_iload_n hx hb dX2_hasTook_17 rfl (lv_at hl 3 rfl) ?_
    refine kV_R (n := 2) (ci := 2) (q := (RX2, TX2, 2)) S (c_countOf lc D cI cZ N t tc ts cn sm g b (by omega) (by omega)) gX2_hasTook_X2_countOf rfl rfl (by decide +kernel) rfl rfl ⟨Nat.le_trans (Nat.le_of_ble_eq_true rfl) hfr, Nat.le_trans (Nat.le_of_ble_eq_true rfl) hlo⟩ hE hAN hP hD hS [0, 1, 2] rfl (by decide) rfl rfl rfl rfl hl.1 [.int (iI (cn (f * 200 + b)))] rfl (Nat.le_of_ble_eq_true rfl) dX2_hasTook_18 ⟨Nat.zero_le _, Nat.zero_le _⟩ ?_
    refine W.eq (g2 := F0 m 21 ls [.int (iI (cn (g * 200 + b))), .int (iI (cn (f * 200 + b)))]) rfl ?_
    refine c_neT (tgt := 28) S dX2_hasTook_21 (by decide) (by omega) (by omega) (by omega) ?_
    refine lv_iconst (v := iI (0)) hx hb dX2_hasTook_28 rfl ?_
    exact hret _ _ _ dX2_hasTook_29 rfl (Or.inl rfl)
  · refine lv_aload_n hx hb dX2_hasTook_0 rfl (lv_at hl 0 rfl) ?_
    refine lv_iload_n hx hb dX2_hasTook_1 rfl (lv_at hl 1 rfl) ?_
    refine lv_iload_n hx hb dX2_hasTook_2 rfl (lv_at hl 3 rfl) ?_
    refine kV_R (n := 2) (ci := 2) (q := (RX2, TX2, 2)) S (c_countOf lc D cI cZ N t tc ts cn sm f b (by omega) (by omega)) gX2_hasTook_X2_countOf rfl rfl (by decide +kernel) rfl rfl ⟨Nat.le_trans (Nat.le_of_ble_eq_true rfl) hfr, Nat.le_trans (Nat.le_of_ble_eq_true rfl) hlo⟩ hE hAN hP hD hS [0, 1, 2] rfl (by decide) rfl rfl rfl rfl hl.1 [] rfl (Nat.le_of_ble_eq_true rfl) dX2_hasTook_3 ⟨Nat.zero_le _, Nat.zero_le _⟩ ?_
    refine W.eq (g2 := F0 m 6 ls [.int (iI (cn (f * 200 + b)))]) rfl ?_
    refine b_leT (tgt := 28) S dX2_hasTook_6 (by decide) (by omega) (by omega) ?_
    refine lv_iconst (v := iI (0)) hx hb dX2_hasTook_28 rfl ?_
    exact hret _ _ _ dX2_hasTook_29 rfl (Or.inl rfl)
set_option maxHeartbeats 4000000 in
set_option maxRecDepth 100000 in
theorem c_tookUpper (lc : Launch) (D : va_G) (cI cZ : ClassId) (N : Nat) (t : Nat) (tc : Nat) (ts : Nat) (cn : Nat → Int) (sm : Nat → Int) (f : Nat) (g : Nat) (b : Nat) (hf : f < 5) (hg : g < 5) (hb2 : b < 200) : CR lc D cI cZ N yX2_tookUpper wsX2_tookUpper (rmK 2 43) [.ref t, .int (iI (((f : Nat) : Int))), .int (iI (((g : Nat) : Int))), .int (iI (((b : Nat) : Int)))] [(t, .inr (2, [.ref tc, .ref ts])), (tc, .inl (cI, 1000, .inl (vI cn))), (ts, .inl (cI, 1000, .inl (vI sm)))] (some (.int (iI (sm (g * 200 + b) - sm (f * 200 + b))))) := by
  refine CR.I (cc := cX2_tookUpper) (maxL := 4) (by decide) rfl (Nat.le_of_ble_eq_true rfl) ?_
  intro p e s m args below meth c R Q S hE A hAN hfr hlo hP hD hS hret ls hl
  have S : CallFix p m c cX2_tookUpper 4 s args wsX2_tookUpper RX2 := S
  have hx := S.1
  have hb := S.2.1
  have hl : lv_has ls 4 [(0, .ref t), (1, .int (iI (((f : Nat) : Int)))), (2, .int (iI (((g : Nat) : Int)))), (3, .int (iI (((b : Nat) : Int))))] := hl
  refine lv_aload_n hx hb dX2_tookUpper_0 rfl (lv_at hl 0 rfl) ?_
  refine lv_iload_n hx hb dX2_tookUpper_1 rfl (lv_at hl 2 rfl) ?_
  refine lv_iload_n hx hb dX2_tookUpper_2 rfl (lv_at hl 3 rfl) ?_
  refine kV_R (n := 2) (ci := 2) (q := (RX2, TX2, 2)) S (c_sumOf lc D cI cZ N t tc ts cn sm g b (by omega) (by omega)) gX2_tookUpper_X2_sumOf rfl rfl (by decide +kernel) rfl rfl ⟨Nat.le_trans (Nat.le_of_ble_eq_true rfl) hfr, Nat.le_trans (Nat.le_of_ble_eq_true rfl) hlo⟩ hE hAN hP hD hS [0, 1, 2] rfl (by decide) rfl rfl rfl rfl hl.1 [] rfl (Nat.le_of_ble_eq_true rfl) dX2_tookUpper_3 ⟨Nat.zero_le _, Nat.zero_le _⟩ ?_
  refine W.eq (g2 := F0 m 6 ls [.int (iI (sm (g * 200 + b)))]) rfl ?_
  refine lv_aload_n hx hb dX2_tookUpper_6 rfl (lv_at hl 0 rfl) ?_
  refine lv_iload_n hx hb dX2_tookUpper_7 rfl (lv_at hl 1 rfl) ?_
  refine lv_iload_n hx hb dX2_tookUpper_8 rfl (lv_at hl 3 rfl) ?_
  refine kV_R (n := 2) (ci := 2) (q := (RX2, TX2, 2)) S (c_sumOf lc D cI cZ N t tc ts cn sm f b (by omega) (by omega)) gX2_tookUpper_X2_sumOf rfl rfl (by decide +kernel) rfl rfl ⟨Nat.le_trans (Nat.le_of_ble_eq_true rfl) hfr, Nat.le_trans (Nat.le_of_ble_eq_true rfl) hlo⟩ hE hAN hP hD hS [0, 1, 2] rfl (by decide) rfl rfl rfl rfl hl.1 [.int (iI (sm (g * 200 + b)))] rfl (Nat.le_of_ble_eq_true rfl) dX2_tookUpper_9 ⟨Nat.zero_le _, Nat.zero_le _⟩ ?_
  refine W.eq (g2 := F0 m 12 ls [.int (iI (sm (f * 200 + b))), .int (iI (sm (g * 200 + b)))]) rfl ?_
  refine w_isub S dX2_tookUpper_12 ?_
  exact hret _ _ _ dX2_tookUpper_13 (congrArg iI (by omega))
set_option maxHeartbeats 4000000 in
set_option maxRecDepth 100000 in
theorem c_X2_blocksSent (lc : Launch) (D : va_G) (cI cZ : ClassId) (N : Nat) (t : Nat) (tc : Nat) (ts : Nat) (cn : Nat → Int) (sm : Nat → Int) (hcn : ∀ k, k < 1000 → 0 ≤ cn k ∧ cn k ≤ 200) : CR lc D cI cZ N yX2_blocksSent wsX2_blocksSent (rmK 2 43) [.ref t] [(t, .inr (2, [.ref tc, .ref ts])), (tc, .inl (cI, 1000, .inl (vI cn))), (ts, .inl (cI, 1000, .inl (vI sm)))] (some (.int (iI (cntP (fun b => cn (0 * 200 + b)) 200)))) := by
  refine CR.I (cc := cX2_blocksSent) (maxL := 3) (by decide) rfl (Nat.le_of_ble_eq_true rfl) ?_
  intro p e s m args below meth c R Q S hE A hAN hfr hlo hP hD hS hret ls hl
  have S : CallFix p m c cX2_blocksSent 3 s args wsX2_blocksSent RX2 := S
  have hx := S.1
  have hb := S.2.1
  have hl : lv_has ls 3 [(0, .ref t)] := hl
  refine lv_iconst (v := iI (0)) hx hb dX2_blocksSent_0 rfl ?_
  refine lv_istore_n (lv' := [(1, .int (iI (0))), (0, .ref t)]) hx hb dX2_blocksSent_1 rfl hl (by decide) rfl (fun ls hl => ?_)
  refine lv_iconst (v := iI (0)) hx hb dX2_blocksSent_2 rfl ?_
  refine lv_istore_n (lv' := [(2, .int (iI (0))), (1, .int (iI (0))), (0, .ref t)]) hx hb dX2_blocksSent_3 rfl hl (by decide) rfl (fun ls hl => ?_)
  have loop2 : ∀ (n i : Nat) , i + n = 200 → ∀ (ls : Array Slot), lv_has ls 3 [(2, .int (iI (((i : Nat) : Int)))), (1, .int (iI (cntP (fun b => cn (0 * 200 + b)) i))), (0, .ref t)] → W p lc e R s m args below meth c s.heap [] 0 0 Q (F0 m 4 ls []) := by
    intro n
    induction n with
    | zero =>
      intro i  hm  ls hl
      refine lv_iload_n hx hb dX2_blocksSent_4 rfl (lv_at hl 0 rfl) ?_
      refine lv_sipush (v := iI (200)) hx hb dX2_blocksSent_5 (by decide) ?_
      refine c_geT (tgt := 29) S dX2_blocksSent_8 (by decide) (by omega) (by omega) (by omega) ?_
      refine lv_iload_n hx hb dX2_blocksSent_29 rfl (lv_at hl 1 rfl) ?_
      exact hret _ _ _ dX2_blocksSent_30 (by rw [show i = 200 by omega])
    | succ n ih2 =>
      intro i  hm  ls hl
      refine lv_iload_n hx hb dX2_blocksSent_4 rfl (lv_at hl 0 rfl) ?_
      refine lv_sipush (v := iI (200)) hx hb dX2_blocksSent_5 (by decide) ?_
      refine c_geF (tgt := 29) S dX2_blocksSent_8 (by decide) (by omega) (by omega) (by omega) ?_
      have h1 := hcn (0 * 200 + i) (by omega)
      refine lv_aload_n hx hb dX2_blocksSent_11 rfl (lv_at hl 2 rfl) ?_
      refine lv_iconst (v := iI (0)) hx hb dX2_blocksSent_12 rfl ?_
      refine lv_iload_n hx hb dX2_blocksSent_13 rfl (lv_at hl 0 rfl) ?_
      refine kV_R (n := 2) (ci := 2) (q := (RX2, TX2, 2)) S (c_countOf lc D cI cZ N t tc ts cn sm 0 i (by omega) (by omega)) gX2_blocksSent_X2_countOf rfl rfl (by decide +kernel) rfl rfl ⟨Nat.le_trans (Nat.le_of_ble_eq_true rfl) hfr, Nat.le_trans (Nat.le_of_ble_eq_true rfl) hlo⟩ hE hAN hP hD hS [0, 1, 2] rfl (by decide) rfl rfl rfl rfl hl.1 [] rfl (Nat.le_of_ble_eq_true rfl) dX2_blocksSent_14 ⟨Nat.zero_le _, Nat.zero_le _⟩ ?_
      refine W.eq (g2 := F0 m 17 ls [.int (iI (cn (0 * 200 + i)))]) rfl ?_
      by_cases h2 : 0 < cn (0 * 200 + i)
      · refine b_leF (tgt := 23) S dX2_blocksSent_17 (by decide) (by omega) (by omega) ?_
        refine w_iinc (v := (cntP (fun b => cn (0 * 200 + b)) i) + 1) (lv' := [(1, .int (iI ((cntP (fun b => cn (0 * 200 + b)) i) + 1))), (2, .int (iI (((i : Nat) : Int)))), (0, .ref t)]) S dX2_blocksSent_20 hl (k := 1) rfl rfl (by decide) rfl (fun ls hl => ?_)
        refine w_iinc (v := ((i + 1 : Nat) : Int)) (lv' := [(2, .int (iI (((i + 1 : Nat) : Int)))), (1, .int (iI ((cntP (fun b => cn (0 * 200 + b)) i) + 1))), (0, .ref t)]) S dX2_blocksSent_23 hl (k := 1) rfl (by omega) (by decide) rfl (fun ls hl => ?_)
        refine lv_goto (tgt := 4) hx hb dX2_blocksSent_26 (by decide) ?_
        have hloc : ((cntP (fun b => cn (0 * 200 + b)) i) + 1 : Int) = cntP (fun b => cn (0 * 200 + b)) (i + 1) := (by show _ = cntP _ i + _; rw [if_pos h2])
        rw [hloc] at hl
        exact ih2 (i + 1)  (by omega)  _ (lv_sub hl [0, 1, 2] rfl)
      · refine b_leT (tgt := 23) S dX2_blocksSent_17 (by decide) (by omega) (by omega) ?_
        refine w_iinc (v := ((i + 1 : Nat) : Int)) (lv' := [(2, .int (iI (((i + 1 : Nat) : Int)))), (1, .int (iI (cntP (fun b => cn (0 * 200 + b)) i))), (0, .ref t)]) S dX2_blocksSent_23 hl (k := 0) rfl (by omega) (by decide) rfl (fun ls hl => ?_)
        refine lv_goto (tgt := 4) hx hb dX2_blocksSent_26 (by decide) ?_
        have hloc : (cntP (fun b => cn (0 * 200 + b)) i : Int) = cntP (fun b => cn (0 * 200 + b)) (i + 1) := (by show _ = cntP _ i + _; rw [if_neg h2]; omega)
        rw [hloc] at hl
        exact ih2 (i + 1)  (by omega)  _ (lv_sub hl [0, 1, 2] rfl)
  have hloc : (0 : Int) = cntP (fun b => cn (0 * 200 + b)) 0 := rfl
  rw [hloc] at hl
  exact loop2 200 0  (by omega)  _ (lv_sub hl [0, 1, 2] rfl)
set_option maxHeartbeats 4000000 in
set_option maxRecDepth 100000 in
theorem c_X2_begin (lc : Launch) (D : va_G) (cI cZ : ClassId) (N : Nat) (t : Nat) (tc : Nat) (ts : Nat) (cn : Nat → Int) (sm : Nat → Int)  : CM lc D cI cZ N yX2_begin wsX2_begin (rmK 1 23) [.ref t] [(t, .inr (2, [.ref tc, .ref ts])), (tc, .inl (cI, 1000, .inl (vI cn))), (ts, .inl (cI, 1000, .inl (vI sm)))] none [(t, .inr (2, [.ref tc, .ref ts])), (tc, .inl (cI, 1000, .inl (vI (fun _ => 0)))), (ts, .inl (cI, 1000, .inl (vI (fun _ => 0))))] := by
  refine CM.V (cc := cX2_begin) (maxL := 1) (by decide) rfl (Nat.le_of_ble_eq_true rfl) ?_
  intro p e s m args below meth c R Q S hE A hAN hfr hlo hP hD hS hret ls hl
  have S : CallFix p m c cX2_begin 1 s args wsX2_begin RX2 := S
  have hx := S.1
  have hb := S.2.1
  have hl : lv_has ls 1 [(0, .ref t)] := hl
  refine lv_aload_n hx hb dX2_begin_0 rfl (lv_at hl 0 rfl) ?_
  refine w_get (C := RX2) (T := TX2) (Nf := 2) (ci := 2) (v := .ref tc) S (fun _ h => List.mem_cons_of_mem _ (List.mem_append_right _ h)) hE hP 0 rfl rfl 0 (by decide) (List.mem_of_getElem? (i := 1) rfl) rfl dX2_begin_1 ?_
  refine lv_iconst (v := iI (0)) hx hb dX2_begin_4 rfl ?_
  refine kS_M (n := 2) S (c_fill lc D cI cZ N tc 1000 cn 0 (by omega)) gX2_begin_J7_fill_53178 rfl (by decide +kernel) rfl rfl ⟨Nat.le_trans (Nat.le_of_ble_eq_true rfl) hfr, Nat.le_trans (Nat.le_of_ble_eq_true rfl) hlo⟩ hE hAN hP hD hS [1] rfl (by decide) rfl rfl hl.1 [] rfl (Nat.le_of_ble_eq_true rfl) dX2_begin_5 ⟨Nat.zero_le _, Nat.zero_le _⟩ (fun H locs hP hD hS => ?_)
  have hP : va_P D vwCl [(t, .inr (2, [.ref tc, .ref ts])), (tc, .inl (cI, 1000, .inl (vI (fun _ => 0)))), (ts, .inl (cI, 1000, .inl (vI sm)))] H := hP
  have hD : va_D A [(t, .inr (2, [.ref tc, .ref ts])), (tc, .inl (cI, 1000, .inl (vI (fun _ => 0)))), (ts, .inl (cI, 1000, .inl (vI sm)))] := hD
  refine W.eq (g2 := F0 m 8 ls []) rfl ?_
  refine lv_aload_n hx hb dX2_begin_8 rfl (lv_at hl 0 rfl) ?_
  refine w_get (C := RX2) (T := TX2) (Nf := 2) (ci := 2) (v := .ref ts) S (fun _ h => List.mem_cons_of_mem _ (List.mem_append_right _ h)) hE hP 0 rfl rfl 1 (by decide) (List.mem_of_getElem? (i := 2) rfl) rfl dX2_begin_9 ?_
  refine lv_iconst (v := iI (0)) hx hb dX2_begin_12 rfl ?_
  refine kS_M (n := 2) S (c_fill lc D cI cZ N ts 1000 sm 0 (by omega)) gX2_begin_J7_fill_53178 rfl (by decide +kernel) rfl rfl ⟨Nat.le_trans (Nat.le_of_ble_eq_true rfl) hfr, Nat.le_trans (Nat.le_of_ble_eq_true rfl) hlo⟩ hE hAN hP hD hS [2] rfl (by decide) rfl rfl hl.1 [] rfl (Nat.le_of_ble_eq_true rfl) dX2_begin_13 ⟨Nat.zero_le _, Nat.zero_le _⟩ (fun H locs hP hD hS => ?_)
  have hP : va_P D vwCl [(t, .inr (2, [.ref tc, .ref ts])), (tc, .inl (cI, 1000, .inl (vI (fun _ => 0)))), (ts, .inl (cI, 1000, .inl (vI (fun _ => 0))))] H := hP
  have hD : va_D A [(t, .inr (2, [.ref tc, .ref ts])), (tc, .inl (cI, 1000, .inl (vI (fun _ => 0)))), (ts, .inl (cI, 1000, .inl (vI (fun _ => 0))))] := hD
  refine W.eq (g2 := F0 m 16 ls []) rfl ?_
  exact hret _ _ _ _ dX2_begin_16 hP hS
set_option maxHeartbeats 4000000 in
set_option maxRecDepth 100000 in
theorem c_X2_copyFrom (lc : Launch) (D : va_G) (cI cZ : ClassId) (N : Nat) (t : Nat) (tc : Nat) (ts : Nat) (cn : Nat → Int) (sm : Nat → Int) (t2 : Nat) (tc2 : Nat) (ts2 : Nat) (cn2 : Nat → Int) (sm2 : Nat → Int)  : CM lc D cI cZ N yX2_copyFrom wsX2_copyFrom (rmK 1 26) [.ref t, .ref t2] [(t, .inr (2, [.ref tc, .ref ts])), (tc, .inl (cI, 1000, .inl (vI cn))), (ts, .inl (cI, 1000, .inl (vI sm))), (t2, .inr (2, [.ref tc2, .ref ts2])), (tc2, .inl (cI, 1000, .inl (vI cn2))), (ts2, .inl (cI, 1000, .inl (vI sm2)))] none [(t, .inr (2, [.ref tc, .ref ts])), (tc, .inl (cI, 1000, .inl (vI cn2))), (ts, .inl (cI, 1000, .inl (vI sm2))), (t2, .inr (2, [.ref tc2, .ref ts2])), (tc2, .inl (cI, 1000, .inl (vI cn2))), (ts2, .inl (cI, 1000, .inl (vI sm2)))] := by
  refine CM.V (cc := cX2_copyFrom) (maxL := 2) (by decide) rfl (Nat.le_of_ble_eq_true rfl) ?_
  intro p e s m args below meth c R Q S hE A hAN hfr hlo hP hD hS hret ls hl
  have S : CallFix p m c cX2_copyFrom 2 s args wsX2_copyFrom RX2 := S
  have hx := S.1
  have hb := S.2.1
  have hl : lv_has ls 2 [(0, .ref t), (1, .ref t2)] := hl
  refine lv_aload_n hx hb dX2_copyFrom_0 rfl (lv_at hl 1 rfl) ?_
  refine w_get (C := RX2) (T := TX2) (Nf := 2) (ci := 2) (v := .ref tc2) S (fun _ h => List.mem_cons_of_mem _ (List.mem_append_right _ h)) hE hP 3 rfl rfl 0 (by decide) (List.mem_of_getElem? (i := 1) rfl) rfl dX2_copyFrom_1 ?_
  refine lv_iconst (v := iI (0)) hx hb dX2_copyFrom_4 rfl ?_
  refine lv_aload_n hx hb dX2_copyFrom_5 rfl (lv_at hl 0 rfl) ?_
  refine w_get (C := RX2) (T := TX2) (Nf := 2) (ci := 2) (v := .ref tc) S (fun _ h => List.mem_cons_of_mem _ (List.mem_append_right _ h)) hE hP 0 rfl rfl 0 (by decide) (List.mem_of_getElem? (i := 1) rfl) rfl dX2_copyFrom_6 ?_
  refine lv_iconst (v := iI (0)) hx hb dX2_copyFrom_9 rfl ?_
  refine lv_aload_n hx hb dX2_copyFrom_10 rfl (lv_at hl 0 rfl) ?_
  refine w_get (C := RX2) (T := TX2) (Nf := 2) (ci := 2) (v := .ref tc) S (fun _ h => List.mem_cons_of_mem _ (List.mem_append_right _ h)) hE hP 0 rfl rfl 0 (by decide) (List.mem_of_getElem? (i := 1) rfl) rfl dX2_copyFrom_11 ?_
  refine w_alen S hE hP 1 rfl dX2_copyFrom_14 ?_
  refine w_copy S hE hl.1 (List.mem_of_getElem? (i := 2) rfl) (List.mem_of_getElem? (i := 3) rfl) (List.mem_of_getElem? (i := 4) rfl) (List.mem_of_getElem? (i := 5) rfl) (Nat.le_trans (Nat.le_of_ble_eq_true rfl) hfr) (Nat.le_trans (Nat.le_of_ble_eq_true rfl) hlo) (Nat.le_of_ble_eq_true rfl) hP hD hS 4 1 rfl rfl (by decide) (by omega) dX2_copyFrom_15 (fun H locs hP hD hS => ?_)
  have hP : va_P D vwCl [(t, .inr (2, [.ref tc, .ref ts])), (tc, .inl (cI, 1000, .inl (vI cn2))), (ts, .inl (cI, 1000, .inl (vI sm))), (t2, .inr (2, [.ref tc2, .ref ts2])), (tc2, .inl (cI, 1000, .inl (vI cn2))), (ts2, .inl (cI, 1000, .inl (vI sm2)))] H := hP
  have hD : va_D A [(t, .inr (2, [.ref tc, .ref ts])), (tc, .inl (cI, 1000, .inl (vI cn2))), (ts, .inl (cI, 1000, .inl (vI sm))), (t2, .inr (2, [.ref tc2, .ref ts2])), (tc2, .inl (cI, 1000, .inl (vI cn2))), (ts2, .inl (cI, 1000, .inl (vI sm2)))] := hD
  refine lv_aload_n hx hb dX2_copyFrom_18 rfl (lv_at hl 1 rfl) ?_
  refine w_get (C := RX2) (T := TX2) (Nf := 2) (ci := 2) (v := .ref ts2) S (fun _ h => List.mem_cons_of_mem _ (List.mem_append_right _ h)) hE hP 3 rfl rfl 1 (by decide) (List.mem_of_getElem? (i := 6) rfl) rfl dX2_copyFrom_19 ?_
  refine lv_iconst (v := iI (0)) hx hb dX2_copyFrom_22 rfl ?_
  refine lv_aload_n hx hb dX2_copyFrom_23 rfl (lv_at hl 0 rfl) ?_
  refine w_get (C := RX2) (T := TX2) (Nf := 2) (ci := 2) (v := .ref ts) S (fun _ h => List.mem_cons_of_mem _ (List.mem_append_right _ h)) hE hP 0 rfl rfl 1 (by decide) (List.mem_of_getElem? (i := 6) rfl) rfl dX2_copyFrom_24 ?_
  refine lv_iconst (v := iI (0)) hx hb dX2_copyFrom_27 rfl ?_
  refine lv_aload_n hx hb dX2_copyFrom_28 rfl (lv_at hl 0 rfl) ?_
  refine w_get (C := RX2) (T := TX2) (Nf := 2) (ci := 2) (v := .ref ts) S (fun _ h => List.mem_cons_of_mem _ (List.mem_append_right _ h)) hE hP 0 rfl rfl 1 (by decide) (List.mem_of_getElem? (i := 6) rfl) rfl dX2_copyFrom_29 ?_
  refine w_alen S hE hP 2 rfl dX2_copyFrom_32 ?_
  refine w_copy S hE hl.1 (List.mem_of_getElem? (i := 2) rfl) (List.mem_of_getElem? (i := 3) rfl) (List.mem_of_getElem? (i := 4) rfl) (List.mem_of_getElem? (i := 5) rfl) (Nat.le_trans (Nat.le_of_ble_eq_true rfl) hfr) (Nat.le_trans (Nat.le_of_ble_eq_true rfl) hlo) (Nat.le_of_ble_eq_true rfl) hP hD hS 5 2 rfl rfl (by decide) (by omega) dX2_copyFrom_33 (fun H locs hP hD hS => ?_)
  have hP : va_P D vwCl [(t, .inr (2, [.ref tc, .ref ts])), (tc, .inl (cI, 1000, .inl (vI cn2))), (ts, .inl (cI, 1000, .inl (vI sm2))), (t2, .inr (2, [.ref tc2, .ref ts2])), (tc2, .inl (cI, 1000, .inl (vI cn2))), (ts2, .inl (cI, 1000, .inl (vI sm2)))] H := hP
  have hD : va_D A [(t, .inr (2, [.ref tc, .ref ts])), (tc, .inl (cI, 1000, .inl (vI cn2))), (ts, .inl (cI, 1000, .inl (vI sm2))), (t2, .inr (2, [.ref tc2, .ref ts2])), (tc2, .inl (cI, 1000, .inl (vI cn2))), (ts2, .inl (cI, 1000, .inl (vI sm2)))] := hD
  exact hret _ _ _ _ dX2_copyFrom_36 hP hS
