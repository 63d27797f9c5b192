set_option maxHeartbeats 4000000 in
set_option maxRecDepth 100000 in
theorem c_lnum_O1 (lc : Launch) (D : va_G) (cI cZ : ClassId) (N : Nat) (o : Nat) (v2 : Nat) (v3 : Nat) (ik : Int) (w : Nat) (wc : Nat) (k : Nat) (kn : Nat) (t : Nat) (tc : Nat) (ts : Nat) (b : Nat) (bm : Nat) (br : Nat) (mn : Nat) (tA : Int) (sA : Int) (kA : Int) (ck : Nat → Int) (nb : Nat → Int) (cn : Nat → Int) (sm : Nat → Int) (mo : Nat → Int) (re : Nat → Int) (x : Int) (r_x : -2147483648 ≤ x ∧ x ≤ 2147483647) (h : x < 10) : CR lc D cI cZ N yX4_linkNumber wsX4_linkNumber (rmK 2 43) [.ref o, .int (iI (x))] [(o, .inr (4, [.ref w, .ref v2, .ref v3, .int (iI (ik))])), (w, .inr (3, [.int (iI (((mn : Nat) : Int))), .int (iI (tA)), .int (iI (sA)), .int (iI (kA)), .ref wc, .ref k, .ref t, .ref b])), (wc, .inl (cI, 5, .inl (vI ck))), (k, .inr (1, [.ref kn])), (kn, .inl (cI, 24, .inl (vI nb))), (t, .inr (2, [.ref tc, .ref ts])), (tc, .inl (cI, 1000, .inl (vI cn))), (ts, .inl (cI, 1000, .inl (vI sm))), (b, .inr (0, [.ref bm, .ref br])), (bm, .inl (cI, 25, .inl (vI mo))), (br, .inl (cI, 5, .inl (vI re)))] (some (.int (iI (-2)))) := by
  refine CR.I (cc := cX4_linkNumber) (maxL := 4) (by decide) rfl (Nat.le_of_ble_eq_true rfl) ?_
  intro p e s m args below meth c R Q S hE A hAN hfr hlo hP hD hS hret ls hl
  have S : CallFix p m c cX4_linkNumber 4 s args wsX4_linkNumber RX4 := S
  have hx := S.1
  have hb := S.2.1
  have hl : lv_has ls 4 [(0, .ref o), (1, .int (iI (x)))] := hl
  refine lv_iload_n hx hb dX4_linkNumber_0 rfl (lv_at hl 1 rfl) ?_
  refine lv_bipush (v := iI (10)) hx hb dX4_linkNumber_1 (by decide) ?_
  refine c_geF (tgt := 9) S dX4_linkNumber_3 (by decide) (by omega) (by omega) (by omega) ?_
  refine lv_bipush (v := iI ((-2))) hx hb dX4_linkNumber_6 (by decide) ?_
  exact hret _ _ _ dX4_linkNumber_8 (congrArg iI (by omega))
set_option maxHeartbeats 4000000 in
set_option maxRecDepth 100000 in
theorem c_lnum_O2 (lc : Launch) (D : va_G) (cI cZ : ClassId) (N : Nat) (o : Nat) (v2 : Nat) (v3 : Nat) (ik : Int) (w : Nat) (wc : Nat) (k : Nat) (kn : Nat) (t : Nat) (tc : Nat) (ts : Nat) (b : Nat) (bm : Nat) (br : Nat) (mn : Nat) (tA : Int) (sA : Int) (kA : Int) (ck : Nat → Int) (nb : Nat → Int) (cn : Nat → Int) (sm : Nat → Int) (mo : Nat → Int) (re : Nat → Int) (x : Int) (hmn : 2 ≤ mn ∧ mn ≤ 5) (r_x : -2147483648 ≤ x ∧ x ≤ 2147483647) (h : 10 ≤ x) (h2 : ¬ ((0 ≤ x.tdiv 10 - 1 ∧ x.tdiv 10 - 1 ≤ (mn : Int) - 2) ∧ (0 ≤ x.tmod 10 ∧ x.tmod 10 ≤ 5))) : CR lc D cI cZ N yX4_linkNumber wsX4_linkNumber (rmK 2 43) [.ref o, .int (iI (x))] [(o, .inr (4, [.ref w, .ref v2, .ref v3, .int (iI (ik))])), (w, .inr (3, [.int (iI (((mn : Nat) : Int))), .int (iI (tA)), .int (iI (sA)), .int (iI (kA)), .ref wc, .ref k, .ref t, .ref b])), (wc, .inl (cI, 5, .inl (vI ck))), (k, .inr (1, [.ref kn])), (kn, .inl (cI, 24, .inl (vI nb))), (t, .inr (2, [.ref tc, .ref ts])), (tc, .inl (cI, 1000, .inl (vI cn))), (ts, .inl (cI, 1000, .inl (vI sm))), (b, .inr (0, [.ref bm, .ref br])), (bm, .inl (cI, 25, .inl (vI mo))), (br, .inl (cI, 5, .inl (vI re)))] (some (.int (iI (-2)))) := by
  refine CR.I (cc := cX4_linkNumber) (maxL := 4) (by decide) rfl (Nat.le_of_ble_eq_true rfl) ?_
  intro p e s m args below meth c R Q S hE A hAN hfr hlo hP hD hS hret ls hl
  have S : CallFix p m c cX4_linkNumber 4 s args wsX4_linkNumber RX4 := S
  have hx := S.1
  have hb := S.2.1
  have hl : lv_has ls 4 [(0, .ref o), (1, .int (iI (x)))] := hl
  refine lv_iload_n hx hb dX4_linkNumber_0 rfl (lv_at hl 1 rfl) ?_
  refine lv_bipush (v := iI (10)) hx hb dX4_linkNumber_1 (by decide) ?_
  refine c_geT (tgt := 9) S dX4_linkNumber_3 (by decide) (by omega) (by omega) (by omega) ?_
  have g1 := tmod_rng (t := x) (d := 10) (by omega) (by omega)
  have g2 : 0 ≤ x.tdiv 10 ∧ x.tdiv 10 ≤ x := ⟨Int.tdiv_nonneg (by omega) (by omega), Int.tdiv_le_self _ (by omega)⟩
  refine lv_iload_n hx hb dX4_linkNumber_9 rfl (lv_at hl 1 rfl) ?_
  refine lv_bipush (v := iI (10)) hx hb dX4_linkNumber_10 (by decide) ?_
  refine w_idiv S (by omega) (by omega) dX4_linkNumber_12 ?_
  refine lv_iconst (v := iI (1)) hx hb dX4_linkNumber_13 rfl ?_
  refine w_isub S dX4_linkNumber_14 ?_
  refine lv_istore_n (lv' := [(2, .int (iI ((x.tdiv 10) - 1))), (0, .ref o), (1, .int (iI (x)))]) hx hb dX4_linkNumber_15 rfl hl (by decide) rfl (fun ls hl => ?_)
  refine lv_iload_n hx hb dX4_linkNumber_16 rfl (lv_at hl 2 rfl) ?_
  refine lv_bipush (v := iI (10)) hx hb dX4_linkNumber_17 (by decide) ?_
  refine w_irem S (by omega) (by omega) dX4_linkNumber_19 ?_
  refine lv_istore_n (lv' := [(3, .int (iI (x.tmod 10))), (2, .int (iI ((x.tdiv 10) - 1))), (0, .ref o), (1, .int (iI (x)))]) hx hb dX4_linkNumber_20 rfl hl (by decide) rfl (fun ls hl => ?_)
  by_cases h3 : (0 ≤ x.tdiv 10 - 1 ∧ x.tdiv 10 - 1 ≤ (mn : Int) - 2)
  · refine lv_aload_n hx hb dX4_linkNumber_21 rfl (lv_at hl 2 rfl) ?_
    refine w_get (C := RX4) (T := TX4) (Nf := 4) (ci := 4) (v := .ref w) S (fun _ h => List.mem_cons_of_mem _ (List.mem_append_left _ (List.mem_append_left _ (List.mem_append_right _ h)))) hE hP 0 rfl rfl 0 (by decide) (List.mem_of_getElem? (i := 1) rfl) rfl dX4_linkNumber_22 ?_
    refine lv_iload_n hx hb dX4_linkNumber_25 rfl (lv_at hl 1 rfl) ?_
    refine kV_R (n := 1) (ci := 3) (q := (RX3, TX3, 8)) S (c_hasLink_T lc D cI cZ N w wc k kn t tc ts b bm br mn tA sA kA ck nb cn sm mo re ((x.tdiv 10) - 1) (by omega) (by omega) (by omega)) gX4_linkNumber_X3_hasLink rfl rfl (by decide +kernel) rfl rfl ⟨Nat.le_trans (Nat.le_of_ble_eq_true rfl) hfr, Nat.le_trans (Nat.le_of_ble_eq_true rfl) hlo⟩ hE hAN hP hD hS [1, 2, 3, 4, 5, 6, 7, 8, 9, 10] rfl (by decide) rfl rfl rfl rfl hl.1 [] rfl (Nat.le_of_ble_eq_true rfl) dX4_linkNumber_26 ⟨Nat.zero_le _, Nat.zero_le _⟩ ?_
    refine W.eq (g2 := F0 m 29 ls [.int (iI (1))]) rfl ?_
    refine b_eqF (tgt := 41) S dX4_linkNumber_29 (by decide) (by decide) (by decide) ?_
    refine lv_iload_n hx hb dX4_linkNumber_32 rfl (lv_at hl 0 rfl) ?_
    refine lv_iconst (v := iI (0)) hx hb dX4_linkNumber_33 rfl ?_
    refine lv_iconst (v := iI (5)) hx hb dX4_linkNumber_34 rfl ?_
    refine kS_R (n := 3) S (c_within_F lc D cI cZ N (x.tmod 10) 0 5 (by omega) (by omega) (by omega) (by omega)) gX4_linkNumber_X4_within rfl (by decide +kernel) rfl rfl ⟨Nat.le_trans (Nat.le_of_ble_eq_true rfl) hfr, Nat.le_trans (Nat.le_of_ble_eq_true rfl) hlo⟩ hE hAN hP hD hS [] rfl (by decide) rfl hl.1 [] rfl (Nat.le_of_ble_eq_true rfl) dX4_linkNumber_35 ⟨Nat.zero_le _, Nat.zero_le _⟩ ?_
    refine W.eq (g2 := F0 m 38 ls [.int (iI (0))]) rfl ?_
    refine b_neF (tgt := 44) S dX4_linkNumber_38 (by decide) (by decide) ?_
    refine lv_bipush (v := iI ((-2))) hx hb dX4_linkNumber_41 (by decide) ?_
    exact hret _ _ _ dX4_linkNumber_43 (congrArg iI (by omega))
  · refine lv_aload_n hx hb dX4_linkNumber_21 rfl (lv_at hl 2 rfl) ?_
    refine w_get (C := RX4) (T := TX4) (Nf := 4) (ci := 4) (v := .ref w) S (fun _ h => List.mem_cons_of_mem _ (List.mem_append_left _ (List.mem_append_left _ (List.mem_append_right _ h)))) hE hP 0 rfl rfl 0 (by decide) (List.mem_of_getElem? (i := 1) rfl) rfl dX4_linkNumber_22 ?_
    refine lv_iload_n hx hb dX4_linkNumber_25 rfl (lv_at hl 1 rfl) ?_
    refine kV_R (n := 1) (ci := 3) (q := (RX3, TX3, 8)) S (c_hasLink_F lc D cI cZ N w wc k kn t tc ts b bm br mn tA sA kA ck nb cn sm mo re ((x.tdiv 10) - 1) (by omega) (by omega) (by omega)) gX4_linkNumber_X3_hasLink rfl rfl (by decide +kernel) rfl rfl ⟨Nat.le_trans (Nat.le_of_ble_eq_true rfl) hfr, Nat.le_trans (Nat.le_of_ble_eq_true rfl) hlo⟩ hE hAN hP hD hS [1, 2, 3, 4, 5, 6, 7, 8, 9, 10] rfl (by decide) rfl rfl rfl rfl hl.1 [] rfl (Nat.le_of_ble_eq_true rfl) dX4_linkNumber_26 ⟨Nat.zero_le _, Nat.zero_le _⟩ ?_
    refine W.eq (g2 := F0 m 29 ls [.int (iI (0))]) rfl ?_
    refine b_eqT (tgt := 41) S dX4_linkNumber_29 (by decide) (by decide) ?_
    refine lv_bipush (v := iI ((-2))) hx hb dX4_linkNumber_41 (by decide) ?_
    exact hret _ _ _ dX4_linkNumber_43 (congrArg iI (by omega))
set_option maxHeartbeats 4000000 in
set_option maxRecDepth 100000 in
theorem c_lnum (lc : Launch) (D : va_G) (cI cZ : ClassId) (N : Nat) (o : Nat) (v2 : Nat) (v3 : Nat) (ik : Int) (w : Nat) (wc : Nat) (k : Nat) (kn : Nat) (t : Nat) (tc : Nat) (ts : Nat) (b : Nat) (bm : Nat) (br : Nat) (mn : Nat) (tA : Int) (sA : Int) (kA : Int) (ck : Nat → Int) (nb : Nat → Int) (cn : Nat → Int) (sm : Nat → Int) (mo : Nat → Int) (re : Nat → Int) (lk : Nat) (wh : Nat) (hmn : 2 ≤ mn ∧ mn ≤ 5) (h : lk + 2 ≤ mn) (hwh : wh < 6) : CR lc D cI cZ N yX4_linkNumber wsX4_linkNumber (rmK 2 43) [.ref o, .int (iI (((10 + 10 * lk + wh : Nat) : Int)))] [(o, .inr (4, [.ref w, .ref v2, .ref v3, .int (iI (ik))])), (w, .inr (3, [.int (iI (((mn : Nat) : Int))), .int (iI (tA)), .int (iI (sA)), .int (iI (kA)), .ref wc, .ref k, .ref t, .ref b])), (wc, .inl (cI, 5, .inl (vI ck))), (k, .inr (1, [.ref kn])), (kn, .inl (cI, 24, .inl (vI nb))), (t, .inr (2, [.ref tc, .ref ts])), (tc, .inl (cI, 1000, .inl (vI cn))), (ts, .inl (cI, 1000, .inl (vI sm))), (b, .inr (0, [.ref bm, .ref br])), (bm, .inl (cI, 25, .inl (vI mo))), (br, .inl (cI, 5, .inl (vI re)))] (some (.int (iI (nb (lk * 6 + wh))))) := by
  refine CR.I (cc := cX4_linkNumber) (maxL := 4) (by decide) rfl (Nat.le_of_ble_eq_true rfl) ?_
  intro p e s m args below meth c R Q S hE A hAN hfr hlo hP hD hS hret ls hl
  have S : CallFix p m c cX4_linkNumber 4 s args wsX4_linkNumber RX4 := S
  have hx := S.1
  have hb := S.2.1
  have hl : lv_has ls 4 [(0, .ref o), (1, .int (iI (((10 + 10 * lk + wh : Nat) : Int))))] := hl
  refine lv_iload_n hx hb dX4_linkNumber_0 rfl (lv_at hl 1 rfl) ?_
  refine lv_bipush (v := iI (10)) hx hb dX4_linkNumber_1 (by decide) ?_
  refine c_geT (tgt := 9) S dX4_linkNumber_3 (by decide) (by omega) (by omega) (by omega) ?_
  refine lv_iload_n hx hb dX4_linkNumber_9 rfl (lv_at hl 1 rfl) ?_
  refine lv_bipush (v := iI (10)) hx hb dX4_linkNumber_10 (by decide) ?_
  refine w_idiv S (by omega) (by omega) dX4_linkNumber_12 ?_
  refine w_tz (z := ((1 + lk : Nat) : Int)) (by rw [show (10 : Int) = ((10 : Nat) : Int) from rfl, ← Int.ofNat_tdiv]; omega) ?_
  refine lv_iconst (v := iI (1)) hx hb dX4_linkNumber_13 rfl ?_
  refine w_isub S dX4_linkNumber_14 ?_
  refine w_tz (z := ((lk : Nat) : Int)) (by omega) ?_
  refine lv_istore_n (lv' := [(2, .int (iI (((lk : Nat) : Int)))), (0, .ref o), (1, .int (iI (((10 + 10 * lk + wh : Nat) : Int))))]) hx hb dX4_linkNumber_15 rfl hl (by decide) rfl (fun ls hl => ?_)
  refine lv_iload_n hx hb dX4_linkNumber_16 rfl (lv_at hl 2 rfl) ?_
  refine lv_bipush (v := iI (10)) hx hb dX4_linkNumber_17 (by decide) ?_
  refine w_irem S (by omega) (by omega) dX4_linkNumber_19 ?_
  refine w_tz (z := ((wh : Nat) : Int)) (by rw [show (10 : Int) = ((10 : Nat) : Int) from rfl, ← Int.ofNat_tmod]; omega) ?_
  refine lv_istore_n (lv' := [(3, .int (iI (((wh : Nat) : Int)))), (2, .int (iI (((lk : Nat) : Int)))), (0, .ref o), (1, .int (iI (((10 + 10 * lk + wh : Nat) : Int))))]) hx hb dX4_linkNumber_20 rfl hl (by decide) rfl (fun ls hl => ?_)
  refine lv_aload_n hx hb dX4_linkNumber_21 rfl (lv_at hl 2 rfl) ?_
  refine w_get (C := RX4) (T := TX4) (Nf := 4) (ci := 4) (v := .ref w) S (fun _ h => List.mem_cons_of_mem _ (List.mem_append_left _ (List.mem_append_left _ (List.mem_append_right _ h)))) hE hP 0 rfl rfl 0 (by decide) (List.mem_of_getElem? (i := 1) rfl) rfl dX4_linkNumber_22 ?_
  refine lv_iload_n hx hb dX4_linkNumber_25 rfl (lv_at hl 1 rfl) ?_
  refine kV_R (n := 1) (ci := 3) (q := (RX3, TX3, 8)) S (c_hasLink_T lc D cI cZ N w wc k kn t tc ts b bm br mn tA sA kA ck nb cn sm mo re ((lk : Nat) : Int) (by omega) (by omega) (by omega)) gX4_linkNumber_X3_hasLink rfl rfl (by decide +kernel) rfl rfl ⟨Nat.le_trans (Nat.le_of_ble_eq_true rfl) hfr, Nat.le_trans (Nat.le_of_ble_eq_true rfl) hlo⟩ hE hAN hP hD hS [1, 2, 3, 4, 5, 6, 7, 8, 9, 10] rfl (by decide) rfl rfl rfl rfl hl.1 [] rfl (Nat.le_of_ble_eq_true rfl) dX4_linkNumber_26 ⟨Nat.zero_le _, Nat.zero_le _⟩ ?_
  refine W.eq (g2 := F0 m 29 ls [.int (iI (1))]) rfl ?_
  refine b_eqF (tgt := 41) S dX4_linkNumber_29 (by decide) (by decide) (by decide) ?_
  refine lv_iload_n hx hb dX4_linkNumber_32 rfl (lv_at hl 0 rfl) ?_
  refine lv_iconst (v := iI (0)) hx hb dX4_linkNumber_33 rfl ?_
  refine lv_iconst (v := iI (5)) hx hb dX4_linkNumber_34 rfl ?_
  refine kS_R (n := 3) S (c_within_T lc D cI cZ N ((wh : Nat) : Int) 0 5 (by omega) (by omega) (by omega) (by omega)) gX4_linkNumber_X4_within rfl (by decide +kernel) rfl rfl ⟨Nat.le_trans (Nat.le_of_ble_eq_true rfl) hfr, Nat.le_trans (Nat.le_of_ble_eq_true rfl) hlo⟩ hE hAN hP hD hS [] rfl (by decide) rfl hl.1 [] rfl (Nat.le_of_ble_eq_true rfl) dX4_linkNumber_35 ⟨Nat.zero_le _, Nat.zero_le _⟩ ?_
  refine W.eq (g2 := F0 m 38 ls [.int (iI (1))]) rfl ?_
  refine b_neT (tgt := 44) S dX4_linkNumber_38 (by decide) (by decide) (by decide) ?_
  refine lv_aload_n hx hb dX4_linkNumber_44 rfl (lv_at hl 2 rfl) ?_
  refine w_get (C := RX4) (T := TX4) (Nf := 4) (ci := 4) (v := .ref w) S (fun _ h => List.mem_cons_of_mem _ (List.mem_append_left _ (List.mem_append_left _ (List.mem_append_right _ h)))) hE hP 0 rfl rfl 0 (by decide) (List.mem_of_getElem? (i := 1) rfl) rfl dX4_linkNumber_45 ?_
  refine w_get (C := RX3) (T := TX3) (Nf := 8) (ci := 3) (v := .ref k) S (fun _ h => List.mem_cons_of_mem _ (List.mem_append_left _ (List.mem_append_right _ h))) hE hP 1 rfl rfl 5 (by decide) (List.mem_of_getElem? (i := 2) rfl) rfl dX4_linkNumber_48 ?_
  refine lv_iload_n hx hb dX4_linkNumber_51 rfl (lv_at hl 1 rfl) ?_
  refine lv_iload_n hx hb dX4_linkNumber_52 rfl (lv_at hl 0 rfl) ?_
  refine kV_R (n := 2) (ci := 1) (q := (RX1, TX1, 1)) S (c_read lc D cI cZ N k kn nb lk wh (by omega)) gX4_linkNumber_X1_read rfl rfl (by decide +kernel) rfl rfl ⟨Nat.le_trans (Nat.le_of_ble_eq_true rfl) hfr, Nat.le_trans (Nat.le_of_ble_eq_true rfl) hlo⟩ hE hAN hP hD hS [3, 4] rfl (by decide) rfl rfl rfl rfl hl.1 [] rfl (Nat.le_of_ble_eq_true rfl) dX4_linkNumber_53 ⟨Nat.zero_le _, Nat.zero_le _⟩ ?_
  refine W.eq (g2 := F0 m 56 ls [.int (iI (nb (lk * 6 + wh)))]) rfl ?_
  exact hret _ _ _ dX4_linkNumber_56 rfl
set_option maxHeartbeats 4000000 in
set_option maxRecDepth 100000 in
theorem c_count_0 (lc : Launch) (D : va_G) (cI cZ : ClassId) (N : Nat) (o : Nat) (v2 : Nat) (v3 : Nat) (ik : Int) (w : Nat) (wc : Nat) (k : Nat) (kn : Nat) (t : Nat) (tc : Nat) (ts : Nat) (b : Nat) (bm : Nat) (br : Nat) (mn : Nat) (tA : Int) (sA : Int) (kA : Int) (ck : Nat → Int) (nb : Nat → Int) (cn : Nat → Int) (sm : Nat → Int) (mo : Nat → Int) (re : Nat → Int)  : CR lc D cI cZ N yX4_count wsX4_count (rmK 3 66) [.ref o, .int (iI (0))] [(o, .inr (4, [.ref w, .ref v2, .ref v3, .int (iI (ik))])), (w, .inr (3, [.int (iI (((mn : Nat) : Int))), .int (iI (tA)), .int (iI (sA)), .int (iI (kA)), .ref wc, .ref k, .ref t, .ref b])), (wc, .inl (cI, 5, .inl (vI ck))), (k, .inr (1, [.ref kn])), (kn, .inl (cI, 24, .inl (vI nb))), (t, .inr (2, [.ref tc, .ref ts])), (tc, .inl (cI, 1000, .inl (vI cn))), (ts, .inl (cI, 1000, .inl (vI sm))), (b, .inr (0, [.ref bm, .ref br])), (bm, .inl (cI, 25, .inl (vI mo))), (br, .inl (cI, 5, .inl (vI re)))] (some (.int (iI (((mn : Nat) : Int))))) := by
  refine CR.I (cc := cX4_count) (maxL := 2) (by decide) rfl (Nat.le_of_ble_eq_true rfl) ?_
  intro p e s m args below meth c R Q S hE A hAN hfr hlo hP hD hS hret ls hl
  have S : CallFix p m c cX4_count 2 s args wsX4_count RX4 := S
  have hx := S.1
  have hb := S.2.1
  have hl : lv_has ls 2 [(0, .ref o), (1, .int (iI (0)))] := hl
  refine lv_iload_n hx hb dX4_count_0 rfl (lv_at hl 1 rfl) ?_
  refine lv_tableIn (off := 43) (tgt := 44) hx hb dX4_count_1 (by decide) (by decide) (by decide) (by decide) ?_
  refine lv_aload_n hx hb dX4_count_44 rfl (lv_at hl 0 rfl) ?_
  refine w_get (C := RX4) (T := TX4) (Nf := 4) (ci := 4) (v := .ref w) S (fun _ h => List.mem_cons_of_mem _ (List.mem_append_left _ (List.mem_append_left _ (List.mem_append_left _ (List.mem_append_left _ (List.mem_append_right _ h)))))) hE hP 0 rfl rfl 0 (by decide) (List.mem_of_getElem? (i := 1) rfl) rfl dX4_count_45 ?_
  refine w_get (C := RX3) (T := TX3) (Nf := 8) (ci := 3) (v := .int (iI (((mn : Nat) : Int)))) S (fun _ h => List.mem_cons_of_mem _ (List.mem_append_left _ (List.mem_append_left _ (List.mem_append_left _ (List.mem_append_right _ h))))) hE hP 1 rfl rfl 0 (by decide) (List.mem_of_getElem? (i := 2) rfl) rfl dX4_count_48 ?_
  exact hret _ _ _ dX4_count_51 rfl
set_option maxHeartbeats 4000000 in
set_option maxRecDepth 100000 in
theorem c_count_1 (lc : Launch) (D : va_G) (cI cZ : ClassId) (N : Nat) (o : Nat) (v2 : Nat) (v3 : Nat) (ik : Int) (w : Nat) (wc : Nat) (k : Nat) (kn : Nat) (t : Nat) (tc : Nat) (ts : Nat) (b : Nat) (bm : Nat) (br : Nat) (mn : Nat) (tA : Int) (sA : Int) (kA : Int) (ck : Nat → Int) (nb : Nat → Int) (cn : Nat → Int) (sm : Nat → Int) (mo : Nat → Int) (re : Nat → Int)  : CR lc D cI cZ N yX4_count wsX4_count (rmK 3 66) [.ref o, .int (iI (1))] [(o, .inr (4, [.ref w, .ref v2, .ref v3, .int (iI (ik))])), (w, .inr (3, [.int (iI (((mn : Nat) : Int))), .int (iI (tA)), .int (iI (sA)), .int (iI (kA)), .ref wc, .ref k, .ref t, .ref b])), (wc, .inl (cI, 5, .inl (vI ck))), (k, .inr (1, [.ref kn])), (kn, .inl (cI, 24, .inl (vI nb))), (t, .inr (2, [.ref tc, .ref ts])), (tc, .inl (cI, 1000, .inl (vI cn))), (ts, .inl (cI, 1000, .inl (vI sm))), (b, .inr (0, [.ref bm, .ref br])), (bm, .inl (cI, 25, .inl (vI mo))), (br, .inl (cI, 5, .inl (vI re)))] (some (.int (iI (tA)))) := by
  refine CR.I (cc := cX4_count) (maxL := 2) (by decide) rfl (Nat.le_of_ble_eq_true rfl) ?_
  intro p e s m args below meth c R Q S hE A hAN hfr hlo hP hD hS hret ls hl
  have S : CallFix p m c cX4_count 2 s args wsX4_count RX4 := S
  have hx := S.1
  have hb := S.2.1
  have hl : lv_has ls 2 [(0, .ref o), (1, .int (iI (1)))] := hl
  refine lv_iload_n hx hb dX4_count_0 rfl (lv_at hl 1 rfl) ?_
  refine lv_tableIn (off := 51) (tgt := 52) hx hb dX4_count_1 (by decide) (by decide) (by decide) (by decide) ?_
  refine lv_aload_n hx hb dX4_count_52 rfl (lv_at hl 0 rfl) ?_
  refine w_get (C := RX4) (T := TX4) (Nf := 4) (ci := 4) (v := .ref w) S (fun _ h => List.mem_cons_of_mem _ (List.mem_append_left _ (List.mem_append_left _ (List.mem_append_left _ (List.mem_append_left _ (List.mem_append_right _ h)))))) hE hP 0 rfl rfl 0 (by decide) (List.mem_of_getElem? (i := 1) rfl) rfl dX4_count_53 ?_
  refine w_get (C := RX3) (T := TX3) (Nf := 8) (ci := 3) (v := .int (iI (tA))) S (fun _ h => List.mem_cons_of_mem _ (List.mem_append_left _ (List.mem_append_left _ (List.mem_append_left _ (List.mem_append_right _ h))))) hE hP 1 rfl rfl 1 (by decide) (List.mem_of_getElem? (i := 3) rfl) rfl dX4_count_56 ?_
  exact hret _ _ _ dX4_count_59 rfl
set_option maxHeartbeats 4000000 in
set_option maxRecDepth 100000 in
theorem c_count_2 (lc : Launch) (D : va_G) (cI cZ : ClassId) (N : Nat) (o : Nat) (v2 : Nat) (v3 : Nat) (ik : Int) (w : Nat) (wc : Nat) (k : Nat) (kn : Nat) (t : Nat) (tc : Nat) (ts : Nat) (b : Nat) (bm : Nat) (br : Nat) (mn : Nat) (tA : Int) (sA : Int) (kA : Int) (ck : Nat → Int) (nb : Nat → Int) (cn : Nat → Int) (sm : Nat → Int) (mo : Nat → Int) (re : Nat → Int)  : CR lc D cI cZ N yX4_count wsX4_count (rmK 3 66) [.ref o, .int (iI (2))] [(o, .inr (4, [.ref w, .ref v2, .ref v3, .int (iI (ik))])), (w, .inr (3, [.int (iI (((mn : Nat) : Int))), .int (iI (tA)), .int (iI (sA)), .int (iI (kA)), .ref wc, .ref k, .ref t, .ref b])), (wc, .inl (cI, 5, .inl (vI ck))), (k, .inr (1, [.ref kn])), (kn, .inl (cI, 24, .inl (vI nb))), (t, .inr (2, [.ref tc, .ref ts])), (tc, .inl (cI, 1000, .inl (vI cn))), (ts, .inl (cI, 1000, .inl (vI sm))), (b, .inr (0, [.ref bm, .ref br])), (bm, .inl (cI, 25, .inl (vI mo))), (br, .inl (cI, 5, .inl (vI re)))] (some (.int (iI (sA)))) := by
  refine CR.I (cc := cX4_count) (maxL := 2) (by decide) rfl (Nat.le_of_ble_eq_true rfl) ?_
  intro p e s m args below meth c R Q S hE A hAN hfr hlo hP hD hS hret ls hl
  have S : CallFix p m c cX4_count 2 s args wsX4_count RX4 := S
  have hx := S.1
  have hb := S.2.1
  have hl : lv_has ls 2 [(0, .ref o), (1, .int (iI (2)))] := hl
  refine lv_iload_n hx hb dX4_count_0 rfl (lv_at hl 1 rfl) ?_
  refine lv_tableIn (off := 59) (tgt := 60) hx hb dX4_count_1 (by decide) (by decide) (by decide) (by decide) ?_
  refine lv_aload_n hx hb dX4_count_60 rfl (lv_at hl 0 rfl) ?_
  refine w_get (C := RX4) (T := TX4) (Nf := 4) (ci := 4) (v := .ref w) S (fun _ h => List.mem_cons_of_mem _ (List.mem_append_left _ (List.mem_append_left _ (List.mem_append_left _ (List.mem_append_left _ (List.mem_append_right _ h)))))) hE hP 0 rfl rfl 0 (by decide) (List.mem_of_getElem? (i := 1) rfl) rfl dX4_count_61 ?_
  refine w_get (C := RX3) (T := TX3) (Nf := 8) (ci := 3) (v := .int (iI (sA))) S (fun _ h => List.mem_cons_of_mem _ (List.mem_append_left _ (List.mem_append_left _ (List.mem_append_left _ (List.mem_append_right _ h))))) hE hP 1 rfl rfl 2 (by decide) (List.mem_of_getElem? (i := 4) rfl) rfl dX4_count_64 ?_
  exact hret _ _ _ dX4_count_67 rfl
set_option maxHeartbeats 4000000 in
set_option maxRecDepth 100000 in
theorem c_count_3 (lc : Launch) (D : va_G) (cI cZ : ClassId) (N : Nat) (o : Nat) (v2 : Nat) (v3 : Nat) (ik : Int) (w : Nat) (wc : Nat) (k : Nat) (kn : Nat) (t : Nat) (tc : Nat) (ts : Nat) (b : Nat) (bm : Nat) (br : Nat) (mn : Nat) (tA : Int) (sA : Int) (kA : Int) (ck : Nat → Int) (nb : Nat → Int) (cn : Nat → Int) (sm : Nat → Int) (mo : Nat → Int) (re : Nat → Int)  : CR lc D cI cZ N yX4_count wsX4_count (rmK 3 66) [.ref o, .int (iI (3))] [(o, .inr (4, [.ref w, .ref v2, .ref v3, .int (iI (ik))])), (w, .inr (3, [.int (iI (((mn : Nat) : Int))), .int (iI (tA)), .int (iI (sA)), .int (iI (kA)), .ref wc, .ref k, .ref t, .ref b])), (wc, .inl (cI, 5, .inl (vI ck))), (k, .inr (1, [.ref kn])), (kn, .inl (cI, 24, .inl (vI nb))), (t, .inr (2, [.ref tc, .ref ts])), (tc, .inl (cI, 1000, .inl (vI cn))), (ts, .inl (cI, 1000, .inl (vI sm))), (b, .inr (0, [.ref bm, .ref br])), (bm, .inl (cI, 25, .inl (vI mo))), (br, .inl (cI, 5, .inl (vI re)))] (some (.int (iI (kA)))) := by
  refine CR.I (cc := cX4_count) (maxL := 2) (by decide) rfl (Nat.le_of_ble_eq_true rfl) ?_
  intro p e s m args below meth c R Q S hE A hAN hfr hlo hP hD hS hret ls hl
  have S : CallFix p m c cX4_count 2 s args wsX4_count RX4 := S
  have hx := S.1
  have hb := S.2.1
  have hl : lv_has ls 2 [(0, .ref o), (1, .int (iI (3)))] := hl
  refine lv_iload_n hx hb dX4_count_0 rfl (lv_at hl 1 rfl) ?_
  refine lv_tableIn (off := 67) (tgt := 68) hx hb dX4_count_1 (by decide) (by decide) (by decide) (by decide) ?_
  refine lv_aload_n hx hb dX4_count_68 rfl (lv_at hl 0 rfl) ?_
  refine w_get (C := RX4) (T := TX4) (Nf := 4) (ci := 4) (v := .ref w) S (fun _ h => List.mem_cons_of_mem _ (List.mem_append_left _ (List.mem_append_left _ (List.mem_append_left _ (List.mem_append_left _ (List.mem_append_right _ h)))))) hE hP 0 rfl rfl 0 (by decide) (List.mem_of_getElem? (i := 1) rfl) rfl dX4_count_69 ?_
  refine w_get (C := RX3) (T := TX3) (Nf := 8) (ci := 3) (v := .int (iI (kA))) S (fun _ h => List.mem_cons_of_mem _ (List.mem_append_left _ (List.mem_append_left _ (List.mem_append_left _ (List.mem_append_right _ h))))) hE hP 1 rfl rfl 3 (by decide) (List.mem_of_getElem? (i := 5) rfl) rfl dX4_count_72 ?_
  exact hret _ _ _ dX4_count_75 rfl
set_option maxHeartbeats 4000000 in
set_option maxRecDepth 100000 in
theorem c_count_4 (lc : Launch) (D : va_G) (cI cZ : ClassId) (N : Nat) (o : Nat) (v2 : Nat) (v3 : Nat) (ik : Int) (w : Nat) (wc : Nat) (k : Nat) (kn : Nat) (t : Nat) (tc : Nat) (ts : Nat) (b : Nat) (bm : Nat) (br : Nat) (mn : Nat) (tA : Int) (sA : Int) (kA : Int) (ck : Nat → Int) (nb : Nat → Int) (cn : Nat → Int) (sm : Nat → Int) (mo : Nat → Int) (re : Nat → Int) (hcn : ∀ k, k < 1000 → 0 ≤ cn k ∧ cn k ≤ 200) : CR lc D cI cZ N yX4_count wsX4_count (rmK 3 66) [.ref o, .int (iI (4))] [(o, .inr (4, [.ref w, .ref v2, .ref v3, .int (iI (ik))])), (w, .inr (3, [.int (iI (((mn : Nat) : Int))), .int (iI (tA)), .int (iI (sA)), .int (iI (kA)), .ref wc, .ref k, .ref t, .ref b])), (wc, .inl (cI, 5, .inl (vI ck))), (k, .inr (1, [.ref kn])), (kn, .inl (cI, 24, .inl (vI nb))), (t, .inr (2, [.ref tc, .ref ts])), (tc, .inl (cI, 1000, .inl (vI cn))), (ts, .inl (cI, 1000, .inl (vI sm))), (b, .inr (0, [.ref bm, .ref br])), (bm, .inl (cI, 25, .inl (vI mo))), (br, .inl (cI, 5, .inl (vI re)))] (some (.int (iI (cntP (fun b => cn (0 * 200 + b)) 200)))) := by
  refine CR.I (cc := cX4_count) (maxL := 2) (by decide) rfl (Nat.le_of_ble_eq_true rfl) ?_
  intro p e s m args below meth c R Q S hE A hAN hfr hlo hP hD hS hret ls hl
  have S : CallFix p m c cX4_count 2 s args wsX4_count RX4 := S
  have hx := S.1
  have hb := S.2.1
  have hl : lv_has ls 2 [(0, .ref o), (1, .int (iI (4)))] := hl
  refine lv_iload_n hx hb dX4_count_0 rfl (lv_at hl 1 rfl) ?_
  refine lv_tableIn (off := 75) (tgt := 76) hx hb dX4_count_1 (by decide) (by decide) (by decide) (by decide) ?_
  refine lv_aload_n hx hb dX4_count_76 rfl (lv_at hl 0 rfl) ?_
  refine w_get (C := RX4) (T := TX4) (Nf := 4) (ci := 4) (v := .ref w) S (fun _ h => List.mem_cons_of_mem _ (List.mem_append_left _ (List.mem_append_left _ (List.mem_append_left _ (List.mem_append_left _ (List.mem_append_right _ h)))))) hE hP 0 rfl rfl 0 (by decide) (List.mem_of_getElem? (i := 1) rfl) rfl dX4_count_77 ?_
  refine w_get (C := RX3) (T := TX3) (Nf := 8) (ci := 3) (v := .ref t) S (fun _ h => List.mem_cons_of_mem _ (List.mem_append_left _ (List.mem_append_left _ (List.mem_append_left _ (List.mem_append_right _ h))))) hE hP 1 rfl rfl 6 (by decide) (List.mem_of_getElem? (i := 6) rfl) rfl dX4_count_80 ?_
  refine kV_R (n := 0) (ci := 2) (q := (RX2, TX2, 2)) S (c_X2_blocksSent lc D cI cZ N t tc ts cn sm hcn) gX4_count_X2_blocksSent rfl rfl (by decide +kernel) rfl rfl ⟨Nat.le_trans (Nat.le_of_ble_eq_true rfl) hfr, Nat.le_trans (Nat.le_of_ble_eq_true rfl) hlo⟩ hE hAN hP hD hS [5, 6, 7] rfl (by decide) rfl rfl rfl rfl hl.1 [] rfl (Nat.le_of_ble_eq_true rfl) dX4_count_83 ⟨Nat.zero_le _, Nat.zero_le _⟩ ?_
  refine W.eq (g2 := F0 m 86 ls [.int (iI (cntP (fun b => cn (0 * 200 + b)) 200))]) rfl ?_
  exact hret _ _ _ dX4_count_86 rfl
set_option maxHeartbeats 4000000 in
set_option maxRecDepth 100000 in
theorem c_count_5 (lc : Launch) (D : va_G) (cI cZ : ClassId) (N : Nat) (o : Nat) (v2 : Nat) (v3 : Nat) (ik : Int) (w : Nat) (wc : Nat) (k : Nat) (kn : Nat) (t : Nat) (tc : Nat) (ts : Nat) (b : Nat) (bm : Nat) (br : Nat) (mn : Nat) (tA : Int) (sA : Int) (kA : Int) (ck : Nat → Int) (nb : Nat → Int) (cn : Nat → Int) (sm : Nat → Int) (mo : Nat → Int) (re : Nat → Int) (hmo : ∀ k, k < 25 → -1000 ≤ mo k ∧ mo k ≤ 1000000000) : CR lc D cI cZ N yX4_count wsX4_count (rmK 3 66) [.ref o, .int (iI (5))] [(o, .inr (4, [.ref w, .ref v2, .ref v3, .int (iI (ik))])), (w, .inr (3, [.int (iI (((mn : Nat) : Int))), .int (iI (tA)), .int (iI (sA)), .int (iI (kA)), .ref wc, .ref k, .ref t, .ref b])), (wc, .inl (cI, 5, .inl (vI ck))), (k, .inr (1, [.ref kn])), (kn, .inl (cI, 24, .inl (vI nb))), (t, .inr (2, [.ref tc, .ref ts])), (tc, .inl (cI, 1000, .inl (vI cn))), (ts, .inl (cI, 1000, .inl (vI sm))), (b, .inr (0, [.ref bm, .ref br])), (bm, .inl (cI, 25, .inl (vI mo))), (br, .inl (cI, 5, .inl (vI re)))] (some (.int (iI (prO mo 5)))) := by
  refine CR.I (cc := cX4_count) (maxL := 2) (by decide) rfl (Nat.le_of_ble_eq_true rfl) ?_
  intro p e s m args below meth c R Q S hE A hAN hfr hlo hP hD hS hret ls hl
  have S : CallFix p m c cX4_count 2 s args wsX4_count RX4 := S
  have hx := S.1
  have hb := S.2.1
  have hl : lv_has ls 2 [(0, .ref o), (1, .int (iI (5)))] := hl
  refine lv_iload_n hx hb dX4_count_0 rfl (lv_at hl 1 rfl) ?_
  refine lv_tableIn (off := 86) (tgt := 87) hx hb dX4_count_1 (by decide) (by decide) (by decide) (by decide) ?_
  refine lv_aload_n hx hb dX4_count_87 rfl (lv_at hl 0 rfl) ?_
  refine w_get (C := RX4) (T := TX4) (Nf := 4) (ci := 4) (v := .ref w) S (fun _ h => List.mem_cons_of_mem _ (List.mem_append_left _ (List.mem_append_left _ (List.mem_append_left _ (List.mem_append_left _ (List.mem_append_right _ h)))))) hE hP 0 rfl rfl 0 (by decide) (List.mem_of_getElem? (i := 1) rfl) rfl dX4_count_88 ?_
  refine w_get (C := RX3) (T := TX3) (Nf := 8) (ci := 3) (v := .ref b) S (fun _ h => List.mem_cons_of_mem _ (List.mem_append_left _ (List.mem_append_left _ (List.mem_append_left _ (List.mem_append_right _ h))))) hE hP 1 rfl rfl 7 (by decide) (List.mem_of_getElem? (i := 7) rfl) rfl dX4_count_91 ?_
  refine kV_R (n := 0) (ci := 0) (q := (RX0, TX0, 2)) S (c_X0_pairs lc D cI cZ N b bm br mo re hmo) gX4_count_X0_pairs rfl rfl (by decide +kernel) rfl rfl ⟨Nat.le_trans (Nat.le_of_ble_eq_true rfl) hfr, Nat.le_trans (Nat.le_of_ble_eq_true rfl) hlo⟩ hE hAN hP hD hS [8, 9, 10] rfl (by decide) rfl rfl rfl rfl hl.1 [] rfl (Nat.le_of_ble_eq_true rfl) dX4_count_94 ⟨Nat.zero_le _, Nat.zero_le _⟩ ?_
  refine W.eq (g2 := F0 m 97 ls [.int (iI (prO mo 5))]) rfl ?_
  exact hret _ _ _ dX4_count_97 rfl
set_option maxHeartbeats 4000000 in
set_option maxRecDepth 100000 in
theorem c_count_6 (lc : Launch) (D : va_G) (cI cZ : ClassId) (N : Nat) (o : Nat) (v2 : Nat) (v3 : Nat) (ik : Int) (w : Nat) (wc : Nat) (k : Nat) (kn : Nat) (t : Nat) (tc : Nat) (ts : Nat) (b : Nat) (bm : Nat) (br : Nat) (mn : Nat) (tA : Int) (sA : Int) (kA : Int) (ck : Nat → Int) (nb : Nat → Int) (cn : Nat → Int) (sm : Nat → Int) (mo : Nat → Int) (re : Nat → Int)  : CR lc D cI cZ N yX4_count wsX4_count (rmK 3 66) [.ref o, .int (iI (6))] [(o, .inr (4, [.ref w, .ref v2, .ref v3, .int (iI (ik))])), (w, .inr (3, [.int (iI (((mn : Nat) : Int))), .int (iI (tA)), .int (iI (sA)), .int (iI (kA)), .ref wc, .ref k, .ref t, .ref b])), (wc, .inl (cI, 5, .inl (vI ck))), (k, .inr (1, [.ref kn])), (kn, .inl (cI, 24, .inl (vI nb))), (t, .inr (2, [.ref tc, .ref ts])), (tc, .inl (cI, 1000, .inl (vI cn))), (ts, .inl (cI, 1000, .inl (vI sm))), (b, .inr (0, [.ref bm, .ref br])), (bm, .inl (cI, 25, .inl (vI mo))), (br, .inl (cI, 5, .inl (vI re)))] (some (.int (iI (ik)))) := by
  refine CR.I (cc := cX4_count) (maxL := 2) (by decide) rfl (Nat.le_of_ble_eq_true rfl) ?_
  intro p e s m args below meth c R Q S hE A hAN hfr hlo hP hD hS hret ls hl
  have S : CallFix p m c cX4_count 2 s args wsX4_count RX4 := S
  have hx := S.1
  have hb := S.2.1
  have hl : lv_has ls 2 [(0, .ref o), (1, .int (iI (6)))] := hl
  refine lv_iload_n hx hb dX4_count_0 rfl (lv_at hl 1 rfl) ?_
  refine lv_tableIn (off := 97) (tgt := 98) hx hb dX4_count_1 (by decide) (by decide) (by decide) (by decide) ?_
  refine lv_aload_n hx hb dX4_count_98 rfl (lv_at hl 0 rfl) ?_
  refine w_get (C := RX4) (T := TX4) (Nf := 4) (ci := 4) (v := .int (iI (ik))) S (fun _ h => List.mem_cons_of_mem _ (List.mem_append_left _ (List.mem_append_left _ (List.mem_append_left _ (List.mem_append_left _ (List.mem_append_right _ h)))))) hE hP 0 rfl rfl 3 (by decide) (List.mem_of_getElem? (i := 8) rfl) rfl dX4_count_99 ?_
  exact hret _ _ _ dX4_count_102 rfl
set_option maxHeartbeats 4000000 in
set_option maxRecDepth 100000 in
theorem c_count_O1 (lc : Launch) (D : va_G) (cI cZ : ClassId) (N : Nat) (o : Nat) (v2 : Nat) (v3 : Nat) (ik : Int) (w : Nat) (wc : Nat) (k : Nat) (kn : Nat) (t : Nat) (tc : Nat) (ts : Nat) (b : Nat) (bm : Nat) (br : Nat) (mn : Nat) (tA : Int) (sA : Int) (kA : Int) (ck : Nat → Int) (nb : Nat → Int) (cn : Nat → Int) (sm : Nat → Int) (mo : Nat → Int) (re : Nat → Int) (x : Int) (r_x : -2147483648 ≤ x ∧ x ≤ 2147483647) (h : x < 10 ∧ ¬ (0 ≤ x ∧ x ≤ 6)) : CR lc D cI cZ N yX4_count wsX4_count (rmK 3 66) [.ref o, .int (iI (x))] [(o, .inr (4, [.ref w, .ref v2, .ref v3, .int (iI (ik))])), (w, .inr (3, [.int (iI (((mn : Nat) : Int))), .int (iI (tA)), .int (iI (sA)), .int (iI (kA)), .ref wc, .ref k, .ref t, .ref b])), (wc, .inl (cI, 5, .inl (vI ck))), (k, .inr (1, [.ref kn])), (kn, .inl (cI, 24, .inl (vI nb))), (t, .inr (2, [.ref tc, .ref ts])), (tc, .inl (cI, 1000, .inl (vI cn))), (ts, .inl (cI, 1000, .inl (vI sm))), (b, .inr (0, [.ref bm, .ref br])), (bm, .inl (cI, 25, .inl (vI mo))), (br, .inl (cI, 5, .inl (vI re)))] (some (.int (iI (-2)))) := by
  refine CR.I (cc := cX4_count) (maxL := 2) (by decide) rfl (Nat.le_of_ble_eq_true rfl) ?_
  intro p e s m args below meth c R Q S hE A hAN hfr hlo hP hD hS hret ls hl
  have S : CallFix p m c cX4_count 2 s args wsX4_count RX4 := S
  have hx := S.1
  have hb := S.2.1
  have hl : lv_has ls 2 [(0, .ref o), (1, .int (iI (x)))] := hl
  refine lv_iload_n hx hb dX4_count_0 rfl (lv_at hl 1 rfl) ?_
  refine lv_tableOut (tgt := 103) hx hb dX4_count_1 (by rw [iI_toInt (by omega)]; omega) (by decide) ?_
  refine lv_aload_n hx hb dX4_count_103 rfl (lv_at hl 0 rfl) ?_
  refine lv_iload_n hx hb dX4_count_104 rfl (lv_at hl 1 rfl) ?_
  refine kV_R (n := 1) (ci := 4) (q := (RX4, TX4, 4)) S (c_lnum_O1 lc D cI cZ N o v2 v3 ik w wc k kn t tc ts b bm br mn tA sA kA ck nb cn sm mo re x (by omega) (by omega)) gX4_count_X4_linkNumber rfl rfl (by decide +kernel) rfl rfl ⟨Nat.le_trans (Nat.le_of_ble_eq_true rfl) hfr, Nat.le_trans (Nat.le_of_ble_eq_true rfl) hlo⟩ hE hAN hP hD hS [0, 1, 2, 3, 4, 5, 6, 7, 8, 9, 10] rfl (by decide) rfl rfl rfl rfl hl.1 [] rfl (Nat.le_of_ble_eq_true rfl) dX4_count_105 ⟨Nat.zero_le _, Nat.zero_le _⟩ ?_
  refine W.eq (g2 := F0 m 108 ls [.int (iI (-2))]) rfl ?_
  exact hret _ _ _ dX4_count_108 rfl
set_option maxHeartbeats 4000000 in
set_option maxRecDepth 100000 in
theorem c_count_O2 (lc : Launch) (D : va_G) (cI cZ : ClassId) (N : Nat) (o : Nat) (v2 : Nat) (v3 : Nat) (ik : Int) (w : Nat) (wc : Nat) (k : Nat) (kn : Nat) (t : Nat) (tc : Nat) (ts : Nat) (b : Nat) (bm : Nat) (br : Nat) (mn : Nat) (tA : Int) (sA : Int) (kA : Int) (ck : Nat → Int) (nb : Nat → Int) (cn : Nat → Int) (sm : Nat → Int) (mo : Nat → Int) (re : Nat → Int) (x : Int) (hmn : 2 ≤ mn ∧ mn ≤ 5) (r_x : -2147483648 ≤ x ∧ x ≤ 2147483647) (h : 10 ≤ x) (h2 : ¬ ((0 ≤ x.tdiv 10 - 1 ∧ x.tdiv 10 - 1 ≤ (mn : Int) - 2) ∧ (0 ≤ x.tmod 10 ∧ x.tmod 10 ≤ 5))) : CR lc D cI cZ N yX4_count wsX4_count (rmK 3 66) [.ref o, .int (iI (x))] [(o, .inr (4, [.ref w, .ref v2, .ref v3, .int (iI (ik))])), (w, .inr (3, [.int (iI (((mn : Nat) : Int))), .int (iI (tA)), .int (iI (sA)), .int (iI (kA)), .ref wc, .ref k, .ref t, .ref b])), (wc, .inl (cI, 5, .inl (vI ck))), (k, .inr (1, [.ref kn])), (kn, .inl (cI, 24, .inl (vI nb))), (t, .inr (2, [.ref tc, .ref ts])), (tc, .inl (cI, 1000, .inl (vI cn))), (ts, .inl (cI, 1000, .inl (vI sm))), (b, .inr (0, [.ref bm, .ref br])), (bm, .inl (cI, 25, .inl (vI mo))), (br, .inl (cI, 5, .inl (vI re)))] (some (.int (iI (-2)))) := by
  refine CR.I (cc := cX4_count) (maxL := 2) (by decide) rfl (Nat.le_of_ble_eq_true rfl) ?_
  intro p e s m args below meth c R Q S hE A hAN hfr hlo hP hD hS hret ls hl
  have S : CallFix p m c cX4_count 2 s args wsX4_count RX4 := S
  have hx := S.1
  have hb := S.2.1
  have hl : lv_has ls 2 [(0, .ref o), (1, .int (iI (x)))] := hl
  refine lv_iload_n hx hb dX4_count_0 rfl (lv_at hl 1 rfl) ?_
  refine lv_tableOut (tgt := 103) hx hb dX4_count_1 (by rw [iI_toInt (by omega)]; omega) (by decide) ?_
  refine lv_aload_n hx hb dX4_count_103 rfl (lv_at hl 0 rfl) ?_
  refine lv_iload_n hx hb dX4_count_104 rfl (lv_at hl 1 rfl) ?_
  refine kV_R (n := 1) (ci := 4) (q := (RX4, TX4, 4)) S (c_lnum_O2 lc D cI cZ N o v2 v3 ik w wc k kn t tc ts b bm br mn tA sA kA ck nb cn sm mo re x (by omega) (by omega) (by omega) h2) gX4_count_X4_linkNumber rfl rfl (by decide +kernel) rfl rfl ⟨Nat.le_trans (Nat.le_of_ble_eq_true rfl) hfr, Nat.le_trans (Nat.le_of_ble_eq_true rfl) hlo⟩ hE hAN hP hD hS [0, 1, 2, 3, 4, 5, 6, 7, 8, 9, 10] rfl (by decide) rfl rfl rfl rfl hl.1 [] rfl (Nat.le_of_ble_eq_true rfl) dX4_count_105 ⟨Nat.zero_le _, Nat.zero_le _⟩ ?_
  refine W.eq (g2 := F0 m 108 ls [.int (iI (-2))]) rfl ?_
  exact hret _ _ _ dX4_count_108 rfl
set_option maxHeartbeats 4000000 in
set_option maxRecDepth 100000 in
theorem c_count_L (lc : Launch) (D : va_G) (cI cZ : ClassId) (N : Nat) (o : Nat) (v2 : Nat) (v3 : Nat) (ik : Int) (w : Nat) (wc : Nat) (k : Nat) (kn : Nat) (t : Nat) (tc : Nat) (ts : Nat) (b : Nat) (bm : Nat) (br : Nat) (mn : Nat) (tA : Int) (sA : Int) (kA : Int) (ck : Nat → Int) (nb : Nat → Int) (cn : Nat → Int) (sm : Nat → Int) (mo : Nat → Int) (re : Nat → Int) (lk : Nat) (wh : Nat) (hmn : 2 ≤ mn ∧ mn ≤ 5) (h : lk + 2 ≤ mn) (hwh : wh < 6) : CR lc D cI cZ N yX4_count wsX4_count (rmK 3 66) [.ref o, .int (iI (((10 + 10 * lk + wh : Nat) : Int)))] [(o, .inr (4, [.ref w, .ref v2, .ref v3, .int (iI (ik))])), (w, .inr (3, [.int (iI (((mn : Nat) : Int))), .int (iI (tA)), .int (iI (sA)), .int (iI (kA)), .ref wc, .ref k, .ref t, .ref b])), (wc, .inl (cI, 5, .inl (vI ck))), (k, .inr (1, [.ref kn])), (kn, .inl (cI, 24, .inl (vI nb))), (t, .inr (2, [.ref tc, .ref ts])), (tc, .inl (cI, 1000, .inl (vI cn))), (ts, .inl (cI, 1000, .inl (vI sm))), (b, .inr (0, [.ref bm, .ref br])), (bm, .inl (cI, 25, .inl (vI mo))), (br, .inl (cI, 5, .inl (vI re)))] (some (.int (iI (nb (lk * 6 + wh))))) := by
  refine CR.I (cc := cX4_count) (maxL := 2) (by decide) rfl (Nat.le_of_ble_eq_true rfl) ?_
  intro p e s m args below meth c R Q S hE A hAN hfr hlo hP hD hS hret ls hl
  have S : CallFix p m c cX4_count 2 s args wsX4_count RX4 := S
  have hx := S.1
  have hb := S.2.1
  have hl : lv_has ls 2 [(0, .ref o), (1, .int (iI (((10 + 10 * lk + wh : Nat) : Int))))] := hl
  refine lv_iload_n hx hb dX4_count_0 rfl (lv_at hl 1 rfl) ?_
  refine lv_tableOut (tgt := 103) hx hb dX4_count_1 (by rw [iI_toInt (by omega)]; omega) (by decide) ?_
  refine lv_aload_n hx hb dX4_count_103 rfl (lv_at hl 0 rfl) ?_
  refine lv_iload_n hx hb dX4_count_104 rfl (lv_at hl 1 rfl) ?_
  refine kV_R (n := 1) (ci := 4) (q := (RX4, TX4, 4)) S (c_lnum lc D cI cZ N o v2 v3 ik w wc k kn t tc ts b bm br mn tA sA kA ck nb cn sm mo re lk wh (by omega) (by omega) (by omega)) gX4_count_X4_linkNumber rfl rfl (by decide +kernel) rfl rfl ⟨Nat.le_trans (Nat.le_of_ble_eq_true rfl) hfr, Nat.le_trans (Nat.le_of_ble_eq_true rfl) hlo⟩ hE hAN hP hD hS [0, 1, 2, 3, 4, 5, 6, 7, 8, 9, 10] rfl (by decide) rfl rfl rfl rfl hl.1 [] rfl (Nat.le_of_ble_eq_true rfl) dX4_count_105 ⟨Nat.zero_le _, Nat.zero_le _⟩ ?_
  refine W.eq (g2 := F0 m 108 ls [.int (iI (nb (lk * 6 + wh)))]) rfl ?_
  exact hret _ _ _ dX4_count_108 rfl
