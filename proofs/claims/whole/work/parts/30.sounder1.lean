set_option maxHeartbeats 4000000 in
set_option maxRecDepth 100000 in
theorem c_nodes_O (lc : Launch) (D : va_G) (cI cZ : ClassId) (N : Nat) (o : Nat) (v2 : Nat) (v3 : Nat) (ik : Int) (w : Nat) (wc : Nat) (k : Nat) (kn : Nat) (t : Nat) (tc : Nat) (ts : Nat) (b : Nat) (bm : Nat) (br : Nat) (mn : Nat) (tA : Int) (sA : Int) (kA : Int) (ck : Nat → Int) (nb : Nat → Int) (cn : Nat → Int) (sm : Nat → Int) (mo : Nat → Int) (re : Nat → Int) (x : Int) (r_x : -2147483648 ≤ x ∧ x ≤ 2147483647) (h : ¬ (2 ≤ x ∧ x ≤ 5)) : CR lc D cI cZ N yX4_nodes wsX4_nodes (rmK 3 68) [.ref o, .int (iI (x))] [(o, .inr (4, [.ref w, .ref v2, .ref v3, .int (iI (ik))])), (w, .inr (3, [.int (iI (((mn : Nat) : Int))), .int (iI (tA)), .int (iI (sA)), .int (iI (kA)), .ref wc, .ref k, .ref t, .ref b])), (wc, .inl (cI, 5, .inl (vI ck))), (k, .inr (1, [.ref kn])), (kn, .inl (cI, 24, .inl (vI nb))), (t, .inr (2, [.ref tc, .ref ts])), (tc, .inl (cI, 1000, .inl (vI cn))), (ts, .inl (cI, 1000, .inl (vI sm))), (b, .inr (0, [.ref bm, .ref br])), (bm, .inl (cI, 25, .inl (vI mo))), (br, .inl (cI, 5, .inl (vI re)))] (some (.int (iI (-2)))) := by
  refine CR.I (cc := cX4_nodes) (maxL := 3) (by decide) rfl (Nat.le_of_ble_eq_true rfl) ?_
  intro p e s m args below meth c R Q S hE A hAN hfr hlo hP hD hS hret ls hl
  have S : CallFix p m c cX4_nodes 3 s args wsX4_nodes RX4 := S
  have hx := S.1
  have hb := S.2.1
  have hl : lv_has ls 3 [(0, .ref o), (1, .int (iI (x)))] := hl
  refine lv_iload_n hx hb dX4_nodes_0 rfl (lv_at hl 1 rfl) ?_
  refine lv_iconst (v := iI (2)) hx hb dX4_nodes_1 rfl ?_
  refine lv_iconst (v := iI (5)) hx hb dX4_nodes_2 rfl ?_
  refine kS_R (n := 3) S (c_within_F lc D cI cZ N x 2 5 (by omega) (by omega) (by omega) (by omega)) gX4_nodes_X4_within rfl (by decide +kernel) rfl rfl ⟨Nat.le_trans (Nat.le_of_ble_eq_true rfl) hfr, Nat.le_trans (Nat.le_of_ble_eq_true rfl) hlo⟩ hE hAN hP hD hS [] rfl (by decide) rfl hl.1 [] rfl (Nat.le_of_ble_eq_true rfl) dX4_nodes_3 ⟨Nat.zero_le _, Nat.zero_le _⟩ ?_
  refine W.eq (g2 := F0 m 6 ls [.int (iI (0))]) rfl ?_
  refine b_neF (tgt := 12) S dX4_nodes_6 (by decide) (by decide) ?_
  refine lv_bipush (v := iI ((-2))) hx hb dX4_nodes_9 (by decide) ?_
  exact hret _ _ _ dX4_nodes_11 (congrArg iI (by omega))
set_option maxHeartbeats 4000000 in
set_option maxRecDepth 100000 in
theorem c_nodes (lc : Launch) (D : va_G) (cI cZ : ClassId) (N : Nat) (o : Nat) (v2 : Nat) (v3 : Nat) (ik : Int) (w : Nat) (wc : Nat) (k : Nat) (kn : Nat) (t : Nat) (tc : Nat) (ts : Nat) (b : Nat) (bm : Nat) (br : Nat) (mn : Nat) (tA : Int) (sA : Int) (kA : Int) (ck : Nat → Int) (nb : Nat → Int) (cn : Nat → Int) (sm : Nat → Int) (mo : Nat → Int) (re : Nat → Int) (v : Nat) (h : 2 ≤ v ∧ v ≤ 5) : CM lc D cI cZ N yX4_nodes wsX4_nodes (rmK 3 68) [.ref o, .int (iI (((v : Nat) : Int)))] [(o, .inr (4, [.ref w, .ref v2, .ref v3, .int (iI (ik))])), (w, .inr (3, [.int (iI (((mn : Nat) : Int))), .int (iI (tA)), .int (iI (sA)), .int (iI (kA)), .ref wc, .ref k, .ref t, .ref b])), (wc, .inl (cI, 5, .inl (vI ck))), (k, .inr (1, [.ref kn])), (kn, .inl (cI, 24, .inl (vI nb))), (t, .inr (2, [.ref tc, .ref ts])), (tc, .inl (cI, 1000, .inl (vI cn))), (ts, .inl (cI, 1000, .inl (vI sm))), (b, .inr (0, [.ref bm, .ref br])), (bm, .inl (cI, 25, .inl (vI mo))), (br, .inl (cI, 5, .inl (vI re)))] (some (.int (iI (((mn : Nat) : Int))))) [(o, .inr (4, [.ref w, .ref v2, .ref v3, .int (iI (ik))])), (w, .inr (3, [.int (iI (((v : Nat) : Int))), .int (iI (0)), .int (iI (0)), .int (iI (5)), .ref wc, .ref k, .ref t, .ref b])), (wc, .inl (cI, 5, .inl (vI (fun _ => 0)))), (k, .inr (1, [.ref kn])), (kn, .inl (cI, 24, .inl (vI nbFirst))), (t, .inr (2, [.ref tc, .ref ts])), (tc, .inl (cI, 1000, .inl (vI (fun _ => 0)))), (ts, .inl (cI, 1000, .inl (vI (fun _ => 0)))), (b, .inr (0, [.ref bm, .ref br])), (bm, .inl (cI, 25, .inl (vI (fun _ => 1000000000)))), (br, .inl (cI, 5, .inl (vI re)))] := by
  refine CM.I (cc := cX4_nodes) (maxL := 3) (by decide) rfl (Nat.le_of_ble_eq_true rfl) ?_
  intro p e s m args below meth c R Q S hE A hAN hfr hlo hP hD hS hret ls hl
  have S : CallFix p m c cX4_nodes 3 s args wsX4_nodes RX4 := S
  have hx := S.1
  have hb := S.2.1
  have hl : lv_has ls 3 [(0, .ref o), (1, .int (iI (((v : Nat) : Int))))] := hl
  refine lv_iload_n hx hb dX4_nodes_0 rfl (lv_at hl 1 rfl) ?_
  refine lv_iconst (v := iI (2)) hx hb dX4_nodes_1 rfl ?_
  refine lv_iconst (v := iI (5)) hx hb dX4_nodes_2 rfl ?_
  refine kS_R (n := 3) S (c_within_T lc D cI cZ N ((v : Nat) : Int) 2 5 (by omega) (by omega) (by omega) (by omega)) gX4_nodes_X4_within rfl (by decide +kernel) rfl rfl ⟨Nat.le_trans (Nat.le_of_ble_eq_true rfl) hfr, Nat.le_trans (Nat.le_of_ble_eq_true rfl) hlo⟩ hE hAN hP hD hS [] rfl (by decide) rfl hl.1 [] rfl (Nat.le_of_ble_eq_true rfl) dX4_nodes_3 ⟨Nat.zero_le _, Nat.zero_le _⟩ ?_
  refine W.eq (g2 := F0 m 6 ls [.int (iI (1))]) rfl ?_
  refine b_neT (tgt := 12) S dX4_nodes_6 (by decide) (by decide) (by decide) ?_
  refine lv_aload_n hx hb dX4_nodes_12 rfl (lv_at hl 0 rfl) ?_
  refine w_get (C := RX4) (T := TX4) (Nf := 4) (ci := 4) (v := .ref w) S (fun _ h => List.mem_cons_of_mem _ (List.mem_append_left _ (List.mem_append_left _ (List.mem_append_left _ (List.mem_append_left _ (List.mem_append_right _ h)))))) hE hP 0 rfl rfl 0 (by decide) (List.mem_of_getElem? (i := 1) rfl) rfl dX4_nodes_13 ?_
  refine w_get (C := RX3) (T := TX3) (Nf := 8) (ci := 3) (v := .int (iI (((mn : Nat) : Int)))) S (fun _ h => List.mem_cons_of_mem _ (List.mem_append_left _ (List.mem_append_left _ (List.mem_append_left _ (List.mem_append_right _ h))))) hE hP 1 rfl rfl 0 (by decide) (List.mem_of_getElem? (i := 2) rfl) rfl dX4_nodes_16 ?_
  refine lv_istore_n (lv' := [(2, .int (iI (((mn : Nat) : Int)))), (0, .ref o), (1, .int (iI (((v : Nat) : Int))))]) hx hb dX4_nodes_19 rfl hl (by decide) rfl (fun ls hl => ?_)
  refine lv_aload_n hx hb dX4_nodes_20 rfl (lv_at hl 1 rfl) ?_
  refine w_get (C := RX4) (T := TX4) (Nf := 4) (ci := 4) (v := .ref w) S (fun _ h => List.mem_cons_of_mem _ (List.mem_append_left _ (List.mem_append_left _ (List.mem_append_left _ (List.mem_append_left _ (List.mem_append_right _ h)))))) hE hP 0 rfl rfl 0 (by decide) (List.mem_of_getElem? (i := 1) rfl) rfl dX4_nodes_21 ?_
  refine lv_iload_n hx hb dX4_nodes_24 rfl (lv_at hl 2 rfl) ?_
  refine kV_M (n := 1) (ci := 3) (q := (RX3, TX3, 8)) S (c_X3_begin lc D cI cZ N w wc k kn t tc ts b bm br mn tA sA kA ck nb cn sm mo re v ) gX4_nodes_X3_begin rfl rfl (by decide +kernel) rfl rfl ⟨Nat.le_trans (Nat.le_of_ble_eq_true rfl) hfr, Nat.le_trans (Nat.le_of_ble_eq_true rfl) hlo⟩ hE hAN hP hD hS [1, 2, 3, 4, 5, 6, 7, 8, 9, 10] rfl (by decide) rfl rfl rfl rfl rfl hl.1 [] rfl (Nat.le_of_ble_eq_true rfl) dX4_nodes_25 ⟨Nat.zero_le _, Nat.zero_le _⟩ (fun H locs hP hD hS => ?_)
  have hP : va_P D vwCl [(o, .inr (4, [.ref w, .ref v2, .ref v3, .int (iI (ik))])), (w, .inr (3, [.int (iI (((v : Nat) : Int))), .int (iI (0)), .int (iI (0)), .int (iI (5)), .ref wc, .ref k, .ref t, .ref b])), (wc, .inl (cI, 5, .inl (vI (fun _ => 0)))), (k, .inr (1, [.ref kn])), (kn, .inl (cI, 24, .inl (vI nbFirst))), (t, .inr (2, [.ref tc, .ref ts])), (tc, .inl (cI, 1000, .inl (vI (fun _ => 0)))), (ts, .inl (cI, 1000, .inl (vI (fun _ => 0)))), (b, .inr (0, [.ref bm, .ref br])), (bm, .inl (cI, 25, .inl (vI (fun _ => 1000000000)))), (br, .inl (cI, 5, .inl (vI re)))] H := hP
  have hD : va_D A [(o, .inr (4, [.ref w, .ref v2, .ref v3, .int (iI (ik))])), (w, .inr (3, [.int (iI (((v : Nat) : Int))), .int (iI (0)), .int (iI (0)), .int (iI (5)), .ref wc, .ref k, .ref t, .ref b])), (wc, .inl (cI, 5, .inl (vI (fun _ => 0)))), (k, .inr (1, [.ref kn])), (kn, .inl (cI, 24, .inl (vI nbFirst))), (t, .inr (2, [.ref tc, .ref ts])), (tc, .inl (cI, 1000, .inl (vI (fun _ => 0)))), (ts, .inl (cI, 1000, .inl (vI (fun _ => 0)))), (b, .inr (0, [.ref bm, .ref br])), (bm, .inl (cI, 25, .inl (vI (fun _ => 1000000000)))), (br, .inl (cI, 5, .inl (vI re)))] := hD
  refine W.eq (g2 := F0 m 28 ls []) rfl ?_
  refine lv_iload_n hx hb dX4_nodes_28 rfl (lv_at hl 0 rfl) ?_
  exact hret _ _ _ _ _ dX4_nodes_29 rfl hP hS
set_option maxHeartbeats 4000000 in
set_option maxRecDepth 100000 in
theorem c_link_U (lc : Launch) (D : va_G) (cI cZ : ClassId) (N : Nat) (o : Nat) (v2 : Nat) (v3 : Nat) (ik : Int) (w : Nat) (wc : Nat) (k : Nat) (kn : Nat) (t : Nat) (tc : Nat) (ts : Nat) (b : Nat) (bm : Nat) (br : Nat) (mn : Nat) (tA : Int) (sA : Int) (kA : Int) (ck : Nat → Int) (nb : Nat → Int) (cn : Nat → Int) (sm : Nat → Int) (mo : Nat → Int) (re : Nat → Int) (x : Int) (y : Int) (v : Int) (hmn : 2 ≤ mn ∧ mn ≤ 5) (r_x : -2147483648 ≤ x ∧ x ≤ 2147483647) (h : ¬ (0 ≤ x ∧ x ≤ (mn : Int) - 2)) : CR lc D cI cZ N yX4_link wsX4_link (rmK 2 43) [.ref o, .int (iI (x)), .int (iI (y)), .int (iI (v))] [(o, .inr (4, [.ref w, .ref v2, .ref v3, .int (iI (ik))])), (w, .inr (3, [.int (iI (((mn : Nat) : Int))), .int (iI (tA)), .int (iI (sA)), .int (iI (kA)), .ref wc, .ref k, .ref t, .ref b])), (wc, .inl (cI, 5, .inl (vI ck))), (k, .inr (1, [.ref kn])), (kn, .inl (cI, 24, .inl (vI nb))), (t, .inr (2, [.ref tc, .ref ts])), (tc, .inl (cI, 1000, .inl (vI cn))), (ts, .inl (cI, 1000, .inl (vI sm))), (b, .inr (0, [.ref bm, .ref br])), (bm, .inl (cI, 25, .inl (vI mo))), (br, .inl (cI, 5, .inl (vI re)))] (some (.int (iI (-1)))) := by
  refine CR.I (cc := cX4_link) (maxL := 5) (by decide) rfl (Nat.le_of_ble_eq_true rfl) ?_
  intro p e s m args below meth c R Q S hE A hAN hfr hlo hP hD hS hret ls hl
  have S : CallFix p m c cX4_link 5 s args wsX4_link RX4 := S
  have hx := S.1
  have hb := S.2.1
  have hl : lv_has ls 5 [(0, .ref o), (1, .int (iI (x))), (2, .int (iI (y))), (3, .int (iI (v)))] := hl
  refine lv_aload_n hx hb dX4_link_0 rfl (lv_at hl 0 rfl) ?_
  refine w_get (C := RX4) (T := TX4) (Nf := 4) (ci := 4) (v := .ref w) S (fun _ h => List.mem_cons_of_mem _ (List.mem_append_left _ (List.mem_append_left _ (List.mem_append_right _ h)))) hE hP 0 rfl rfl 0 (by decide) (List.mem_of_getElem? (i := 1) rfl) rfl dX4_link_1 ?_
  refine lv_iload_n hx hb dX4_link_4 rfl (lv_at hl 1 rfl) ?_
  refine kV_R (n := 1) (ci := 3) (q := (RX3, TX3, 8)) S (c_hasLink_F lc D cI cZ N w wc k kn t tc ts b bm br mn tA sA kA ck nb cn sm mo re x (by omega) (by omega) (by omega)) gX4_link_X3_hasLink rfl rfl (by decide +kernel) rfl rfl ⟨Nat.le_trans (Nat.le_of_ble_eq_true rfl) hfr, Nat.le_trans (Nat.le_of_ble_eq_true rfl) hlo⟩ hE hAN hP hD hS [1, 2, 3, 4, 5, 6, 7, 8, 9, 10] rfl (by decide) rfl rfl rfl rfl hl.1 [] rfl (Nat.le_of_ble_eq_true rfl) dX4_link_5 ⟨Nat.zero_le _, Nat.zero_le _⟩ ?_
  refine W.eq (g2 := F0 m 8 ls [.int (iI (0))]) rfl ?_
  refine b_neF (tgt := 13) S dX4_link_8 (by decide) (by decide) ?_
  refine lv_iconst (v := iI ((-1))) hx hb dX4_link_11 rfl ?_
  exact hret _ _ _ dX4_link_12 (congrArg iI (by omega))
set_option maxHeartbeats 4000000 in
set_option maxRecDepth 100000 in
theorem c_link_O1 (lc : Launch) (D : va_G) (cI cZ : ClassId) (N : Nat) (o : Nat) (v2 : Nat) (v3 : Nat) (ik : Int) (w : Nat) (wc : Nat) (k : Nat) (kn : Nat) (t : Nat) (tc : Nat) (ts : Nat) (b : Nat) (bm : Nat) (br : Nat) (mn : Nat) (tA : Int) (sA : Int) (kA : Int) (ck : Nat → Int) (nb : Nat → Int) (cn : Nat → Int) (sm : Nat → Int) (mo : Nat → Int) (re : Nat → Int) (x : Int) (y : Int) (v : Int) (hmn : 2 ≤ mn ∧ mn ≤ 5) (r_x : -2147483648 ≤ x ∧ x ≤ 2147483647) (r_y : -2147483648 ≤ y ∧ y ≤ 2147483647) (h : (0 ≤ x ∧ x ≤ (mn : Int) - 2)) (h2 : ¬ (0 ≤ y ∧ y ≤ 5)) : CR lc D cI cZ N yX4_link wsX4_link (rmK 2 43) [.ref o, .int (iI (x)), .int (iI (y)), .int (iI (v))] [(o, .inr (4, [.ref w, .ref v2, .ref v3, .int (iI (ik))])), (w, .inr (3, [.int (iI (((mn : Nat) : Int))), .int (iI (tA)), .int (iI (sA)), .int (iI (kA)), .ref wc, .ref k, .ref t, .ref b])), (wc, .inl (cI, 5, .inl (vI ck))), (k, .inr (1, [.ref kn])), (kn, .inl (cI, 24, .inl (vI nb))), (t, .inr (2, [.ref tc, .ref ts])), (tc, .inl (cI, 1000, .inl (vI cn))), (ts, .inl (cI, 1000, .inl (vI sm))), (b, .inr (0, [.ref bm, .ref br])), (bm, .inl (cI, 25, .inl (vI mo))), (br, .inl (cI, 5, .inl (vI re)))] (some (.int (iI (-2)))) := by
  refine CR.I (cc := cX4_link) (maxL := 5) (by decide) rfl (Nat.le_of_ble_eq_true rfl) ?_
  intro p e s m args below meth c R Q S hE A hAN hfr hlo hP hD hS hret ls hl
  have S : CallFix p m c cX4_link 5 s args wsX4_link RX4 := S
  have hx := S.1
  have hb := S.2.1
  have hl : lv_has ls 5 [(0, .ref o), (1, .int (iI (x))), (2, .int (iI (y))), (3, .int (iI (v)))] := hl
  refine lv_aload_n hx hb dX4_link_0 rfl (lv_at hl 0 rfl) ?_
  refine w_get (C := RX4) (T := TX4) (Nf := 4) (ci := 4) (v := .ref w) S (fun _ h => List.mem_cons_of_mem _ (List.mem_append_left _ (List.mem_append_left _ (List.mem_append_right _ h)))) hE hP 0 rfl rfl 0 (by decide) (List.mem_of_getElem? (i := 1) rfl) rfl dX4_link_1 ?_
  refine lv_iload_n hx hb dX4_link_4 rfl (lv_at hl 1 rfl) ?_
  refine kV_R (n := 1) (ci := 3) (q := (RX3, TX3, 8)) S (c_hasLink_T lc D cI cZ N w wc k kn t tc ts b bm br mn tA sA kA ck nb cn sm mo re x (by omega) (by omega) (by omega)) gX4_link_X3_hasLink rfl rfl (by decide +kernel) rfl rfl ⟨Nat.le_trans (Nat.le_of_ble_eq_true rfl) hfr, Nat.le_trans (Nat.le_of_ble_eq_true rfl) hlo⟩ hE hAN hP hD hS [1, 2, 3, 4, 5, 6, 7, 8, 9, 10] rfl (by decide) rfl rfl rfl rfl hl.1 [] rfl (Nat.le_of_ble_eq_true rfl) dX4_link_5 ⟨Nat.zero_le _, Nat.zero_le _⟩ ?_
  refine W.eq (g2 := F0 m 8 ls [.int (iI (1))]) rfl ?_
  refine b_neT (tgt := 13) S dX4_link_8 (by decide) (by decide) (by decide) ?_
  refine lv_iload_n hx hb dX4_link_13 rfl (lv_at hl 2 rfl) ?_
  refine lv_iconst (v := iI (0)) hx hb dX4_link_14 rfl ?_
  refine lv_iconst (v := iI (5)) hx hb dX4_link_15 rfl ?_
  refine kS_R (n := 3) S (c_within_F lc D cI cZ N y 0 5 (by omega) (by omega) (by omega) (by omega)) gX4_link_X4_within rfl (by decide +kernel) rfl rfl ⟨Nat.le_trans (Nat.le_of_ble_eq_true rfl) hfr, Nat.le_trans (Nat.le_of_ble_eq_true rfl) hlo⟩ hE hAN hP hD hS [] rfl (by decide) rfl hl.1 [] rfl (Nat.le_of_ble_eq_true rfl) dX4_link_16 ⟨Nat.zero_le _, Nat.zero_le _⟩ ?_
  refine W.eq (g2 := F0 m 19 ls [.int (iI (0))]) rfl ?_
  refine b_eqT (tgt := 39) S dX4_link_19 (by decide) (by decide) ?_
  refine lv_bipush (v := iI ((-2))) hx hb dX4_link_39 (by decide) ?_
  exact hret _ _ _ dX4_link_41 (congrArg iI (by omega))
set_option maxHeartbeats 4000000 in
set_option maxRecDepth 100000 in
theorem c_link_O2 (lc : Launch) (D : va_G) (cI cZ : ClassId) (N : Nat) (o : Nat) (v2 : Nat) (v3 : Nat) (ik : Int) (w : Nat) (wc : Nat) (k : Nat) (kn : Nat) (t : Nat) (tc : Nat) (ts : Nat) (b : Nat) (bm : Nat) (br : Nat) (mn : Nat) (tA : Int) (sA : Int) (kA : Int) (ck : Nat → Int) (nb : Nat → Int) (cn : Nat → Int) (sm : Nat → Int) (mo : Nat → Int) (re : Nat → Int) (x : Int) (wh : Nat) (v : Int) (hmn : 2 ≤ mn ∧ mn ≤ 5) (r_x : -2147483648 ≤ x ∧ x ≤ 2147483647) (r_v : -2147483648 ≤ v ∧ v ≤ 2147483647) (h : (0 ≤ x ∧ x ≤ (mn : Int) - 2)) (hwh : wh < 6) (h2 : ¬ (lnLeast wh ≤ v ∧ v ≤ lnMost wh)) : CR lc D cI cZ N yX4_link wsX4_link (rmK 2 43) [.ref o, .int (iI (x)), .int (iI (((wh : Nat) : Int))), .int (iI (v))] [(o, .inr (4, [.ref w, .ref v2, .ref v3, .int (iI (ik))])), (w, .inr (3, [.int (iI (((mn : Nat) : Int))), .int (iI (tA)), .int (iI (sA)), .int (iI (kA)), .ref wc, .ref k, .ref t, .ref b])), (wc, .inl (cI, 5, .inl (vI ck))), (k, .inr (1, [.ref kn])), (kn, .inl (cI, 24, .inl (vI nb))), (t, .inr (2, [.ref tc, .ref ts])), (tc, .inl (cI, 1000, .inl (vI cn))), (ts, .inl (cI, 1000, .inl (vI sm))), (b, .inr (0, [.ref bm, .ref br])), (bm, .inl (cI, 25, .inl (vI mo))), (br, .inl (cI, 5, .inl (vI re)))] (some (.int (iI (-2)))) := by
  refine CR.I (cc := cX4_link) (maxL := 5) (by decide) rfl (Nat.le_of_ble_eq_true rfl) ?_
  intro p e s m args below meth c R Q S hE A hAN hfr hlo hP hD hS hret ls hl
  have S : CallFix p m c cX4_link 5 s args wsX4_link RX4 := S
  have hx := S.1
  have hb := S.2.1
  have hl : lv_has ls 5 [(0, .ref o), (1, .int (iI (x))), (2, .int (iI (((wh : Nat) : Int)))), (3, .int (iI (v)))] := hl
  have hln := ln_rng wh hwh
  refine lv_aload_n hx hb dX4_link_0 rfl (lv_at hl 0 rfl) ?_
  refine w_get (C := RX4) (T := TX4) (Nf := 4) (ci := 4) (v := .ref w) S (fun _ h => List.mem_cons_of_mem _ (List.mem_append_left _ (List.mem_append_left _ (List.mem_append_right _ h)))) hE hP 0 rfl rfl 0 (by decide) (List.mem_of_getElem? (i := 1) rfl) rfl dX4_link_1 ?_
  refine lv_iload_n hx hb dX4_link_4 rfl (lv_at hl 1 rfl) ?_
  refine kV_R (n := 1) (ci := 3) (q := (RX3, TX3, 8)) S (c_hasLink_T lc D cI cZ N w wc k kn t tc ts b bm br mn tA sA kA ck nb cn sm mo re x (by omega) (by omega) (by omega)) gX4_link_X3_hasLink rfl rfl (by decide +kernel) rfl rfl ⟨Nat.le_trans (Nat.le_of_ble_eq_true rfl) hfr, Nat.le_trans (Nat.le_of_ble_eq_true rfl) hlo⟩ hE hAN hP hD hS [1, 2, 3, 4, 5, 6, 7, 8, 9, 10] rfl (by decide) rfl rfl rfl rfl hl.1 [] rfl (Nat.le_of_ble_eq_true rfl) dX4_link_5 ⟨Nat.zero_le _, Nat.zero_le _⟩ ?_
  refine W.eq (g2 := F0 m 8 ls [.int (iI (1))]) rfl ?_
  refine b_neT (tgt := 13) S dX4_link_8 (by decide) (by decide) (by decide) ?_
  refine lv_iload_n hx hb dX4_link_13 rfl (lv_at hl 2 rfl) ?_
  refine lv_iconst (v := iI (0)) hx hb dX4_link_14 rfl ?_
  refine lv_iconst (v := iI (5)) hx hb dX4_link_15 rfl ?_
  refine kS_R (n := 3) S (c_within_T lc D cI cZ N ((wh : Nat) : Int) 0 5 (by omega) (by omega) (by omega) (by omega)) gX4_link_X4_within rfl (by decide +kernel) rfl rfl ⟨Nat.le_trans (Nat.le_of_ble_eq_true rfl) hfr, Nat.le_trans (Nat.le_of_ble_eq_true rfl) hlo⟩ hE hAN hP hD hS [] rfl (by decide) rfl hl.1 [] rfl (Nat.le_of_ble_eq_true rfl) dX4_link_16 ⟨Nat.zero_le _, Nat.zero_le _⟩ ?_
  refine W.eq (g2 := F0 m 19 ls [.int (iI (1))]) rfl ?_
  refine b_eqF (tgt := 39) S dX4_link_19 (by decide) (by decide) (by decide) ?_
  refine lv_iload_n hx hb dX4_link_22 rfl (lv_at hl 3 rfl) ?_
  obtain ⟨zs_1, hZzs_1, hTzs_1⟩ := hE.2.2.2.1
  refine w_gets S hZzs_1 hAN hS (List.mem_of_getElem? (i := 2) rfl) dX4_link_23 ?_
  refine lv_iload_n hx hb dX4_link_26 rfl (lv_at hl 2 rfl) ?_
  refine w_tld S hTzs_1 hAN hS (wh) (by omega) (by omega) dX4_link_27 ?_
  obtain ⟨zs_2, hZzs_2, hTzs_2⟩ := hE.2.2.2.2.1
  refine w_gets S hZzs_2 hAN hS (List.mem_of_getElem? (i := 3) rfl) dX4_link_28 ?_
  refine lv_iload_n hx hb dX4_link_31 rfl (lv_at hl 2 rfl) ?_
  refine w_tld S hTzs_2 hAN hS (wh) (by omega) (by omega) dX4_link_32 ?_
  refine kS_R (n := 3) S (c_within_F lc D cI cZ N v (lnLeast wh) (lnMost wh) (by omega) (by omega) (by omega) (by omega)) gX4_link_X4_within rfl (by decide +kernel) rfl rfl ⟨Nat.le_trans (Nat.le_of_ble_eq_true rfl) hfr, Nat.le_trans (Nat.le_of_ble_eq_true rfl) hlo⟩ hE hAN hP hD hS [] rfl (by decide) rfl hl.1 [] rfl (Nat.le_of_ble_eq_true rfl) dX4_link_33 ⟨Nat.zero_le _, Nat.zero_le _⟩ ?_
  refine W.eq (g2 := F0 m 36 ls [.int (iI (0))]) rfl ?_
  refine b_neF (tgt := 42) S dX4_link_36 (by decide) (by decide) ?_
  refine lv_bipush (v := iI ((-2))) hx hb dX4_link_39 (by decide) ?_
  exact hret _ _ _ dX4_link_41 (congrArg iI (by omega))
set_option maxHeartbeats 4000000 in
set_option maxRecDepth 100000 in
theorem c_link (lc : Launch) (D : va_G) (cI cZ : ClassId) (N : Nat) (o : Nat) (v2 : Nat) (v3 : Nat) (ik : Int) (w : Nat) (wc : Nat) (k : Nat) (kn : Nat) (t : Nat) (tc : Nat) (ts : Nat) (b : Nat) (bm : Nat) (br : Nat) (mn : Nat) (tA : Int) (sA : Int) (kA : Int) (ck : Nat → Int) (nb : Nat → Int) (cn : Nat → Int) (sm : Nat → Int) (mo : Nat → Int) (re : Nat → Int) (lk : Nat) (wh : Nat) (v : Int) (hmn : 2 ≤ mn ∧ mn ≤ 5) (r_v : -2147483648 ≤ v ∧ v ≤ 2147483647) (h : lk + 2 ≤ mn) (hwh : wh < 6) (h2 : lnLeast wh ≤ v ∧ v ≤ lnMost wh) : CM lc D cI cZ N yX4_link wsX4_link (rmK 2 43) [.ref o, .int (iI (((lk : Nat) : Int))), .int (iI (((wh : Nat) : Int))), .int (iI (v))] [(o, .inr (4, [.ref w, .ref v2, .ref v3, .int (iI (ik))])), (w, .inr (3, [.int (iI (((mn : Nat) : Int))), .int (iI (tA)), .int (iI (sA)), .int (iI (kA)), .ref wc, .ref k, .ref t, .ref b])), (wc, .inl (cI, 5, .inl (vI ck))), (k, .inr (1, [.ref kn])), (kn, .inl (cI, 24, .inl (vI nb))), (t, .inr (2, [.ref tc, .ref ts])), (tc, .inl (cI, 1000, .inl (vI cn))), (ts, .inl (cI, 1000, .inl (vI sm))), (b, .inr (0, [.ref bm, .ref br])), (bm, .inl (cI, 25, .inl (vI mo))), (br, .inl (cI, 5, .inl (vI re)))] (some (.int (iI (nb (lk * 6 + wh))))) [(o, .inr (4, [.ref w, .ref v2, .ref v3, .int (iI (ik))])), (w, .inr (3, [.int (iI (((mn : Nat) : Int))), .int (iI (tA)), .int (iI (sA)), .int (iI (kA)), .ref wc, .ref k, .ref t, .ref b])), (wc, .inl (cI, 5, .inl (vI ck))), (k, .inr (1, [.ref kn])), (kn, .inl (cI, 24, .inl (vI (updI nb (lk * 6 + wh) v)))), (t, .inr (2, [.ref tc, .ref ts])), (tc, .inl (cI, 1000, .inl (vI cn))), (ts, .inl (cI, 1000, .inl (vI sm))), (b, .inr (0, [.ref bm, .ref br])), (bm, .inl (cI, 25, .inl (vI mo))), (br, .inl (cI, 5, .inl (vI re)))] := by
  refine CM.I (cc := cX4_link) (maxL := 5) (by decide) rfl (Nat.le_of_ble_eq_true rfl) ?_
  intro p e s m args below meth c R Q S hE A hAN hfr hlo hP hD hS hret ls hl
  have S : CallFix p m c cX4_link 5 s args wsX4_link RX4 := S
  have hx := S.1
  have hb := S.2.1
  have hl : lv_has ls 5 [(0, .ref o), (1, .int (iI (((lk : Nat) : Int)))), (2, .int (iI (((wh : Nat) : Int)))), (3, .int (iI (v)))] := hl
  have hln := ln_rng wh hwh
  refine lv_aload_n hx hb dX4_link_0 rfl (lv_at hl 0 rfl) ?_
  refine w_get (C := RX4) (T := TX4) (Nf := 4) (ci := 4) (v := .ref w) S (fun _ h => List.mem_cons_of_mem _ (List.mem_append_left _ (List.mem_append_left _ (List.mem_append_right _ h)))) hE hP 0 rfl rfl 0 (by decide) (List.mem_of_getElem? (i := 1) rfl) rfl dX4_link_1 ?_
  refine lv_iload_n hx hb dX4_link_4 rfl (lv_at hl 1 rfl) ?_
  refine kV_R (n := 1) (ci := 3) (q := (RX3, TX3, 8)) S (c_hasLink_T lc D cI cZ N w wc k kn t tc ts b bm br mn tA sA kA ck nb cn sm mo re ((lk : Nat) : Int) (by omega) (by omega) (by omega)) gX4_link_X3_hasLink rfl rfl (by decide +kernel) rfl rfl ⟨Nat.le_trans (Nat.le_of_ble_eq_true rfl) hfr, Nat.le_trans (Nat.le_of_ble_eq_true rfl) hlo⟩ hE hAN hP hD hS [1, 2, 3, 4, 5, 6, 7, 8, 9, 10] rfl (by decide) rfl rfl rfl rfl hl.1 [] rfl (Nat.le_of_ble_eq_true rfl) dX4_link_5 ⟨Nat.zero_le _, Nat.zero_le _⟩ ?_
  refine W.eq (g2 := F0 m 8 ls [.int (iI (1))]) rfl ?_
  refine b_neT (tgt := 13) S dX4_link_8 (by decide) (by decide) (by decide) ?_
  refine lv_iload_n hx hb dX4_link_13 rfl (lv_at hl 2 rfl) ?_
  refine lv_iconst (v := iI (0)) hx hb dX4_link_14 rfl ?_
  refine lv_iconst (v := iI (5)) hx hb dX4_link_15 rfl ?_
  refine kS_R (n := 3) S (c_within_T lc D cI cZ N ((wh : Nat) : Int) 0 5 (by omega) (by omega) (by omega) (by omega)) gX4_link_X4_within rfl (by decide +kernel) rfl rfl ⟨Nat.le_trans (Nat.le_of_ble_eq_true rfl) hfr, Nat.le_trans (Nat.le_of_ble_eq_true rfl) hlo⟩ hE hAN hP hD hS [] rfl (by decide) rfl hl.1 [] rfl (Nat.le_of_ble_eq_true rfl) dX4_link_16 ⟨Nat.zero_le _, Nat.zero_le _⟩ ?_
  refine W.eq (g2 := F0 m 19 ls [.int (iI (1))]) rfl ?_
  refine b_eqF (tgt := 39) S dX4_link_19 (by decide) (by decide) (by decide) ?_
  refine lv_iload_n hx hb dX4_link_22 rfl (lv_at hl 3 rfl) ?_
  obtain ⟨zs_3, hZzs_3, hTzs_3⟩ := hE.2.2.2.1
  refine w_gets S hZzs_3 hAN hS (List.mem_of_getElem? (i := 2) rfl) dX4_link_23 ?_
  refine lv_iload_n hx hb dX4_link_26 rfl (lv_at hl 2 rfl) ?_
  refine w_tld S hTzs_3 hAN hS (wh) (by omega) (by omega) dX4_link_27 ?_
  obtain ⟨zs_4, hZzs_4, hTzs_4⟩ := hE.2.2.2.2.1
  refine w_gets S hZzs_4 hAN hS (List.mem_of_getElem? (i := 3) rfl) dX4_link_28 ?_
  refine lv_iload_n hx hb dX4_link_31 rfl (lv_at hl 2 rfl) ?_
  refine w_tld S hTzs_4 hAN hS (wh) (by omega) (by omega) dX4_link_32 ?_
  refine kS_R (n := 3) S (c_within_T lc D cI cZ N v (lnLeast wh) (lnMost wh) (by omega) (by omega) (by omega) (by omega)) gX4_link_X4_within rfl (by decide +kernel) rfl rfl ⟨Nat.le_trans (Nat.le_of_ble_eq_true rfl) hfr, Nat.le_trans (Nat.le_of_ble_eq_true rfl) hlo⟩ hE hAN hP hD hS [] rfl (by decide) rfl hl.1 [] rfl (Nat.le_of_ble_eq_true rfl) dX4_link_33 ⟨Nat.zero_le _, Nat.zero_le _⟩ ?_
  refine W.eq (g2 := F0 m 36 ls [.int (iI (1))]) rfl ?_
  refine b_neT (tgt := 42) S dX4_link_36 (by decide) (by decide) (by decide) ?_
  refine lv_aload_n hx hb dX4_link_42 rfl (lv_at hl 0 rfl) ?_
  refine w_get (C := RX4) (T := TX4) (Nf := 4) (ci := 4) (v := .ref w) S (fun _ h => List.mem_cons_of_mem _ (List.mem_append_left _ (List.mem_append_left _ (List.mem_append_right _ h)))) hE hP 0 rfl rfl 0 (by decide) (List.mem_of_getElem? (i := 1) rfl) rfl dX4_link_43 ?_
  refine w_get (C := RX3) (T := TX3) (Nf := 8) (ci := 3) (v := .ref k) S (fun _ h => List.mem_cons_of_mem _ (List.mem_append_left _ (List.mem_append_right _ h))) hE hP 1 rfl rfl 5 (by decide) (List.mem_of_getElem? (i := 4) rfl) rfl dX4_link_46 ?_
  refine lv_iload_n hx hb dX4_link_49 rfl (lv_at hl 1 rfl) ?_
  refine lv_iload_n hx hb dX4_link_50 rfl (lv_at hl 2 rfl) ?_
  refine kV_R (n := 2) (ci := 1) (q := (RX1, TX1, 1)) S (c_read lc D cI cZ N k kn nb lk wh (by omega)) gX4_link_X1_read rfl rfl (by decide +kernel) rfl rfl ⟨Nat.le_trans (Nat.le_of_ble_eq_true rfl) hfr, Nat.le_trans (Nat.le_of_ble_eq_true rfl) hlo⟩ hE hAN hP hD hS [3, 4] rfl (by decide) rfl rfl rfl rfl hl.1 [] rfl (Nat.le_of_ble_eq_true rfl) dX4_link_51 ⟨Nat.zero_le _, Nat.zero_le _⟩ ?_
  refine W.eq (g2 := F0 m 54 ls [.int (iI (nb (lk * 6 + wh)))]) rfl ?_
  refine lv_istore (lv' := [(4, .int (iI (nb (lk * 6 + wh)))), (0, .ref o), (1, .int (iI (((lk : Nat) : Int)))), (2, .int (iI (((wh : Nat) : Int)))), (3, .int (iI (v)))]) hx hb dX4_link_54 hl (by decide) rfl (fun ls hl => ?_)
  refine lv_aload_n hx hb dX4_link_56 rfl (lv_at hl 1 rfl) ?_
  refine w_get (C := RX4) (T := TX4) (Nf := 4) (ci := 4) (v := .ref w) S (fun _ h => List.mem_cons_of_mem _ (List.mem_append_left _ (List.mem_append_left _ (List.mem_append_right _ h)))) hE hP 0 rfl rfl 0 (by decide) (List.mem_of_getElem? (i := 1) rfl) rfl dX4_link_57 ?_
  refine w_get (C := RX3) (T := TX3) (Nf := 8) (ci := 3) (v := .ref k) S (fun _ h => List.mem_cons_of_mem _ (List.mem_append_left _ (List.mem_append_right _ h))) hE hP 1 rfl rfl 5 (by decide) (List.mem_of_getElem? (i := 4) rfl) rfl dX4_link_60 ?_
  refine lv_iload_n hx hb dX4_link_63 rfl (lv_at hl 2 rfl) ?_
  refine lv_iload_n hx hb dX4_link_64 rfl (lv_at hl 3 rfl) ?_
  refine lv_iload_n hx hb dX4_link_65 rfl (lv_at hl 4 rfl) ?_
  refine kV_M (n := 3) (ci := 1) (q := (RX1, TX1, 1)) S (c_write lc D cI cZ N k kn nb lk wh v (by omega)) gX4_link_X1_write rfl rfl (by decide +kernel) rfl rfl ⟨Nat.le_trans (Nat.le_of_ble_eq_true rfl) hfr, Nat.le_trans (Nat.le_of_ble_eq_true rfl) hlo⟩ hE hAN hP hD hS [3, 4] rfl (by decide) rfl rfl rfl rfl rfl hl.1 [] rfl (Nat.le_of_ble_eq_true rfl) dX4_link_66 ⟨Nat.zero_le _, Nat.zero_le _⟩ (fun H locs hP hD hS => ?_)
  have hP : va_P D vwCl [(o, .inr (4, [.ref w, .ref v2, .ref v3, .int (iI (ik))])), (w, .inr (3, [.int (iI (((mn : Nat) : Int))), .int (iI (tA)), .int (iI (sA)), .int (iI (kA)), .ref wc, .ref k, .ref t, .ref b])), (wc, .inl (cI, 5, .inl (vI ck))), (k, .inr (1, [.ref kn])), (kn, .inl (cI, 24, .inl (vI (updI nb (lk * 6 + wh) v)))), (t, .inr (2, [.ref tc, .ref ts])), (tc, .inl (cI, 1000, .inl (vI cn))), (ts, .inl (cI, 1000, .inl (vI sm))), (b, .inr (0, [.ref bm, .ref br])), (bm, .inl (cI, 25, .inl (vI mo))), (br, .inl (cI, 5, .inl (vI re)))] H := hP
  have hD : va_D A [(o, .inr (4, [.ref w, .ref v2, .ref v3, .int (iI (ik))])), (w, .inr (3, [.int (iI (((mn : Nat) : Int))), .int (iI (tA)), .int (iI (sA)), .int (iI (kA)), .ref wc, .ref k, .ref t, .ref b])), (wc, .inl (cI, 5, .inl (vI ck))), (k, .inr (1, [.ref kn])), (kn, .inl (cI, 24, .inl (vI (updI nb (lk * 6 + wh) v)))), (t, .inr (2, [.ref tc, .ref ts])), (tc, .inl (cI, 1000, .inl (vI cn))), (ts, .inl (cI, 1000, .inl (vI sm))), (b, .inr (0, [.ref bm, .ref br])), (bm, .inl (cI, 25, .inl (vI mo))), (br, .inl (cI, 5, .inl (vI re)))] := hD
  refine W.eq (g2 := F0 m 69 ls []) rfl ?_
  refine lv_iload hx hb dX4_link_69 (lv_at hl 0 rfl) ?_
  exact hret _ _ _ _ _ dX4_link_71 rfl hP hS
set_option maxHeartbeats 4000000 in
set_option maxRecDepth 100000 in
theorem c_clock_U (lc : Launch) (D : va_G) (cI cZ : ClassId) (N : Nat) (o : Nat) (v2 : Nat) (v3 : Nat) (ik : Int) (w : Nat) (wc : Nat) (k : Nat) (kn : Nat) (t : Nat) (tc : Nat) (ts : Nat) (b : Nat) (bm : Nat) (br : Nat) (mn : Nat) (tA : Int) (sA : Int) (kA : Int) (ck : Nat → Int) (nb : Nat → Int) (cn : Nat → Int) (sm : Nat → Int) (mo : Nat → Int) (re : Nat → Int) (x : Int) (v : Int) (hmn : 2 ≤ mn ∧ mn ≤ 5) (r_x : -2147483648 ≤ x ∧ x ≤ 2147483647) (h : ¬ (0 ≤ x ∧ x ≤ (mn : Int) - 1)) : CR lc D cI cZ N yX4_clock wsX4_clock (rmK 2 43) [.ref o, .int (iI (x)), .int (iI (v))] [(o, .inr (4, [.ref w, .ref v2, .ref v3, .int (iI (ik))])), (w, .inr (3, [.int (iI (((mn : Nat) : Int))), .int (iI (tA)), .int (iI (sA)), .int (iI (kA)), .ref wc, .ref k, .ref t, .ref b])), (wc, .inl (cI, 5, .inl (vI ck))), (k, .inr (1, [.ref kn])), (kn, .inl (cI, 24, .inl (vI nb))), (t, .inr (2, [.ref tc, .ref ts])), (tc, .inl (cI, 1000, .inl (vI cn))), (ts, .inl (cI, 1000, .inl (vI sm))), (b, .inr (0, [.ref bm, .ref br])), (bm, .inl (cI, 25, .inl (vI mo))), (br, .inl (cI, 5, .inl (vI re)))] (some (.int (iI (-1000000001)))) := by
  refine CR.I (cc := cX4_clock) (maxL := 4) (by decide) rfl (Nat.le_of_ble_eq_true rfl) ?_
  intro p e s m args below meth c R Q S hE A hAN hfr hlo hP hD hS hret ls hl
  have S : CallFix p m c cX4_clock 4 s args wsX4_clock RX4 := S
  have hx := S.1
  have hb := S.2.1
  have hl : lv_has ls 4 [(0, .ref o), (1, .int (iI (x))), (2, .int (iI (v)))] := hl
  refine lv_aload_n hx hb dX4_clock_0 rfl (lv_at hl 0 rfl) ?_
  refine w_get (C := RX4) (T := TX4) (Nf := 4) (ci := 4) (v := .ref w) S (fun _ h => List.mem_cons_of_mem _ (List.mem_append_left _ (List.mem_append_left _ (List.mem_append_right _ h)))) hE hP 0 rfl rfl 0 (by decide) (List.mem_of_getElem? (i := 1) rfl) rfl dX4_clock_1 ?_
  refine lv_iload_n hx hb dX4_clock_4 rfl (lv_at hl 1 rfl) ?_
  refine kV_R (n := 1) (ci := 3) (q := (RX3, TX3, 8)) S (c_hasNode_F lc D cI cZ N w wc k kn t tc ts b bm br mn tA sA kA ck nb cn sm mo re x (by omega) (by omega) (by omega)) gX4_clock_X3_hasNode rfl rfl (by decide +kernel) rfl rfl ⟨Nat.le_trans (Nat.le_of_ble_eq_true rfl) hfr, Nat.le_trans (Nat.le_of_ble_eq_true rfl) hlo⟩ hE hAN hP hD hS [1, 2, 3, 4, 5, 6, 7, 8, 9, 10] rfl (by decide) rfl rfl rfl rfl hl.1 [] rfl (Nat.le_of_ble_eq_true rfl) dX4_clock_5 ⟨Nat.zero_le _, Nat.zero_le _⟩ ?_
  refine W.eq (g2 := F0 m 8 ls [.int (iI (0))]) rfl ?_
  refine b_neF (tgt := 14) S dX4_clock_8 (by decide) (by decide) ?_
  refine w_ldc (z := (-1000000001)) S (List.mem_of_getElem? (i := 2) rfl) (by decide) dX4_clock_11 ?_
  exact hret _ _ _ dX4_clock_13 (congrArg iI (by omega))
set_option maxHeartbeats 4000000 in
set_option maxRecDepth 100000 in
theorem c_clock_O (lc : Launch) (D : va_G) (cI cZ : ClassId) (N : Nat) (o : Nat) (v2 : Nat) (v3 : Nat) (ik : Int) (w : Nat) (wc : Nat) (k : Nat) (kn : Nat) (t : Nat) (tc : Nat) (ts : Nat) (b : Nat) (bm : Nat) (br : Nat) (mn : Nat) (tA : Int) (sA : Int) (kA : Int) (ck : Nat → Int) (nb : Nat → Int) (cn : Nat → Int) (sm : Nat → Int) (mo : Nat → Int) (re : Nat → Int) (x : Int) (v : Int) (hmn : 2 ≤ mn ∧ mn ≤ 5) (r_x : -2147483648 ≤ x ∧ x ≤ 2147483647) (r_v : -2147483648 ≤ v ∧ v ≤ 2147483647) (h : (0 ≤ x ∧ x ≤ (mn : Int) - 1)) (h2 : ¬ (-99 ≤ v ∧ v ≤ 99)) : CR lc D cI cZ N yX4_clock wsX4_clock (rmK 2 43) [.ref o, .int (iI (x)), .int (iI (v))] [(o, .inr (4, [.ref w, .ref v2, .ref v3, .int (iI (ik))])), (w, .inr (3, [.int (iI (((mn : Nat) : Int))), .int (iI (tA)), .int (iI (sA)), .int (iI (kA)), .ref wc, .ref k, .ref t, .ref b])), (wc, .inl (cI, 5, .inl (vI ck))), (k, .inr (1, [.ref kn])), (kn, .inl (cI, 24, .inl (vI nb))), (t, .inr (2, [.ref tc, .ref ts])), (tc, .inl (cI, 1000, .inl (vI cn))), (ts, .inl (cI, 1000, .inl (vI sm))), (b, .inr (0, [.ref bm, .ref br])), (bm, .inl (cI, 25, .inl (vI mo))), (br, .inl (cI, 5, .inl (vI re)))] (some (.int (iI (-1000000002)))) := by
  refine CR.I (cc := cX4_clock) (maxL := 4) (by decide) rfl (Nat.le_of_ble_eq_true rfl) ?_
  intro p e s m args below meth c R Q S hE A hAN hfr hlo hP hD hS hret ls hl
  have S : CallFix p m c cX4_clock 4 s args wsX4_clock RX4 := S
  have hx := S.1
  have hb := S.2.1
  have hl : lv_has ls 4 [(0, .ref o), (1, .int (iI (x))), (2, .int (iI (v)))] := hl
  refine lv_aload_n hx hb dX4_clock_0 rfl (lv_at hl 0 rfl) ?_
  refine w_get (C := RX4) (T := TX4) (Nf := 4) (ci := 4) (v := .ref w) S (fun _ h => List.mem_cons_of_mem _ (List.mem_append_left _ (List.mem_append_left _ (List.mem_append_right _ h)))) hE hP 0 rfl rfl 0 (by decide) (List.mem_of_getElem? (i := 1) rfl) rfl dX4_clock_1 ?_
  refine lv_iload_n hx hb dX4_clock_4 rfl (lv_at hl 1 rfl) ?_
  refine kV_R (n := 1) (ci := 3) (q := (RX3, TX3, 8)) S (c_hasNode_T lc D cI cZ N w wc k kn t tc ts b bm br mn tA sA kA ck nb cn sm mo re x (by omega) (by omega) (by omega)) gX4_clock_X3_hasNode rfl rfl (by decide +kernel) rfl rfl ⟨Nat.le_trans (Nat.le_of_ble_eq_true rfl) hfr, Nat.le_trans (Nat.le_of_ble_eq_true rfl) hlo⟩ hE hAN hP hD hS [1, 2, 3, 4, 5, 6, 7, 8, 9, 10] rfl (by decide) rfl rfl rfl rfl hl.1 [] rfl (Nat.le_of_ble_eq_true rfl) dX4_clock_5 ⟨Nat.zero_le _, Nat.zero_le _⟩ ?_
  refine W.eq (g2 := F0 m 8 ls [.int (iI (1))]) rfl ?_
  refine b_neT (tgt := 14) S dX4_clock_8 (by decide) (by decide) (by decide) ?_
  refine lv_iload_n hx hb dX4_clock_14 rfl (lv_at hl 2 rfl) ?_
  refine lv_bipush (v := iI ((-99))) hx hb dX4_clock_15 (by decide) ?_
  refine lv_bipush (v := iI (99)) hx hb dX4_clock_17 (by decide) ?_
  refine kS_R (n := 3) S (c_within_F lc D cI cZ N v (-99) 99 (by omega) (by omega) (by omega) (by omega)) gX4_clock_X4_within rfl (by decide +kernel) rfl rfl ⟨Nat.le_trans (Nat.le_of_ble_eq_true rfl) hfr, Nat.le_trans (Nat.le_of_ble_eq_true rfl) hlo⟩ hE hAN hP hD hS [] rfl (by decide) rfl hl.1 [] rfl (Nat.le_of_ble_eq_true rfl) dX4_clock_19 ⟨Nat.zero_le _, Nat.zero_le _⟩ ?_
  refine W.eq (g2 := F0 m 22 ls [.int (iI (0))]) rfl ?_
  refine b_neF (tgt := 28) S dX4_clock_22 (by decide) (by decide) ?_
  refine w_ldc (z := (-1000000002)) S (List.mem_of_getElem? (i := 3) rfl) (by decide) dX4_clock_25 ?_
  exact hret _ _ _ dX4_clock_27 (congrArg iI (by omega))
set_option maxHeartbeats 4000000 in
set_option maxRecDepth 100000 in
theorem c_clock_S (lc : Launch) (D : va_G) (cI cZ : ClassId) (N : Nat) (o : Nat) (v2 : Nat) (v3 : Nat) (ik : Int) (w : Nat) (wc : Nat) (k : Nat) (kn : Nat) (t : Nat) (tc : Nat) (ts : Nat) (b : Nat) (bm : Nat) (br : Nat) (mn : Nat) (tA : Int) (sA : Int) (kA : Int) (ck : Nat → Int) (nb : Nat → Int) (cn : Nat → Int) (sm : Nat → Int) (mo : Nat → Int) (re : Nat → Int) (x : Int) (v : Int) (hmn : 2 ≤ mn ∧ mn ≤ 5) (hsA : 0 ≤ sA ∧ sA ≤ 200) (r_x : -2147483648 ≤ x ∧ x ≤ 2147483647) (r_v : -2147483648 ≤ v ∧ v ≤ 2147483647) (h : (0 ≤ x ∧ x ≤ (mn : Int) - 1)) (h2 : -99 ≤ v ∧ v ≤ 99) (h3 : 0 < sA) : CR lc D cI cZ N yX4_clock wsX4_clock (rmK 2 43) [.ref o, .int (iI (x)), .int (iI (v))] [(o, .inr (4, [.ref w, .ref v2, .ref v3, .int (iI (ik))])), (w, .inr (3, [.int (iI (((mn : Nat) : Int))), .int (iI (tA)), .int (iI (sA)), .int (iI (kA)), .ref wc, .ref k, .ref t, .ref b])), (wc, .inl (cI, 5, .inl (vI ck))), (k, .inr (1, [.ref kn])), (kn, .inl (cI, 24, .inl (vI nb))), (t, .inr (2, [.ref tc, .ref ts])), (tc, .inl (cI, 1000, .inl (vI cn))), (ts, .inl (cI, 1000, .inl (vI sm))), (b, .inr (0, [.ref bm, .ref br])), (bm, .inl (cI, 25, .inl (vI mo))), (br, .inl (cI, 5, .inl (vI re)))] (some (.int (iI (-1000000003)))) := by
  refine CR.I (cc := cX4_clock) (maxL := 4) (by decide) rfl (Nat.le_of_ble_eq_true rfl) ?_
  intro p e s m args below meth c R Q S hE A hAN hfr hlo hP hD hS hret ls hl
  have S : CallFix p m c cX4_clock 4 s args wsX4_clock RX4 := S
  have hx := S.1
  have hb := S.2.1
  have hl : lv_has ls 4 [(0, .ref o), (1, .int (iI (x))), (2, .int (iI (v)))] := hl
  refine lv_aload_n hx hb dX4_clock_0 rfl (lv_at hl 0 rfl) ?_
  refine w_get (C := RX4) (T := TX4) (Nf := 4) (ci := 4) (v := .ref w) S (fun _ h => List.mem_cons_of_mem _ (List.mem_append_left _ (List.mem_append_left _ (List.mem_append_right _ h)))) hE hP 0 rfl rfl 0 (by decide) (List.mem_of_getElem? (i := 1) rfl) rfl dX4_clock_1 ?_
  refine lv_iload_n hx hb dX4_clock_4 rfl (lv_at hl 1 rfl) ?_
  refine kV_R (n := 1) (ci := 3) (q := (RX3, TX3, 8)) S (c_hasNode_T lc D cI cZ N w wc k kn t tc ts b bm br mn tA sA kA ck nb cn sm mo re x (by omega) (by omega) (by omega)) gX4_clock_X3_hasNode rfl rfl (by decide +kernel) rfl rfl ⟨Nat.le_trans (Nat.le_of_ble_eq_true rfl) hfr, Nat.le_trans (Nat.le_of_ble_eq_true rfl) hlo⟩ hE hAN hP hD hS [1, 2, 3, 4, 5, 6, 7, 8, 9, 10] rfl (by decide) rfl rfl rfl rfl hl.1 [] rfl (Nat.le_of_ble_eq_true rfl) dX4_clock_5 ⟨Nat.zero_le _, Nat.zero_le _⟩ ?_
  refine W.eq (g2 := F0 m 8 ls [.int (iI (1))]) rfl ?_
  refine b_neT (tgt := 14) S dX4_clock_8 (by decide) (by decide) (by decide) ?_
  refine lv_iload_n hx hb dX4_clock_14 rfl (lv_at hl 2 rfl) ?_
  refine lv_bipush (v := iI ((-99))) hx hb dX4_clock_15 (by decide) ?_
  refine lv_bipush (v := iI (99)) hx hb dX4_clock_17 (by decide) ?_
  refine kS_R (n := 3) S (c_within_T lc D cI cZ N v (-99) 99 (by omega) (by omega) (by omega) (by omega)) gX4_clock_X4_within rfl (by decide +kernel) rfl rfl ⟨Nat.le_trans (Nat.le_of_ble_eq_true rfl) hfr, Nat.le_trans (Nat.le_of_ble_eq_true rfl) hlo⟩ hE hAN hP hD hS [] rfl (by decide) rfl hl.1 [] rfl (Nat.le_of_ble_eq_true rfl) dX4_clock_19 ⟨Nat.zero_le _, Nat.zero_le _⟩ ?_
  refine W.eq (g2 := F0 m 22 ls [.int (iI (1))]) rfl ?_
  refine b_neT (tgt := 28) S dX4_clock_22 (by decide) (by decide) (by decide) ?_
  refine lv_aload_n hx hb dX4_clock_28 rfl (lv_at hl 0 rfl) ?_
  refine w_get (C := RX4) (T := TX4) (Nf := 4) (ci := 4) (v := .ref w) S (fun _ h => List.mem_cons_of_mem _ (List.mem_append_left _ (List.mem_append_left _ (List.mem_append_right _ h)))) hE hP 0 rfl rfl 0 (by decide) (List.mem_of_getElem? (i := 1) rfl) rfl dX4_clock_29 ?_
  refine w_get (C := RX3) (T := TX3) (Nf := 8) (ci := 3) (v := .int (iI (sA))) S (fun _ h => List.mem_cons_of_mem _ (List.mem_append_left _ (List.mem_append_right _ h))) hE hP 1 rfl rfl 2 (by decide) (List.mem_of_getElem? (i := 4) rfl) rfl dX4_clock_32 ?_
  refine b_leF (tgt := 41) S dX4_clock_35 (by decide) (by omega) (by omega) ?_
  refine w_ldc (z := (-1000000003)) S (List.mem_of_getElem? (i := 5) rfl) (by decide) dX4_clock_38 ?_
  exact hret _ _ _ dX4_clock_40 (congrArg iI (by omega))
set_option maxHeartbeats 4000000 in
set_option maxRecDepth 100000 in
theorem c_clock (lc : Launch) (D : va_G) (cI cZ : ClassId) (N : Nat) (o : Nat) (v2 : Nat) (v3 : Nat) (ik : Int) (w : Nat) (wc : Nat) (k : Nat) (kn : Nat) (t : Nat) (tc : Nat) (ts : Nat) (b : Nat) (bm : Nat) (br : Nat) (mn : Nat) (tA : Int) (sA : Int) (kA : Int) (ck : Nat → Int) (nb : Nat → Int) (cn : Nat → Int) (sm : Nat → Int) (mo : Nat → Int) (re : Nat → Int) (nd : Nat) (v : Int) (hmn : 2 ≤ mn ∧ mn ≤ 5) (hsA : 0 ≤ sA ∧ sA ≤ 200) (r_v : -2147483648 ≤ v ∧ v ≤ 2147483647) (h : nd < mn) (h2 : -99 ≤ v ∧ v ≤ 99) (h3 : sA = 0) : CM lc D cI cZ N yX4_clock wsX4_clock (rmK 2 43) [.ref o, .int (iI (((nd : Nat) : Int))), .int (iI (v))] [(o, .inr (4, [.ref w, .ref v2, .ref v3, .int (iI (ik))])), (w, .inr (3, [.int (iI (((mn : Nat) : Int))), .int (iI (tA)), .int (iI (sA)), .int (iI (kA)), .ref wc, .ref k, .ref t, .ref b])), (wc, .inl (cI, 5, .inl (vI ck))), (k, .inr (1, [.ref kn])), (kn, .inl (cI, 24, .inl (vI nb))), (t, .inr (2, [.ref tc, .ref ts])), (tc, .inl (cI, 1000, .inl (vI cn))), (ts, .inl (cI, 1000, .inl (vI sm))), (b, .inr (0, [.ref bm, .ref br])), (bm, .inl (cI, 25, .inl (vI mo))), (br, .inl (cI, 5, .inl (vI re)))] (some (.int (iI (ck nd)))) [(o, .inr (4, [.ref w, .ref v2, .ref v3, .int (iI (ik))])), (w, .inr (3, [.int (iI (((mn : Nat) : Int))), .int (iI (tA)), .int (iI (sA)), .int (iI (kA)), .ref wc, .ref k, .ref t, .ref b])), (wc, .inl (cI, 5, .inl (vI (updI ck nd v)))), (k, .inr (1, [.ref kn])), (kn, .inl (cI, 24, .inl (vI nb))), (t, .inr (2, [.ref tc, .ref ts])), (tc, .inl (cI, 1000, .inl (vI cn))), (ts, .inl (cI, 1000, .inl (vI sm))), (b, .inr (0, [.ref bm, .ref br])), (bm, .inl (cI, 25, .inl (vI (fgt mo nd 5)))), (br, .inl (cI, 5, .inl (vI re)))] := by
  refine CM.I (cc := cX4_clock) (maxL := 4) (by decide) rfl (Nat.le_of_ble_eq_true rfl) ?_
  intro p e s m args below meth c R Q S hE A hAN hfr hlo hP hD hS hret ls hl
  have S : CallFix p m c cX4_clock 4 s args wsX4_clock RX4 := S
  have hx := S.1
  have hb := S.2.1
  have hl : lv_has ls 4 [(0, .ref o), (1, .int (iI (((nd : Nat) : Int)))), (2, .int (iI (v)))] := hl
  refine lv_aload_n hx hb dX4_clock_0 rfl (lv_at hl 0 rfl) ?_
  refine w_get (C := RX4) (T := TX4) (Nf := 4) (ci := 4) (v := .ref w) S (fun _ h => List.mem_cons_of_mem _ (List.mem_append_left _ (List.mem_append_left _ (List.mem_append_right _ h)))) hE hP 0 rfl rfl 0 (by decide) (List.mem_of_getElem? (i := 1) rfl) rfl dX4_clock_1 ?_
  refine lv_iload_n hx hb dX4_clock_4 rfl (lv_at hl 1 rfl) ?_
  refine kV_R (n := 1) (ci := 3) (q := (RX3, TX3, 8)) S (c_hasNode_T lc D cI cZ N w wc k kn t tc ts b bm br mn tA sA kA ck nb cn sm mo re ((nd : Nat) : Int) (by omega) (by omega) (by omega)) gX4_clock_X3_hasNode rfl rfl (by decide +kernel) rfl rfl ⟨Nat.le_trans (Nat.le_of_ble_eq_true rfl) hfr, Nat.le_trans (Nat.le_of_ble_eq_true rfl) hlo⟩ hE hAN hP hD hS [1, 2, 3, 4, 5, 6, 7, 8, 9, 10] rfl (by decide) rfl rfl rfl rfl hl.1 [] rfl (Nat.le_of_ble_eq_true rfl) dX4_clock_5 ⟨Nat.zero_le _, Nat.zero_le _⟩ ?_
  refine W.eq (g2 := F0 m 8 ls [.int (iI (1))]) rfl ?_
  refine b_neT (tgt := 14) S dX4_clock_8 (by decide) (by decide) (by decide) ?_
  refine lv_iload_n hx hb dX4_clock_14 rfl (lv_at hl 2 rfl) ?_
  refine lv_bipush (v := iI ((-99))) hx hb dX4_clock_15 (by decide) ?_
  refine lv_bipush (v := iI (99)) hx hb dX4_clock_17 (by decide) ?_
  refine kS_R (n := 3) S (c_within_T lc D cI cZ N v (-99) 99 (by omega) (by omega) (by omega) (by omega)) gX4_clock_X4_within rfl (by decide +kernel) rfl rfl ⟨Nat.le_trans (Nat.le_of_ble_eq_true rfl) hfr, Nat.le_trans (Nat.le_of_ble_eq_true rfl) hlo⟩ hE hAN hP hD hS [] rfl (by decide) rfl hl.1 [] rfl (Nat.le_of_ble_eq_true rfl) dX4_clock_19 ⟨Nat.zero_le _, Nat.zero_le _⟩ ?_
  refine W.eq (g2 := F0 m 22 ls [.int (iI (1))]) rfl ?_
  refine b_neT (tgt := 28) S dX4_clock_22 (by decide) (by decide) (by decide) ?_
  refine lv_aload_n hx hb dX4_clock_28 rfl (lv_at hl 0 rfl) ?_
  refine w_get (C := RX4) (T := TX4) (Nf := 4) (ci := 4) (v := .ref w) S (fun _ h => List.mem_cons_of_mem _ (List.mem_append_left _ (List.mem_append_left _ (List.mem_append_right _ h)))) hE hP 0 rfl rfl 0 (by decide) (List.mem_of_getElem? (i := 1) rfl) rfl dX4_clock_29 ?_
  refine w_get (C := RX3) (T := TX3) (Nf := 8) (ci := 3) (v := .int (iI (sA))) S (fun _ h => List.mem_cons_of_mem _ (List.mem_append_left _ (List.mem_append_right _ h))) hE hP 1 rfl rfl 2 (by decide) (List.mem_of_getElem? (i := 4) rfl) rfl dX4_clock_32 ?_
  refine b_leT (tgt := 41) S dX4_clock_35 (by decide) (by omega) (by omega) ?_
  refine lv_aload_n hx hb dX4_clock_41 rfl (lv_at hl 0 rfl) ?_
  refine w_get (C := RX4) (T := TX4) (Nf := 4) (ci := 4) (v := .ref w) S (fun _ h => List.mem_cons_of_mem _ (List.mem_append_left _ (List.mem_append_left _ (List.mem_append_right _ h)))) hE hP 0 rfl rfl 0 (by decide) (List.mem_of_getElem? (i := 1) rfl) rfl dX4_clock_42 ?_
  refine w_get (C := RX3) (T := TX3) (Nf := 8) (ci := 3) (v := .ref wc) S (fun _ h => List.mem_cons_of_mem _ (List.mem_append_left _ (List.mem_append_right _ h))) hE hP 1 rfl rfl 4 (by decide) (List.mem_of_getElem? (i := 6) rfl) rfl dX4_clock_45 ?_
  refine lv_iload_n hx hb dX4_clock_48 rfl (lv_at hl 1 rfl) ?_
  refine w_iald S hE hP 2 rfl (nd) (by omega) (by omega) (by omega) dX4_clock_49 ?_
  refine lv_istore_n (lv' := [(3, .int (iI (ck nd))), (0, .ref o), (1, .int (iI (((nd : Nat) : Int)))), (2, .int (iI (v)))]) hx hb dX4_clock_50 rfl hl (by decide) rfl (fun ls hl => ?_)
  refine lv_aload_n hx hb dX4_clock_51 rfl (lv_at hl 1 rfl) ?_
  refine w_get (C := RX4) (T := TX4) (Nf := 4) (ci := 4) (v := .ref w) S (fun _ h => List.mem_cons_of_mem _ (List.mem_append_left _ (List.mem_append_left _ (List.mem_append_right _ h)))) hE hP 0 rfl rfl 0 (by decide) (List.mem_of_getElem? (i := 1) rfl) rfl dX4_clock_52 ?_
  refine w_get (C := RX3) (T := TX3) (Nf := 8) (ci := 3) (v := .ref wc) S (fun _ h => List.mem_cons_of_mem _ (List.mem_append_left _ (List.mem_append_right _ h))) hE hP 1 rfl rfl 4 (by decide) (List.mem_of_getElem? (i := 6) rfl) rfl dX4_clock_55 ?_
  refine lv_iload_n hx hb dX4_clock_58 rfl (lv_at hl 2 rfl) ?_
  refine lv_iload_n hx hb dX4_clock_59 rfl (lv_at hl 3 rfl) ?_
  refine w_iast S hE hP hD hS 2 rfl (nd) (by omega) (by omega) (by omega) dX4_clock_60 (fun H locs hP hD hS => ?_)
  have hP : va_P D vwCl [(o, .inr (4, [.ref w, .ref v2, .ref v3, .int (iI (ik))])), (w, .inr (3, [.int (iI (((mn : Nat) : Int))), .int (iI (tA)), .int (iI (sA)), .int (iI (kA)), .ref wc, .ref k, .ref t, .ref b])), (wc, .inl (cI, 5, .inl (vI (updI ck nd v)))), (k, .inr (1, [.ref kn])), (kn, .inl (cI, 24, .inl (vI nb))), (t, .inr (2, [.ref tc, .ref ts])), (tc, .inl (cI, 1000, .inl (vI cn))), (ts, .inl (cI, 1000, .inl (vI sm))), (b, .inr (0, [.ref bm, .ref br])), (bm, .inl (cI, 25, .inl (vI mo))), (br, .inl (cI, 5, .inl (vI re)))] H := hP
  have hD : va_D A [(o, .inr (4, [.ref w, .ref v2, .ref v3, .int (iI (ik))])), (w, .inr (3, [.int (iI (((mn : Nat) : Int))), .int (iI (tA)), .int (iI (sA)), .int (iI (kA)), .ref wc, .ref k, .ref t, .ref b])), (wc, .inl (cI, 5, .inl (vI (updI ck nd v)))), (k, .inr (1, [.ref kn])), (kn, .inl (cI, 24, .inl (vI nb))), (t, .inr (2, [.ref tc, .ref ts])), (tc, .inl (cI, 1000, .inl (vI cn))), (ts, .inl (cI, 1000, .inl (vI sm))), (b, .inr (0, [.ref bm, .ref br])), (bm, .inl (cI, 25, .inl (vI mo))), (br, .inl (cI, 5, .inl (vI re)))] := hD
  refine lv_aload_n hx hb dX4_clock_61 rfl (lv_at hl 1 rfl) ?_
  refine w_get (C := RX4) (T := TX4) (Nf := 4) (ci := 4) (v := .ref w) S (fun _ h => List.mem_cons_of_mem _ (List.mem_append_left _ (List.mem_append_left _ (List.mem_append_right _ h)))) hE hP 0 rfl rfl 0 (by decide) (List.mem_of_getElem? (i := 1) rfl) rfl dX4_clock_62 ?_
  refine w_get (C := RX3) (T := TX3) (Nf := 8) (ci := 3) (v := .ref b) S (fun _ h => List.mem_cons_of_mem _ (List.mem_append_left _ (List.mem_append_right _ h))) hE hP 1 rfl rfl 7 (by decide) (List.mem_of_getElem? (i := 7) rfl) rfl dX4_clock_65 ?_
  refine lv_iload_n hx hb dX4_clock_68 rfl (lv_at hl 2 rfl) ?_
  refine kV_M (n := 1) (ci := 0) (q := (RX0, TX0, 2)) S (c_forget lc D cI cZ N b bm br mo re nd (by omega)) gX4_clock_X0_forget rfl rfl (by decide +kernel) rfl rfl ⟨Nat.le_trans (Nat.le_of_ble_eq_true rfl) hfr, Nat.le_trans (Nat.le_of_ble_eq_true rfl) hlo⟩ hE hAN hP hD hS [8, 9, 10] rfl (by decide) rfl rfl rfl rfl rfl hl.1 [] rfl (Nat.le_of_ble_eq_true rfl) dX4_clock_69 ⟨Nat.zero_le _, Nat.zero_le _⟩ (fun H locs hP hD hS => ?_)
  have hP : va_P D vwCl [(o, .inr (4, [.ref w, .ref v2, .ref v3, .int (iI (ik))])), (w, .inr (3, [.int (iI (((mn : Nat) : Int))), .int (iI (tA)), .int (iI (sA)), .int (iI (kA)), .ref wc, .ref k, .ref t, .ref b])), (wc, .inl (cI, 5, .inl (vI (updI ck nd v)))), (k, .inr (1, [.ref kn])), (kn, .inl (cI, 24, .inl (vI nb))), (t, .inr (2, [.ref tc, .ref ts])), (tc, .inl (cI, 1000, .inl (vI cn))), (ts, .inl (cI, 1000, .inl (vI sm))), (b, .inr (0, [.ref bm, .ref br])), (bm, .inl (cI, 25, .inl (vI (fgt mo nd 5)))), (br, .inl (cI, 5, .inl (vI re)))] H := hP
  have hD : va_D A [(o, .inr (4, [.ref w, .ref v2, .ref v3, .int (iI (ik))])), (w, .inr (3, [.int (iI (((mn : Nat) : Int))), .int (iI (tA)), .int (iI (sA)), .int (iI (kA)), .ref wc, .ref k, .ref t, .ref b])), (wc, .inl (cI, 5, .inl (vI (updI ck nd v)))), (k, .inr (1, [.ref kn])), (kn, .inl (cI, 24, .inl (vI nb))), (t, .inr (2, [.ref tc, .ref ts])), (tc, .inl (cI, 1000, .inl (vI cn))), (ts, .inl (cI, 1000, .inl (vI sm))), (b, .inr (0, [.ref bm, .ref br])), (bm, .inl (cI, 25, .inl (vI (fgt mo nd 5)))), (br, .inl (cI, 5, .inl (vI re)))] := hD
  refine W.eq (g2 := F0 m 72 ls []) rfl ?_
  refine lv_iload_n hx hb dX4_clock_72 rfl (lv_at hl 0 rfl) ?_
  exact hret _ _ _ _ _ dX4_clock_73 rfl hP hS
set_option maxHeartbeats 4000000 in
set_option maxRecDepth 100000 in
theorem c_block_O (lc : Launch) (D : va_G) (cI cZ : ClassId) (N : Nat) (o : Nat) (v2 : Nat) (v3 : Nat) (ik : Int) (w : Nat) (wc : Nat) (k : Nat) (kn : Nat) (t : Nat) (tc : Nat) (ts : Nat) (b : Nat) (bm : Nat) (br : Nat) (mn : Nat) (tA : Int) (sA : Int) (kA : Int) (ck : Nat → Int) (nb : Nat → Int) (cn : Nat → Int) (sm : Nat → Int) (mo : Nat → Int) (re : Nat → Int) (v : Int) (r_v : -2147483648 ≤ v ∧ v ≤ 2147483647) (h : ¬ (1 ≤ v ∧ v ≤ 20)) : CR lc D cI cZ N yX4_block wsX4_block (rmK 1 22) [.ref o, .int (iI (v))] [(o, .inr (4, [.ref w, .ref v2, .ref v3, .int (iI (ik))])), (w, .inr (3, [.int (iI (((mn : Nat) : Int))), .int (iI (tA)), .int (iI (sA)), .int (iI (kA)), .ref wc, .ref k, .ref t, .ref b])), (wc, .inl (cI, 5, .inl (vI ck))), (k, .inr (1, [.ref kn])), (kn, .inl (cI, 24, .inl (vI nb))), (t, .inr (2, [.ref tc, .ref ts])), (tc, .inl (cI, 1000, .inl (vI cn))), (ts, .inl (cI, 1000, .inl (vI sm))), (b, .inr (0, [.ref bm, .ref br])), (bm, .inl (cI, 25, .inl (vI mo))), (br, .inl (cI, 5, .inl (vI re)))] (some (.int (iI (-2)))) := by
  refine CR.I (cc := cX4_block) (maxL := 3) (by decide) rfl (Nat.le_of_ble_eq_true rfl) ?_
  intro p e s m args below meth c R Q S hE A hAN hfr hlo hP hD hS hret ls hl
  have S : CallFix p m c cX4_block 3 s args wsX4_block RX4 := S
  have hx := S.1
  have hb := S.2.1
  have hl : lv_has ls 3 [(0, .ref o), (1, .int (iI (v)))] := hl
  refine lv_iload_n hx hb dX4_block_0 rfl (lv_at hl 1 rfl) ?_
  refine lv_iconst (v := iI (1)) hx hb dX4_block_1 rfl ?_
  refine lv_bipush (v := iI (20)) hx hb dX4_block_2 (by decide) ?_
  refine kS_R (n := 3) S (c_within_F lc D cI cZ N v 1 20 (by omega) (by omega) (by omega) (by omega)) gX4_block_X4_within rfl (by decide +kernel) rfl rfl ⟨Nat.le_trans (Nat.le_of_ble_eq_true rfl) hfr, Nat.le_trans (Nat.le_of_ble_eq_true rfl) hlo⟩ hE hAN hP hD hS [] rfl (by decide) rfl hl.1 [] rfl (Nat.le_of_ble_eq_true rfl) dX4_block_4 ⟨Nat.zero_le _, Nat.zero_le _⟩ ?_
  refine W.eq (g2 := F0 m 7 ls [.int (iI (0))]) rfl ?_
  refine b_neF (tgt := 13) S dX4_block_7 (by decide) (by decide) ?_
  refine lv_bipush (v := iI ((-2))) hx hb dX4_block_10 (by decide) ?_
  exact hret _ _ _ dX4_block_12 (congrArg iI (by omega))
set_option maxHeartbeats 4000000 in
set_option maxRecDepth 100000 in
theorem c_block_S (lc : Launch) (D : va_G) (cI cZ : ClassId) (N : Nat) (o : Nat) (v2 : Nat) (v3 : Nat) (ik : Int) (w : Nat) (wc : Nat) (k : Nat) (kn : Nat) (t : Nat) (tc : Nat) (ts : Nat) (b : Nat) (bm : Nat) (br : Nat) (mn : Nat) (tA : Int) (sA : Int) (kA : Int) (ck : Nat → Int) (nb : Nat → Int) (cn : Nat → Int) (sm : Nat → Int) (mo : Nat → Int) (re : Nat → Int) (v : Int) (hsA : 0 ≤ sA ∧ sA ≤ 200) (r_v : -2147483648 ≤ v ∧ v ≤ 2147483647) (h : 1 ≤ v ∧ v ≤ 20) (h3 : 0 < sA) : CR lc D cI cZ N yX4_block wsX4_block (rmK 1 22) [.ref o, .int (iI (v))] [(o, .inr (4, [.ref w, .ref v2, .ref v3, .int (iI (ik))])), (w, .inr (3, [.int (iI (((mn : Nat) : Int))), .int (iI (tA)), .int (iI (sA)), .int (iI (kA)), .ref wc, .ref k, .ref t, .ref b])), (wc, .inl (cI, 5, .inl (vI ck))), (k, .inr (1, [.ref kn])), (kn, .inl (cI, 24, .inl (vI nb))), (t, .inr (2, [.ref tc, .ref ts])), (tc, .inl (cI, 1000, .inl (vI cn))), (ts, .inl (cI, 1000, .inl (vI sm))), (b, .inr (0, [.ref bm, .ref br])), (bm, .inl (cI, 25, .inl (vI mo))), (br, .inl (cI, 5, .inl (vI re)))] (some (.int (iI (-3)))) := by
  refine CR.I (cc := cX4_block) (maxL := 3) (by decide) rfl (Nat.le_of_ble_eq_true rfl) ?_
  intro p e s m args below meth c R Q S hE A hAN hfr hlo hP hD hS hret ls hl
  have S : CallFix p m c cX4_block 3 s args wsX4_block RX4 := S
  have hx := S.1
  have hb := S.2.1
  have hl : lv_has ls 3 [(0, .ref o), (1, .int (iI (v)))] := hl
  refine lv_iload_n hx hb dX4_block_0 rfl (lv_at hl 1 rfl) ?_
  refine lv_iconst (v := iI (1)) hx hb dX4_block_1 rfl ?_
  refine lv_bipush (v := iI (20)) hx hb dX4_block_2 (by decide) ?_
  refine kS_R (n := 3) S (c_within_T lc D cI cZ N v 1 20 (by omega) (by omega) (by omega) (by omega)) gX4_block_X4_within rfl (by decide +kernel) rfl rfl ⟨Nat.le_trans (Nat.le_of_ble_eq_true rfl) hfr, Nat.le_trans (Nat.le_of_ble_eq_true rfl) hlo⟩ hE hAN hP hD hS [] rfl (by decide) rfl hl.1 [] rfl (Nat.le_of_ble_eq_true rfl) dX4_block_4 ⟨Nat.zero_le _, Nat.zero_le _⟩ ?_
  refine W.eq (g2 := F0 m 7 ls [.int (iI (1))]) rfl ?_
  refine b_neT (tgt := 13) S dX4_block_7 (by decide) (by decide) (by decide) ?_
  refine lv_aload_n hx hb dX4_block_13 rfl (lv_at hl 0 rfl) ?_
  refine w_get (C := RX4) (T := TX4) (Nf := 4) (ci := 4) (v := .ref w) S (fun _ h => List.mem_cons_of_mem _ (List.mem_append_left _ (List.mem_append_right _ h))) hE hP 0 rfl rfl 0 (by decide) (List.mem_of_getElem? (i := 1) rfl) rfl dX4_block_14 ?_
  refine w_get (C := RX3) (T := TX3) (Nf := 8) (ci := 3) (v := .int (iI (sA))) S (fun _ h => List.mem_cons_of_mem _ (List.mem_append_right _ h)) hE hP 1 rfl rfl 2 (by decide) (List.mem_of_getElem? (i := 2) rfl) rfl dX4_block_17 ?_
  refine b_leF (tgt := 26) S dX4_block_20 (by decide) (by omega) (by omega) ?_
  refine lv_bipush (v := iI ((-3))) hx hb dX4_block_23 (by decide) ?_
  exact hret _ _ _ dX4_block_25 (congrArg iI (by omega))
set_option maxHeartbeats 4000000 in
set_option maxRecDepth 100000 in
theorem c_block (lc : Launch) (D : va_G) (cI cZ : ClassId) (N : Nat) (o : Nat) (v2 : Nat) (v3 : Nat) (ik : Int) (w : Nat) (wc : Nat) (k : Nat) (kn : Nat) (t : Nat) (tc : Nat) (ts : Nat) (b : Nat) (bm : Nat) (br : Nat) (mn : Nat) (tA : Int) (sA : Int) (kA : Int) (ck : Nat → Int) (nb : Nat → Int) (cn : Nat → Int) (sm : Nat → Int) (mo : Nat → Int) (re : Nat → Int) (v : Int) (hsA : 0 ≤ sA ∧ sA ≤ 200) (r_v : -2147483648 ≤ v ∧ v ≤ 2147483647) (h : 1 ≤ v ∧ v ≤ 20) (h3 : sA = 0) : CM lc D cI cZ N yX4_block wsX4_block (rmK 1 22) [.ref o, .int (iI (v))] [(o, .inr (4, [.ref w, .ref v2, .ref v3, .int (iI (ik))])), (w, .inr (3, [.int (iI (((mn : Nat) : Int))), .int (iI (tA)), .int (iI (sA)), .int (iI (kA)), .ref wc, .ref k, .ref t, .ref b])), (wc, .inl (cI, 5, .inl (vI ck))), (k, .inr (1, [.ref kn])), (kn, .inl (cI, 24, .inl (vI nb))), (t, .inr (2, [.ref tc, .ref ts])), (tc, .inl (cI, 1000, .inl (vI cn))), (ts, .inl (cI, 1000, .inl (vI sm))), (b, .inr (0, [.ref bm, .ref br])), (bm, .inl (cI, 25, .inl (vI mo))), (br, .inl (cI, 5, .inl (vI re)))] (some (.int (iI (kA)))) [(o, .inr (4, [.ref w, .ref v2, .ref v3, .int (iI (ik))])), (w, .inr (3, [.int (iI (((mn : Nat) : Int))), .int (iI (tA)), .int (iI (sA)), .int (iI (v)), .ref wc, .ref k, .ref t, .ref b])), (wc, .inl (cI, 5, .inl (vI ck))), (k, .inr (1, [.ref kn])), (kn, .inl (cI, 24, .inl (vI nb))), (t, .inr (2, [.ref tc, .ref ts])), (tc, .inl (cI, 1000, .inl (vI cn))), (ts, .inl (cI, 1000, .inl (vI sm))), (b, .inr (0, [.ref bm, .ref br])), (bm, .inl (cI, 25, .inl (vI mo))), (br, .inl (cI, 5, .inl (vI re)))] := by
  refine CM.I (cc := cX4_block) (maxL := 3) (by decide) rfl (Nat.le_of_ble_eq_true rfl) ?_
  intro p e s m args below meth c R Q S hE A hAN hfr hlo hP hD hS hret ls hl
  have S : CallFix p m c cX4_block 3 s args wsX4_block RX4 := S
  have hx := S.1
  have hb := S.2.1
  have hl : lv_has ls 3 [(0, .ref o), (1, .int (iI (v)))] := hl
  refine lv_iload_n hx hb dX4_block_0 rfl (lv_at hl 1 rfl) ?_
  refine lv_iconst (v := iI (1)) hx hb dX4_block_1 rfl ?_
  refine lv_bipush (v := iI (20)) hx hb dX4_block_2 (by decide) ?_
  refine kS_R (n := 3) S (c_within_T lc D cI cZ N v 1 20 (by omega) (by omega) (by omega) (by omega)) gX4_block_X4_within rfl (by decide +kernel) rfl rfl ⟨Nat.le_trans (Nat.le_of_ble_eq_true rfl) hfr, Nat.le_trans (Nat.le_of_ble_eq_true rfl) hlo⟩ hE hAN hP hD hS [] rfl (by decide) rfl hl.1 [] rfl (Nat.le_of_ble_eq_true rfl) dX4_block_4 ⟨Nat.zero_le _, Nat.zero_le _⟩ ?_
  refine W.eq (g2 := F0 m 7 ls [.int (iI (1))]) rfl ?_
  refine b_neT (tgt := 13) S dX4_block_7 (by decide) (by decide) (by decide) ?_
  refine lv_aload_n hx hb dX4_block_13 rfl (lv_at hl 0 rfl) ?_
  refine w_get (C := RX4) (T := TX4) (Nf := 4) (ci := 4) (v := .ref w) S (fun _ h => List.mem_cons_of_mem _ (List.mem_append_left _ (List.mem_append_right _ h))) hE hP 0 rfl rfl 0 (by decide) (List.mem_of_getElem? (i := 1) rfl) rfl dX4_block_14 ?_
  refine w_get (C := RX3) (T := TX3) (Nf := 8) (ci := 3) (v := .int (iI (sA))) S (fun _ h => List.mem_cons_of_mem _ (List.mem_append_right _ h)) hE hP 1 rfl rfl 2 (by decide) (List.mem_of_getElem? (i := 2) rfl) rfl dX4_block_17 ?_
  refine b_leT (tgt := 26) S dX4_block_20 (by decide) (by omega) (by omega) ?_
  refine lv_aload_n hx hb dX4_block_26 rfl (lv_at hl 0 rfl) ?_
  refine w_get (C := RX4) (T := TX4) (Nf := 4) (ci := 4) (v := .ref w) S (fun _ h => List.mem_cons_of_mem _ (List.mem_append_left _ (List.mem_append_right _ h))) hE hP 0 rfl rfl 0 (by decide) (List.mem_of_getElem? (i := 1) rfl) rfl dX4_block_27 ?_
  refine w_get (C := RX3) (T := TX3) (Nf := 8) (ci := 3) (v := .int (iI (kA))) S (fun _ h => List.mem_cons_of_mem _ (List.mem_append_right _ h)) hE hP 1 rfl rfl 3 (by decide) (List.mem_of_getElem? (i := 3) rfl) rfl dX4_block_30 ?_
  refine lv_istore_n (lv' := [(2, .int (iI (kA))), (0, .ref o), (1, .int (iI (v)))]) hx hb dX4_block_33 rfl hl (by decide) rfl (fun ls hl => ?_)
  refine lv_aload_n hx hb dX4_block_34 rfl (lv_at hl 1 rfl) ?_
  refine w_get (C := RX4) (T := TX4) (Nf := 4) (ci := 4) (v := .ref w) S (fun _ h => List.mem_cons_of_mem _ (List.mem_append_left _ (List.mem_append_right _ h))) hE hP 0 rfl rfl 0 (by decide) (List.mem_of_getElem? (i := 1) rfl) rfl dX4_block_35 ?_
  refine lv_iload_n hx hb dX4_block_38 rfl (lv_at hl 2 rfl) ?_
  refine w_put (C := RX3) (T := TX3) (Nf := 8) (ci := 3) S (fun _ h => List.mem_cons_of_mem _ (List.mem_append_right _ h)) tyX3 tyX3_ok nmX3 hE hP hD hS 1 rfl rfl 3 (by decide) (List.mem_of_getElem? (i := 3) rfl) rfl rfl (Nat.le_of_ble_eq_true rfl) dX4_block_39 (fun H locs hP hD hS => ?_)
  have hP : va_P D vwCl [(o, .inr (4, [.ref w, .ref v2, .ref v3, .int (iI (ik))])), (w, .inr (3, [.int (iI (((mn : Nat) : Int))), .int (iI (tA)), .int (iI (sA)), .int (iI (v)), .ref wc, .ref k, .ref t, .ref b])), (wc, .inl (cI, 5, .inl (vI ck))), (k, .inr (1, [.ref kn])), (kn, .inl (cI, 24, .inl (vI nb))), (t, .inr (2, [.ref tc, .ref ts])), (tc, .inl (cI, 1000, .inl (vI cn))), (ts, .inl (cI, 1000, .inl (vI sm))), (b, .inr (0, [.ref bm, .ref br])), (bm, .inl (cI, 25, .inl (vI mo))), (br, .inl (cI, 5, .inl (vI re)))] H := hP
  have hD : va_D A [(o, .inr (4, [.ref w, .ref v2, .ref v3, .int (iI (ik))])), (w, .inr (3, [.int (iI (((mn : Nat) : Int))), .int (iI (tA)), .int (iI (sA)), .int (iI (v)), .ref wc, .ref k, .ref t, .ref b])), (wc, .inl (cI, 5, .inl (vI ck))), (k, .inr (1, [.ref kn])), (kn, .inl (cI, 24, .inl (vI nb))), (t, .inr (2, [.ref tc, .ref ts])), (tc, .inl (cI, 1000, .inl (vI cn))), (ts, .inl (cI, 1000, .inl (vI sm))), (b, .inr (0, [.ref bm, .ref br])), (bm, .inl (cI, 25, .inl (vI mo))), (br, .inl (cI, 5, .inl (vI re)))] := hD
  refine lv_iload_n hx hb dX4_block_42 rfl (lv_at hl 0 rfl) ?_
  exact hret _ _ _ _ _ dX4_block_43 rfl hP hS
set_option maxHeartbeats 4000000 in
set_option maxRecDepth 100000 in
theorem c_pause_O (lc : Launch) (D : va_G) (cI cZ : ClassId) (N : Nat) (o : Nat) (v2 : Nat) (v3 : Nat) (ik : Int) (w : Nat) (wc : Nat) (k : Nat) (kn : Nat) (t : Nat) (tc : Nat) (ts : Nat) (b : Nat) (bm : Nat) (br : Nat) (mn : Nat) (tA : Int) (sA : Int) (kA : Int) (ck : Nat → Int) (nb : Nat → Int) (cn : Nat → Int) (sm : Nat → Int) (mo : Nat → Int) (re : Nat → Int) (v : Int) (r_v : -2147483648 ≤ v ∧ v ≤ 2147483647) (h : ¬ (1 ≤ v ∧ v ≤ 999)) : CR lc D cI cZ N yX4_pause wsX4_pause (rmK 1 22) [.ref o, .int (iI (v))] [(o, .inr (4, [.ref w, .ref v2, .ref v3, .int (iI (ik))])), (w, .inr (3, [.int (iI (((mn : Nat) : Int))), .int (iI (tA)), .int (iI (sA)), .int (iI (kA)), .ref wc, .ref k, .ref t, .ref b])), (wc, .inl (cI, 5, .inl (vI ck))), (k, .inr (1, [.ref kn])), (kn, .inl (cI, 24, .inl (vI nb))), (t, .inr (2, [.ref tc, .ref ts])), (tc, .inl (cI, 1000, .inl (vI cn))), (ts, .inl (cI, 1000, .inl (vI sm))), (b, .inr (0, [.ref bm, .ref br])), (bm, .inl (cI, 25, .inl (vI mo))), (br, .inl (cI, 5, .inl (vI re)))] (some (.int (iI (-2)))) := by
  refine CR.I (cc := cX4_pause) (maxL := 2) (by decide) rfl (Nat.le_of_ble_eq_true rfl) ?_
  intro p e s m args below meth c R Q S hE A hAN hfr hlo hP hD hS hret ls hl
  have S : CallFix p m c cX4_pause 2 s args wsX4_pause RX4 := S
  have hx := S.1
  have hb := S.2.1
  have hl : lv_has ls 2 [(0, .ref o), (1, .int (iI (v)))] := hl
  refine lv_iload_n hx hb dX4_pause_0 rfl (lv_at hl 1 rfl) ?_
  refine lv_iconst (v := iI (1)) hx hb dX4_pause_1 rfl ?_
  refine lv_sipush (v := iI (999)) hx hb dX4_pause_2 (by decide) ?_
  refine kS_R (n := 3) S (c_within_F lc D cI cZ N v 1 999 (by omega) (by omega) (by omega) (by omega)) gX4_pause_X4_within rfl (by decide +kernel) rfl rfl ⟨Nat.le_trans (Nat.le_of_ble_eq_true rfl) hfr, Nat.le_trans (Nat.le_of_ble_eq_true rfl) hlo⟩ hE hAN hP hD hS [] rfl (by decide) rfl hl.1 [] rfl (Nat.le_of_ble_eq_true rfl) dX4_pause_5 ⟨Nat.zero_le _, Nat.zero_le _⟩ ?_
  refine W.eq (g2 := F0 m 8 ls [.int (iI (0))]) rfl ?_
  refine b_neF (tgt := 14) S dX4_pause_8 (by decide) (by decide) ?_
  refine lv_bipush (v := iI ((-2))) hx hb dX4_pause_11 (by decide) ?_
  exact hret _ _ _ dX4_pause_13 (congrArg iI (by omega))
set_option maxHeartbeats 4000000 in
set_option maxRecDepth 100000 in
theorem c_pause_F (lc : Launch) (D : va_G) (cI cZ : ClassId) (N : Nat) (o : Nat) (v2 : Nat) (v3 : Nat) (ik : Int) (w : Nat) (wc : Nat) (k : Nat) (kn : Nat) (t : Nat) (tc : Nat) (ts : Nat) (b : Nat) (bm : Nat) (br : Nat) (mn : Nat) (tA : Int) (sA : Int) (kA : Int) (ck : Nat → Int) (nb : Nat → Int) (cn : Nat → Int) (sm : Nat → Int) (mo : Nat → Int) (re : Nat → Int) (v : Int) (hta : 0 ≤ tA ∧ tA ≤ 10000) (r_v : -2147483648 ≤ v ∧ v ≤ 2147483647) (h : 1 ≤ v ∧ v ≤ 999) (h2 : 9999 < tA + v) : CR lc D cI cZ N yX4_pause wsX4_pause (rmK 1 22) [.ref o, .int (iI (v))] [(o, .inr (4, [.ref w, .ref v2, .ref v3, .int (iI (ik))])), (w, .inr (3, [.int (iI (((mn : Nat) : Int))), .int (iI (tA)), .int (iI (sA)), .int (iI (kA)), .ref wc, .ref k, .ref t, .ref b])), (wc, .inl (cI, 5, .inl (vI ck))), (k, .inr (1, [.ref kn])), (kn, .inl (cI, 24, .inl (vI nb))), (t, .inr (2, [.ref tc, .ref ts])), (tc, .inl (cI, 1000, .inl (vI cn))), (ts, .inl (cI, 1000, .inl (vI sm))), (b, .inr (0, [.ref bm, .ref br])), (bm, .inl (cI, 25, .inl (vI mo))), (br, .inl (cI, 5, .inl (vI re)))] (some (.int (iI (-4)))) := by
  refine CR.I (cc := cX4_pause) (maxL := 2) (by decide) rfl (Nat.le_of_ble_eq_true rfl) ?_
  intro p e s m args below meth c R Q S hE A hAN hfr hlo hP hD hS hret ls hl
  have S : CallFix p m c cX4_pause 2 s args wsX4_pause RX4 := S
  have hx := S.1
  have hb := S.2.1
  have hl : lv_has ls 2 [(0, .ref o), (1, .int (iI (v)))] := hl
  refine lv_iload_n hx hb dX4_pause_0 rfl (lv_at hl 1 rfl) ?_
  refine lv_iconst (v := iI (1)) hx hb dX4_pause_1 rfl ?_
  refine lv_sipush (v := iI (999)) hx hb dX4_pause_2 (by decide) ?_
  refine kS_R (n := 3) S (c_within_T lc D cI cZ N v 1 999 (by omega) (by omega) (by omega) (by omega)) gX4_pause_X4_within rfl (by decide +kernel) rfl rfl ⟨Nat.le_trans (Nat.le_of_ble_eq_true rfl) hfr, Nat.le_trans (Nat.le_of_ble_eq_true rfl) hlo⟩ hE hAN hP hD hS [] rfl (by decide) rfl hl.1 [] rfl (Nat.le_of_ble_eq_true rfl) dX4_pause_5 ⟨Nat.zero_le _, Nat.zero_le _⟩ ?_
  refine W.eq (g2 := F0 m 8 ls [.int (iI (1))]) rfl ?_
  refine b_neT (tgt := 14) S dX4_pause_8 (by decide) (by decide) (by decide) ?_
  refine lv_aload_n hx hb dX4_pause_14 rfl (lv_at hl 0 rfl) ?_
  refine w_get (C := RX4) (T := TX4) (Nf := 4) (ci := 4) (v := .ref w) S (fun _ h => List.mem_cons_of_mem _ (List.mem_append_left _ (List.mem_append_right _ h))) hE hP 0 rfl rfl 0 (by decide) (List.mem_of_getElem? (i := 1) rfl) rfl dX4_pause_15 ?_
  refine w_get (C := RX3) (T := TX3) (Nf := 8) (ci := 3) (v := .int (iI (tA))) S (fun _ h => List.mem_cons_of_mem _ (List.mem_append_right _ h)) hE hP 1 rfl rfl 1 (by decide) (List.mem_of_getElem? (i := 2) rfl) rfl dX4_pause_18 ?_
  refine lv_iload_n hx hb dX4_pause_21 rfl (lv_at hl 1 rfl) ?_
  refine w_iadd S dX4_pause_22 ?_
  refine lv_sipush (v := iI (9999)) hx hb dX4_pause_23 (by decide) ?_
  refine c_leF (tgt := 32) S dX4_pause_26 (by decide) (by omega) (by omega) (by omega) ?_
  refine lv_bipush (v := iI ((-4))) hx hb dX4_pause_29 (by decide) ?_
  exact hret _ _ _ dX4_pause_31 (congrArg iI (by omega))
set_option maxHeartbeats 4000000 in
set_option maxRecDepth 100000 in
theorem c_pause (lc : Launch) (D : va_G) (cI cZ : ClassId) (N : Nat) (o : Nat) (v2 : Nat) (v3 : Nat) (ik : Int) (w : Nat) (wc : Nat) (k : Nat) (kn : Nat) (t : Nat) (tc : Nat) (ts : Nat) (b : Nat) (bm : Nat) (br : Nat) (mn : Nat) (tA : Int) (sA : Int) (kA : Int) (ck : Nat → Int) (nb : Nat → Int) (cn : Nat → Int) (sm : Nat → Int) (mo : Nat → Int) (re : Nat → Int) (v : Int) (hta : 0 ≤ tA ∧ tA ≤ 10000) (r_v : -2147483648 ≤ v ∧ v ≤ 2147483647) (h : 1 ≤ v ∧ v ≤ 999) (h2 : tA + v ≤ 9999) : CM lc D cI cZ N yX4_pause wsX4_pause (rmK 1 22) [.ref o, .int (iI (v))] [(o, .inr (4, [.ref w, .ref v2, .ref v3, .int (iI (ik))])), (w, .inr (3, [.int (iI (((mn : Nat) : Int))), .int (iI (tA)), .int (iI (sA)), .int (iI (kA)), .ref wc, .ref k, .ref t, .ref b])), (wc, .inl (cI, 5, .inl (vI ck))), (k, .inr (1, [.ref kn])), (kn, .inl (cI, 24, .inl (vI nb))), (t, .inr (2, [.ref tc, .ref ts])), (tc, .inl (cI, 1000, .inl (vI cn))), (ts, .inl (cI, 1000, .inl (vI sm))), (b, .inr (0, [.ref bm, .ref br])), (bm, .inl (cI, 25, .inl (vI mo))), (br, .inl (cI, 5, .inl (vI re)))] (some (.int (iI (tA + v)))) [(o, .inr (4, [.ref w, .ref v2, .ref v3, .int (iI (ik))])), (w, .inr (3, [.int (iI (((mn : Nat) : Int))), .int (iI ((tA + v))), .int (iI (sA)), .int (iI (kA)), .ref wc, .ref k, .ref t, .ref b])), (wc, .inl (cI, 5, .inl (vI ck))), (k, .inr (1, [.ref kn])), (kn, .inl (cI, 24, .inl (vI nb))), (t, .inr (2, [.ref tc, .ref ts])), (tc, .inl (cI, 1000, .inl (vI cn))), (ts, .inl (cI, 1000, .inl (vI sm))), (b, .inr (0, [.ref bm, .ref br])), (bm, .inl (cI, 25, .inl (vI mo))), (br, .inl (cI, 5, .inl (vI re)))] := by
  refine CM.I (cc := cX4_pause) (maxL := 2) (by decide) rfl (Nat.le_of_ble_eq_true rfl) ?_
  intro p e s m args below meth c R Q S hE A hAN hfr hlo hP hD hS hret ls hl
  have S : CallFix p m c cX4_pause 2 s args wsX4_pause RX4 := S
  have hx := S.1
  have hb := S.2.1
  have hl : lv_has ls 2 [(0, .ref o), (1, .int (iI (v)))] := hl
  refine lv_iload_n hx hb dX4_pause_0 rfl (lv_at hl 1 rfl) ?_
  refine lv_iconst (v := iI (1)) hx hb dX4_pause_1 rfl ?_
  refine lv_sipush (v := iI (999)) hx hb dX4_pause_2 (by decide) ?_
  refine kS_R (n := 3) S (c_within_T lc D cI cZ N v 1 999 (by omega) (by omega) (by omega) (by omega)) gX4_pause_X4_within rfl (by decide +kernel) rfl rfl ⟨Nat.le_trans (Nat.le_of_ble_eq_true rfl) hfr, Nat.le_trans (Nat.le_of_ble_eq_true rfl) hlo⟩ hE hAN hP hD hS [] rfl (by decide) rfl hl.1 [] rfl (Nat.le_of_ble_eq_true rfl) dX4_pause_5 ⟨Nat.zero_le _, Nat.zero_le _⟩ ?_
  refine W.eq (g2 := F0 m 8 ls [.int (iI (1))]) rfl ?_
  refine b_neT (tgt := 14) S dX4_pause_8 (by decide) (by decide) (by decide) ?_
  refine lv_aload_n hx hb dX4_pause_14 rfl (lv_at hl 0 rfl) ?_
  refine w_get (C := RX4) (T := TX4) (Nf := 4) (ci := 4) (v := .ref w) S (fun _ h => List.mem_cons_of_mem _ (List.mem_append_left _ (List.mem_append_right _ h))) hE hP 0 rfl rfl 0 (by decide) (List.mem_of_getElem? (i := 1) rfl) rfl dX4_pause_15 ?_
  refine w_get (C := RX3) (T := TX3) (Nf := 8) (ci := 3) (v := .int (iI (tA))) S (fun _ h => List.mem_cons_of_mem _ (List.mem_append_right _ h)) hE hP 1 rfl rfl 1 (by decide) (List.mem_of_getElem? (i := 2) rfl) rfl dX4_pause_18 ?_
  refine lv_iload_n hx hb dX4_pause_21 rfl (lv_at hl 1 rfl) ?_
  refine w_iadd S dX4_pause_22 ?_
  refine lv_sipush (v := iI (9999)) hx hb dX4_pause_23 (by decide) ?_
  refine c_leT (tgt := 32) S dX4_pause_26 (by decide) (by omega) (by omega) (by omega) ?_
  refine lv_aload_n hx hb dX4_pause_32 rfl (lv_at hl 0 rfl) ?_
  refine w_get (C := RX4) (T := TX4) (Nf := 4) (ci := 4) (v := .ref w) S (fun _ h => List.mem_cons_of_mem _ (List.mem_append_left _ (List.mem_append_right _ h))) hE hP 0 rfl rfl 0 (by decide) (List.mem_of_getElem? (i := 1) rfl) rfl dX4_pause_33 ?_
  refine lv_dup hx hb dX4_pause_36 rfl ?_
  refine w_get (C := RX3) (T := TX3) (Nf := 8) (ci := 3) (v := .int (iI (tA))) S (fun _ h => List.mem_cons_of_mem _ (List.mem_append_right _ h)) hE hP 1 rfl rfl 1 (by decide) (List.mem_of_getElem? (i := 2) rfl) rfl dX4_pause_37 ?_
  refine lv_iload_n hx hb dX4_pause_40 rfl (lv_at hl 1 rfl) ?_
  refine w_iadd S dX4_pause_41 ?_
  refine w_put (C := RX3) (T := TX3) (Nf := 8) (ci := 3) S (fun _ h => List.mem_cons_of_mem _ (List.mem_append_right _ h)) tyX3 tyX3_ok nmX3 hE hP hD hS 1 rfl rfl 1 (by decide) (List.mem_of_getElem? (i := 2) rfl) rfl rfl (Nat.le_of_ble_eq_true rfl) dX4_pause_42 (fun H locs hP hD hS => ?_)
  have hP : va_P D vwCl [(o, .inr (4, [.ref w, .ref v2, .ref v3, .int (iI (ik))])), (w, .inr (3, [.int (iI (((mn : Nat) : Int))), .int (iI (tA + v)), .int (iI (sA)), .int (iI (kA)), .ref wc, .ref k, .ref t, .ref b])), (wc, .inl (cI, 5, .inl (vI ck))), (k, .inr (1, [.ref kn])), (kn, .inl (cI, 24, .inl (vI nb))), (t, .inr (2, [.ref tc, .ref ts])), (tc, .inl (cI, 1000, .inl (vI cn))), (ts, .inl (cI, 1000, .inl (vI sm))), (b, .inr (0, [.ref bm, .ref br])), (bm, .inl (cI, 25, .inl (vI mo))), (br, .inl (cI, 5, .inl (vI re)))] H := hP
  have hD : va_D A [(o, .inr (4, [.ref w, .ref v2, .ref v3, .int (iI (ik))])), (w, .inr (3, [.int (iI (((mn : Nat) : Int))), .int (iI (tA + v)), .int (iI (sA)), .int (iI (kA)), .ref wc, .ref k, .ref t, .ref b])), (wc, .inl (cI, 5, .inl (vI ck))), (k, .inr (1, [.ref kn])), (kn, .inl (cI, 24, .inl (vI nb))), (t, .inr (2, [.ref tc, .ref ts])), (tc, .inl (cI, 1000, .inl (vI cn))), (ts, .inl (cI, 1000, .inl (vI sm))), (b, .inr (0, [.ref bm, .ref br])), (bm, .inl (cI, 25, .inl (vI mo))), (br, .inl (cI, 5, .inl (vI re)))] := hD
  refine lv_aload_n hx hb dX4_pause_45 rfl (lv_at hl 0 rfl) ?_
  refine w_get (C := RX4) (T := TX4) (Nf := 4) (ci := 4) (v := .ref w) S (fun _ h => List.mem_cons_of_mem _ (List.mem_append_left _ (List.mem_append_right _ h))) hE hP 0 rfl rfl 0 (by decide) (List.mem_of_getElem? (i := 1) rfl) rfl dX4_pause_46 ?_
  refine w_get (C := RX3) (T := TX3) (Nf := 8) (ci := 3) (v := .int (iI (tA + v))) S (fun _ h => List.mem_cons_of_mem _ (List.mem_append_right _ h)) hE hP 1 rfl rfl 1 (by decide) (List.mem_of_getElem? (i := 2) rfl) rfl dX4_pause_49 ?_
  exact hret _ _ _ _ _ dX4_pause_52 rfl hP hS
set_option maxHeartbeats 4000000 in
set_option maxRecDepth 100000 in
theorem c_send_O (lc : Launch) (D : va_G) (cI cZ : ClassId) (N : Nat) (o : Nat) (v2 : Nat) (v3 : Nat) (ik : Int) (w : Nat) (wc : Nat) (k : Nat) (kn : Nat) (t : Nat) (tc : Nat) (ts : Nat) (b : Nat) (bm : Nat) (br : Nat) (mn : Nat) (tA : Int) (sA : Int) (kA : Int) (ck : Nat → Int) (nb : Nat → Int) (cn : Nat → Int) (sm : Nat → Int) (mo : Nat → Int) (re : Nat → Int) (v : Int) (r_v : -2147483648 ≤ v ∧ v ≤ 2147483647) (h : ¬ (1 ≤ v ∧ v ≤ 60)) : CR lc D cI cZ N yX4_send wsX4_send (rmK 3 69) [.ref o, .int (iI (v))] [(o, .inr (4, [.ref w, .ref v2, .ref v3, .int (iI (ik))])), (w, .inr (3, [.int (iI (((mn : Nat) : Int))), .int (iI (tA)), .int (iI (sA)), .int (iI (kA)), .ref wc, .ref k, .ref t, .ref b])), (wc, .inl (cI, 5, .inl (vI ck))), (k, .inr (1, [.ref kn])), (kn, .inl (cI, 24, .inl (vI nb))), (t, .inr (2, [.ref tc, .ref ts])), (tc, .inl (cI, 1000, .inl (vI cn))), (ts, .inl (cI, 1000, .inl (vI sm))), (b, .inr (0, [.ref bm, .ref br])), (bm, .inl (cI, 25, .inl (vI mo))), (br, .inl (cI, 5, .inl (vI re)))] (some (.int (iI (-2)))) := by
  refine CR.I (cc := cX4_send) (maxL := 4) (by decide) rfl (Nat.le_of_ble_eq_true rfl) ?_
  intro p e s m args below meth c R Q S hE A hAN hfr hlo hP hD hS hret ls hl
  have S : CallFix p m c cX4_send 4 s args wsX4_send RX4 := S
  have hx := S.1
  have hb := S.2.1
  have hl : lv_has ls 4 [(0, .ref o), (1, .int (iI (v)))] := hl
  refine lv_iload_n hx hb dX4_send_0 rfl (lv_at hl 1 rfl) ?_
  refine lv_iconst (v := iI (1)) hx hb dX4_send_1 rfl ?_
  refine lv_bipush (v := iI (60)) hx hb dX4_send_2 (by decide) ?_
  refine kS_R (n := 3) S (c_within_F lc D cI cZ N v 1 60 (by omega) (by omega) (by omega) (by omega)) gX4_send_X4_within rfl (by decide +kernel) rfl rfl ⟨Nat.le_trans (Nat.le_of_ble_eq_true rfl) hfr, Nat.le_trans (Nat.le_of_ble_eq_true rfl) hlo⟩ hE hAN hP hD hS [] rfl (by decide) rfl hl.1 [] rfl (Nat.le_of_ble_eq_true rfl) dX4_send_4 ⟨Nat.zero_le _, Nat.zero_le _⟩ ?_
  refine W.eq (g2 := F0 m 7 ls [.int (iI (0))]) rfl ?_
  refine b_neF (tgt := 13) S dX4_send_7 (by decide) (by decide) ?_
  refine lv_bipush (v := iI ((-2))) hx hb dX4_send_10 (by decide) ?_
  exact hret _ _ _ dX4_send_12 (congrArg iI (by omega))
set_option maxHeartbeats 4000000 in
set_option maxRecDepth 100000 in
theorem c_send_F (lc : Launch) (D : va_G) (cI cZ : ClassId) (N : Nat) (o : Nat) (v2 : Nat) (v3 : Nat) (ik : Int) (w : Nat) (wc : Nat) (k : Nat) (kn : Nat) (t : Nat) (tc : Nat) (ts : Nat) (b : Nat) (bm : Nat) (br : Nat) (mn : Nat) (tA : Int) (sA : Int) (kA : Int) (ck : Nat → Int) (nb : Nat → Int) (cn : Nat → Int) (sm : Nat → Int) (mo : Nat → Int) (re : Nat → Int) (v : Int) (hta : 0 ≤ tA ∧ tA ≤ 10000) (hsA : 0 ≤ sA ∧ sA ≤ 200) (r_v : -2147483648 ≤ v ∧ v ≤ 2147483647) (h : 1 ≤ v ∧ v ≤ 60) (h2 : 200 < sA + v ∨ 9999 < tA + v) : CR lc D cI cZ N yX4_send wsX4_send (rmK 3 69) [.ref o, .int (iI (v))] [(o, .inr (4, [.ref w, .ref v2, .ref v3, .int (iI (ik))])), (w, .inr (3, [.int (iI (((mn : Nat) : Int))), .int (iI (tA)), .int (iI (sA)), .int (iI (kA)), .ref wc, .ref k, .ref t, .ref b])), (wc, .inl (cI, 5, .inl (vI ck))), (k, .inr (1, [.ref kn])), (kn, .inl (cI, 24, .inl (vI nb))), (t, .inr (2, [.ref tc, .ref ts])), (tc, .inl (cI, 1000, .inl (vI cn))), (ts, .inl (cI, 1000, .inl (vI sm))), (b, .inr (0, [.ref bm, .ref br])), (bm, .inl (cI, 25, .inl (vI mo))), (br, .inl (cI, 5, .inl (vI re)))] (some (.int (iI (-4)))) := by
  refine CR.I (cc := cX4_send) (maxL := 4) (by decide) rfl (Nat.le_of_ble_eq_true rfl) ?_
  intro p e s m args below meth c R Q S hE A hAN hfr hlo hP hD hS hret ls hl
  have S : CallFix p m c cX4_send 4 s args wsX4_send RX4 := S
  have hx := S.1
  have hb := S.2.1
  have hl : lv_has ls 4 [(0, .ref o), (1, .int (iI (v)))] := hl
  refine lv_iload_n hx hb dX4_send_0 rfl (lv_at hl 1 rfl) ?_
  refine lv_iconst (v := iI (1)) hx hb dX4_send_1 rfl ?_
  refine lv_bipush (v := iI (60)) hx hb dX4_send_2 (by decide) ?_
  refine kS_R (n := 3) S (c_within_T lc D cI cZ N v 1 60 (by omega) (by omega) (by omega) (by omega)) gX4_send_X4_within rfl (by decide +kernel) rfl rfl ⟨Nat.le_trans (Nat.le_of_ble_eq_true rfl) hfr, Nat.le_trans (Nat.le_of_ble_eq_true rfl) hlo⟩ hE hAN hP hD hS [] rfl (by decide) rfl hl.1 [] rfl (Nat.le_of_ble_eq_true rfl) dX4_send_4 ⟨Nat.zero_le _, Nat.zero_le _⟩ ?_
  refine W.eq (g2 := F0 m 7 ls [.int (iI (1))]) rfl ?_
  by_cases h3 : 200 < sA + v
  · refine b_neT (tgt := 13) S dX4_send_7 (by decide) (by decide) (by decide) ?_
    refine lv_aload_n hx hb dX4_send_13 rfl (lv_at hl 0 rfl) ?_
    refine w_get (C := RX4) (T := TX4) (Nf := 4) (ci := 4) (v := .ref w) S (fun _ h => List.mem_cons_of_mem _ (List.mem_append_left _ (List.mem_append_left _ (List.mem_append_left _ (List.mem_append_right _ h))))) hE hP 0 rfl rfl 0 (by decide) (List.mem_of_getElem? (i := 1) rfl) rfl dX4_send_14 ?_
    refine w_get (C := RX3) (T := TX3) (Nf := 8) (ci := 3) (v := .int (iI (sA))) S (fun _ h => List.mem_cons_of_mem _ (List.mem_append_left _ (List.mem_append_left _ (List.mem_append_right _ h)))) hE hP 1 rfl rfl 2 (by decide) (List.mem_of_getElem? (i := 2) rfl) rfl dX4_send_17 ?_
    refine lv_iload_n hx hb dX4_send_20 rfl (lv_at hl 1 rfl) ?_
    refine w_iadd S dX4_send_21 ?_
    refine lv_sipush (v := iI (200)) hx hb dX4_send_22 (by decide) ?_
    refine c_gtT (tgt := 43) S dX4_send_25 (by decide) (by omega) (by omega) (by omega) ?_
    refine lv_bipush (v := iI ((-4))) hx hb dX4_send_43 (by decide) ?_
    exact hret _ _ _ dX4_send_45 (congrArg iI (by omega))
  · refine b_neT (tgt := 13) S dX4_send_7 (by decide) (by decide) (by decide) ?_
    refine lv_aload_n hx hb dX4_send_13 rfl (lv_at hl 0 rfl) ?_
    refine w_get (C := RX4) (T := TX4) (Nf := 4) (ci := 4) (v := .ref w) S (fun _ h => List.mem_cons_of_mem _ (List.mem_append_left _ (List.mem_append_left _ (List.mem_append_left _ (List.mem_append_right _ h))))) hE hP 0 rfl rfl 0 (by decide) (List.mem_of_getElem? (i := 1) rfl) rfl dX4_send_14 ?_
    refine w_get (C := RX3) (T := TX3) (Nf := 8) (ci := 3) (v := .int (iI (sA))) S (fun _ h => List.mem_cons_of_mem _ (List.mem_append_left _ (List.mem_append_left _ (List.mem_append_right _ h)))) hE hP 1 rfl rfl 2 (by decide) (List.mem_of_getElem? (i := 2) rfl) rfl dX4_send_17 ?_
    refine lv_iload_n hx hb dX4_send_20 rfl (lv_at hl 1 rfl) ?_
    refine w_iadd S dX4_send_21 ?_
    refine lv_sipush (v := iI (200)) hx hb dX4_send_22 (by decide) ?_
    refine c_gtF (tgt := 43) S dX4_send_25 (by decide) (by omega) (by omega) (by omega) ?_
    refine lv_aload_n hx hb dX4_send_28 rfl (lv_at hl 0 rfl) ?_
    refine w_get (C := RX4) (T := TX4) (Nf := 4) (ci := 4) (v := .ref w) S (fun _ h => List.mem_cons_of_mem _ (List.mem_append_left _ (List.mem_append_left _ (List.mem_append_left _ (List.mem_append_right _ h))))) hE hP 0 rfl rfl 0 (by decide) (List.mem_of_getElem? (i := 1) rfl) rfl dX4_send_29 ?_
    refine w_get (C := RX3) (T := TX3) (Nf := 8) (ci := 3) (v := .int (iI (tA))) S (fun _ h => List.mem_cons_of_mem _ (List.mem_append_left _ (List.mem_append_left _ (List.mem_append_right _ h)))) hE hP 1 rfl rfl 1 (by decide) (List.mem_of_getElem? (i := 3) rfl) rfl dX4_send_32 ?_
    refine lv_iload_n hx hb dX4_send_35 rfl (lv_at hl 1 rfl) ?_
    refine w_iadd S dX4_send_36 ?_
    refine lv_sipush (v := iI (9999)) hx hb dX4_send_37 (by decide) ?_
    refine c_leF (tgt := 46) S dX4_send_40 (by decide) (by omega) (by omega) (by omega) ?_
    refine lv_bipush (v := iI ((-4))) hx hb dX4_send_43 (by decide) ?_
    exact hret _ _ _ dX4_send_45 (congrArg iI (by omega))
set_option maxHeartbeats 4000000 in
set_option maxRecDepth 100000 in
theorem c_send (lc : Launch) (D : va_G) (cI cZ : ClassId) (N : Nat) (o : Nat) (v2 : Nat) (v3 : Nat) (ik : Int) (w : Nat) (wc : Nat) (k : Nat) (kn : Nat) (t : Nat) (tc : Nat) (ts : Nat) (b : Nat) (bm : Nat) (br : Nat) (mn : Nat) (tA : Int) (sA : Int) (kA : Int) (ck : Nat → Int) (nb : Nat → Int) (cn : Nat → Int) (sm : Nat → Int) (mo : Nat → Int) (re : Nat → Int) (v : Nat) (hmn : 2 ≤ mn ∧ mn ≤ 5) (hnb : ∀ k, k < 24 → 0 ≤ nb k ∧ nb k ≤ 20) (hta : 0 ≤ tA ∧ tA ≤ 10000) (hsA : 0 ≤ sA ∧ sA ≤ 200) (hkA : 1 ≤ kA ∧ kA ≤ 20) (h : 1 ≤ v ∧ v ≤ 60) (h2 : sA + (v : Int) ≤ 200) (h3 : tA + (v : Int) ≤ 9999) : CM lc D cI cZ N yX4_send wsX4_send (rmK 3 69) [.ref o, .int (iI (((v : Nat) : Int)))] [(o, .inr (4, [.ref w, .ref v2, .ref v3, .int (iI (ik))])), (w, .inr (3, [.int (iI (((mn : Nat) : Int))), .int (iI (tA)), .int (iI (sA)), .int (iI (kA)), .ref wc, .ref k, .ref t, .ref b])), (wc, .inl (cI, 5, .inl (vI ck))), (k, .inr (1, [.ref kn])), (kn, .inl (cI, 24, .inl (vI nb))), (t, .inr (2, [.ref tc, .ref ts])), (tc, .inl (cI, 1000, .inl (vI cn))), (ts, .inl (cI, 1000, .inl (vI sm))), (b, .inr (0, [.ref bm, .ref br])), (bm, .inl (cI, 25, .inl (vI mo))), (br, .inl (cI, 5, .inl (vI re)))] (some (.int (iI (sdR nb (mn - 1) sA v)))) [(o, .inr (4, [.ref w, .ref v2, .ref v3, .int (iI (ik))])), (w, .inr (3, [.int (iI (((mn : Nat) : Int))), .int (iI ((tA + ((v : Nat) : Int)))), .int (iI ((sA + ((v : Nat) : Int)))), .int (iI (kA)), .ref wc, .ref k, .ref t, .ref b])), (wc, .inl (cI, 5, .inl (vI ck))), (k, .inr (1, [.ref kn])), (kn, .inl (cI, 24, .inl (vI nb))), (t, .inr (2, [.ref tc, .ref ts])), (tc, .inl (cI, 1000, .inl (vI (sdC nb (mn - 1) sA kA cn v)))), (ts, .inl (cI, 1000, .inl (vI (sdS ck nb (mn - 1) tA sA kA sm v)))), (b, .inr (0, [.ref bm, .ref br])), (bm, .inl (cI, 25, .inl (vI mo))), (br, .inl (cI, 5, .inl (vI re)))] := by
  refine CM.I (cc := cX4_send) (maxL := 4) (by decide) rfl (Nat.le_of_ble_eq_true rfl) ?_
  intro p e s m args below meth c R Q S hE A hAN hfr hlo hP hD hS hret ls hl
  have S : CallFix p m c cX4_send 4 s args wsX4_send RX4 := S
  have hx := S.1
  have hb := S.2.1
  have hl : lv_has ls 4 [(0, .ref o), (1, .int (iI (((v : Nat) : Int))))] := hl
  refine lv_iload_n hx hb dX4_send_0 rfl (lv_at hl 1 rfl) ?_
  refine lv_iconst (v := iI (1)) hx hb dX4_send_1 rfl ?_
  refine lv_bipush (v := iI (60)) hx hb dX4_send_2 (by decide) ?_
  refine kS_R (n := 3) S (c_within_T lc D cI cZ N ((v : Nat) : Int) 1 60 (by omega) (by omega) (by omega) (by omega)) gX4_send_X4_within rfl (by decide +kernel) rfl rfl ⟨Nat.le_trans (Nat.le_of_ble_eq_true rfl) hfr, Nat.le_trans (Nat.le_of_ble_eq_true rfl) hlo⟩ hE hAN hP hD hS [] rfl (by decide) rfl hl.1 [] rfl (Nat.le_of_ble_eq_true rfl) dX4_send_4 ⟨Nat.zero_le _, Nat.zero_le _⟩ ?_
  refine W.eq (g2 := F0 m 7 ls [.int (iI (1))]) rfl ?_
  refine b_neT (tgt := 13) S dX4_send_7 (by decide) (by decide) (by decide) ?_
  refine lv_aload_n hx hb dX4_send_13 rfl (lv_at hl 0 rfl) ?_
  refine w_get (C := RX4) (T := TX4) (Nf := 4) (ci := 4) (v := .ref w) S (fun _ h => List.mem_cons_of_mem _ (List.mem_append_left _ (List.mem_append_left _ (List.mem_append_left _ (List.mem_append_right _ h))))) hE hP 0 rfl rfl 0 (by decide) (List.mem_of_getElem? (i := 1) rfl) rfl dX4_send_14 ?_
  refine w_get (C := RX3) (T := TX3) (Nf := 8) (ci := 3) (v := .int (iI (sA))) S (fun _ h => List.mem_cons_of_mem _ (List.mem_append_left _ (List.mem_append_left _ (List.mem_append_right _ h)))) hE hP 1 rfl rfl 2 (by decide) (List.mem_of_getElem? (i := 2) rfl) rfl dX4_send_17 ?_
  refine lv_iload_n hx hb dX4_send_20 rfl (lv_at hl 1 rfl) ?_
  refine w_iadd S dX4_send_21 ?_
  refine lv_sipush (v := iI (200)) hx hb dX4_send_22 (by decide) ?_
  refine c_gtF (tgt := 43) S dX4_send_25 (by decide) (by omega) (by omega) (by omega) ?_
  refine lv_aload_n hx hb dX4_send_28 rfl (lv_at hl 0 rfl) ?_
  refine w_get (C := RX4) (T := TX4) (Nf := 4) (ci := 4) (v := .ref w) S (fun _ h => List.mem_cons_of_mem _ (List.mem_append_left _ (List.mem_append_left _ (List.mem_append_left _ (List.mem_append_right _ h))))) hE hP 0 rfl rfl 0 (by decide) (List.mem_of_getElem? (i := 1) rfl) rfl dX4_send_29 ?_
  refine w_get (C := RX3) (T := TX3) (Nf := 8) (ci := 3) (v := .int (iI (tA))) S (fun _ h => List.mem_cons_of_mem _ (List.mem_append_left _ (List.mem_append_left _ (List.mem_append_right _ h)))) hE hP 1 rfl rfl 1 (by decide) (List.mem_of_getElem? (i := 3) rfl) rfl dX4_send_32 ?_
  refine lv_iload_n hx hb dX4_send_35 rfl (lv_at hl 1 rfl) ?_
  refine w_iadd S dX4_send_36 ?_
  refine lv_sipush (v := iI (9999)) hx hb dX4_send_37 (by decide) ?_
  refine c_leT (tgt := 46) S dX4_send_40 (by decide) (by omega) (by omega) (by omega) ?_
  refine lv_iconst (v := iI (0)) hx hb dX4_send_46 rfl ?_
  refine lv_istore_n (lv' := [(2, .int (iI (0))), (0, .ref o), (1, .int (iI (((v : Nat) : Int))))]) hx hb dX4_send_47 rfl hl (by decide) rfl (fun ls hl => ?_)
  refine lv_iconst (v := iI (0)) hx hb dX4_send_48 rfl ?_
  refine lv_istore_n (lv' := [(3, .int (iI (0))), (2, .int (iI (0))), (0, .ref o), (1, .int (iI (((v : Nat) : Int))))]) hx hb dX4_send_49 rfl hl (by decide) rfl (fun ls hl => ?_)
  have loop1 : ∀ (q i : Nat) , i + q = v → ∀ (H : Heap) (locs : List Loc) (ls : Array Slot), va_P D vwCl [(o, .inr (4, [.ref w, .ref v2, .ref v3, .int (iI (ik))])), (w, .inr (3, [.int (iI (((mn : Nat) : Int))), .int (iI (tA + ((i : Nat) : Int))), .int (iI (sA + ((i : Nat) : Int))), .int (iI (kA)), .ref wc, .ref k, .ref t, .ref b])), (wc, .inl (cI, 5, .inl (vI ck))), (k, .inr (1, [.ref kn])), (kn, .inl (cI, 24, .inl (vI nb))), (t, .inr (2, [.ref tc, .ref ts])), (tc, .inl (cI, 1000, .inl (vI (sdC nb (mn - 1) sA kA cn i)))), (ts, .inl (cI, 1000, .inl (vI (sdS ck nb (mn - 1) tA sA kA sm i)))), (b, .inr (0, [.ref bm, .ref br])), (bm, .inl (cI, 25, .inl (vI mo))), (br, .inl (cI, 5, .inl (vI re)))] H → va_D A [(o, .inr (4, [.ref w, .ref v2, .ref v3, .int (iI (ik))])), (w, .inr (3, [.int (iI (((mn : Nat) : Int))), .int (iI (tA + ((i : Nat) : Int))), .int (iI (sA + ((i : Nat) : Int))), .int (iI (kA)), .ref wc, .ref k, .ref t, .ref b])), (wc, .inl (cI, 5, .inl (vI ck))), (k, .inr (1, [.ref kn])), (kn, .inl (cI, 24, .inl (vI nb))), (t, .inr (2, [.ref tc, .ref ts])), (tc, .inl (cI, 1000, .inl (vI (sdC nb (mn - 1) sA kA cn i)))), (ts, .inl (cI, 1000, .inl (vI (sdS ck nb (mn - 1) tA sA kA sm i)))), (b, .inr (0, [.ref bm, .ref br])), (bm, .inl (cI, 25, .inl (vI mo))), (br, .inl (cI, 5, .inl (vI re)))] → va_S A s.heap H locs → lv_has ls 4 [(3, .int (iI (((i : Nat) : Int)))), (2, .int (iI (sdR nb (mn - 1) sA i))), (0, .ref o), (1, .int (iI (((v : Nat) : Int))))] → W p lc e R s m args below meth c H locs 0 0 Q (F0 m 50 ls []) := by
    intro q
    induction q with
    | zero =>
      intro i  hm  H locs ls hP hD hS hl
      refine lv_iload_n hx hb dX4_send_50 rfl (lv_at hl 0 rfl) ?_
      refine lv_iload_n hx hb dX4_send_51 rfl (lv_at hl 3 rfl) ?_
      refine c_geT (tgt := 74) S dX4_send_52 (by decide) (by omega) (by omega) (by omega) ?_
      have hi : i = v := by omega
      subst hi
      refine lv_iload_n hx hb dX4_send_74 rfl (lv_at hl 1 rfl) ?_
      exact hret _ _ _ _ _ dX4_send_75 rfl hP hS
    | succ q ih1 =>
      intro i  hm  H locs ls hP hD hS hl
      refine lv_iload_n hx hb dX4_send_50 rfl (lv_at hl 0 rfl) ?_
      refine lv_iload_n hx hb dX4_send_51 rfl (lv_at hl 3 rfl) ?_
      refine c_geF (tgt := 74) S dX4_send_52 (by decide) (by omega) (by omega) (by omega) ?_
      have hr := sdR_rng nb (mn - 1) sA i
      have hst := stop_ok nb (sA + ((i : Nat) : Int)) (mn - 1)
      refine lv_aload_n hx hb dX4_send_55 rfl (lv_at hl 2 rfl) ?_
      refine w_get (C := RX4) (T := TX4) (Nf := 4) (ci := 4) (v := .ref w) S (fun _ h => List.mem_cons_of_mem _ (List.mem_append_left _ (List.mem_append_left _ (List.mem_append_left _ (List.mem_append_right _ h))))) hE hP 0 rfl rfl 0 (by decide) (List.mem_of_getElem? (i := 1) rfl) rfl dX4_send_56 ?_
      by_cases hlt : stop nb (sA + ((i : Nat) : Int)) (mn - 1) < mn - 1
      · refine kV_M (n := 0) (ci := 3) (q := (RX3, TX3, 8)) S (c_sendPacket_F lc D cI cZ N w wc k kn t tc ts b bm br mn (tA + ((i : Nat) : Int)) (sA + ((i : Nat) : Int)) kA ck nb (sdC nb (mn - 1) sA kA cn i) (sdS ck nb (mn - 1) tA sA kA sm i) mo re (bOf (sA + ((i : Nat) : Int)) kA) (stop nb (sA + ((i : Nat) : Int)) (mn - 1)) (by omega) (by omega) (by omega) (by omega) (by omega) (bOf_eq (by omega) (by omega)) (bOf_lt (by omega) (by omega) (by omega)) hlt (stop_ok nb (sA + ((i : Nat) : Int)) (mn - 1)).2.1 ((stop_ok nb (sA + ((i : Nat) : Int)) (mn - 1)).2.2 hlt)) gX4_send_X3_sendPacket rfl rfl (by decide +kernel) rfl rfl ⟨Nat.le_trans (Nat.le_of_ble_eq_true rfl) hfr, Nat.le_trans (Nat.le_of_ble_eq_true rfl) hlo⟩ hE hAN hP hD hS [1, 2, 3, 4, 5, 6, 7, 8, 9, 10] rfl (by decide) rfl rfl rfl rfl rfl hl.1 [] rfl (Nat.le_of_ble_eq_true rfl) dX4_send_59 ⟨Nat.zero_le _, Nat.zero_le _⟩ (fun H locs hP hD hS => ?_)
        have hP : va_P D vwCl [(o, .inr (4, [.ref w, .ref v2, .ref v3, .int (iI (ik))])), (w, .inr (3, [.int (iI (((mn : Nat) : Int))), .int (iI (((tA + ((i : Nat) : Int)) + 1))), .int (iI (((sA + ((i : Nat) : Int)) + 1))), .int (iI (kA)), .ref wc, .ref k, .ref t, .ref b])), (wc, .inl (cI, 5, .inl (vI ck))), (k, .inr (1, [.ref kn])), (kn, .inl (cI, 24, .inl (vI nb))), (t, .inr (2, [.ref tc, .ref ts])), (tc, .inl (cI, 1000, .inl (vI (cnA (sdC nb (mn - 1) sA kA cn i) (bOf (sA + ((i : Nat) : Int)) kA) (stop nb (sA + ((i : Nat) : Int)) (mn - 1)))))), (ts, .inl (cI, 1000, .inl (vI (smA (sdS ck nb (mn - 1) tA sA kA sm i) ck nb (tA + ((i : Nat) : Int)) (bOf (sA + ((i : Nat) : Int)) kA) (stop nb (sA + ((i : Nat) : Int)) (mn - 1)))))), (b, .inr (0, [.ref bm, .ref br])), (bm, .inl (cI, 25, .inl (vI mo))), (br, .inl (cI, 5, .inl (vI re)))] H := hP
        have hD : va_D A [(o, .inr (4, [.ref w, .ref v2, .ref v3, .int (iI (ik))])), (w, .inr (3, [.int (iI (((mn : Nat) : Int))), .int (iI (((tA + ((i : Nat) : Int)) + 1))), .int (iI (((sA + ((i : Nat) : Int)) + 1))), .int (iI (kA)), .ref wc, .ref k, .ref t, .ref b])), (wc, .inl (cI, 5, .inl (vI ck))), (k, .inr (1, [.ref kn])), (kn, .inl (cI, 24, .inl (vI nb))), (t, .inr (2, [.ref tc, .ref ts])), (tc, .inl (cI, 1000, .inl (vI (cnA (sdC nb (mn - 1) sA kA cn i) (bOf (sA + ((i : Nat) : Int)) kA) (stop nb (sA + ((i : Nat) : Int)) (mn - 1)))))), (ts, .inl (cI, 1000, .inl (vI (smA (sdS ck nb (mn - 1) tA sA kA sm i) ck nb (tA + ((i : Nat) : Int)) (bOf (sA + ((i : Nat) : Int)) kA) (stop nb (sA + ((i : Nat) : Int)) (mn - 1)))))), (b, .inr (0, [.ref bm, .ref br])), (bm, .inl (cI, 25, .inl (vI mo))), (br, .inl (cI, 5, .inl (vI re)))] := hD
        refine W.eq (g2 := F0 m 62 ls [.int (iI (0))]) rfl ?_
        refine b_eqT (tgt := 68) S dX4_send_62 (by decide) (by decide) ?_
        refine w_iinc (v := ((i + 1 : Nat) : Int)) (lv' := [(3, .int (iI (((i + 1 : Nat) : Int)))), (2, .int (iI (sdR nb (mn - 1) sA i))), (0, .ref o), (1, .int (iI (((v : Nat) : Int))))]) S dX4_send_68 hl (k := 0) rfl (by omega) (by decide) rfl (fun ls hl => ?_)
        refine lv_goto (tgt := 50) hx hb dX4_send_71 (by decide) ?_
        have hcell : (cnA (sdC nb (mn - 1) sA kA cn i) (bOf (sA + ((i : Nat) : Int)) kA) (stop nb (sA + ((i : Nat) : Int)) (mn - 1))) = sdC nb (mn - 1) sA kA cn (i + 1) := rfl
        rw [hcell] at hP hD
        have hcell : (smA (sdS ck nb (mn - 1) tA sA kA sm i) ck nb (tA + ((i : Nat) : Int)) (bOf (sA + ((i : Nat) : Int)) kA) (stop nb (sA + ((i : Nat) : Int)) (mn - 1))) = sdS ck nb (mn - 1) tA sA kA sm (i + 1) := rfl
        rw [hcell] at hP hD
        have hfld : (((tA + ((i : Nat) : Int)) + 1) : Int) = tA + ((i + 1 : Nat) : Int) := (by omega)
        rw [hfld] at hP hD
        have hfld : (((sA + ((i : Nat) : Int)) + 1) : Int) = sA + ((i + 1 : Nat) : Int) := (by omega)
        rw [hfld] at hP hD
        have hloc : (sdR nb (mn - 1) sA i : Int) = sdR nb (mn - 1) sA (i + 1) := (by show _ = sdR nb (mn - 1) sA i + _; rw [if_neg (by omega)]; omega)
        rw [hloc] at hl
        exact ih1 (i + 1)  (by omega)  _ _ _ hP hD hS (lv_sub hl [0, 1, 2, 3] rfl)
      · have hst2 : stop nb (sA + ((i : Nat) : Int)) (mn - 1) = mn - 1 := by omega
        refine kV_M (n := 0) (ci := 3) (q := (RX3, TX3, 8)) S (c_sendPacket_T lc D cI cZ N w wc k kn t tc ts b bm br mn (tA + ((i : Nat) : Int)) (sA + ((i : Nat) : Int)) kA ck nb (sdC nb (mn - 1) sA kA cn i) (sdS ck nb (mn - 1) tA sA kA sm i) mo re (bOf (sA + ((i : Nat) : Int)) kA) (by omega) (by omega) (by omega) (by omega) (by omega) (bOf_eq (by omega) (by omega)) (bOf_lt (by omega) (by omega) (by omega)) (by rw [hst2] at hst; exact hst.2.1)) gX4_send_X3_sendPacket rfl rfl (by decide +kernel) rfl rfl ⟨Nat.le_trans (Nat.le_of_ble_eq_true rfl) hfr, Nat.le_trans (Nat.le_of_ble_eq_true rfl) hlo⟩ hE hAN hP hD hS [1, 2, 3, 4, 5, 6, 7, 8, 9, 10] rfl (by decide) rfl rfl rfl rfl rfl hl.1 [] rfl (Nat.le_of_ble_eq_true rfl) dX4_send_59 ⟨Nat.zero_le _, Nat.zero_le _⟩ (fun H locs hP hD hS => ?_)
        have hP : va_P D vwCl [(o, .inr (4, [.ref w, .ref v2, .ref v3, .int (iI (ik))])), (w, .inr (3, [.int (iI (((mn : Nat) : Int))), .int (iI (((tA + ((i : Nat) : Int)) + 1))), .int (iI (((sA + ((i : Nat) : Int)) + 1))), .int (iI (kA)), .ref wc, .ref k, .ref t, .ref b])), (wc, .inl (cI, 5, .inl (vI ck))), (k, .inr (1, [.ref kn])), (kn, .inl (cI, 24, .inl (vI nb))), (t, .inr (2, [.ref tc, .ref ts])), (tc, .inl (cI, 1000, .inl (vI (cnA (sdC nb (mn - 1) sA kA cn i) (bOf (sA + ((i : Nat) : Int)) kA) (mn - 1))))), (ts, .inl (cI, 1000, .inl (vI (smA (sdS ck nb (mn - 1) tA sA kA sm i) ck nb (tA + ((i : Nat) : Int)) (bOf (sA + ((i : Nat) : Int)) kA) (mn - 1))))), (b, .inr (0, [.ref bm, .ref br])), (bm, .inl (cI, 25, .inl (vI mo))), (br, .inl (cI, 5, .inl (vI re)))] H := hP
        have hD : va_D A [(o, .inr (4, [.ref w, .ref v2, .ref v3, .int (iI (ik))])), (w, .inr (3, [.int (iI (((mn : Nat) : Int))), .int (iI (((tA + ((i : Nat) : Int)) + 1))), .int (iI (((sA + ((i : Nat) : Int)) + 1))), .int (iI (kA)), .ref wc, .ref k, .ref t, .ref b])), (wc, .inl (cI, 5, .inl (vI ck))), (k, .inr (1, [.ref kn])), (kn, .inl (cI, 24, .inl (vI nb))), (t, .inr (2, [.ref tc, .ref ts])), (tc, .inl (cI, 1000, .inl (vI (cnA (sdC nb (mn - 1) sA kA cn i) (bOf (sA + ((i : Nat) : Int)) kA) (mn - 1))))), (ts, .inl (cI, 1000, .inl (vI (smA (sdS ck nb (mn - 1) tA sA kA sm i) ck nb (tA + ((i : Nat) : Int)) (bOf (sA + ((i : Nat) : Int)) kA) (mn - 1))))), (b, .inr (0, [.ref bm, .ref br])), (bm, .inl (cI, 25, .inl (vI mo))), (br, .inl (cI, 5, .inl (vI re)))] := hD
        refine W.eq (g2 := F0 m 62 ls [.int (iI (1))]) rfl ?_
        refine b_eqF (tgt := 68) S dX4_send_62 (by decide) (by decide) (by decide) ?_
        refine w_iinc (v := (sdR nb (mn - 1) sA i) + 1) (lv' := [(2, .int (iI ((sdR nb (mn - 1) sA i) + 1))), (3, .int (iI (((i : Nat) : Int)))), (0, .ref o), (1, .int (iI (((v : Nat) : Int))))]) S dX4_send_65 hl (k := 1) rfl rfl (by decide) rfl (fun ls hl => ?_)
        refine w_iinc (v := ((i + 1 : Nat) : Int)) (lv' := [(3, .int (iI (((i + 1 : Nat) : Int)))), (2, .int (iI ((sdR nb (mn - 1) sA i) + 1))), (0, .ref o), (1, .int (iI (((v : Nat) : Int))))]) S dX4_send_68 hl (k := 1) rfl (by omega) (by decide) rfl (fun ls hl => ?_)
        refine lv_goto (tgt := 50) hx hb dX4_send_71 (by decide) ?_
        have hcell : (cnA (sdC nb (mn - 1) sA kA cn i) (bOf (sA + ((i : Nat) : Int)) kA) (mn - 1)) = sdC nb (mn - 1) sA kA cn (i + 1) := (by show _ = cnA _ _ (stop nb (sA + ((i : Nat) : Int)) (mn - 1)); rw [hst2])
        rw [hcell] at hP hD
        have hcell : (smA (sdS ck nb (mn - 1) tA sA kA sm i) ck nb (tA + ((i : Nat) : Int)) (bOf (sA + ((i : Nat) : Int)) kA) (mn - 1)) = sdS ck nb (mn - 1) tA sA kA sm (i + 1) := (by show _ = smA _ _ _ _ _ (stop nb (sA + ((i : Nat) : Int)) (mn - 1)); rw [hst2])
        rw [hcell] at hP hD
        have hfld : (((tA + ((i : Nat) : Int)) + 1) : Int) = tA + ((i + 1 : Nat) : Int) := (by omega)
        rw [hfld] at hP hD
        have hfld : (((sA + ((i : Nat) : Int)) + 1) : Int) = sA + ((i + 1 : Nat) : Int) := (by omega)
        rw [hfld] at hP hD
        have hloc : ((sdR nb (mn - 1) sA i) + 1 : Int) = sdR nb (mn - 1) sA (i + 1) := (by show _ = sdR nb (mn - 1) sA i + _; rw [if_pos hst2])
        rw [hloc] at hl
        exact ih1 (i + 1)  (by omega)  _ _ _ hP hD hS (lv_sub hl [0, 1, 2, 3] rfl)
  have hcell : cn = sdC nb (mn - 1) sA kA cn 0 := rfl
  rw [hcell] at hP hD
  have hcell : sm = sdS ck nb (mn - 1) tA sA kA sm 0 := rfl
  rw [hcell] at hP hD
  have hfld : (tA : Int) = tA + ((0 : Nat) : Int) := (by omega)
  rw [hfld] at hP hD
  have hfld : (sA : Int) = sA + ((0 : Nat) : Int) := (by omega)
  rw [hfld] at hP hD
  have hloc : (0 : Int) = sdR nb (mn - 1) sA 0 := rfl
  rw [hloc] at hl
  exact loop1 v 0  (by omega)  _ _ _ hP hD hS (lv_sub hl [0, 1, 2, 3] rfl)
set_option maxHeartbeats 4000000 in
set_option maxRecDepth 100000 in
theorem c_kept_U (lc : Launch) (D : va_G) (cI cZ : ClassId) (N : Nat) (o : Nat) (v2 : Nat) (v3 : Nat) (ik : Int) (w : Nat) (wc : Nat) (k : Nat) (kn : Nat) (t : Nat) (tc : Nat) (ts : Nat) (b : Nat) (bm : Nat) (br : Nat) (mn : Nat) (tA : Int) (sA : Int) (kA : Int) (ck : Nat → Int) (nb : Nat → Int) (cn : Nat → Int) (sm : Nat → Int) (mo : Nat → Int) (re : Nat → Int) (x : Int) (y : Int) (z : Int) (hmn : 2 ≤ mn ∧ mn ≤ 5) (r_x : -2147483648 ≤ x ∧ x ≤ 2147483647) (h : ¬ (0 ≤ x ∧ x ≤ (mn : Int) - 1)) : CR lc D cI cZ N yX4_kept wsX4_kept (rmK 2 43) [.ref o, .int (iI (x)), .int (iI (y)), .int (iI (z))] [(o, .inr (4, [.ref w, .ref v2, .ref v3, .int (iI (ik))])), (w, .inr (3, [.int (iI (((mn : Nat) : Int))), .int (iI (tA)), .int (iI (sA)), .int (iI (kA)), .ref wc, .ref k, .ref t, .ref b])), (wc, .inl (cI, 5, .inl (vI ck))), (k, .inr (1, [.ref kn])), (kn, .inl (cI, 24, .inl (vI nb))), (t, .inr (2, [.ref tc, .ref ts])), (tc, .inl (cI, 1000, .inl (vI cn))), (ts, .inl (cI, 1000, .inl (vI sm))), (b, .inr (0, [.ref bm, .ref br])), (bm, .inl (cI, 25, .inl (vI mo))), (br, .inl (cI, 5, .inl (vI re)))] (some (.int (iI (-1000000001)))) := by
  refine CR.I (cc := cX4_kept) (maxL := 4) (by decide) rfl (Nat.le_of_ble_eq_true rfl) ?_
  intro p e s m args below meth c R Q S hE A hAN hfr hlo hP hD hS hret ls hl
  have S : CallFix p m c cX4_kept 4 s args wsX4_kept RX4 := S
  have hx := S.1
  have hb := S.2.1
  have hl : lv_has ls 4 [(0, .ref o), (1, .int (iI (x))), (2, .int (iI (y))), (3, .int (iI (z)))] := hl
  refine lv_aload_n hx hb dX4_kept_0 rfl (lv_at hl 0 rfl) ?_
  refine w_get (C := RX4) (T := TX4) (Nf := 4) (ci := 4) (v := .ref w) S (fun _ h => List.mem_cons_of_mem _ (List.mem_append_left _ (List.mem_append_left _ (List.mem_append_right _ h)))) hE hP 0 rfl rfl 0 (by decide) (List.mem_of_getElem? (i := 1) rfl) rfl dX4_kept_1 ?_
  refine lv_iload_n hx hb dX4_kept_4 rfl (lv_at hl 1 rfl) ?_
  refine kV_R (n := 1) (ci := 3) (q := (RX3, TX3, 8)) S (c_hasNode_F lc D cI cZ N w wc k kn t tc ts b bm br mn tA sA kA ck nb cn sm mo re x (by omega) (by omega) (by omega)) gX4_kept_X3_hasNode rfl rfl (by decide +kernel) rfl rfl ⟨Nat.le_trans (Nat.le_of_ble_eq_true rfl) hfr, Nat.le_trans (Nat.le_of_ble_eq_true rfl) hlo⟩ hE hAN hP hD hS [1, 2, 3, 4, 5, 6, 7, 8, 9, 10] rfl (by decide) rfl rfl rfl rfl hl.1 [] rfl (Nat.le_of_ble_eq_true rfl) dX4_kept_5 ⟨Nat.zero_le _, Nat.zero_le _⟩ ?_
  refine W.eq (g2 := F0 m 8 ls [.int (iI (0))]) rfl ?_
  refine b_neF (tgt := 14) S dX4_kept_8 (by decide) (by decide) ?_
  refine w_ldc (z := (-1000000001)) S (List.mem_of_getElem? (i := 2) rfl) (by decide) dX4_kept_11 ?_
  exact hret _ _ _ dX4_kept_13 (congrArg iI (by omega))
set_option maxHeartbeats 4000000 in
set_option maxRecDepth 100000 in
theorem c_kept_O (lc : Launch) (D : va_G) (cI cZ : ClassId) (N : Nat) (o : Nat) (v2 : Nat) (v3 : Nat) (ik : Int) (w : Nat) (wc : Nat) (k : Nat) (kn : Nat) (t : Nat) (tc : Nat) (ts : Nat) (b : Nat) (bm : Nat) (br : Nat) (mn : Nat) (tA : Int) (sA : Int) (kA : Int) (ck : Nat → Int) (nb : Nat → Int) (cn : Nat → Int) (sm : Nat → Int) (mo : Nat → Int) (re : Nat → Int) (x : Int) (y : Int) (z : Int) (hmn : 2 ≤ mn ∧ mn ≤ 5) (r_x : -2147483648 ≤ x ∧ x ≤ 2147483647) (r_y : -2147483648 ≤ y ∧ y ≤ 2147483647) (r_z : -2147483648 ≤ z ∧ z ≤ 2147483647) (h : (0 ≤ x ∧ x ≤ (mn : Int) - 1)) (h2 : ¬ ((0 ≤ y ∧ y ≤ 199) ∧ (0 ≤ z ∧ z ≤ 1))) : CR lc D cI cZ N yX4_kept wsX4_kept (rmK 2 43) [.ref o, .int (iI (x)), .int (iI (y)), .int (iI (z))] [(o, .inr (4, [.ref w, .ref v2, .ref v3, .int (iI (ik))])), (w, .inr (3, [.int (iI (((mn : Nat) : Int))), .int (iI (tA)), .int (iI (sA)), .int (iI (kA)), .ref wc, .ref k, .ref t, .ref b])), (wc, .inl (cI, 5, .inl (vI ck))), (k, .inr (1, [.ref kn])), (kn, .inl (cI, 24, .inl (vI nb))), (t, .inr (2, [.ref tc, .ref ts])), (tc, .inl (cI, 1000, .inl (vI cn))), (ts, .inl (cI, 1000, .inl (vI sm))), (b, .inr (0, [.ref bm, .ref br])), (bm, .inl (cI, 25, .inl (vI mo))), (br, .inl (cI, 5, .inl (vI re)))] (some (.int (iI (-1000000002)))) := by
  refine CR.I (cc := cX4_kept) (maxL := 4) (by decide) rfl (Nat.le_of_ble_eq_true rfl) ?_
  intro p e s m args below meth c R Q S hE A hAN hfr hlo hP hD hS hret ls hl
  have S : CallFix p m c cX4_kept 4 s args wsX4_kept RX4 := S
  have hx := S.1
  have hb := S.2.1
  have hl : lv_has ls 4 [(0, .ref o), (1, .int (iI (x))), (2, .int (iI (y))), (3, .int (iI (z)))] := hl
  refine lv_aload_n hx hb dX4_kept_0 rfl (lv_at hl 0 rfl) ?_
  refine w_get (C := RX4) (T := TX4) (Nf := 4) (ci := 4) (v := .ref w) S (fun _ h => List.mem_cons_of_mem _ (List.mem_append_left _ (List.mem_append_left _ (List.mem_append_right _ h)))) hE hP 0 rfl rfl 0 (by decide) (List.mem_of_getElem? (i := 1) rfl) rfl dX4_kept_1 ?_
  refine lv_iload_n hx hb dX4_kept_4 rfl (lv_at hl 1 rfl) ?_
  refine kV_R (n := 1) (ci := 3) (q := (RX3, TX3, 8)) S (c_hasNode_T lc D cI cZ N w wc k kn t tc ts b bm br mn tA sA kA ck nb cn sm mo re x (by omega) (by omega) (by omega)) gX4_kept_X3_hasNode rfl rfl (by decide +kernel) rfl rfl ⟨Nat.le_trans (Nat.le_of_ble_eq_true rfl) hfr, Nat.le_trans (Nat.le_of_ble_eq_true rfl) hlo⟩ hE hAN hP hD hS [1, 2, 3, 4, 5, 6, 7, 8, 9, 10] rfl (by decide) rfl rfl rfl rfl hl.1 [] rfl (Nat.le_of_ble_eq_true rfl) dX4_kept_5 ⟨Nat.zero_le _, Nat.zero_le _⟩ ?_
  refine W.eq (g2 := F0 m 8 ls [.int (iI (1))]) rfl ?_
  refine b_neT (tgt := 14) S dX4_kept_8 (by decide) (by decide) (by decide) ?_
  by_cases h3 : (0 ≤ y ∧ y ≤ 199)
  · refine lv_iload_n hx hb dX4_kept_14 rfl (lv_at hl 2 rfl) ?_
    refine kS_R (n := 1) S (c_isBlock_T lc D cI cZ N y (by omega) (by omega)) gX4_kept_X4_isBlock rfl (by decide +kernel) rfl rfl ⟨Nat.le_trans (Nat.le_of_ble_eq_true rfl) hfr, Nat.le_trans (Nat.le_of_ble_eq_true rfl) hlo⟩ hE hAN hP hD hS [] rfl (by decide) rfl hl.1 [] rfl (Nat.le_of_ble_eq_true rfl) dX4_kept_15 ⟨Nat.zero_le _, Nat.zero_le _⟩ ?_
    refine W.eq (g2 := F0 m 18 ls [.int (iI (1))]) rfl ?_
    refine b_eqF (tgt := 30) S dX4_kept_18 (by decide) (by decide) (by decide) ?_
    refine lv_iload_n hx hb dX4_kept_21 rfl (lv_at hl 3 rfl) ?_
    refine lv_iconst (v := iI (0)) hx hb dX4_kept_22 rfl ?_
    refine lv_iconst (v := iI (1)) hx hb dX4_kept_23 rfl ?_
    refine kS_R (n := 3) S (c_within_F lc D cI cZ N z 0 1 (by omega) (by omega) (by omega) (by omega)) gX4_kept_X4_within rfl (by decide +kernel) rfl rfl ⟨Nat.le_trans (Nat.le_of_ble_eq_true rfl) hfr, Nat.le_trans (Nat.le_of_ble_eq_true rfl) hlo⟩ hE hAN hP hD hS [] rfl (by decide) rfl hl.1 [] rfl (Nat.le_of_ble_eq_true rfl) dX4_kept_24 ⟨Nat.zero_le _, Nat.zero_le _⟩ ?_
    refine W.eq (g2 := F0 m 27 ls [.int (iI (0))]) rfl ?_
    refine b_neF (tgt := 33) S dX4_kept_27 (by decide) (by decide) ?_
    refine w_ldc (z := (-1000000002)) S (List.mem_of_getElem? (i := 3) rfl) (by decide) dX4_kept_30 ?_
    exact hret _ _ _ dX4_kept_32 (congrArg iI (by omega))
  · refine lv_iload_n hx hb dX4_kept_14 rfl (lv_at hl 2 rfl) ?_
    refine kS_R (n := 1) S (c_isBlock_F lc D cI cZ N y (by omega) (by omega)) gX4_kept_X4_isBlock rfl (by decide +kernel) rfl rfl ⟨Nat.le_trans (Nat.le_of_ble_eq_true rfl) hfr, Nat.le_trans (Nat.le_of_ble_eq_true rfl) hlo⟩ hE hAN hP hD hS [] rfl (by decide) rfl hl.1 [] rfl (Nat.le_of_ble_eq_true rfl) dX4_kept_15 ⟨Nat.zero_le _, Nat.zero_le _⟩ ?_
    refine W.eq (g2 := F0 m 18 ls [.int (iI (0))]) rfl ?_
    refine b_eqT (tgt := 30) S dX4_kept_18 (by decide) (by decide) ?_
    refine w_ldc (z := (-1000000002)) S (List.mem_of_getElem? (i := 3) rfl) (by decide) dX4_kept_30 ?_
    exact hret _ _ _ dX4_kept_32 (congrArg iI (by omega))
set_option maxHeartbeats 4000000 in
set_option maxRecDepth 100000 in
theorem c_kept_0 (lc : Launch) (D : va_G) (cI cZ : ClassId) (N : Nat) (o : Nat) (v2 : Nat) (v3 : Nat) (ik : Int) (w : Nat) (wc : Nat) (k : Nat) (kn : Nat) (t : Nat) (tc : Nat) (ts : Nat) (b : Nat) (bm : Nat) (br : Nat) (mn : Nat) (tA : Int) (sA : Int) (kA : Int) (ck : Nat → Int) (nb : Nat → Int) (cn : Nat → Int) (sm : Nat → Int) (mo : Nat → Int) (re : Nat → Int) (nd : Nat) (bk : Nat) (hmn : 2 ≤ mn ∧ mn ≤ 5) (h : nd < mn) (h2 : bk < 200) : CR lc D cI cZ N yX4_kept wsX4_kept (rmK 2 43) [.ref o, .int (iI (((nd : Nat) : Int))), .int (iI (((bk : Nat) : Int))), .int (iI (0))] [(o, .inr (4, [.ref w, .ref v2, .ref v3, .int (iI (ik))])), (w, .inr (3, [.int (iI (((mn : Nat) : Int))), .int (iI (tA)), .int (iI (sA)), .int (iI (kA)), .ref wc, .ref k, .ref t, .ref b])), (wc, .inl (cI, 5, .inl (vI ck))), (k, .inr (1, [.ref kn])), (kn, .inl (cI, 24, .inl (vI nb))), (t, .inr (2, [.ref tc, .ref ts])), (tc, .inl (cI, 1000, .inl (vI cn))), (ts, .inl (cI, 1000, .inl (vI sm))), (b, .inr (0, [.ref bm, .ref br])), (bm, .inl (cI, 25, .inl (vI mo))), (br, .inl (cI, 5, .inl (vI re)))] (some (.int (iI (cn (nd * 200 + bk))))) := by
  refine CR.I (cc := cX4_kept) (maxL := 4) (by decide) rfl (Nat.le_of_ble_eq_true rfl) ?_
  intro p e s m args below meth c R Q S hE A hAN hfr hlo hP hD hS hret ls hl
  have S : CallFix p m c cX4_kept 4 s args wsX4_kept RX4 := S
  have hx := S.1
  have hb := S.2.1
  have hl : lv_has ls 4 [(0, .ref o), (1, .int (iI (((nd : Nat) : Int)))), (2, .int (iI (((bk : Nat) : Int)))), (3, .int (iI (0)))] := hl
  refine lv_aload_n hx hb dX4_kept_0 rfl (lv_at hl 0 rfl) ?_
  refine w_get (C := RX4) (T := TX4) (Nf := 4) (ci := 4) (v := .ref w) S (fun _ h => List.mem_cons_of_mem _ (List.mem_append_left _ (List.mem_append_left _ (List.mem_append_right _ h)))) hE hP 0 rfl rfl 0 (by decide) (List.mem_of_getElem? (i := 1) rfl) rfl dX4_kept_1 ?_
  refine lv_iload_n hx hb dX4_kept_4 rfl (lv_at hl 1 rfl) ?_
  refine kV_R (n := 1) (ci := 3) (q := (RX3, TX3, 8)) S (c_hasNode_T lc D cI cZ N w wc k kn t tc ts b bm br mn tA sA kA ck nb cn sm mo re ((nd : Nat) : Int) (by omega) (by omega) (by omega)) gX4_kept_X3_hasNode rfl rfl (by decide +kernel) rfl rfl ⟨Nat.le_trans (Nat.le_of_ble_eq_true rfl) hfr, Nat.le_trans (Nat.le_of_ble_eq_true rfl) hlo⟩ hE hAN hP hD hS [1, 2, 3, 4, 5, 6, 7, 8, 9, 10] rfl (by decide) rfl rfl rfl rfl hl.1 [] rfl (Nat.le_of_ble_eq_true rfl) dX4_kept_5 ⟨Nat.zero_le _, Nat.zero_le _⟩ ?_
  refine W.eq (g2 := F0 m 8 ls [.int (iI (1))]) rfl ?_
  refine b_neT (tgt := 14) S dX4_kept_8 (by decide) (by decide) (by decide) ?_
  refine lv_iload_n hx hb dX4_kept_14 rfl (lv_at hl 2 rfl) ?_
  refine kS_R (n := 1) S (c_isBlock_T lc D cI cZ N ((bk : Nat) : Int) (by omega) (by omega)) gX4_kept_X4_isBlock rfl (by decide +kernel) rfl rfl ⟨Nat.le_trans (Nat.le_of_ble_eq_true rfl) hfr, Nat.le_trans (Nat.le_of_ble_eq_true rfl) hlo⟩ hE hAN hP hD hS [] rfl (by decide) rfl hl.1 [] rfl (Nat.le_of_ble_eq_true rfl) dX4_kept_15 ⟨Nat.zero_le _, Nat.zero_le _⟩ ?_
  refine W.eq (g2 := F0 m 18 ls [.int (iI (1))]) rfl ?_
  refine b_eqF (tgt := 30) S dX4_kept_18 (by decide) (by decide) (by decide) ?_
  refine lv_iload_n hx hb dX4_kept_21 rfl (lv_at hl 3 rfl) ?_
  refine lv_iconst (v := iI (0)) hx hb dX4_kept_22 rfl ?_
  refine lv_iconst (v := iI (1)) hx hb dX4_kept_23 rfl ?_
  refine kS_R (n := 3) S (c_within_T lc D cI cZ N 0 0 1 (by omega) (by omega) (by omega) (by omega)) gX4_kept_X4_within rfl (by decide +kernel) rfl rfl ⟨Nat.le_trans (Nat.le_of_ble_eq_true rfl) hfr, Nat.le_trans (Nat.le_of_ble_eq_true rfl) hlo⟩ hE hAN hP hD hS [] rfl (by decide) rfl hl.1 [] rfl (Nat.le_of_ble_eq_true rfl) dX4_kept_24 ⟨Nat.zero_le _, Nat.zero_le _⟩ ?_
  refine W.eq (g2 := F0 m 27 ls [.int (iI (1))]) rfl ?_
  refine b_neT (tgt := 33) S dX4_kept_27 (by decide) (by decide) (by decide) ?_
  refine lv_iload_n hx hb dX4_kept_33 rfl (lv_at hl 3 rfl) ?_
  refine b_neF (tgt := 52) S dX4_kept_34 (by decide) (by decide) ?_
  refine lv_aload_n hx hb dX4_kept_37 rfl (lv_at hl 0 rfl) ?_
  refine w_get (C := RX4) (T := TX4) (Nf := 4) (ci := 4) (v := .ref w) S (fun _ h => List.mem_cons_of_mem _ (List.mem_append_left _ (List.mem_append_left _ (List.mem_append_right _ h)))) hE hP 0 rfl rfl 0 (by decide) (List.mem_of_getElem? (i := 1) rfl) rfl dX4_kept_38 ?_
  refine w_get (C := RX3) (T := TX3) (Nf := 8) (ci := 3) (v := .ref t) S (fun _ h => List.mem_cons_of_mem _ (List.mem_append_left _ (List.mem_append_right _ h))) hE hP 1 rfl rfl 6 (by decide) (List.mem_of_getElem? (i := 4) rfl) rfl dX4_kept_41 ?_
  refine lv_iload_n hx hb dX4_kept_44 rfl (lv_at hl 1 rfl) ?_
  refine lv_iload_n hx hb dX4_kept_45 rfl (lv_at hl 2 rfl) ?_
  refine kV_R (n := 2) (ci := 2) (q := (RX2, TX2, 2)) S (c_countOf lc D cI cZ N t tc ts cn sm nd bk (by omega) (by omega)) gX4_kept_X2_countOf rfl rfl (by decide +kernel) rfl rfl ⟨Nat.le_trans (Nat.le_of_ble_eq_true rfl) hfr, Nat.le_trans (Nat.le_of_ble_eq_true rfl) hlo⟩ hE hAN hP hD hS [5, 6, 7] rfl (by decide) rfl rfl rfl rfl hl.1 [] rfl (Nat.le_of_ble_eq_true rfl) dX4_kept_46 ⟨Nat.zero_le _, Nat.zero_le _⟩ ?_
  refine W.eq (g2 := F0 m 49 ls [.int (iI (cn (nd * 200 + bk)))]) rfl ?_
  refine lv_goto (tgt := 64) hx hb dX4_kept_49 (by decide) ?_
  exact hret _ _ _ dX4_kept_64 rfl
set_option maxHeartbeats 4000000 in
set_option maxRecDepth 100000 in
theorem c_kept_1 (lc : Launch) (D : va_G) (cI cZ : ClassId) (N : Nat) (o : Nat) (v2 : Nat) (v3 : Nat) (ik : Int) (w : Nat) (wc : Nat) (k : Nat) (kn : Nat) (t : Nat) (tc : Nat) (ts : Nat) (b : Nat) (bm : Nat) (br : Nat) (mn : Nat) (tA : Int) (sA : Int) (kA : Int) (ck : Nat → Int) (nb : Nat → Int) (cn : Nat → Int) (sm : Nat → Int) (mo : Nat → Int) (re : Nat → Int) (nd : Nat) (bk : Nat) (hmn : 2 ≤ mn ∧ mn ≤ 5) (h : nd < mn) (h2 : bk < 200) : CR lc D cI cZ N yX4_kept wsX4_kept (rmK 2 43) [.ref o, .int (iI (((nd : Nat) : Int))), .int (iI (((bk : Nat) : Int))), .int (iI (1))] [(o, .inr (4, [.ref w, .ref v2, .ref v3, .int (iI (ik))])), (w, .inr (3, [.int (iI (((mn : Nat) : Int))), .int (iI (tA)), .int (iI (sA)), .int (iI (kA)), .ref wc, .ref k, .ref t, .ref b])), (wc, .inl (cI, 5, .inl (vI ck))), (k, .inr (1, [.ref kn])), (kn, .inl (cI, 24, .inl (vI nb))), (t, .inr (2, [.ref tc, .ref ts])), (tc, .inl (cI, 1000, .inl (vI cn))), (ts, .inl (cI, 1000, .inl (vI sm))), (b, .inr (0, [.ref bm, .ref br])), (bm, .inl (cI, 25, .inl (vI mo))), (br, .inl (cI, 5, .inl (vI re)))] (some (.int (iI (sm (nd * 200 + bk))))) := by
  refine CR.I (cc := cX4_kept) (maxL := 4) (by decide) rfl (Nat.le_of_ble_eq_true rfl) ?_
  intro p e s m args below meth c R Q S hE A hAN hfr hlo hP hD hS hret ls hl
  have S : CallFix p m c cX4_kept 4 s args wsX4_kept RX4 := S
  have hx := S.1
  have hb := S.2.1
  have hl : lv_has ls 4 [(0, .ref o), (1, .int (iI (((nd : Nat) : Int)))), (2, .int (iI (((bk : Nat) : Int)))), (3, .int (iI (1)))] := hl
  refine lv_aload_n hx hb dX4_kept_0 rfl (lv_at hl 0 rfl) ?_
  refine w_get (C := RX4) (T := TX4) (Nf := 4) (ci := 4) (v := .ref w) S (fun _ h => List.mem_cons_of_mem _ (List.mem_append_left _ (List.mem_append_left _ (List.mem_append_right _ h)))) hE hP 0 rfl rfl 0 (by decide) (List.mem_of_getElem? (i := 1) rfl) rfl dX4_kept_1 ?_
  refine lv_iload_n hx hb dX4_kept_4 rfl (lv_at hl 1 rfl) ?_
  refine kV_R (n := 1) (ci := 3) (q := (RX3, TX3, 8)) S (c_hasNode_T lc D cI cZ N w wc k kn t tc ts b bm br mn tA sA kA ck nb cn sm mo re ((nd : Nat) : Int) (by omega) (by omega) (by omega)) gX4_kept_X3_hasNode rfl rfl (by decide +kernel) rfl rfl ⟨Nat.le_trans (Nat.le_of_ble_eq_true rfl) hfr, Nat.le_trans (Nat.le_of_ble_eq_true rfl) hlo⟩ hE hAN hP hD hS [1, 2, 3, 4, 5, 6, 7, 8, 9, 10] rfl (by decide) rfl rfl rfl rfl hl.1 [] rfl (Nat.le_of_ble_eq_true rfl) dX4_kept_5 ⟨Nat.zero_le _, Nat.zero_le _⟩ ?_
  refine W.eq (g2 := F0 m 8 ls [.int (iI (1))]) rfl ?_
  refine b_neT (tgt := 14) S dX4_kept_8 (by decide) (by decide) (by decide) ?_
  refine lv_iload_n hx hb dX4_kept_14 rfl (lv_at hl 2 rfl) ?_
  refine kS_R (n := 1) S (c_isBlock_T lc D cI cZ N ((bk : Nat) : Int) (by omega) (by omega)) gX4_kept_X4_isBlock rfl (by decide +kernel) rfl rfl ⟨Nat.le_trans (Nat.le_of_ble_eq_true rfl) hfr, Nat.le_trans (Nat.le_of_ble_eq_true rfl) hlo⟩ hE hAN hP hD hS [] rfl (by decide) rfl hl.1 [] rfl (Nat.le_of_ble_eq_true rfl) dX4_kept_15 ⟨Nat.zero_le _, Nat.zero_le _⟩ ?_
  refine W.eq (g2 := F0 m 18 ls [.int (iI (1))]) rfl ?_
  refine b_eqF (tgt := 30) S dX4_kept_18 (by decide) (by decide) (by decide) ?_
  refine lv_iload_n hx hb dX4_kept_21 rfl (lv_at hl 3 rfl) ?_
  refine lv_iconst (v := iI (0)) hx hb dX4_kept_22 rfl ?_
  refine lv_iconst (v := iI (1)) hx hb dX4_kept_23 rfl ?_
  refine kS_R (n := 3) S (c_within_T lc D cI cZ N 1 0 1 (by omega) (by omega) (by omega) (by omega)) gX4_kept_X4_within rfl (by decide +kernel) rfl rfl ⟨Nat.le_trans (Nat.le_of_ble_eq_true rfl) hfr, Nat.le_trans (Nat.le_of_ble_eq_true rfl) hlo⟩ hE hAN hP hD hS [] rfl (by decide) rfl hl.1 [] rfl (Nat.le_of_ble_eq_true rfl) dX4_kept_24 ⟨Nat.zero_le _, Nat.zero_le _⟩ ?_
  refine W.eq (g2 := F0 m 27 ls [.int (iI (1))]) rfl ?_
  refine b_neT (tgt := 33) S dX4_kept_27 (by decide) (by decide) (by decide) ?_
  refine lv_iload_n hx hb dX4_kept_33 rfl (lv_at hl 3 rfl) ?_
  refine b_neT (tgt := 52) S dX4_kept_34 (by decide) (by decide) (by decide) ?_
  refine lv_aload_n hx hb dX4_kept_52 rfl (lv_at hl 0 rfl) ?_
  refine w_get (C := RX4) (T := TX4) (Nf := 4) (ci := 4) (v := .ref w) S (fun _ h => List.mem_cons_of_mem _ (List.mem_append_left _ (List.mem_append_left _ (List.mem_append_right _ h)))) hE hP 0 rfl rfl 0 (by decide) (List.mem_of_getElem? (i := 1) rfl) rfl dX4_kept_53 ?_
  refine w_get (C := RX3) (T := TX3) (Nf := 8) (ci := 3) (v := .ref t) S (fun _ h => List.mem_cons_of_mem _ (List.mem_append_left _ (List.mem_append_right _ h))) hE hP 1 rfl rfl 6 (by decide) (List.mem_of_getElem? (i := 4) rfl) rfl dX4_kept_56 ?_
  refine lv_iload_n hx hb dX4_kept_59 rfl (lv_at hl 1 rfl) ?_
  refine lv_iload_n hx hb dX4_kept_60 rfl (lv_at hl 2 rfl) ?_
  refine kV_R (n := 2) (ci := 2) (q := (RX2, TX2, 2)) S (c_sumOf lc D cI cZ N t tc ts cn sm nd bk (by omega) (by omega)) gX4_kept_X2_sumOf rfl rfl (by decide +kernel) rfl rfl ⟨Nat.le_trans (Nat.le_of_ble_eq_true rfl) hfr, Nat.le_trans (Nat.le_of_ble_eq_true rfl) hlo⟩ hE hAN hP hD hS [5, 6, 7] rfl (by decide) rfl rfl rfl rfl hl.1 [] rfl (Nat.le_of_ble_eq_true rfl) dX4_kept_61 ⟨Nat.zero_le _, Nat.zero_le _⟩ ?_
  refine W.eq (g2 := F0 m 64 ls [.int (iI (sm (nd * 200 + bk)))]) rfl ?_
  exact hret _ _ _ dX4_kept_64 rfl
set_option maxHeartbeats 4000000 in
set_option maxRecDepth 100000 in
theorem c_lost_U (lc : Launch) (D : va_G) (cI cZ : ClassId) (N : Nat) (o : Nat) (v2 : Nat) (v3 : Nat) (ik : Int) (w : Nat) (wc : Nat) (k : Nat) (kn : Nat) (t : Nat) (tc : Nat) (ts : Nat) (b : Nat) (bm : Nat) (br : Nat) (mn : Nat) (tA : Int) (sA : Int) (kA : Int) (ck : Nat → Int) (nb : Nat → Int) (cn : Nat → Int) (sm : Nat → Int) (mo : Nat → Int) (re : Nat → Int) (x : Int) (y : Int) (hmn : 2 ≤ mn ∧ mn ≤ 5) (r_x : -2147483648 ≤ x ∧ x ≤ 2147483647) (h : ¬ (0 ≤ x ∧ x ≤ (mn : Int) - 2)) : CR lc D cI cZ N yX4_lost wsX4_lost (rmK 4 89) [.ref o, .int (iI (x)), .int (iI (y))] [(o, .inr (4, [.ref w, .ref v2, .ref v3, .int (iI (ik))])), (w, .inr (3, [.int (iI (((mn : Nat) : Int))), .int (iI (tA)), .int (iI (sA)), .int (iI (kA)), .ref wc, .ref k, .ref t, .ref b])), (wc, .inl (cI, 5, .inl (vI ck))), (k, .inr (1, [.ref kn])), (kn, .inl (cI, 24, .inl (vI nb))), (t, .inr (2, [.ref tc, .ref ts])), (tc, .inl (cI, 1000, .inl (vI cn))), (ts, .inl (cI, 1000, .inl (vI sm))), (b, .inr (0, [.ref bm, .ref br])), (bm, .inl (cI, 25, .inl (vI mo))), (br, .inl (cI, 5, .inl (vI re)))] (some (.int (iI (-1)))) := by
  refine CR.I (cc := cX4_lost) (maxL := 3) (by decide) rfl (Nat.le_of_ble_eq_true rfl) ?_
  intro p e s m args below meth c R Q S hE A hAN hfr hlo hP hD hS hret ls hl
  have S : CallFix p m c cX4_lost 3 s args wsX4_lost RX4 := S
  have hx := S.1
  have hb := S.2.1
  have hl : lv_has ls 3 [(0, .ref o), (1, .int (iI (x))), (2, .int (iI (y)))] := hl
  refine lv_aload_n hx hb dX4_lost_0 rfl (lv_at hl 0 rfl) ?_
  refine w_get (C := RX4) (T := TX4) (Nf := 4) (ci := 4) (v := .ref w) S (fun _ h => List.mem_cons_of_mem _ (List.mem_append_left _ (List.mem_append_left _ (List.mem_append_right _ h)))) hE hP 0 rfl rfl 0 (by decide) (List.mem_of_getElem? (i := 1) rfl) rfl dX4_lost_1 ?_
  refine lv_iload_n hx hb dX4_lost_4 rfl (lv_at hl 1 rfl) ?_
  refine kV_R (n := 1) (ci := 3) (q := (RX3, TX3, 8)) S (c_hasLink_F lc D cI cZ N w wc k kn t tc ts b bm br mn tA sA kA ck nb cn sm mo re x (by omega) (by omega) (by omega)) gX4_lost_X3_hasLink rfl rfl (by decide +kernel) rfl rfl ⟨Nat.le_trans (Nat.le_of_ble_eq_true rfl) hfr, Nat.le_trans (Nat.le_of_ble_eq_true rfl) hlo⟩ hE hAN hP hD hS [1, 2, 3, 4, 5, 6, 7, 8, 9, 10] rfl (by decide) rfl rfl rfl rfl hl.1 [] rfl (Nat.le_of_ble_eq_true rfl) dX4_lost_5 ⟨Nat.zero_le _, Nat.zero_le _⟩ ?_
  refine W.eq (g2 := F0 m 8 ls [.int (iI (0))]) rfl ?_
  refine b_neF (tgt := 13) S dX4_lost_8 (by decide) (by decide) ?_
  refine lv_iconst (v := iI ((-1))) hx hb dX4_lost_11 rfl ?_
  exact hret _ _ _ dX4_lost_12 (congrArg iI (by omega))
set_option maxHeartbeats 4000000 in
set_option maxRecDepth 100000 in
theorem c_lost_O (lc : Launch) (D : va_G) (cI cZ : ClassId) (N : Nat) (o : Nat) (v2 : Nat) (v3 : Nat) (ik : Int) (w : Nat) (wc : Nat) (k : Nat) (kn : Nat) (t : Nat) (tc : Nat) (ts : Nat) (b : Nat) (bm : Nat) (br : Nat) (mn : Nat) (tA : Int) (sA : Int) (kA : Int) (ck : Nat → Int) (nb : Nat → Int) (cn : Nat → Int) (sm : Nat → Int) (mo : Nat → Int) (re : Nat → Int) (x : Int) (y : Int) (hmn : 2 ≤ mn ∧ mn ≤ 5) (r_x : -2147483648 ≤ x ∧ x ≤ 2147483647) (r_y : -2147483648 ≤ y ∧ y ≤ 2147483647) (h : (0 ≤ x ∧ x ≤ (mn : Int) - 2)) (h2 : ¬ (-1 ≤ y ∧ y ≤ 199)) : CR lc D cI cZ N yX4_lost wsX4_lost (rmK 4 89) [.ref o, .int (iI (x)), .int (iI (y))] [(o, .inr (4, [.ref w, .ref v2, .ref v3, .int (iI (ik))])), (w, .inr (3, [.int (iI (((mn : Nat) : Int))), .int (iI (tA)), .int (iI (sA)), .int (iI (kA)), .ref wc, .ref k, .ref t, .ref b])), (wc, .inl (cI, 5, .inl (vI ck))), (k, .inr (1, [.ref kn])), (kn, .inl (cI, 24, .inl (vI nb))), (t, .inr (2, [.ref tc, .ref ts])), (tc, .inl (cI, 1000, .inl (vI cn))), (ts, .inl (cI, 1000, .inl (vI sm))), (b, .inr (0, [.ref bm, .ref br])), (bm, .inl (cI, 25, .inl (vI mo))), (br, .inl (cI, 5, .inl (vI re)))] (some (.int (iI (-2)))) := by
  refine CR.I (cc := cX4_lost) (maxL := 3) (by decide) rfl (Nat.le_of_ble_eq_true rfl) ?_
  intro p e s m args below meth c R Q S hE A hAN hfr hlo hP hD hS hret ls hl
  have S : CallFix p m c cX4_lost 3 s args wsX4_lost RX4 := S
  have hx := S.1
  have hb := S.2.1
  have hl : lv_has ls 3 [(0, .ref o), (1, .int (iI (x))), (2, .int (iI (y)))] := hl
  refine lv_aload_n hx hb dX4_lost_0 rfl (lv_at hl 0 rfl) ?_
  refine w_get (C := RX4) (T := TX4) (Nf := 4) (ci := 4) (v := .ref w) S (fun _ h => List.mem_cons_of_mem _ (List.mem_append_left _ (List.mem_append_left _ (List.mem_append_right _ h)))) hE hP 0 rfl rfl 0 (by decide) (List.mem_of_getElem? (i := 1) rfl) rfl dX4_lost_1 ?_
  refine lv_iload_n hx hb dX4_lost_4 rfl (lv_at hl 1 rfl) ?_
  refine kV_R (n := 1) (ci := 3) (q := (RX3, TX3, 8)) S (c_hasLink_T lc D cI cZ N w wc k kn t tc ts b bm br mn tA sA kA ck nb cn sm mo re x (by omega) (by omega) (by omega)) gX4_lost_X3_hasLink rfl rfl (by decide +kernel) rfl rfl ⟨Nat.le_trans (Nat.le_of_ble_eq_true rfl) hfr, Nat.le_trans (Nat.le_of_ble_eq_true rfl) hlo⟩ hE hAN hP hD hS [1, 2, 3, 4, 5, 6, 7, 8, 9, 10] rfl (by decide) rfl rfl rfl rfl hl.1 [] rfl (Nat.le_of_ble_eq_true rfl) dX4_lost_5 ⟨Nat.zero_le _, Nat.zero_le _⟩ ?_
  refine W.eq (g2 := F0 m 8 ls [.int (iI (1))]) rfl ?_
  refine b_neT (tgt := 13) S dX4_lost_8 (by decide) (by decide) (by decide) ?_
  refine lv_iload_n hx hb dX4_lost_13 rfl (lv_at hl 2 rfl) ?_
  refine lv_iconst (v := iI ((-1))) hx hb dX4_lost_14 rfl ?_
  refine c_eqF (tgt := 28) S dX4_lost_15 (by decide) (by omega) (by omega) (by omega) ?_
  refine lv_iload_n hx hb dX4_lost_18 rfl (lv_at hl 2 rfl) ?_
  refine kS_R (n := 1) S (c_isBlock_F lc D cI cZ N y (by omega) (by omega)) gX4_lost_X4_isBlock rfl (by decide +kernel) rfl rfl ⟨Nat.le_trans (Nat.le_of_ble_eq_true rfl) hfr, Nat.le_trans (Nat.le_of_ble_eq_true rfl) hlo⟩ hE hAN hP hD hS [] rfl (by decide) rfl hl.1 [] rfl (Nat.le_of_ble_eq_true rfl) dX4_lost_19 ⟨Nat.zero_le _, Nat.zero_le _⟩ ?_
  refine W.eq (g2 := F0 m 22 ls [.int (iI (0))]) rfl ?_
  refine b_neF (tgt := 28) S dX4_lost_22 (by decide) (by decide) ?_
  refine lv_bipush (v := iI ((-2))) hx hb dX4_lost_25 (by decide) ?_
  exact hret _ _ _ dX4_lost_27 (congrArg iI (by omega))
set_option maxHeartbeats 4000000 in
set_option maxRecDepth 100000 in
theorem c_lost_A (lc : Launch) (D : va_G) (cI cZ : ClassId) (N : Nat) (o : Nat) (v2 : Nat) (v3 : Nat) (ik : Int) (w : Nat) (wc : Nat) (k : Nat) (kn : Nat) (t : Nat) (tc : Nat) (ts : Nat) (b : Nat) (bm : Nat) (br : Nat) (mn : Nat) (tA : Int) (sA : Int) (kA : Int) (ck : Nat → Int) (nb : Nat → Int) (cn : Nat → Int) (sm : Nat → Int) (mo : Nat → Int) (re : Nat → Int) (lk : Nat) (hmn : 2 ≤ mn ∧ mn ≤ 5) (h : lk + 2 ≤ mn) : CR lc D cI cZ N yX4_lost wsX4_lost (rmK 4 89) [.ref o, .int (iI (((lk : Nat) : Int))), .int (iI ((-1)))] [(o, .inr (4, [.ref w, .ref v2, .ref v3, .int (iI (ik))])), (w, .inr (3, [.int (iI (((mn : Nat) : Int))), .int (iI (tA)), .int (iI (sA)), .int (iI (kA)), .ref wc, .ref k, .ref t, .ref b])), (wc, .inl (cI, 5, .inl (vI ck))), (k, .inr (1, [.ref kn])), (kn, .inl (cI, 24, .inl (vI nb))), (t, .inr (2, [.ref tc, .ref ts])), (tc, .inl (cI, 1000, .inl (vI cn))), (ts, .inl (cI, 1000, .inl (vI sm))), (b, .inr (0, [.ref bm, .ref br])), (bm, .inl (cI, 25, .inl (vI mo))), (br, .inl (cI, 5, .inl (vI re)))] (some (.int (iI (sumTo (fun b => cn (lk * 200 + b) - cn ((lk + 1) * 200 + b)) 200)))) := by
  refine CR.I (cc := cX4_lost) (maxL := 3) (by decide) rfl (Nat.le_of_ble_eq_true rfl) ?_
  intro p e s m args below meth c R Q S hE A hAN hfr hlo hP hD hS hret ls hl
  have S : CallFix p m c cX4_lost 3 s args wsX4_lost RX4 := S
  have hx := S.1
  have hb := S.2.1
  have hl : lv_has ls 3 [(0, .ref o), (1, .int (iI (((lk : Nat) : Int)))), (2, .int (iI ((-1))))] := hl
  refine lv_aload_n hx hb dX4_lost_0 rfl (lv_at hl 0 rfl) ?_
  refine w_get (C := RX4) (T := TX4) (Nf := 4) (ci := 4) (v := .ref w) S (fun _ h => List.mem_cons_of_mem _ (List.mem_append_left _ (List.mem_append_left _ (List.mem_append_right _ h)))) hE hP 0 rfl rfl 0 (by decide) (List.mem_of_getElem? (i := 1) rfl) rfl dX4_lost_1 ?_
  refine lv_iload_n hx hb dX4_lost_4 rfl (lv_at hl 1 rfl) ?_
  refine kV_R (n := 1) (ci := 3) (q := (RX3, TX3, 8)) S (c_hasLink_T lc D cI cZ N w wc k kn t tc ts b bm br mn tA sA kA ck nb cn sm mo re ((lk : Nat) : Int) (by omega) (by omega) (by omega)) gX4_lost_X3_hasLink rfl rfl (by decide +kernel) rfl rfl ⟨Nat.le_trans (Nat.le_of_ble_eq_true rfl) hfr, Nat.le_trans (Nat.le_of_ble_eq_true rfl) hlo⟩ hE hAN hP hD hS [1, 2, 3, 4, 5, 6, 7, 8, 9, 10] rfl (by decide) rfl rfl rfl rfl hl.1 [] rfl (Nat.le_of_ble_eq_true rfl) dX4_lost_5 ⟨Nat.zero_le _, Nat.zero_le _⟩ ?_
  refine W.eq (g2 := F0 m 8 ls [.int (iI (1))]) rfl ?_
  refine b_neT (tgt := 13) S dX4_lost_8 (by decide) (by decide) (by decide) ?_
  refine lv_iload_n hx hb dX4_lost_13 rfl (lv_at hl 2 rfl) ?_
  refine lv_iconst (v := iI ((-1))) hx hb dX4_lost_14 rfl ?_
  refine c_eqT (tgt := 28) S dX4_lost_15 (by decide) (by decide) ?_
  refine lv_iload_n hx hb dX4_lost_28 rfl (lv_at hl 2 rfl) ?_
  refine lv_iconst (v := iI ((-1))) hx hb dX4_lost_29 rfl ?_
  refine c_neF (tgt := 47) S dX4_lost_30 (by decide) (by decide) ?_
  refine lv_aload_n hx hb dX4_lost_33 rfl (lv_at hl 0 rfl) ?_
  refine w_get (C := RX4) (T := TX4) (Nf := 4) (ci := 4) (v := .ref w) S (fun _ h => List.mem_cons_of_mem _ (List.mem_append_left _ (List.mem_append_left _ (List.mem_append_right _ h)))) hE hP 0 rfl rfl 0 (by decide) (List.mem_of_getElem? (i := 1) rfl) rfl dX4_lost_34 ?_
  refine w_get (C := RX3) (T := TX3) (Nf := 8) (ci := 3) (v := .ref t) S (fun _ h => List.mem_cons_of_mem _ (List.mem_append_left _ (List.mem_append_right _ h))) hE hP 1 rfl rfl 6 (by decide) (List.mem_of_getElem? (i := 2) rfl) rfl dX4_lost_37 ?_
  refine lv_iload_n hx hb dX4_lost_40 rfl (lv_at hl 1 rfl) ?_
  refine kV_R (n := 1) (ci := 2) (q := (RX2, TX2, 2)) S (c_lostOfAll lc D cI cZ N t tc ts cn sm lk (by omega)) gX4_lost_X2_lostOfAll rfl rfl (by decide +kernel) rfl rfl ⟨Nat.le_trans (Nat.le_of_ble_eq_true rfl) hfr, Nat.le_trans (Nat.le_of_ble_eq_true rfl) hlo⟩ hE hAN hP hD hS [5, 6, 7] rfl (by decide) rfl rfl rfl rfl hl.1 [] rfl (Nat.le_of_ble_eq_true rfl) dX4_lost_41 ⟨Nat.zero_le _, Nat.zero_le _⟩ ?_
  refine W.eq (g2 := F0 m 44 ls [.int (iI (sumTo (fun b => cn (lk * 200 + b) - cn ((lk + 1) * 200 + b)) 200))]) rfl ?_
  refine lv_goto (tgt := 62) hx hb dX4_lost_44 (by decide) ?_
  exact hret _ _ _ dX4_lost_62 rfl
set_option maxHeartbeats 4000000 in
set_option maxRecDepth 100000 in
theorem c_lost_1 (lc : Launch) (D : va_G) (cI cZ : ClassId) (N : Nat) (o : Nat) (v2 : Nat) (v3 : Nat) (ik : Int) (w : Nat) (wc : Nat) (k : Nat) (kn : Nat) (t : Nat) (tc : Nat) (ts : Nat) (b : Nat) (bm : Nat) (br : Nat) (mn : Nat) (tA : Int) (sA : Int) (kA : Int) (ck : Nat → Int) (nb : Nat → Int) (cn : Nat → Int) (sm : Nat → Int) (mo : Nat → Int) (re : Nat → Int) (lk : Nat) (bk : Nat) (hmn : 2 ≤ mn ∧ mn ≤ 5) (h : lk + 2 ≤ mn) (h2 : bk < 200) : CR lc D cI cZ N yX4_lost wsX4_lost (rmK 4 89) [.ref o, .int (iI (((lk : Nat) : Int))), .int (iI (((bk : Nat) : Int)))] [(o, .inr (4, [.ref w, .ref v2, .ref v3, .int (iI (ik))])), (w, .inr (3, [.int (iI (((mn : Nat) : Int))), .int (iI (tA)), .int (iI (sA)), .int (iI (kA)), .ref wc, .ref k, .ref t, .ref b])), (wc, .inl (cI, 5, .inl (vI ck))), (k, .inr (1, [.ref kn])), (kn, .inl (cI, 24, .inl (vI nb))), (t, .inr (2, [.ref tc, .ref ts])), (tc, .inl (cI, 1000, .inl (vI cn))), (ts, .inl (cI, 1000, .inl (vI sm))), (b, .inr (0, [.ref bm, .ref br])), (bm, .inl (cI, 25, .inl (vI mo))), (br, .inl (cI, 5, .inl (vI re)))] (some (.int (iI (cn (lk * 200 + bk) - cn ((lk + 1) * 200 + bk))))) := by
  refine CR.I (cc := cX4_lost) (maxL := 3) (by decide) rfl (Nat.le_of_ble_eq_true rfl) ?_
  intro p e s m args below meth c R Q S hE A hAN hfr hlo hP hD hS hret ls hl
  have S : CallFix p m c cX4_lost 3 s args wsX4_lost RX4 := S
  have hx := S.1
  have hb := S.2.1
  have hl : lv_has ls 3 [(0, .ref o), (1, .int (iI (((lk : Nat) : Int)))), (2, .int (iI (((bk : Nat) : Int))))] := hl
  refine lv_aload_n hx hb dX4_lost_0 rfl (lv_at hl 0 rfl) ?_
  refine w_get (C := RX4) (T := TX4) (Nf := 4) (ci := 4) (v := .ref w) S (fun _ h => List.mem_cons_of_mem _ (List.mem_append_left _ (List.mem_append_left _ (List.mem_append_right _ h)))) hE hP 0 rfl rfl 0 (by decide) (List.mem_of_getElem? (i := 1) rfl) rfl dX4_lost_1 ?_
  refine lv_iload_n hx hb dX4_lost_4 rfl (lv_at hl 1 rfl) ?_
  refine kV_R (n := 1) (ci := 3) (q := (RX3, TX3, 8)) S (c_hasLink_T lc D cI cZ N w wc k kn t tc ts b bm br mn tA sA kA ck nb cn sm mo re ((lk : Nat) : Int) (by omega) (by omega) (by omega)) gX4_lost_X3_hasLink rfl rfl (by decide +kernel) rfl rfl ⟨Nat.le_trans (Nat.le_of_ble_eq_true rfl) hfr, Nat.le_trans (Nat.le_of_ble_eq_true rfl) hlo⟩ hE hAN hP hD hS [1, 2, 3, 4, 5, 6, 7, 8, 9, 10] rfl (by decide) rfl rfl rfl rfl hl.1 [] rfl (Nat.le_of_ble_eq_true rfl) dX4_lost_5 ⟨Nat.zero_le _, Nat.zero_le _⟩ ?_
  refine W.eq (g2 := F0 m 8 ls [.int (iI (1))]) rfl ?_
  refine b_neT (tgt := 13) S dX4_lost_8 (by decide) (by decide) (by decide) ?_
  refine lv_iload_n hx hb dX4_lost_13 rfl (lv_at hl 2 rfl) ?_
  refine lv_iconst (v := iI ((-1))) hx hb dX4_lost_14 rfl ?_
  refine c_eqF (tgt := 28) S dX4_lost_15 (by decide) (by omega) (by omega) (by omega) ?_
  refine lv_iload_n hx hb dX4_lost_18 rfl (lv_at hl 2 rfl) ?_
  refine kS_R (n := 1) S (c_isBlock_T lc D cI cZ N ((bk : Nat) : Int) (by omega) (by omega)) gX4_lost_X4_isBlock rfl (by decide +kernel) rfl rfl ⟨Nat.le_trans (Nat.le_of_ble_eq_true rfl) hfr, Nat.le_trans (Nat.le_of_ble_eq_true rfl) hlo⟩ hE hAN hP hD hS [] rfl (by decide) rfl hl.1 [] rfl (Nat.le_of_ble_eq_true rfl) dX4_lost_19 ⟨Nat.zero_le _, Nat.zero_le _⟩ ?_
  refine W.eq (g2 := F0 m 22 ls [.int (iI (1))]) rfl ?_
  refine b_neT (tgt := 28) S dX4_lost_22 (by decide) (by decide) (by decide) ?_
  refine lv_iload_n hx hb dX4_lost_28 rfl (lv_at hl 2 rfl) ?_
  refine lv_iconst (v := iI ((-1))) hx hb dX4_lost_29 rfl ?_
  refine c_neT (tgt := 47) S dX4_lost_30 (by decide) (by omega) (by omega) (by omega) ?_
  refine lv_aload_n hx hb dX4_lost_47 rfl (lv_at hl 0 rfl) ?_
  refine w_get (C := RX4) (T := TX4) (Nf := 4) (ci := 4) (v := .ref w) S (fun _ h => List.mem_cons_of_mem _ (List.mem_append_left _ (List.mem_append_left _ (List.mem_append_right _ h)))) hE hP 0 rfl rfl 0 (by decide) (List.mem_of_getElem? (i := 1) rfl) rfl dX4_lost_48 ?_
  refine w_get (C := RX3) (T := TX3) (Nf := 8) (ci := 3) (v := .ref t) S (fun _ h => List.mem_cons_of_mem _ (List.mem_append_left _ (List.mem_append_right _ h))) hE hP 1 rfl rfl 6 (by decide) (List.mem_of_getElem? (i := 2) rfl) rfl dX4_lost_51 ?_
  refine lv_iload_n hx hb dX4_lost_54 rfl (lv_at hl 1 rfl) ?_
  refine lv_iload_n hx hb dX4_lost_55 rfl (lv_at hl 1 rfl) ?_
  refine lv_iconst (v := iI (1)) hx hb dX4_lost_56 rfl ?_
  refine w_iadd S dX4_lost_57 ?_
  refine lv_iload_n hx hb dX4_lost_58 rfl (lv_at hl 2 rfl) ?_
  refine kV_R (n := 3) (ci := 2) (q := (RX2, TX2, 2)) S (c_lostBetween lc D cI cZ N t tc ts cn sm lk (lk + 1) bk (by omega) (by omega) (by omega)) gX4_lost_X2_lostBetween rfl rfl (by decide +kernel) rfl rfl ⟨Nat.le_trans (Nat.le_of_ble_eq_true rfl) hfr, Nat.le_trans (Nat.le_of_ble_eq_true rfl) hlo⟩ hE hAN hP hD hS [5, 6, 7] rfl (by decide) rfl rfl rfl rfl hl.1 [] rfl (Nat.le_of_ble_eq_true rfl) dX4_lost_59 ⟨Nat.zero_le _, Nat.zero_le _⟩ ?_
  refine W.eq (g2 := F0 m 62 ls [.int (iI (cn (lk * 200 + bk) - cn ((lk + 1) * 200 + bk)))]) rfl ?_
  exact hret _ _ _ dX4_lost_62 rfl
set_option maxHeartbeats 4000000 in
set_option maxRecDepth 100000 in
theorem c_pair_U (lc : Launch) (D : va_G) (cI cZ : ClassId) (N : Nat) (o : Nat) (v2 : Nat) (v3 : Nat) (ik : Int) (w : Nat) (wc : Nat) (k : Nat) (kn : Nat) (t : Nat) (tc : Nat) (ts : Nat) (b : Nat) (bm : Nat) (br : Nat) (mn : Nat) (tA : Int) (sA : Int) (kA : Int) (ck : Nat → Int) (nb : Nat → Int) (cn : Nat → Int) (sm : Nat → Int) (mo : Nat → Int) (re : Nat → Int) (x : Int) (y : Int) (hmn : 2 ≤ mn ∧ mn ≤ 5) (r_x : -2147483648 ≤ x ∧ x ≤ 2147483647) (r_y : -2147483648 ≤ y ∧ y ≤ 2147483647) (h : ¬ ((0 ≤ x ∧ x ≤ (mn : Int) - 1) ∧ (0 ≤ y ∧ y ≤ (mn : Int) - 1))) : CR lc D cI cZ N yX4_pairRefusal wsX4_pairRefusal (rmK 2 43) [.ref o, .int (iI (x)), .int (iI (y))] [(o, .inr (4, [.ref w, .ref v2, .ref v3, .int (iI (ik))])), (w, .inr (3, [.int (iI (((mn : Nat) : Int))), .int (iI (tA)), .int (iI (sA)), .int (iI (kA)), .ref wc, .ref k, .ref t, .ref b])), (wc, .inl (cI, 5, .inl (vI ck))), (k, .inr (1, [.ref kn])), (kn, .inl (cI, 24, .inl (vI nb))), (t, .inr (2, [.ref tc, .ref ts])), (tc, .inl (cI, 1000, .inl (vI cn))), (ts, .inl (cI, 1000, .inl (vI sm))), (b, .inr (0, [.ref bm, .ref br])), (bm, .inl (cI, 25, .inl (vI mo))), (br, .inl (cI, 5, .inl (vI re)))] (some (.int (iI (-1)))) := by
  refine CR.I (cc := cX4_pairRefusal) (maxL := 3) (by decide) rfl (Nat.le_of_ble_eq_true rfl) ?_
  intro p e s m args below meth c R Q S hE A hAN hfr hlo hP hD hS hret ls hl
  have S : CallFix p m c cX4_pairRefusal 3 s args wsX4_pairRefusal RX4 := S
  have hx := S.1
  have hb := S.2.1
  have hl : lv_has ls 3 [(0, .ref o), (1, .int (iI (x))), (2, .int (iI (y)))] := hl
  by_cases h3 : (0 ≤ x ∧ x ≤ (mn : Int) - 1)
  · refine lv_aload_n hx hb dX4_pairRefusal_0 rfl (lv_at hl 0 rfl) ?_
    refine w_get (C := RX4) (T := TX4) (Nf := 4) (ci := 4) (v := .ref w) S (fun _ h => List.mem_cons_of_mem _ (List.mem_append_left _ (List.mem_append_right _ h))) hE hP 0 rfl rfl 0 (by decide) (List.mem_of_getElem? (i := 1) rfl) rfl dX4_pairRefusal_1 ?_
    refine lv_iload_n hx hb dX4_pairRefusal_4 rfl (lv_at hl 1 rfl) ?_
    refine kV_R (n := 1) (ci := 3) (q := (RX3, TX3, 8)) S (c_hasNode_T lc D cI cZ N w wc k kn t tc ts b bm br mn tA sA kA ck nb cn sm mo re x (by omega) (by omega) (by omega)) gX4_pairRefusal_X3_hasNode rfl rfl (by decide +kernel) rfl rfl ⟨Nat.le_trans (Nat.le_of_ble_eq_true rfl) hfr, Nat.le_trans (Nat.le_of_ble_eq_true rfl) hlo⟩ hE hAN hP hD hS [1, 2, 3, 4, 5, 6, 7, 8, 9, 10] rfl (by decide) rfl rfl rfl rfl hl.1 [] rfl (Nat.le_of_ble_eq_true rfl) dX4_pairRefusal_5 ⟨Nat.zero_le _, Nat.zero_le _⟩ ?_
    refine W.eq (g2 := F0 m 8 ls [.int (iI (1))]) rfl ?_
    refine b_eqF (tgt := 22) S dX4_pairRefusal_8 (by decide) (by decide) (by decide) ?_
    refine lv_aload_n hx hb dX4_pairRefusal_11 rfl (lv_at hl 0 rfl) ?_
    refine w_get (C := RX4) (T := TX4) (Nf := 4) (ci := 4) (v := .ref w) S (fun _ h => List.mem_cons_of_mem _ (List.mem_append_left _ (List.mem_append_right _ h))) hE hP 0 rfl rfl 0 (by decide) (List.mem_of_getElem? (i := 1) rfl) rfl dX4_pairRefusal_12 ?_
    refine lv_iload_n hx hb dX4_pairRefusal_15 rfl (lv_at hl 2 rfl) ?_
    refine kV_R (n := 1) (ci := 3) (q := (RX3, TX3, 8)) S (c_hasNode_F lc D cI cZ N w wc k kn t tc ts b bm br mn tA sA kA ck nb cn sm mo re y (by omega) (by omega) (by omega)) gX4_pairRefusal_X3_hasNode rfl rfl (by decide +kernel) rfl rfl ⟨Nat.le_trans (Nat.le_of_ble_eq_true rfl) hfr, Nat.le_trans (Nat.le_of_ble_eq_true rfl) hlo⟩ hE hAN hP hD hS [1, 2, 3, 4, 5, 6, 7, 8, 9, 10] rfl (by decide) rfl rfl rfl rfl hl.1 [] rfl (Nat.le_of_ble_eq_true rfl) dX4_pairRefusal_16 ⟨Nat.zero_le _, Nat.zero_le _⟩ ?_
    refine W.eq (g2 := F0 m 19 ls [.int (iI (0))]) rfl ?_
    refine b_neF (tgt := 24) S dX4_pairRefusal_19 (by decide) (by decide) ?_
    refine lv_iconst (v := iI ((-1))) hx hb dX4_pairRefusal_22 rfl ?_
    exact hret _ _ _ dX4_pairRefusal_23 (congrArg iI (by omega))
  · refine lv_aload_n hx hb dX4_pairRefusal_0 rfl (lv_at hl 0 rfl) ?_
    refine w_get (C := RX4) (T := TX4) (Nf := 4) (ci := 4) (v := .ref w) S (fun _ h => List.mem_cons_of_mem _ (List.mem_append_left _ (List.mem_append_right _ h))) hE hP 0 rfl rfl 0 (by decide) (List.mem_of_getElem? (i := 1) rfl) rfl dX4_pairRefusal_1 ?_
    refine lv_iload_n hx hb dX4_pairRefusal_4 rfl (lv_at hl 1 rfl) ?_
    refine kV_R (n := 1) (ci := 3) (q := (RX3, TX3, 8)) S (c_hasNode_F lc D cI cZ N w wc k kn t tc ts b bm br mn tA sA kA ck nb cn sm mo re x (by omega) (by omega) (by omega)) gX4_pairRefusal_X3_hasNode rfl rfl (by decide +kernel) rfl rfl ⟨Nat.le_trans (Nat.le_of_ble_eq_true rfl) hfr, Nat.le_trans (Nat.le_of_ble_eq_true rfl) hlo⟩ hE hAN hP hD hS [1, 2, 3, 4, 5, 6, 7, 8, 9, 10] rfl (by decide) rfl rfl rfl rfl hl.1 [] rfl (Nat.le_of_ble_eq_true rfl) dX4_pairRefusal_5 ⟨Nat.zero_le _, Nat.zero_le _⟩ ?_
    refine W.eq (g2 := F0 m 8 ls [.int (iI (0))]) rfl ?_
    refine b_eqT (tgt := 22) S dX4_pairRefusal_8 (by decide) (by decide) ?_
    refine lv_iconst (v := iI ((-1))) hx hb dX4_pairRefusal_22 rfl ?_
    exact hret _ _ _ dX4_pairRefusal_23 (congrArg iI (by omega))
set_option maxHeartbeats 4000000 in
set_option maxRecDepth 100000 in
theorem c_pair_O (lc : Launch) (D : va_G) (cI cZ : ClassId) (N : Nat) (o : Nat) (v2 : Nat) (v3 : Nat) (ik : Int) (w : Nat) (wc : Nat) (k : Nat) (kn : Nat) (t : Nat) (tc : Nat) (ts : Nat) (b : Nat) (bm : Nat) (br : Nat) (mn : Nat) (tA : Int) (sA : Int) (kA : Int) (ck : Nat → Int) (nb : Nat → Int) (cn : Nat → Int) (sm : Nat → Int) (mo : Nat → Int) (re : Nat → Int) (x : Int) (y : Int) (hmn : 2 ≤ mn ∧ mn ≤ 5) (r_x : -2147483648 ≤ x ∧ x ≤ 2147483647) (r_y : -2147483648 ≤ y ∧ y ≤ 2147483647) (h1 : (0 ≤ x ∧ x ≤ (mn : Int) - 1)) (h2 : (0 ≤ y ∧ y ≤ (mn : Int) - 1)) (h : y ≤ x) : CR lc D cI cZ N yX4_pairRefusal wsX4_pairRefusal (rmK 2 43) [.ref o, .int (iI (x)), .int (iI (y))] [(o, .inr (4, [.ref w, .ref v2, .ref v3, .int (iI (ik))])), (w, .inr (3, [.int (iI (((mn : Nat) : Int))), .int (iI (tA)), .int (iI (sA)), .int (iI (kA)), .ref wc, .ref k, .ref t, .ref b])), (wc, .inl (cI, 5, .inl (vI ck))), (k, .inr (1, [.ref kn])), (kn, .inl (cI, 24, .inl (vI nb))), (t, .inr (2, [.ref tc, .ref ts])), (tc, .inl (cI, 1000, .inl (vI cn))), (ts, .inl (cI, 1000, .inl (vI sm))), (b, .inr (0, [.ref bm, .ref br])), (bm, .inl (cI, 25, .inl (vI mo))), (br, .inl (cI, 5, .inl (vI re)))] (some (.int (iI (-2)))) := by
  refine CR.I (cc := cX4_pairRefusal) (maxL := 3) (by decide) rfl (Nat.le_of_ble_eq_true rfl) ?_
  intro p e s m args below meth c R Q S hE A hAN hfr hlo hP hD hS hret ls hl
  have S : CallFix p m c cX4_pairRefusal 3 s args wsX4_pairRefusal RX4 := S
  have hx := S.1
  have hb := S.2.1
  have hl : lv_has ls 3 [(0, .ref o), (1, .int (iI (x))), (2, .int (iI (y)))] := hl
  refine lv_aload_n hx hb dX4_pairRefusal_0 rfl (lv_at hl 0 rfl) ?_
  refine w_get (C := RX4) (T := TX4) (Nf := 4) (ci := 4) (v := .ref w) S (fun _ h => List.mem_cons_of_mem _ (List.mem_append_left _ (List.mem_append_right _ h))) hE hP 0 rfl rfl 0 (by decide) (List.mem_of_getElem? (i := 1) rfl) rfl dX4_pairRefusal_1 ?_
  refine lv_iload_n hx hb dX4_pairRefusal_4 rfl (lv_at hl 1 rfl) ?_
  refine kV_R (n := 1) (ci := 3) (q := (RX3, TX3, 8)) S (c_hasNode_T lc D cI cZ N w wc k kn t tc ts b bm br mn tA sA kA ck nb cn sm mo re x (by omega) (by omega) (by omega)) gX4_pairRefusal_X3_hasNode rfl rfl (by decide +kernel) rfl rfl ⟨Nat.le_trans (Nat.le_of_ble_eq_true rfl) hfr, Nat.le_trans (Nat.le_of_ble_eq_true rfl) hlo⟩ hE hAN hP hD hS [1, 2, 3, 4, 5, 6, 7, 8, 9, 10] rfl (by decide) rfl rfl rfl rfl hl.1 [] rfl (Nat.le_of_ble_eq_true rfl) dX4_pairRefusal_5 ⟨Nat.zero_le _, Nat.zero_le _⟩ ?_
  refine W.eq (g2 := F0 m 8 ls [.int (iI (1))]) rfl ?_
  refine b_eqF (tgt := 22) S dX4_pairRefusal_8 (by decide) (by decide) (by decide) ?_
  refine lv_aload_n hx hb dX4_pairRefusal_11 rfl (lv_at hl 0 rfl) ?_
  refine w_get (C := RX4) (T := TX4) (Nf := 4) (ci := 4) (v := .ref w) S (fun _ h => List.mem_cons_of_mem _ (List.mem_append_left _ (List.mem_append_right _ h))) hE hP 0 rfl rfl 0 (by decide) (List.mem_of_getElem? (i := 1) rfl) rfl dX4_pairRefusal_12 ?_
  refine lv_iload_n hx hb dX4_pairRefusal_15 rfl (lv_at hl 2 rfl) ?_
  refine kV_R (n := 1) (ci := 3) (q := (RX3, TX3, 8)) S (c_hasNode_T lc D cI cZ N w wc k kn t tc ts b bm br mn tA sA kA ck nb cn sm mo re y (by omega) (by omega) (by omega)) gX4_pairRefusal_X3_hasNode rfl rfl (by decide +kernel) rfl rfl ⟨Nat.le_trans (Nat.le_of_ble_eq_true rfl) hfr, Nat.le_trans (Nat.le_of_ble_eq_true rfl) hlo⟩ hE hAN hP hD hS [1, 2, 3, 4, 5, 6, 7, 8, 9, 10] rfl (by decide) rfl rfl rfl rfl hl.1 [] rfl (Nat.le_of_ble_eq_true rfl) dX4_pairRefusal_16 ⟨Nat.zero_le _, Nat.zero_le _⟩ ?_
  refine W.eq (g2 := F0 m 19 ls [.int (iI (1))]) rfl ?_
  refine b_neT (tgt := 24) S dX4_pairRefusal_19 (by decide) (by decide) (by decide) ?_
  refine lv_iload_n hx hb dX4_pairRefusal_24 rfl (lv_at hl 2 rfl) ?_
  refine lv_iload_n hx hb dX4_pairRefusal_25 rfl (lv_at hl 1 rfl) ?_
  refine c_leT (tgt := 33) S dX4_pairRefusal_26 (by decide) (by omega) (by omega) (by omega) ?_
  refine lv_bipush (v := iI ((-2))) hx hb dX4_pairRefusal_33 (by decide) ?_
  exact hret _ _ _ dX4_pairRefusal_35 (congrArg iI (by omega))
set_option maxHeartbeats 4000000 in
set_option maxRecDepth 100000 in
theorem c_pair (lc : Launch) (D : va_G) (cI cZ : ClassId) (N : Nat) (o : Nat) (v2 : Nat) (v3 : Nat) (ik : Int) (w : Nat) (wc : Nat) (k : Nat) (kn : Nat) (t : Nat) (tc : Nat) (ts : Nat) (b : Nat) (bm : Nat) (br : Nat) (mn : Nat) (tA : Int) (sA : Int) (kA : Int) (ck : Nat → Int) (nb : Nat → Int) (cn : Nat → Int) (sm : Nat → Int) (mo : Nat → Int) (re : Nat → Int) (x : Int) (y : Int) (hmn : 2 ≤ mn ∧ mn ≤ 5) (r_x : -2147483648 ≤ x ∧ x ≤ 2147483647) (r_y : -2147483648 ≤ y ∧ y ≤ 2147483647) (h1 : (0 ≤ x ∧ x ≤ (mn : Int) - 1)) (h2 : (0 ≤ y ∧ y ≤ (mn : Int) - 1)) (h : x < y) : CR lc D cI cZ N yX4_pairRefusal wsX4_pairRefusal (rmK 2 43) [.ref o, .int (iI (x)), .int (iI (y))] [(o, .inr (4, [.ref w, .ref v2, .ref v3, .int (iI (ik))])), (w, .inr (3, [.int (iI (((mn : Nat) : Int))), .int (iI (tA)), .int (iI (sA)), .int (iI (kA)), .ref wc, .ref k, .ref t, .ref b])), (wc, .inl (cI, 5, .inl (vI ck))), (k, .inr (1, [.ref kn])), (kn, .inl (cI, 24, .inl (vI nb))), (t, .inr (2, [.ref tc, .ref ts])), (tc, .inl (cI, 1000, .inl (vI cn))), (ts, .inl (cI, 1000, .inl (vI sm))), (b, .inr (0, [.ref bm, .ref br])), (bm, .inl (cI, 25, .inl (vI mo))), (br, .inl (cI, 5, .inl (vI re)))] (some (.int (iI (0)))) := by
  refine CR.I (cc := cX4_pairRefusal) (maxL := 3) (by decide) rfl (Nat.le_of_ble_eq_true rfl) ?_
  intro p e s m args below meth c R Q S hE A hAN hfr hlo hP hD hS hret ls hl
  have S : CallFix p m c cX4_pairRefusal 3 s args wsX4_pairRefusal RX4 := S
  have hx := S.1
  have hb := S.2.1
  have hl : lv_has ls 3 [(0, .ref o), (1, .int (iI (x))), (2, .int (iI (y)))] := hl
  refine lv_aload_n hx hb dX4_pairRefusal_0 rfl (lv_at hl 0 rfl) ?_
  refine w_get (C := RX4) (T := TX4) (Nf := 4) (ci := 4) (v := .ref w) S (fun _ h => List.mem_cons_of_mem _ (List.mem_append_left _ (List.mem_append_right _ h))) hE hP 0 rfl rfl 0 (by decide) (List.mem_of_getElem? (i := 1) rfl) rfl dX4_pairRefusal_1 ?_
  refine lv_iload_n hx hb dX4_pairRefusal_4 rfl (lv_at hl 1 rfl) ?_
  refine kV_R (n := 1) (ci := 3) (q := (RX3, TX3, 8)) S (c_hasNode_T lc D cI cZ N w wc k kn t tc ts b bm br mn tA sA kA ck nb cn sm mo re x (by omega) (by omega) (by omega)) gX4_pairRefusal_X3_hasNode rfl rfl (by decide +kernel) rfl rfl ⟨Nat.le_trans (Nat.le_of_ble_eq_true rfl) hfr, Nat.le_trans (Nat.le_of_ble_eq_true rfl) hlo⟩ hE hAN hP hD hS [1, 2, 3, 4, 5, 6, 7, 8, 9, 10] rfl (by decide) rfl rfl rfl rfl hl.1 [] rfl (Nat.le_of_ble_eq_true rfl) dX4_pairRefusal_5 ⟨Nat.zero_le _, Nat.zero_le _⟩ ?_
  refine W.eq (g2 := F0 m 8 ls [.int (iI (1))]) rfl ?_
  refine b_eqF (tgt := 22) S dX4_pairRefusal_8 (by decide) (by decide) (by decide) ?_
  refine lv_aload_n hx hb dX4_pairRefusal_11 rfl (lv_at hl 0 rfl) ?_
  refine w_get (C := RX4) (T := TX4) (Nf := 4) (ci := 4) (v := .ref w) S (fun _ h => List.mem_cons_of_mem _ (List.mem_append_left _ (List.mem_append_right _ h))) hE hP 0 rfl rfl 0 (by decide) (List.mem_of_getElem? (i := 1) rfl) rfl dX4_pairRefusal_12 ?_
  refine lv_iload_n hx hb dX4_pairRefusal_15 rfl (lv_at hl 2 rfl) ?_
  refine kV_R (n := 1) (ci := 3) (q := (RX3, TX3, 8)) S (c_hasNode_T lc D cI cZ N w wc k kn t tc ts b bm br mn tA sA kA ck nb cn sm mo re y (by omega) (by omega) (by omega)) gX4_pairRefusal_X3_hasNode rfl rfl (by decide +kernel) rfl rfl ⟨Nat.le_trans (Nat.le_of_ble_eq_true rfl) hfr, Nat.le_trans (Nat.le_of_ble_eq_true rfl) hlo⟩ hE hAN hP hD hS [1, 2, 3, 4, 5, 6, 7, 8, 9, 10] rfl (by decide) rfl rfl rfl rfl hl.1 [] rfl (Nat.le_of_ble_eq_true rfl) dX4_pairRefusal_16 ⟨Nat.zero_le _, Nat.zero_le _⟩ ?_
  refine W.eq (g2 := F0 m 19 ls [.int (iI (1))]) rfl ?_
  refine b_neT (tgt := 24) S dX4_pairRefusal_19 (by decide) (by decide) (by decide) ?_
  refine lv_iload_n hx hb dX4_pairRefusal_24 rfl (lv_at hl 2 rfl) ?_
  refine lv_iload_n hx hb dX4_pairRefusal_25 rfl (lv_at hl 1 rfl) ?_
  refine c_leF (tgt := 33) S dX4_pairRefusal_26 (by decide) (by omega) (by omega) (by omega) ?_
  refine lv_iconst (v := iI (0)) hx hb dX4_pairRefusal_29 rfl ?_
  refine lv_goto (tgt := 35) hx hb dX4_pairRefusal_30 (by decide) ?_
  exact hret _ _ _ dX4_pairRefusal_35 rfl
set_option maxHeartbeats 4000000 in
set_option maxRecDepth 100000 in
theorem c_tref_U (lc : Launch) (D : va_G) (cI cZ : ClassId) (N : Nat) (o : Nat) (v2 : Nat) (v3 : Nat) (ik : Int) (w : Nat) (wc : Nat) (k : Nat) (kn : Nat) (t : Nat) (tc : Nat) (ts : Nat) (b : Nat) (bm : Nat) (br : Nat) (mn : Nat) (tA : Int) (sA : Int) (kA : Int) (ck : Nat → Int) (nb : Nat → Int) (cn : Nat → Int) (sm : Nat → Int) (mo : Nat → Int) (re : Nat → Int) (x : Int) (y : Int) (z : Int) (u : Int) (hmn : 2 ≤ mn ∧ mn ≤ 5) (r_x : -2147483648 ≤ x ∧ x ≤ 2147483647) (r_y : -2147483648 ≤ y ∧ y ≤ 2147483647) (h : ¬ ((0 ≤ x ∧ x ≤ (mn : Int) - 1) ∧ (0 ≤ y ∧ y ≤ (mn : Int) - 1))) : CR lc D cI cZ N yX4_tookRefusal wsX4_tookRefusal (rmK 3 65) [.ref o, .int (iI (x)), .int (iI (y)), .int (iI (z)), .int (iI (u))] [(o, .inr (4, [.ref w, .ref v2, .ref v3, .int (iI (ik))])), (w, .inr (3, [.int (iI (((mn : Nat) : Int))), .int (iI (tA)), .int (iI (sA)), .int (iI (kA)), .ref wc, .ref k, .ref t, .ref b])), (wc, .inl (cI, 5, .inl (vI ck))), (k, .inr (1, [.ref kn])), (kn, .inl (cI, 24, .inl (vI nb))), (t, .inr (2, [.ref tc, .ref ts])), (tc, .inl (cI, 1000, .inl (vI cn))), (ts, .inl (cI, 1000, .inl (vI sm))), (b, .inr (0, [.ref bm, .ref br])), (bm, .inl (cI, 25, .inl (vI mo))), (br, .inl (cI, 5, .inl (vI re)))] (some (.int (iI (-1)))) := by
  refine CR.I (cc := cX4_tookRefusal) (maxL := 6) (by decide) rfl (Nat.le_of_ble_eq_true rfl) ?_
  intro p e s m args below meth c R Q S hE A hAN hfr hlo hP hD hS hret ls hl
  have S : CallFix p m c cX4_tookRefusal 6 s args wsX4_tookRefusal RX4 := S
  have hx := S.1
  have hb := S.2.1
  have hl : lv_has ls 6 [(0, .ref o), (1, .int (iI (x))), (2, .int (iI (y))), (3, .int (iI (z))), (4, .int (iI (u)))] := hl
  refine lv_aload_n hx hb dX4_tookRefusal_0 rfl (lv_at hl 0 rfl) ?_
  refine lv_iload_n hx hb dX4_tookRefusal_1 rfl (lv_at hl 1 rfl) ?_
  refine lv_iload_n hx hb dX4_tookRefusal_2 rfl (lv_at hl 2 rfl) ?_
  refine kV_R (n := 2) (ci := 4) (q := (RX4, TX4, 4)) S (c_pair_U lc D cI cZ N o v2 v3 ik w wc k kn t tc ts b bm br mn tA sA kA ck nb cn sm mo re x y (by omega) (by omega) (by omega) (by omega)) gX4_tookRefusal_X4_pairRefusal rfl rfl (by decide +kernel) rfl rfl ⟨Nat.le_trans (Nat.le_of_ble_eq_true rfl) hfr, Nat.le_trans (Nat.le_of_ble_eq_true rfl) hlo⟩ hE hAN hP hD hS [0, 1, 2, 3, 4, 5, 6, 7, 8, 9, 10] rfl (by decide) rfl rfl rfl rfl hl.1 [] rfl (Nat.le_of_ble_eq_true rfl) dX4_tookRefusal_3 ⟨Nat.zero_le _, Nat.zero_le _⟩ ?_
  refine W.eq (g2 := F0 m 6 ls [.int (iI (-1))]) rfl ?_
  refine lv_istore (lv' := [(5, .int (iI (-1))), (0, .ref o), (1, .int (iI (x))), (2, .int (iI (y))), (3, .int (iI (z))), (4, .int (iI (u)))]) hx hb dX4_tookRefusal_6 hl (by decide) rfl (fun ls hl => ?_)
  refine lv_iload hx hb dX4_tookRefusal_8 (lv_at hl 0 rfl) ?_
  refine b_eqF (tgt := 16) S dX4_tookRefusal_10 (by decide) (by decide) (by decide) ?_
  refine lv_iload hx hb dX4_tookRefusal_13 (lv_at hl 0 rfl) ?_
  exact hret _ _ _ dX4_tookRefusal_15 rfl
set_option maxHeartbeats 4000000 in
set_option maxRecDepth 100000 in
theorem c_tref_O (lc : Launch) (D : va_G) (cI cZ : ClassId) (N : Nat) (o : Nat) (v2 : Nat) (v3 : Nat) (ik : Int) (w : Nat) (wc : Nat) (k : Nat) (kn : Nat) (t : Nat) (tc : Nat) (ts : Nat) (b : Nat) (bm : Nat) (br : Nat) (mn : Nat) (tA : Int) (sA : Int) (kA : Int) (ck : Nat → Int) (nb : Nat → Int) (cn : Nat → Int) (sm : Nat → Int) (mo : Nat → Int) (re : Nat → Int) (x : Int) (y : Int) (z : Int) (u : Int) (hmn : 2 ≤ mn ∧ mn ≤ 5) (r_x : -2147483648 ≤ x ∧ x ≤ 2147483647) (r_y : -2147483648 ≤ y ∧ y ≤ 2147483647) (r_z : -2147483648 ≤ z ∧ z ≤ 2147483647) (r_u : -2147483648 ≤ u ∧ u ≤ 2147483647) (h1 : (0 ≤ x ∧ x ≤ (mn : Int) - 1)) (h2 : (0 ≤ y ∧ y ≤ (mn : Int) - 1)) (h : ¬ (x < y ∧ (0 ≤ z ∧ z ≤ 199) ∧ (0 ≤ u ∧ u ≤ 1))) : CR lc D cI cZ N yX4_tookRefusal wsX4_tookRefusal (rmK 3 65) [.ref o, .int (iI (x)), .int (iI (y)), .int (iI (z)), .int (iI (u))] [(o, .inr (4, [.ref w, .ref v2, .ref v3, .int (iI (ik))])), (w, .inr (3, [.int (iI (((mn : Nat) : Int))), .int (iI (tA)), .int (iI (sA)), .int (iI (kA)), .ref wc, .ref k, .ref t, .ref b])), (wc, .inl (cI, 5, .inl (vI ck))), (k, .inr (1, [.ref kn])), (kn, .inl (cI, 24, .inl (vI nb))), (t, .inr (2, [.ref tc, .ref ts])), (tc, .inl (cI, 1000, .inl (vI cn))), (ts, .inl (cI, 1000, .inl (vI sm))), (b, .inr (0, [.ref bm, .ref br])), (bm, .inl (cI, 25, .inl (vI mo))), (br, .inl (cI, 5, .inl (vI re)))] (some (.int (iI (-2)))) := by
  refine CR.I (cc := cX4_tookRefusal) (maxL := 6) (by decide) rfl (Nat.le_of_ble_eq_true rfl) ?_
  intro p e s m args below meth c R Q S hE A hAN hfr hlo hP hD hS hret ls hl
  have S : CallFix p m c cX4_tookRefusal 6 s args wsX4_tookRefusal RX4 := S
  have hx := S.1
  have hb := S.2.1
  have hl : lv_has ls 6 [(0, .ref o), (1, .int (iI (x))), (2, .int (iI (y))), (3, .int (iI (z))), (4, .int (iI (u)))] := hl
  by_cases h3 : x < y
  · refine lv_aload_n hx hb dX4_tookRefusal_0 rfl (lv_at hl 0 rfl) ?_
    refine lv_iload_n hx hb dX4_tookRefusal_1 rfl (lv_at hl 1 rfl) ?_
    refine lv_iload_n hx hb dX4_tookRefusal_2 rfl (lv_at hl 2 rfl) ?_
    refine kV_R (n := 2) (ci := 4) (q := (RX4, TX4, 4)) S (c_pair lc D cI cZ N o v2 v3 ik w wc k kn t tc ts b bm br mn tA sA kA ck nb cn sm mo re x y (by omega) (by omega) (by omega) (by omega) (by omega) (by omega)) gX4_tookRefusal_X4_pairRefusal rfl rfl (by decide +kernel) rfl rfl ⟨Nat.le_trans (Nat.le_of_ble_eq_true rfl) hfr, Nat.le_trans (Nat.le_of_ble_eq_true rfl) hlo⟩ hE hAN hP hD hS [0, 1, 2, 3, 4, 5, 6, 7, 8, 9, 10] rfl (by decide) rfl rfl rfl rfl hl.1 [] rfl (Nat.le_of_ble_eq_true rfl) dX4_tookRefusal_3 ⟨Nat.zero_le _, Nat.zero_le _⟩ ?_
    refine W.eq (g2 := F0 m 6 ls [.int (iI (0))]) rfl ?_
    refine lv_istore (lv' := [(5, .int (iI (0))), (0, .ref o), (1, .int (iI (x))), (2, .int (iI (y))), (3, .int (iI (z))), (4, .int (iI (u)))]) hx hb dX4_tookRefusal_6 hl (by decide) rfl (fun ls hl => ?_)
    refine lv_iload hx hb dX4_tookRefusal_8 (lv_at hl 0 rfl) ?_
    refine b_eqT (tgt := 16) S dX4_tookRefusal_10 (by decide) (by decide) ?_
    by_cases h4 : (0 ≤ z ∧ z ≤ 199)
    · refine lv_iload_n hx hb dX4_tookRefusal_16 rfl (lv_at hl 4 rfl) ?_
      refine kS_R (n := 1) S (c_isBlock_T lc D cI cZ N z (by omega) (by omega)) gX4_tookRefusal_X4_isBlock rfl (by decide +kernel) rfl rfl ⟨Nat.le_trans (Nat.le_of_ble_eq_true rfl) hfr, Nat.le_trans (Nat.le_of_ble_eq_true rfl) hlo⟩ hE hAN hP hD hS [] rfl (by decide) rfl hl.1 [] rfl (Nat.le_of_ble_eq_true rfl) dX4_tookRefusal_17 ⟨Nat.zero_le _, Nat.zero_le _⟩ ?_
      refine W.eq (g2 := F0 m 20 ls [.int (iI (1))]) rfl ?_
      refine b_eqF (tgt := 37) S dX4_tookRefusal_20 (by decide) (by decide) (by decide) ?_
      refine lv_iload hx hb dX4_tookRefusal_23 (lv_at hl 5 rfl) ?_
      refine lv_iconst (v := iI (0)) hx hb dX4_tookRefusal_25 rfl ?_
      refine lv_iconst (v := iI (1)) hx hb dX4_tookRefusal_26 rfl ?_
      refine kS_R (n := 3) S (c_within_F lc D cI cZ N u 0 1 (by omega) (by omega) (by omega) (by omega)) gX4_tookRefusal_X4_within rfl (by decide +kernel) rfl rfl ⟨Nat.le_trans (Nat.le_of_ble_eq_true rfl) hfr, Nat.le_trans (Nat.le_of_ble_eq_true rfl) hlo⟩ hE hAN hP hD hS [] rfl (by decide) rfl hl.1 [] rfl (Nat.le_of_ble_eq_true rfl) dX4_tookRefusal_27 ⟨Nat.zero_le _, Nat.zero_le _⟩ ?_
      refine W.eq (g2 := F0 m 30 ls [.int (iI (0))]) rfl ?_
      refine b_eqT (tgt := 37) S dX4_tookRefusal_30 (by decide) (by decide) ?_
      refine lv_bipush (v := iI ((-2))) hx hb dX4_tookRefusal_37 (by decide) ?_
      exact hret _ _ _ dX4_tookRefusal_39 (congrArg iI (by omega))
    · refine lv_iload_n hx hb dX4_tookRefusal_16 rfl (lv_at hl 4 rfl) ?_
      refine kS_R (n := 1) S (c_isBlock_F lc D cI cZ N z (by omega) (by omega)) gX4_tookRefusal_X4_isBlock rfl (by decide +kernel) rfl rfl ⟨Nat.le_trans (Nat.le_of_ble_eq_true rfl) hfr, Nat.le_trans (Nat.le_of_ble_eq_true rfl) hlo⟩ hE hAN hP hD hS [] rfl (by decide) rfl hl.1 [] rfl (Nat.le_of_ble_eq_true rfl) dX4_tookRefusal_17 ⟨Nat.zero_le _, Nat.zero_le _⟩ ?_
      refine W.eq (g2 := F0 m 20 ls [.int (iI (0))]) rfl ?_
      refine b_eqT (tgt := 37) S dX4_tookRefusal_20 (by decide) (by decide) ?_
      refine lv_bipush (v := iI ((-2))) hx hb dX4_tookRefusal_37 (by decide) ?_
      exact hret _ _ _ dX4_tookRefusal_39 (congrArg iI (by omega))
  · refine lv_aload_n hx hb dX4_tookRefusal_0 rfl (lv_at hl 0 rfl) ?_
    refine lv_iload_n hx hb dX4_tookRefusal_1 rfl (lv_at hl 1 rfl) ?_
    refine lv_iload_n hx hb dX4_tookRefusal_2 rfl (lv_at hl 2 rfl) ?_
    refine kV_R (n := 2) (ci := 4) (q := (RX4, TX4, 4)) S (c_pair_O lc D cI cZ N o v2 v3 ik w wc k kn t tc ts b bm br mn tA sA kA ck nb cn sm mo re x y (by omega) (by omega) (by omega) (by omega) (by omega) (by omega)) gX4_tookRefusal_X4_pairRefusal rfl rfl (by decide +kernel) rfl rfl ⟨Nat.le_trans (Nat.le_of_ble_eq_true rfl) hfr, Nat.le_trans (Nat.le_of_ble_eq_true rfl) hlo⟩ hE hAN hP hD hS [0, 1, 2, 3, 4, 5, 6, 7, 8, 9, 10] rfl (by decide) rfl rfl rfl rfl hl.1 [] rfl (Nat.le_of_ble_eq_true rfl) dX4_tookRefusal_3 ⟨Nat.zero_le _, Nat.zero_le _⟩ ?_
    refine W.eq (g2 := F0 m 6 ls [.int (iI (-2))]) rfl ?_
    refine lv_istore (lv' := [(5, .int (iI (-2))), (0, .ref o), (1, .int (iI (x))), (2, .int (iI (y))), (3, .int (iI (z))), (4, .int (iI (u)))]) hx hb dX4_tookRefusal_6 hl (by decide) rfl (fun ls hl => ?_)
    refine lv_iload hx hb dX4_tookRefusal_8 (lv_at hl 0 rfl) ?_
    refine b_eqF (tgt := 16) S dX4_tookRefusal_10 (by decide) (by decide) (by decide) ?_
    refine lv_iload hx hb dX4_tookRefusal_13 (lv_at hl 0 rfl) ?_
    exact hret _ _ _ dX4_tookRefusal_15 rfl
set_option maxHeartbeats 4000000 in
set_option maxRecDepth 100000 in
theorem c_tref (lc : Launch) (D : va_G) (cI cZ : ClassId) (N : Nat) (o : Nat) (v2 : Nat) (v3 : Nat) (ik : Int) (w : Nat) (wc : Nat) (k : Nat) (kn : Nat) (t : Nat) (tc : Nat) (ts : Nat) (b : Nat) (bm : Nat) (br : Nat) (mn : Nat) (tA : Int) (sA : Int) (kA : Int) (ck : Nat → Int) (nb : Nat → Int) (cn : Nat → Int) (sm : Nat → Int) (mo : Nat → Int) (re : Nat → Int) (x : Int) (y : Int) (z : Int) (u : Int) (hmn : 2 ≤ mn ∧ mn ≤ 5) (r_x : -2147483648 ≤ x ∧ x ≤ 2147483647) (r_y : -2147483648 ≤ y ∧ y ≤ 2147483647) (r_z : -2147483648 ≤ z ∧ z ≤ 2147483647) (r_u : -2147483648 ≤ u ∧ u ≤ 2147483647) (h1 : (0 ≤ x ∧ x ≤ (mn : Int) - 1)) (h2 : (0 ≤ y ∧ y ≤ (mn : Int) - 1)) (h : x < y ∧ (0 ≤ z ∧ z ≤ 199) ∧ (0 ≤ u ∧ u ≤ 1)) : CR lc D cI cZ N yX4_tookRefusal wsX4_tookRefusal (rmK 3 65) [.ref o, .int (iI (x)), .int (iI (y)), .int (iI (z)), .int (iI (u))] [(o, .inr (4, [.ref w, .ref v2, .ref v3, .int (iI (ik))])), (w, .inr (3, [.int (iI (((mn : Nat) : Int))), .int (iI (tA)), .int (iI (sA)), .int (iI (kA)), .ref wc, .ref k, .ref t, .ref b])), (wc, .inl (cI, 5, .inl (vI ck))), (k, .inr (1, [.ref kn])), (kn, .inl (cI, 24, .inl (vI nb))), (t, .inr (2, [.ref tc, .ref ts])), (tc, .inl (cI, 1000, .inl (vI cn))), (ts, .inl (cI, 1000, .inl (vI sm))), (b, .inr (0, [.ref bm, .ref br])), (bm, .inl (cI, 25, .inl (vI mo))), (br, .inl (cI, 5, .inl (vI re)))] (some (.int (iI (0)))) := by
  refine CR.I (cc := cX4_tookRefusal) (maxL := 6) (by decide) rfl (Nat.le_of_ble_eq_true rfl) ?_
  intro p e s m args below meth c R Q S hE A hAN hfr hlo hP hD hS hret ls hl
  have S : CallFix p m c cX4_tookRefusal 6 s args wsX4_tookRefusal RX4 := S
  have hx := S.1
  have hb := S.2.1
  have hl : lv_has ls 6 [(0, .ref o), (1, .int (iI (x))), (2, .int (iI (y))), (3, .int (iI (z))), (4, .int (iI (u)))] := hl
  refine lv_aload_n hx hb dX4_tookRefusal_0 rfl (lv_at hl 0 rfl) ?_
  refine lv_iload_n hx hb dX4_tookRefusal_1 rfl (lv_at hl 1 rfl) ?_
  refine lv_iload_n hx hb dX4_tookRefusal_2 rfl (lv_at hl 2 rfl) ?_
  refine kV_R (n := 2) (ci := 4) (q := (RX4, TX4, 4)) S (c_pair lc D cI cZ N o v2 v3 ik w wc k kn t tc ts b bm br mn tA sA kA ck nb cn sm mo re x y (by omega) (by omega) (by omega) (by omega) (by omega) (by omega)) gX4_tookRefusal_X4_pairRefusal rfl rfl (by decide +kernel) rfl rfl ⟨Nat.le_trans (Nat.le_of_ble_eq_true rfl) hfr, Nat.le_trans (Nat.le_of_ble_eq_true rfl) hlo⟩ hE hAN hP hD hS [0, 1, 2, 3, 4, 5, 6, 7, 8, 9, 10] rfl (by decide) rfl rfl rfl rfl hl.1 [] rfl (Nat.le_of_ble_eq_true rfl) dX4_tookRefusal_3 ⟨Nat.zero_le _, Nat.zero_le _⟩ ?_
  refine W.eq (g2 := F0 m 6 ls [.int (iI (0))]) rfl ?_
  refine lv_istore (lv' := [(5, .int (iI (0))), (0, .ref o), (1, .int (iI (x))), (2, .int (iI (y))), (3, .int (iI (z))), (4, .int (iI (u)))]) hx hb dX4_tookRefusal_6 hl (by decide) rfl (fun ls hl => ?_)
  refine lv_iload hx hb dX4_tookRefusal_8 (lv_at hl 0 rfl) ?_
  refine b_eqT (tgt := 16) S dX4_tookRefusal_10 (by decide) (by decide) ?_
  refine lv_iload_n hx hb dX4_tookRefusal_16 rfl (lv_at hl 4 rfl) ?_
  refine kS_R (n := 1) S (c_isBlock_T lc D cI cZ N z (by omega) (by omega)) gX4_tookRefusal_X4_isBlock rfl (by decide +kernel) rfl rfl ⟨Nat.le_trans (Nat.le_of_ble_eq_true rfl) hfr, Nat.le_trans (Nat.le_of_ble_eq_true rfl) hlo⟩ hE hAN hP hD hS [] rfl (by decide) rfl hl.1 [] rfl (Nat.le_of_ble_eq_true rfl) dX4_tookRefusal_17 ⟨Nat.zero_le _, Nat.zero_le _⟩ ?_
  refine W.eq (g2 := F0 m 20 ls [.int (iI (1))]) rfl ?_
  refine b_eqF (tgt := 37) S dX4_tookRefusal_20 (by decide) (by decide) (by decide) ?_
  refine lv_iload hx hb dX4_tookRefusal_23 (lv_at hl 5 rfl) ?_
  refine lv_iconst (v := iI (0)) hx hb dX4_tookRefusal_25 rfl ?_
  refine lv_iconst (v := iI (1)) hx hb dX4_tookRefusal_26 rfl ?_
  refine kS_R (n := 3) S (c_within_T lc D cI cZ N u 0 1 (by omega) (by omega) (by omega) (by omega)) gX4_tookRefusal_X4_within rfl (by decide +kernel) rfl rfl ⟨Nat.le_trans (Nat.le_of_ble_eq_true rfl) hfr, Nat.le_trans (Nat.le_of_ble_eq_true rfl) hlo⟩ hE hAN hP hD hS [] rfl (by decide) rfl hl.1 [] rfl (Nat.le_of_ble_eq_true rfl) dX4_tookRefusal_27 ⟨Nat.zero_le _, Nat.zero_le _⟩ ?_
  refine W.eq (g2 := F0 m 30 ls [.int (iI (1))]) rfl ?_
  refine b_eqF (tgt := 37) S dX4_tookRefusal_30 (by decide) (by decide) (by decide) ?_
  refine lv_iconst (v := iI (0)) hx hb dX4_tookRefusal_33 rfl ?_
  refine lv_goto (tgt := 39) hx hb dX4_tookRefusal_34 (by decide) ?_
  exact hret _ _ _ dX4_tookRefusal_39 rfl
