set_option maxHeartbeats 4000000 in
set_option maxRecDepth 100000 in
theorem c_took_U (lc : Launch) (D : va_G) (cI cZ : ClassId) (N : Nat) (o : Nat) (v2 : Nat) (v3 : Nat) (ik : Int) (w : Nat) (wc : Nat) (k : Nat) (kn : Nat) (t : Nat) (tc : Nat) (ts : Nat) (b : Nat) (bm : Nat) (br : Nat) (mn : Nat) (tA : Int) (sA : Int) (kA : Int) (ck : Nat → Int) (nb : Nat → Int) (cn : Nat → Int) (sm : Nat → Int) (mo : Nat → Int) (re : Nat → Int) (x : Int) (y : Int) (z : Int) (u : Int) (hmn : 2 ≤ mn ∧ mn ≤ 5) (r_x : -2147483648 ≤ x ∧ x ≤ 2147483647) (r_y : -2147483648 ≤ y ∧ y ≤ 2147483647) (h : ¬ ((0 ≤ x ∧ x ≤ (mn : Int) - 1) ∧ (0 ≤ y ∧ y ≤ (mn : Int) - 1))) : CR lc D cI cZ N yX4_took wsX4_took (rmK 4 90) [.ref o, .int (iI (x)), .int (iI (y)), .int (iI (z)), .int (iI (u))] [(o, .inr (4, [.ref w, .ref v2, .ref v3, .int (iI (ik))])), (w, .inr (3, [.int (iI (((mn : Nat) : Int))), .int (iI (tA)), .int (iI (sA)), .int (iI (kA)), .ref wc, .ref k, .ref t, .ref b])), (wc, .inl (cI, 5, .inl (vI ck))), (k, .inr (1, [.ref kn])), (kn, .inl (cI, 24, .inl (vI nb))), (t, .inr (2, [.ref tc, .ref ts])), (tc, .inl (cI, 1000, .inl (vI cn))), (ts, .inl (cI, 1000, .inl (vI sm))), (b, .inr (0, [.ref bm, .ref br])), (bm, .inl (cI, 25, .inl (vI mo))), (br, .inl (cI, 5, .inl (vI re)))] (some (.int (iI (-1000000001)))) := by
  refine CR.I (cc := cX4_took) (maxL := 6) (by decide) rfl (Nat.le_of_ble_eq_true rfl) ?_
  intro p e s m args below meth c R Q S hE A hAN hfr hlo hP hD hS hret ls hl
  have S : CallFix p m c cX4_took 6 s args wsX4_took RX4 := S
  have hx := S.1
  have hb := S.2.1
  have hl : lv_has ls 6 [(0, .ref o), (1, .int (iI (x))), (2, .int (iI (y))), (3, .int (iI (z))), (4, .int (iI (u)))] := hl
  refine lv_aload_n hx hb dX4_took_0 rfl (lv_at hl 0 rfl) ?_
  refine lv_iload_n hx hb dX4_took_1 rfl (lv_at hl 1 rfl) ?_
  refine lv_iload_n hx hb dX4_took_2 rfl (lv_at hl 2 rfl) ?_
  refine lv_iload_n hx hb dX4_took_3 rfl (lv_at hl 3 rfl) ?_
  refine lv_iload hx hb dX4_took_4 (lv_at hl 4 rfl) ?_
  refine kV_R (n := 4) (ci := 4) (q := (RX4, TX4, 4)) S (c_tref_U lc D cI cZ N o v2 v3 ik w wc k kn t tc ts b bm br mn tA sA kA ck nb cn sm mo re x y z u (by omega) (by omega) (by omega) (by omega)) gX4_took_X4_tookRefusal rfl rfl (by decide +kernel) rfl rfl ⟨Nat.le_trans (Nat.le_of_ble_eq_true rfl) hfr, Nat.le_trans (Nat.le_of_ble_eq_true rfl) hlo⟩ hE hAN hP hD hS [0, 1, 2, 3, 4, 5, 6, 7, 8, 9, 10] rfl (by decide) rfl rfl rfl rfl hl.1 [] rfl (Nat.le_of_ble_eq_true rfl) dX4_took_6 ⟨Nat.zero_le _, Nat.zero_le _⟩ ?_
  refine W.eq (g2 := F0 m 9 ls [.int (iI (-1))]) rfl ?_
  refine lv_istore (lv' := [(5, .int (iI (-1))), (0, .ref o), (1, .int (iI (x))), (2, .int (iI (y))), (3, .int (iI (z))), (4, .int (iI (u)))]) hx hb dX4_took_9 hl (by decide) rfl (fun ls hl => ?_)
  refine lv_iload hx hb dX4_took_11 (lv_at hl 0 rfl) ?_
  refine b_eqF (tgt := 22) S dX4_took_13 (by decide) (by decide) (by decide) ?_
  refine w_ldc (z := (-1000000000)) S (List.mem_of_getElem? (i := 1) rfl) (by decide) dX4_took_16 ?_
  refine lv_iload hx hb dX4_took_18 (lv_at hl 0 rfl) ?_
  refine w_iadd S dX4_took_20 ?_
  exact hret _ _ _ dX4_took_21 (congrArg iI (by omega))
set_option maxHeartbeats 4000000 in
set_option maxRecDepth 100000 in
theorem c_took_O (lc : Launch) (D : va_G) (cI cZ : ClassId) (N : Nat) (o : Nat) (v2 : Nat) (v3 : Nat) (ik : Int) (w : Nat) (wc : Nat) (k : Nat) (kn : Nat) (t : Nat) (tc : Nat) (ts : Nat) (b : Nat) (bm : Nat) (br : Nat) (mn : Nat) (tA : Int) (sA : Int) (kA : Int) (ck : Nat → Int) (nb : Nat → Int) (cn : Nat → Int) (sm : Nat → Int) (mo : Nat → Int) (re : Nat → Int) (x : Int) (y : Int) (z : Int) (u : Int) (hmn : 2 ≤ mn ∧ mn ≤ 5) (r_x : -2147483648 ≤ x ∧ x ≤ 2147483647) (r_y : -2147483648 ≤ y ∧ y ≤ 2147483647) (r_z : -2147483648 ≤ z ∧ z ≤ 2147483647) (r_u : -2147483648 ≤ u ∧ u ≤ 2147483647) (h1 : (0 ≤ x ∧ x ≤ (mn : Int) - 1)) (h2 : (0 ≤ y ∧ y ≤ (mn : Int) - 1)) (h : ¬ (x < y ∧ (0 ≤ z ∧ z ≤ 199) ∧ (0 ≤ u ∧ u ≤ 1))) : CR lc D cI cZ N yX4_took wsX4_took (rmK 4 90) [.ref o, .int (iI (x)), .int (iI (y)), .int (iI (z)), .int (iI (u))] [(o, .inr (4, [.ref w, .ref v2, .ref v3, .int (iI (ik))])), (w, .inr (3, [.int (iI (((mn : Nat) : Int))), .int (iI (tA)), .int (iI (sA)), .int (iI (kA)), .ref wc, .ref k, .ref t, .ref b])), (wc, .inl (cI, 5, .inl (vI ck))), (k, .inr (1, [.ref kn])), (kn, .inl (cI, 24, .inl (vI nb))), (t, .inr (2, [.ref tc, .ref ts])), (tc, .inl (cI, 1000, .inl (vI cn))), (ts, .inl (cI, 1000, .inl (vI sm))), (b, .inr (0, [.ref bm, .ref br])), (bm, .inl (cI, 25, .inl (vI mo))), (br, .inl (cI, 5, .inl (vI re)))] (some (.int (iI (-1000000002)))) := by
  refine CR.I (cc := cX4_took) (maxL := 6) (by decide) rfl (Nat.le_of_ble_eq_true rfl) ?_
  intro p e s m args below meth c R Q S hE A hAN hfr hlo hP hD hS hret ls hl
  have S : CallFix p m c cX4_took 6 s args wsX4_took RX4 := S
  have hx := S.1
  have hb := S.2.1
  have hl : lv_has ls 6 [(0, .ref o), (1, .int (iI (x))), (2, .int (iI (y))), (3, .int (iI (z))), (4, .int (iI (u)))] := hl
  refine lv_aload_n hx hb dX4_took_0 rfl (lv_at hl 0 rfl) ?_
  refine lv_iload_n hx hb dX4_took_1 rfl (lv_at hl 1 rfl) ?_
  refine lv_iload_n hx hb dX4_took_2 rfl (lv_at hl 2 rfl) ?_
  refine lv_iload_n hx hb dX4_took_3 rfl (lv_at hl 3 rfl) ?_
  refine lv_iload hx hb dX4_took_4 (lv_at hl 4 rfl) ?_
  refine kV_R (n := 4) (ci := 4) (q := (RX4, TX4, 4)) S (c_tref_O lc D cI cZ N o v2 v3 ik w wc k kn t tc ts b bm br mn tA sA kA ck nb cn sm mo re x y z u (by omega) (by omega) (by omega) (by omega) (by omega) (by omega) (by omega) (by omega)) gX4_took_X4_tookRefusal rfl rfl (by decide +kernel) rfl rfl ⟨Nat.le_trans (Nat.le_of_ble_eq_true rfl) hfr, Nat.le_trans (Nat.le_of_ble_eq_true rfl) hlo⟩ hE hAN hP hD hS [0, 1, 2, 3, 4, 5, 6, 7, 8, 9, 10] rfl (by decide) rfl rfl rfl rfl hl.1 [] rfl (Nat.le_of_ble_eq_true rfl) dX4_took_6 ⟨Nat.zero_le _, Nat.zero_le _⟩ ?_
  refine W.eq (g2 := F0 m 9 ls [.int (iI (-2))]) rfl ?_
  refine lv_istore (lv' := [(5, .int (iI (-2))), (0, .ref o), (1, .int (iI (x))), (2, .int (iI (y))), (3, .int (iI (z))), (4, .int (iI (u)))]) hx hb dX4_took_9 hl (by decide) rfl (fun ls hl => ?_)
  refine lv_iload hx hb dX4_took_11 (lv_at hl 0 rfl) ?_
  refine b_eqF (tgt := 22) S dX4_took_13 (by decide) (by decide) (by decide) ?_
  refine w_ldc (z := (-1000000000)) S (List.mem_of_getElem? (i := 1) rfl) (by decide) dX4_took_16 ?_
  refine lv_iload hx hb dX4_took_18 (lv_at hl 0 rfl) ?_
  refine w_iadd S dX4_took_20 ?_
  exact hret _ _ _ dX4_took_21 (congrArg iI (by omega))
set_option maxHeartbeats 4000000 in
set_option maxRecDepth 100000 in
theorem c_took_N (lc : Launch) (D : va_G) (cI cZ : ClassId) (N : Nat) (o : Nat) (v2 : Nat) (v3 : Nat) (ik : Int) (w : Nat) (wc : Nat) (k : Nat) (kn : Nat) (t : Nat) (tc : Nat) (ts : Nat) (b : Nat) (bm : Nat) (br : Nat) (mn : Nat) (tA : Int) (sA : Int) (kA : Int) (ck : Nat → Int) (nb : Nat → Int) (cn : Nat → Int) (sm : Nat → Int) (mo : Nat → Int) (re : Nat → Int) (f : Nat) (g : Nat) (bk : Nat) (u : Int) (hmn : 2 ≤ mn ∧ mn ≤ 5) (hfg : f < g) (hgm : g < mn) (hbk : bk < 200) (hcn : ∀ k, k < 1000 → 0 ≤ cn k ∧ cn k ≤ 200) (r_u : -2147483648 ≤ u ∧ u ≤ 2147483647) (h : (0 ≤ u ∧ u ≤ 1)) (h2 : ¬ (0 < cn (f * 200 + bk) ∧ cn (f * 200 + bk) = cn (g * 200 + bk))) : CR lc D cI cZ N yX4_took wsX4_took (rmK 4 90) [.ref o, .int (iI (((f : Nat) : Int))), .int (iI (((g : Nat) : Int))), .int (iI (((bk : Nat) : Int))), .int (iI (u))] [(o, .inr (4, [.ref w, .ref v2, .ref v3, .int (iI (ik))])), (w, .inr (3, [.int (iI (((mn : Nat) : Int))), .int (iI (tA)), .int (iI (sA)), .int (iI (kA)), .ref wc, .ref k, .ref t, .ref b])), (wc, .inl (cI, 5, .inl (vI ck))), (k, .inr (1, [.ref kn])), (kn, .inl (cI, 24, .inl (vI nb))), (t, .inr (2, [.ref tc, .ref ts])), (tc, .inl (cI, 1000, .inl (vI cn))), (ts, .inl (cI, 1000, .inl (vI sm))), (b, .inr (0, [.ref bm, .ref br])), (bm, .inl (cI, 25, .inl (vI mo))), (br, .inl (cI, 5, .inl (vI re)))] (some (.int (iI (-1000000005)))) := by
  refine CR.I (cc := cX4_took) (maxL := 6) (by decide) rfl (Nat.le_of_ble_eq_true rfl) ?_
  intro p e s m args below meth c R Q S hE A hAN hfr hlo hP hD hS hret ls hl
  have S : CallFix p m c cX4_took 6 s args wsX4_took RX4 := S
  have hx := S.1
  have hb := S.2.1
  have hl : lv_has ls 6 [(0, .ref o), (1, .int (iI (((f : Nat) : Int)))), (2, .int (iI (((g : Nat) : Int)))), (3, .int (iI (((bk : Nat) : Int)))), (4, .int (iI (u)))] := hl
  refine lv_aload_n hx hb dX4_took_0 rfl (lv_at hl 0 rfl) ?_
  refine lv_iload_n hx hb dX4_took_1 rfl (lv_at hl 1 rfl) ?_
  refine lv_iload_n hx hb dX4_took_2 rfl (lv_at hl 2 rfl) ?_
  refine lv_iload_n hx hb dX4_took_3 rfl (lv_at hl 3 rfl) ?_
  refine lv_iload hx hb dX4_took_4 (lv_at hl 4 rfl) ?_
  refine kV_R (n := 4) (ci := 4) (q := (RX4, TX4, 4)) S (c_tref lc D cI cZ N o v2 v3 ik w wc k kn t tc ts b bm br mn tA sA kA ck nb cn sm mo re ((f : Nat) : Int) ((g : Nat) : Int) ((bk : Nat) : Int) u (by omega) (by omega) (by omega) (by omega) (by omega) (by omega) (by omega) (by omega)) gX4_took_X4_tookRefusal rfl rfl (by decide +kernel) rfl rfl ⟨Nat.le_trans (Nat.le_of_ble_eq_true rfl) hfr, Nat.le_trans (Nat.le_of_ble_eq_true rfl) hlo⟩ hE hAN hP hD hS [0, 1, 2, 3, 4, 5, 6, 7, 8, 9, 10] rfl (by decide) rfl rfl rfl rfl hl.1 [] rfl (Nat.le_of_ble_eq_true rfl) dX4_took_6 ⟨Nat.zero_le _, Nat.zero_le _⟩ ?_
  refine W.eq (g2 := F0 m 9 ls [.int (iI (0))]) rfl ?_
  refine lv_istore (lv' := [(5, .int (iI (0))), (0, .ref o), (1, .int (iI (((f : Nat) : Int)))), (2, .int (iI (((g : Nat) : Int)))), (3, .int (iI (((bk : Nat) : Int)))), (4, .int (iI (u)))]) hx hb dX4_took_9 hl (by decide) rfl (fun ls hl => ?_)
  refine lv_iload hx hb dX4_took_11 (lv_at hl 0 rfl) ?_
  refine b_eqT (tgt := 22) S dX4_took_13 (by decide) (by decide) ?_
  refine lv_aload_n hx hb dX4_took_22 rfl (lv_at hl 1 rfl) ?_
  refine w_get (C := RX4) (T := TX4) (Nf := 4) (ci := 4) (v := .ref w) S (fun _ h => List.mem_cons_of_mem _ (List.mem_append_left _ (List.mem_append_left _ (List.mem_append_right _ h)))) hE hP 0 rfl rfl 0 (by decide) (List.mem_of_getElem? (i := 2) rfl) rfl dX4_took_23 ?_
  refine w_get (C := RX3) (T := TX3) (Nf := 8) (ci := 3) (v := .ref t) S (fun _ h => List.mem_cons_of_mem _ (List.mem_append_left _ (List.mem_append_right _ h))) hE hP 1 rfl rfl 6 (by decide) (List.mem_of_getElem? (i := 3) rfl) rfl dX4_took_26 ?_
  refine lv_iload_n hx hb dX4_took_29 rfl (lv_at hl 2 rfl) ?_
  refine lv_iload_n hx hb dX4_took_30 rfl (lv_at hl 3 rfl) ?_
  refine lv_iload_n hx hb dX4_took_31 rfl (lv_at hl 4 rfl) ?_
  refine kV_R (n := 3) (ci := 2) (q := (RX2, TX2, 2)) S (c_hasTook_F lc D cI cZ N t tc ts cn sm f g bk (by omega) (by omega) (by omega) (by omega) (by omega)) gX4_took_X2_hasTook rfl rfl (by decide +kernel) rfl rfl ⟨Nat.le_trans (Nat.le_of_ble_eq_true rfl) hfr, Nat.le_trans (Nat.le_of_ble_eq_true rfl) hlo⟩ hE hAN hP hD hS [5, 6, 7] rfl (by decide) rfl rfl rfl rfl hl.1 [] rfl (Nat.le_of_ble_eq_true rfl) dX4_took_32 ⟨Nat.zero_le _, Nat.zero_le _⟩ ?_
  refine W.eq (g2 := F0 m 35 ls [.int (iI (0))]) rfl ?_
  refine b_neF (tgt := 41) S dX4_took_35 (by decide) (by decide) ?_
  refine w_ldc (z := (-1000000005)) S (List.mem_of_getElem? (i := 4) rfl) (by decide) dX4_took_38 ?_
  exact hret _ _ _ dX4_took_40 (congrArg iI (by omega))
set_option maxHeartbeats 4000000 in
set_option maxRecDepth 100000 in
theorem c_took_0 (lc : Launch) (D : va_G) (cI cZ : ClassId) (N : Nat) (o : Nat) (v2 : Nat) (v3 : Nat) (ik : Int) (w : Nat) (wc : Nat) (k : Nat) (kn : Nat) (t : Nat) (tc : Nat) (ts : Nat) (b : Nat) (bm : Nat) (br : Nat) (mn : Nat) (tA : Int) (sA : Int) (kA : Int) (ck : Nat → Int) (nb : Nat → Int) (cn : Nat → Int) (sm : Nat → Int) (mo : Nat → Int) (re : Nat → Int) (f : Nat) (g : Nat) (bk : Nat) (wq : Nat) (hmn : 2 ≤ mn ∧ mn ≤ 5) (hfg : f < g) (hgm : g < mn) (hbk : bk < 200) (hcn : ∀ k, k < 1000 → 0 ≤ cn k ∧ cn k ≤ 200) (h2 : 0 < cn (f * 200 + bk) ∧ cn (f * 200 + bk) = cn (g * 200 + bk)) (hwq : cn (f * 200 + bk) = ((wq : Nat) : Int)) (hwq2 : 0 < wq ∧ wq ≤ 200) (hU : -1000000000 ≤ (sm (g * 200 + bk) - sm (f * 200 + bk)) ∧ (sm (g * 200 + bk) - sm (f * 200 + bk)) ≤ 1000000000) : CR lc D cI cZ N yX4_took wsX4_took (rmK 4 90) [.ref o, .int (iI (((f : Nat) : Int))), .int (iI (((g : Nat) : Int))), .int (iI (((bk : Nat) : Int))), .int (iI (0))] [(o, .inr (4, [.ref w, .ref v2, .ref v3, .int (iI (ik))])), (w, .inr (3, [.int (iI (((mn : Nat) : Int))), .int (iI (tA)), .int (iI (sA)), .int (iI (kA)), .ref wc, .ref k, .ref t, .ref b])), (wc, .inl (cI, 5, .inl (vI ck))), (k, .inr (1, [.ref kn])), (kn, .inl (cI, 24, .inl (vI nb))), (t, .inr (2, [.ref tc, .ref ts])), (tc, .inl (cI, 1000, .inl (vI cn))), (ts, .inl (cI, 1000, .inl (vI sm))), (b, .inr (0, [.ref bm, .ref br])), (bm, .inl (cI, 25, .inl (vI mo))), (br, .inl (cI, 5, .inl (vI re)))] (some (.int (iI ((sm (g * 200 + bk) - sm (f * 200 + bk)).tdiv ((Nat.gcd ((sm (g * 200 + bk) - sm (f * 200 + bk))).natAbs wq : Nat) : Int))))) := by
  refine CR.I (cc := cX4_took) (maxL := 6) (by decide) rfl (Nat.le_of_ble_eq_true rfl) ?_
  intro p e s m args below meth c R Q S hE A hAN hfr hlo hP hD hS hret ls hl
  have S : CallFix p m c cX4_took 6 s args wsX4_took RX4 := S
  have hx := S.1
  have hb := S.2.1
  have hl : lv_has ls 6 [(0, .ref o), (1, .int (iI (((f : Nat) : Int)))), (2, .int (iI (((g : Nat) : Int)))), (3, .int (iI (((bk : Nat) : Int)))), (4, .int (iI (0)))] := hl
  refine lv_aload_n hx hb dX4_took_0 rfl (lv_at hl 0 rfl) ?_
  refine lv_iload_n hx hb dX4_took_1 rfl (lv_at hl 1 rfl) ?_
  refine lv_iload_n hx hb dX4_took_2 rfl (lv_at hl 2 rfl) ?_
  refine lv_iload_n hx hb dX4_took_3 rfl (lv_at hl 3 rfl) ?_
  refine lv_iload hx hb dX4_took_4 (lv_at hl 4 rfl) ?_
  refine kV_R (n := 4) (ci := 4) (q := (RX4, TX4, 4)) S (c_tref lc D cI cZ N o v2 v3 ik w wc k kn t tc ts b bm br mn tA sA kA ck nb cn sm mo re ((f : Nat) : Int) ((g : Nat) : Int) ((bk : Nat) : Int) 0 (by omega) (by omega) (by omega) (by omega) (by omega) (by omega) (by omega) (by omega)) gX4_took_X4_tookRefusal rfl rfl (by decide +kernel) rfl rfl ⟨Nat.le_trans (Nat.le_of_ble_eq_true rfl) hfr, Nat.le_trans (Nat.le_of_ble_eq_true rfl) hlo⟩ hE hAN hP hD hS [0, 1, 2, 3, 4, 5, 6, 7, 8, 9, 10] rfl (by decide) rfl rfl rfl rfl hl.1 [] rfl (Nat.le_of_ble_eq_true rfl) dX4_took_6 ⟨Nat.zero_le _, Nat.zero_le _⟩ ?_
  refine W.eq (g2 := F0 m 9 ls [.int (iI (0))]) rfl ?_
  refine lv_istore (lv' := [(5, .int (iI (0))), (0, .ref o), (1, .int (iI (((f : Nat) : Int)))), (2, .int (iI (((g : Nat) : Int)))), (3, .int (iI (((bk : Nat) : Int)))), (4, .int (iI (0)))]) hx hb dX4_took_9 hl (by decide) rfl (fun ls hl => ?_)
  refine lv_iload hx hb dX4_took_11 (lv_at hl 0 rfl) ?_
  refine b_eqT (tgt := 22) S dX4_took_13 (by decide) (by decide) ?_
  refine lv_aload_n hx hb dX4_took_22 rfl (lv_at hl 1 rfl) ?_
  refine w_get (C := RX4) (T := TX4) (Nf := 4) (ci := 4) (v := .ref w) S (fun _ h => List.mem_cons_of_mem _ (List.mem_append_left _ (List.mem_append_left _ (List.mem_append_right _ h)))) hE hP 0 rfl rfl 0 (by decide) (List.mem_of_getElem? (i := 2) rfl) rfl dX4_took_23 ?_
  refine w_get (C := RX3) (T := TX3) (Nf := 8) (ci := 3) (v := .ref t) S (fun _ h => List.mem_cons_of_mem _ (List.mem_append_left _ (List.mem_append_right _ h))) hE hP 1 rfl rfl 6 (by decide) (List.mem_of_getElem? (i := 3) rfl) rfl dX4_took_26 ?_
  refine lv_iload_n hx hb dX4_took_29 rfl (lv_at hl 2 rfl) ?_
  refine lv_iload_n hx hb dX4_took_30 rfl (lv_at hl 3 rfl) ?_
  refine lv_iload_n hx hb dX4_took_31 rfl (lv_at hl 4 rfl) ?_
  refine kV_R (n := 3) (ci := 2) (q := (RX2, TX2, 2)) S (c_hasTook_T lc D cI cZ N t tc ts cn sm f g bk (by omega) (by omega) (by omega) (by omega) (by omega)) gX4_took_X2_hasTook rfl rfl (by decide +kernel) rfl rfl ⟨Nat.le_trans (Nat.le_of_ble_eq_true rfl) hfr, Nat.le_trans (Nat.le_of_ble_eq_true rfl) hlo⟩ hE hAN hP hD hS [5, 6, 7] rfl (by decide) rfl rfl rfl rfl hl.1 [] rfl (Nat.le_of_ble_eq_true rfl) dX4_took_32 ⟨Nat.zero_le _, Nat.zero_le _⟩ ?_
  refine W.eq (g2 := F0 m 35 ls [.int (iI (1))]) rfl ?_
  refine b_neT (tgt := 41) S dX4_took_35 (by decide) (by decide) (by decide) ?_
  refine lv_aload_n hx hb dX4_took_41 rfl (lv_at hl 1 rfl) ?_
  refine w_get (C := RX4) (T := TX4) (Nf := 4) (ci := 4) (v := .ref w) S (fun _ h => List.mem_cons_of_mem _ (List.mem_append_left _ (List.mem_append_left _ (List.mem_append_right _ h)))) hE hP 0 rfl rfl 0 (by decide) (List.mem_of_getElem? (i := 2) rfl) rfl dX4_took_42 ?_
  refine w_get (C := RX3) (T := TX3) (Nf := 8) (ci := 3) (v := .ref t) S (fun _ h => List.mem_cons_of_mem _ (List.mem_append_left _ (List.mem_append_right _ h))) hE hP 1 rfl rfl 6 (by decide) (List.mem_of_getElem? (i := 3) rfl) rfl dX4_took_45 ?_
  refine lv_iload_n hx hb dX4_took_48 rfl (lv_at hl 2 rfl) ?_
  refine lv_iload_n hx hb dX4_took_49 rfl (lv_at hl 3 rfl) ?_
  refine lv_iload_n hx hb dX4_took_50 rfl (lv_at hl 4 rfl) ?_
  refine kV_R (n := 3) (ci := 2) (q := (RX2, TX2, 2)) S (c_tookUpper lc D cI cZ N t tc ts cn sm f g bk (by omega) (by omega) (by omega)) gX4_took_X2_tookUpper rfl rfl (by decide +kernel) rfl rfl ⟨Nat.le_trans (Nat.le_of_ble_eq_true rfl) hfr, Nat.le_trans (Nat.le_of_ble_eq_true rfl) hlo⟩ hE hAN hP hD hS [5, 6, 7] rfl (by decide) rfl rfl rfl rfl hl.1 [] rfl (Nat.le_of_ble_eq_true rfl) dX4_took_51 ⟨Nat.zero_le _, Nat.zero_le _⟩ ?_
  refine W.eq (g2 := F0 m 54 ls [.int (iI (sm (g * 200 + bk) - sm (f * 200 + bk)))]) rfl ?_
  refine lv_aload_n hx hb dX4_took_54 rfl (lv_at hl 1 rfl) ?_
  refine w_get (C := RX4) (T := TX4) (Nf := 4) (ci := 4) (v := .ref w) S (fun _ h => List.mem_cons_of_mem _ (List.mem_append_left _ (List.mem_append_left _ (List.mem_append_right _ h)))) hE hP 0 rfl rfl 0 (by decide) (List.mem_of_getElem? (i := 2) rfl) rfl dX4_took_55 ?_
  refine w_get (C := RX3) (T := TX3) (Nf := 8) (ci := 3) (v := .ref t) S (fun _ h => List.mem_cons_of_mem _ (List.mem_append_left _ (List.mem_append_right _ h))) hE hP 1 rfl rfl 6 (by decide) (List.mem_of_getElem? (i := 3) rfl) rfl dX4_took_58 ?_
  refine lv_iload_n hx hb dX4_took_61 rfl (lv_at hl 2 rfl) ?_
  refine lv_iload_n hx hb dX4_took_62 rfl (lv_at hl 4 rfl) ?_
  refine kV_R (n := 2) (ci := 2) (q := (RX2, TX2, 2)) S (c_countOf lc D cI cZ N t tc ts cn sm f bk (by omega) (by omega)) gX4_took_X2_countOf rfl rfl (by decide +kernel) rfl rfl ⟨Nat.le_trans (Nat.le_of_ble_eq_true rfl) hfr, Nat.le_trans (Nat.le_of_ble_eq_true rfl) hlo⟩ hE hAN hP hD hS [5, 6, 7] rfl (by decide) rfl rfl rfl rfl hl.1 [.int (iI (sm (g * 200 + bk) - sm (f * 200 + bk)))] rfl (Nat.le_of_ble_eq_true rfl) dX4_took_63 ⟨Nat.zero_le _, Nat.zero_le _⟩ ?_
  refine W.eq (g2 := F0 m 66 ls [.int (iI (cn (f * 200 + bk))), .int (iI (sm (g * 200 + bk) - sm (f * 200 + bk)))]) rfl ?_
  refine w_tz (z := ((wq : Nat) : Int)) hwq ?_
  refine lv_iload hx hb dX4_took_66 (lv_at hl 5 rfl) ?_
  refine kS_R (n := 3) S (c_fraction_0 lc D cI cZ N (sm (g * 200 + bk) - sm (f * 200 + bk)) wq 0 (by omega) (by omega) (by omega)) gX4_took_X4_fractionPart rfl (by decide +kernel) rfl rfl ⟨Nat.le_trans (Nat.le_of_ble_eq_true rfl) hfr, Nat.le_trans (Nat.le_of_ble_eq_true rfl) hlo⟩ hE hAN hP hD hS [] rfl (by decide) rfl hl.1 [] rfl (Nat.le_of_ble_eq_true rfl) dX4_took_68 ⟨Nat.zero_le _, Nat.zero_le _⟩ ?_
  refine W.eq (g2 := F0 m 71 ls [.int (iI ((sm (g * 200 + bk) - sm (f * 200 + bk)).tdiv ((Nat.gcd (sm (g * 200 + bk) - sm (f * 200 + bk)).natAbs wq : Nat) : Int)))]) rfl ?_
  exact hret _ _ _ dX4_took_71 (congrArg iI (by omega))
set_option maxHeartbeats 4000000 in
set_option maxRecDepth 100000 in
theorem c_took_1 (lc : Launch) (D : va_G) (cI cZ : ClassId) (N : Nat) (o : Nat) (v2 : Nat) (v3 : Nat) (ik : Int) (w : Nat) (wc : Nat) (k : Nat) (kn : Nat) (t : Nat) (tc : Nat) (ts : Nat) (b : Nat) (bm : Nat) (br : Nat) (mn : Nat) (tA : Int) (sA : Int) (kA : Int) (ck : Nat → Int) (nb : Nat → Int) (cn : Nat → Int) (sm : Nat → Int) (mo : Nat → Int) (re : Nat → Int) (f : Nat) (g : Nat) (bk : Nat) (wq : Nat) (hmn : 2 ≤ mn ∧ mn ≤ 5) (hfg : f < g) (hgm : g < mn) (hbk : bk < 200) (hcn : ∀ k, k < 1000 → 0 ≤ cn k ∧ cn k ≤ 200) (h2 : 0 < cn (f * 200 + bk) ∧ cn (f * 200 + bk) = cn (g * 200 + bk)) (hwq : cn (f * 200 + bk) = ((wq : Nat) : Int)) (hwq2 : 0 < wq ∧ wq ≤ 200) (hU : -1000000000 ≤ (sm (g * 200 + bk) - sm (f * 200 + bk)) ∧ (sm (g * 200 + bk) - sm (f * 200 + bk)) ≤ 1000000000) : CR lc D cI cZ N yX4_took wsX4_took (rmK 4 90) [.ref o, .int (iI (((f : Nat) : Int))), .int (iI (((g : Nat) : Int))), .int (iI (((bk : Nat) : Int))), .int (iI (1))] [(o, .inr (4, [.ref w, .ref v2, .ref v3, .int (iI (ik))])), (w, .inr (3, [.int (iI (((mn : Nat) : Int))), .int (iI (tA)), .int (iI (sA)), .int (iI (kA)), .ref wc, .ref k, .ref t, .ref b])), (wc, .inl (cI, 5, .inl (vI ck))), (k, .inr (1, [.ref kn])), (kn, .inl (cI, 24, .inl (vI nb))), (t, .inr (2, [.ref tc, .ref ts])), (tc, .inl (cI, 1000, .inl (vI cn))), (ts, .inl (cI, 1000, .inl (vI sm))), (b, .inr (0, [.ref bm, .ref br])), (bm, .inl (cI, 25, .inl (vI mo))), (br, .inl (cI, 5, .inl (vI re)))] (some (.int (iI (((wq : Nat) : Int).tdiv ((Nat.gcd ((sm (g * 200 + bk) - sm (f * 200 + bk))).natAbs wq : Nat) : Int))))) := by
  refine CR.I (cc := cX4_took) (maxL := 6) (by decide) rfl (Nat.le_of_ble_eq_true rfl) ?_
  intro p e s m args below meth c R Q S hE A hAN hfr hlo hP hD hS hret ls hl
  have S : CallFix p m c cX4_took 6 s args wsX4_took RX4 := S
  have hx := S.1
  have hb := S.2.1
  have hl : lv_has ls 6 [(0, .ref o), (1, .int (iI (((f : Nat) : Int)))), (2, .int (iI (((g : Nat) : Int)))), (3, .int (iI (((bk : Nat) : Int)))), (4, .int (iI (1)))] := hl
  refine lv_aload_n hx hb dX4_took_0 rfl (lv_at hl 0 rfl) ?_
  refine lv_iload_n hx hb dX4_took_1 rfl (lv_at hl 1 rfl) ?_
  refine lv_iload_n hx hb dX4_took_2 rfl (lv_at hl 2 rfl) ?_
  refine lv_iload_n hx hb dX4_took_3 rfl (lv_at hl 3 rfl) ?_
  refine lv_iload hx hb dX4_took_4 (lv_at hl 4 rfl) ?_
  refine kV_R (n := 4) (ci := 4) (q := (RX4, TX4, 4)) S (c_tref lc D cI cZ N o v2 v3 ik w wc k kn t tc ts b bm br mn tA sA kA ck nb cn sm mo re ((f : Nat) : Int) ((g : Nat) : Int) ((bk : Nat) : Int) 1 (by omega) (by omega) (by omega) (by omega) (by omega) (by omega) (by omega) (by omega)) gX4_took_X4_tookRefusal rfl rfl (by decide +kernel) rfl rfl ⟨Nat.le_trans (Nat.le_of_ble_eq_true rfl) hfr, Nat.le_trans (Nat.le_of_ble_eq_true rfl) hlo⟩ hE hAN hP hD hS [0, 1, 2, 3, 4, 5, 6, 7, 8, 9, 10] rfl (by decide) rfl rfl rfl rfl hl.1 [] rfl (Nat.le_of_ble_eq_true rfl) dX4_took_6 ⟨Nat.zero_le _, Nat.zero_le _⟩ ?_
  refine W.eq (g2 := F0 m 9 ls [.int (iI (0))]) rfl ?_
  refine lv_istore (lv' := [(5, .int (iI (0))), (0, .ref o), (1, .int (iI (((f : Nat) : Int)))), (2, .int (iI (((g : Nat) : Int)))), (3, .int (iI (((bk : Nat) : Int)))), (4, .int (iI (1)))]) hx hb dX4_took_9 hl (by decide) rfl (fun ls hl => ?_)
  refine lv_iload hx hb dX4_took_11 (lv_at hl 0 rfl) ?_
  refine b_eqT (tgt := 22) S dX4_took_13 (by decide) (by decide) ?_
  refine lv_aload_n hx hb dX4_took_22 rfl (lv_at hl 1 rfl) ?_
  refine w_get (C := RX4) (T := TX4) (Nf := 4) (ci := 4) (v := .ref w) S (fun _ h => List.mem_cons_of_mem _ (List.mem_append_left _ (List.mem_append_left _ (List.mem_append_right _ h)))) hE hP 0 rfl rfl 0 (by decide) (List.mem_of_getElem? (i := 2) rfl) rfl dX4_took_23 ?_
  refine w_get (C := RX3) (T := TX3) (Nf := 8) (ci := 3) (v := .ref t) S (fun _ h => List.mem_cons_of_mem _ (List.mem_append_left _ (List.mem_append_right _ h))) hE hP 1 rfl rfl 6 (by decide) (List.mem_of_getElem? (i := 3) rfl) rfl dX4_took_26 ?_
  refine lv_iload_n hx hb dX4_took_29 rfl (lv_at hl 2 rfl) ?_
  refine lv_iload_n hx hb dX4_took_30 rfl (lv_at hl 3 rfl) ?_
  refine lv_iload_n hx hb dX4_took_31 rfl (lv_at hl 4 rfl) ?_
  refine kV_R (n := 3) (ci := 2) (q := (RX2, TX2, 2)) S (c_hasTook_T lc D cI cZ N t tc ts cn sm f g bk (by omega) (by omega) (by omega) (by omega) (by omega)) gX4_took_X2_hasTook rfl rfl (by decide +kernel) rfl rfl ⟨Nat.le_trans (Nat.le_of_ble_eq_true rfl) hfr, Nat.le_trans (Nat.le_of_ble_eq_true rfl) hlo⟩ hE hAN hP hD hS [5, 6, 7] rfl (by decide) rfl rfl rfl rfl hl.1 [] rfl (Nat.le_of_ble_eq_true rfl) dX4_took_32 ⟨Nat.zero_le _, Nat.zero_le _⟩ ?_
  refine W.eq (g2 := F0 m 35 ls [.int (iI (1))]) rfl ?_
  refine b_neT (tgt := 41) S dX4_took_35 (by decide) (by decide) (by decide) ?_
  refine lv_aload_n hx hb dX4_took_41 rfl (lv_at hl 1 rfl) ?_
  refine w_get (C := RX4) (T := TX4) (Nf := 4) (ci := 4) (v := .ref w) S (fun _ h => List.mem_cons_of_mem _ (List.mem_append_left _ (List.mem_append_left _ (List.mem_append_right _ h)))) hE hP 0 rfl rfl 0 (by decide) (List.mem_of_getElem? (i := 2) rfl) rfl dX4_took_42 ?_
  refine w_get (C := RX3) (T := TX3) (Nf := 8) (ci := 3) (v := .ref t) S (fun _ h => List.mem_cons_of_mem _ (List.mem_append_left _ (List.mem_append_right _ h))) hE hP 1 rfl rfl 6 (by decide) (List.mem_of_getElem? (i := 3) rfl) rfl dX4_took_45 ?_
  refine lv_iload_n hx hb dX4_took_48 rfl (lv_at hl 2 rfl) ?_
  refine lv_iload_n hx hb dX4_took_49 rfl (lv_at hl 3 rfl) ?_
  refine lv_iload_n hx hb dX4_took_50 rfl (lv_at hl 4 rfl) ?_
  refine kV_R (n := 3) (ci := 2) (q := (RX2, TX2, 2)) S (c_tookUpper lc D cI cZ N t tc ts cn sm f g bk (by omega) (by omega) (by omega)) gX4_took_X2_tookUpper rfl rfl (by decide +kernel) rfl rfl ⟨Nat.le_trans (Nat.le_of_ble_eq_true rfl) hfr, Nat.le_trans (Nat.le_of_ble_eq_true rfl) hlo⟩ hE hAN hP hD hS [5, 6, 7] rfl (by decide) rfl rfl rfl rfl hl.1 [] rfl (Nat.le_of_ble_eq_true rfl) dX4_took_51 ⟨Nat.zero_le _, Nat.zero_le _⟩ ?_
  refine W.eq (g2 := F0 m 54 ls [.int (iI (sm (g * 200 + bk) - sm (f * 200 + bk)))]) rfl ?_
  refine lv_aload_n hx hb dX4_took_54 rfl (lv_at hl 1 rfl) ?_
  refine w_get (C := RX4) (T := TX4) (Nf := 4) (ci := 4) (v := .ref w) S (fun _ h => List.mem_cons_of_mem _ (List.mem_append_left _ (List.mem_append_left _ (List.mem_append_right _ h)))) hE hP 0 rfl rfl 0 (by decide) (List.mem_of_getElem? (i := 2) rfl) rfl dX4_took_55 ?_
  refine w_get (C := RX3) (T := TX3) (Nf := 8) (ci := 3) (v := .ref t) S (fun _ h => List.mem_cons_of_mem _ (List.mem_append_left _ (List.mem_append_right _ h))) hE hP 1 rfl rfl 6 (by decide) (List.mem_of_getElem? (i := 3) rfl) rfl dX4_took_58 ?_
  refine lv_iload_n hx hb dX4_took_61 rfl (lv_at hl 2 rfl) ?_
  refine lv_iload_n hx hb dX4_took_62 rfl (lv_at hl 4 rfl) ?_
  refine kV_R (n := 2) (ci := 2) (q := (RX2, TX2, 2)) S (c_countOf lc D cI cZ N t tc ts cn sm f bk (by omega) (by omega)) gX4_took_X2_countOf rfl rfl (by decide +kernel) rfl rfl ⟨Nat.le_trans (Nat.le_of_ble_eq_true rfl) hfr, Nat.le_trans (Nat.le_of_ble_eq_true rfl) hlo⟩ hE hAN hP hD hS [5, 6, 7] rfl (by decide) rfl rfl rfl rfl hl.1 [.int (iI (sm (g * 200 + bk) - sm (f * 200 + bk)))] rfl (Nat.le_of_ble_eq_true rfl) dX4_took_63 ⟨Nat.zero_le _, Nat.zero_le _⟩ ?_
  refine W.eq (g2 := F0 m 66 ls [.int (iI (cn (f * 200 + bk))), .int (iI (sm (g * 200 + bk) - sm (f * 200 + bk)))]) rfl ?_
  refine w_tz (z := ((wq : Nat) : Int)) hwq ?_
  refine lv_iload hx hb dX4_took_66 (lv_at hl 5 rfl) ?_
  refine kS_R (n := 3) S (c_fraction_1 lc D cI cZ N (sm (g * 200 + bk) - sm (f * 200 + bk)) wq 1 (by omega) (by omega) (by omega)) gX4_took_X4_fractionPart rfl (by decide +kernel) rfl rfl ⟨Nat.le_trans (Nat.le_of_ble_eq_true rfl) hfr, Nat.le_trans (Nat.le_of_ble_eq_true rfl) hlo⟩ hE hAN hP hD hS [] rfl (by decide) rfl hl.1 [] rfl (Nat.le_of_ble_eq_true rfl) dX4_took_68 ⟨Nat.zero_le _, Nat.zero_le _⟩ ?_
  refine W.eq (g2 := F0 m 71 ls [.int (iI (((wq : Nat) : Int).tdiv ((Nat.gcd (sm (g * 200 + bk) - sm (f * 200 + bk)).natAbs wq : Nat) : Int)))]) rfl ?_
  exact hret _ _ _ dX4_took_71 (congrArg iI (by omega))
set_option maxHeartbeats 4000000 in
set_option maxRecDepth 100000 in
theorem c_first_O (lc : Launch) (D : va_G) (cI cZ : ClassId) (N : Nat) (o : Nat) (v2 : Nat) (v3 : Nat) (ik : Int) (w : Nat) (wc : Nat) (k : Nat) (kn : Nat) (t : Nat) (tc : Nat) (ts : Nat) (b : Nat) (bm : Nat) (br : Nat) (mn : Nat) (tA : Int) (sA : Int) (kA : Int) (ck : Nat → Int) (nb : Nat → Int) (cn : Nat → Int) (sm : Nat → Int) (mo : Nat → Int) (re : Nat → Int) (x : Int) (y : Int) (r_x : -2147483648 ≤ x ∧ x ≤ 2147483647) (r_y : -2147483648 ≤ y ∧ y ≤ 2147483647) (h : ¬ ((0 ≤ x ∧ x ≤ 20) ∧ (0 ≤ y ∧ y ≤ 2))) : CR lc D cI cZ N yX4_first wsX4_first (rmK 4 88) [.ref o, .int (iI (x)), .int (iI (y))] [(o, .inr (4, [.ref w, .ref v2, .ref v3, .int (iI (ik))])), (w, .inr (3, [.int (iI (((mn : Nat) : Int))), .int (iI (tA)), .int (iI (sA)), .int (iI (kA)), .ref wc, .ref k, .ref t, .ref b])), (wc, .inl (cI, 5, .inl (vI ck))), (k, .inr (1, [.ref kn])), (kn, .inl (cI, 24, .inl (vI nb))), (t, .inr (2, [.ref tc, .ref ts])), (tc, .inl (cI, 1000, .inl (vI cn))), (ts, .inl (cI, 1000, .inl (vI sm))), (b, .inr (0, [.ref bm, .ref br])), (bm, .inl (cI, 25, .inl (vI mo))), (br, .inl (cI, 5, .inl (vI re)))] (some (.int (iI (-2)))) := by
  refine CR.I (cc := cX4_first) (maxL := 5) (by decide) rfl (Nat.le_of_ble_eq_true rfl) ?_
  intro p e s m args below meth c R Q S hE A hAN hfr hlo hP hD hS hret ls hl
  have S : CallFix p m c cX4_first 5 s args wsX4_first RX4 := S
  have hx := S.1
  have hb := S.2.1
  have hl : lv_has ls 5 [(0, .ref o), (1, .int (iI (x))), (2, .int (iI (y)))] := hl
  by_cases h3 : 0 ≤ x ∧ x ≤ 20
  · refine lv_iload_n hx hb dX4_first_0 rfl (lv_at hl 1 rfl) ?_
    refine lv_iconst (v := iI (0)) hx hb dX4_first_1 rfl ?_
    refine lv_bipush (v := iI (20)) hx hb dX4_first_2 (by decide) ?_
    refine kS_R (n := 3) S (c_within_T lc D cI cZ N x 0 20 (by omega) (by omega) (by omega) (by omega)) gX4_first_X4_within rfl (by decide +kernel) rfl rfl ⟨Nat.le_trans (Nat.le_of_ble_eq_true rfl) hfr, Nat.le_trans (Nat.le_of_ble_eq_true rfl) hlo⟩ hE hAN hP hD hS [] rfl (by decide) rfl hl.1 [] rfl (Nat.le_of_ble_eq_true rfl) dX4_first_4 ⟨Nat.zero_le _, Nat.zero_le _⟩ ?_
    refine W.eq (g2 := F0 m 7 ls [.int (iI (1))]) rfl ?_
    refine b_eqF (tgt := 19) S dX4_first_7 (by decide) (by decide) (by decide) ?_
    refine lv_iload_n hx hb dX4_first_10 rfl (lv_at hl 2 rfl) ?_
    refine lv_iconst (v := iI (0)) hx hb dX4_first_11 rfl ?_
    refine lv_iconst (v := iI (2)) hx hb dX4_first_12 rfl ?_
    refine kS_R (n := 3) S (c_within_F lc D cI cZ N y 0 2 (by omega) (by omega) (by omega) (by omega)) gX4_first_X4_within rfl (by decide +kernel) rfl rfl ⟨Nat.le_trans (Nat.le_of_ble_eq_true rfl) hfr, Nat.le_trans (Nat.le_of_ble_eq_true rfl) hlo⟩ hE hAN hP hD hS [] rfl (by decide) rfl hl.1 [] rfl (Nat.le_of_ble_eq_true rfl) dX4_first_13 ⟨Nat.zero_le _, Nat.zero_le _⟩ ?_
    refine W.eq (g2 := F0 m 16 ls [.int (iI (0))]) rfl ?_
    refine b_neF (tgt := 22) S dX4_first_16 (by decide) (by decide) ?_
    refine lv_bipush (v := iI ((-2))) hx hb dX4_first_19 (by decide) ?_
    exact hret _ _ _ dX4_first_21 (congrArg iI (by omega))
  · refine lv_iload_n hx hb dX4_first_0 rfl (lv_at hl 1 rfl) ?_
    refine lv_iconst (v := iI (0)) hx hb dX4_first_1 rfl ?_
    refine lv_bipush (v := iI (20)) hx hb dX4_first_2 (by decide) ?_
    refine kS_R (n := 3) S (c_within_F lc D cI cZ N x 0 20 (by omega) (by omega) (by omega) (by omega)) gX4_first_X4_within rfl (by decide +kernel) rfl rfl ⟨Nat.le_trans (Nat.le_of_ble_eq_true rfl) hfr, Nat.le_trans (Nat.le_of_ble_eq_true rfl) hlo⟩ hE hAN hP hD hS [] rfl (by decide) rfl hl.1 [] rfl (Nat.le_of_ble_eq_true rfl) dX4_first_4 ⟨Nat.zero_le _, Nat.zero_le _⟩ ?_
    refine W.eq (g2 := F0 m 7 ls [.int (iI (0))]) rfl ?_
    refine b_eqT (tgt := 19) S dX4_first_7 (by decide) (by decide) ?_
    refine lv_bipush (v := iI ((-2))) hx hb dX4_first_19 (by decide) ?_
    exact hret _ _ _ dX4_first_21 (congrArg iI (by omega))
set_option maxHeartbeats 4000000 in
set_option maxRecDepth 100000 in
theorem c_first_N (lc : Launch) (D : va_G) (cI cZ : ClassId) (N : Nat) (o : Nat) (v2 : Nat) (v3 : Nat) (ik : Int) (w : Nat) (wc : Nat) (k : Nat) (kn : Nat) (t : Nat) (tc : Nat) (ts : Nat) (b : Nat) (bm : Nat) (br : Nat) (mn : Nat) (tA : Int) (sA : Int) (kA : Int) (ck : Nat → Int) (nb : Nat → Int) (cn : Nat → Int) (sm : Nat → Int) (mo : Nat → Int) (re : Nat → Int) (lim : Int) (y : Int) (hmn : 2 ≤ mn ∧ mn ≤ 5) (hcn : ∀ k, k < 1000 → 0 ≤ cn k ∧ cn k ≤ 200) (hlim : 0 ≤ lim ∧ lim ≤ 20) (r_y : -2147483648 ≤ y ∧ y ≤ 2147483647) (hy : 0 ≤ y ∧ y ≤ 2) (h1 : ∀ i, i < 200 → cn (0 * 200 + i) - cn ((mn - 1) * 200 + i) ≤ lim) : CR lc D cI cZ N yX4_first wsX4_first (rmK 4 88) [.ref o, .int (iI (lim)), .int (iI (y))] [(o, .inr (4, [.ref w, .ref v2, .ref v3, .int (iI (ik))])), (w, .inr (3, [.int (iI (((mn : Nat) : Int))), .int (iI (tA)), .int (iI (sA)), .int (iI (kA)), .ref wc, .ref k, .ref t, .ref b])), (wc, .inl (cI, 5, .inl (vI ck))), (k, .inr (1, [.ref kn])), (kn, .inl (cI, 24, .inl (vI nb))), (t, .inr (2, [.ref tc, .ref ts])), (tc, .inl (cI, 1000, .inl (vI cn))), (ts, .inl (cI, 1000, .inl (vI sm))), (b, .inr (0, [.ref bm, .ref br])), (bm, .inl (cI, 25, .inl (vI mo))), (br, .inl (cI, 5, .inl (vI re)))] (some (.int (iI (-6)))) := by
  refine CR.I (cc := cX4_first) (maxL := 5) (by decide) rfl (Nat.le_of_ble_eq_true rfl) ?_
  intro p e s m args below meth c R Q S hE A hAN hfr hlo hP hD hS hret ls hl
  have S : CallFix p m c cX4_first 5 s args wsX4_first RX4 := S
  have hx := S.1
  have hb := S.2.1
  have hl : lv_has ls 5 [(0, .ref o), (1, .int (iI (lim))), (2, .int (iI (y)))] := hl
  refine lv_iload_n hx hb dX4_first_0 rfl (lv_at hl 1 rfl) ?_
  refine lv_iconst (v := iI (0)) hx hb dX4_first_1 rfl ?_
  refine lv_bipush (v := iI (20)) hx hb dX4_first_2 (by decide) ?_
  refine kS_R (n := 3) S (c_within_T lc D cI cZ N lim 0 20 (by omega) (by omega) (by omega) (by omega)) gX4_first_X4_within rfl (by decide +kernel) rfl rfl ⟨Nat.le_trans (Nat.le_of_ble_eq_true rfl) hfr, Nat.le_trans (Nat.le_of_ble_eq_true rfl) hlo⟩ hE hAN hP hD hS [] rfl (by decide) rfl hl.1 [] rfl (Nat.le_of_ble_eq_true rfl) dX4_first_4 ⟨Nat.zero_le _, Nat.zero_le _⟩ ?_
  refine W.eq (g2 := F0 m 7 ls [.int (iI (1))]) rfl ?_
  refine b_eqF (tgt := 19) S dX4_first_7 (by decide) (by decide) (by decide) ?_
  refine lv_iload_n hx hb dX4_first_10 rfl (lv_at hl 2 rfl) ?_
  refine lv_iconst (v := iI (0)) hx hb dX4_first_11 rfl ?_
  refine lv_iconst (v := iI (2)) hx hb dX4_first_12 rfl ?_
  refine kS_R (n := 3) S (c_within_T lc D cI cZ N y 0 2 (by omega) (by omega) (by omega) (by omega)) gX4_first_X4_within rfl (by decide +kernel) rfl rfl ⟨Nat.le_trans (Nat.le_of_ble_eq_true rfl) hfr, Nat.le_trans (Nat.le_of_ble_eq_true rfl) hlo⟩ hE hAN hP hD hS [] rfl (by decide) rfl hl.1 [] rfl (Nat.le_of_ble_eq_true rfl) dX4_first_13 ⟨Nat.zero_le _, Nat.zero_le _⟩ ?_
  refine W.eq (g2 := F0 m 16 ls [.int (iI (1))]) rfl ?_
  refine b_neT (tgt := 22) S dX4_first_16 (by decide) (by decide) (by decide) ?_
  refine lv_aload_n hx hb dX4_first_22 rfl (lv_at hl 0 rfl) ?_
  refine w_get (C := RX4) (T := TX4) (Nf := 4) (ci := 4) (v := .ref w) S (fun _ h => List.mem_cons_of_mem _ (List.mem_append_left _ (List.mem_append_left _ (List.mem_append_right _ h)))) hE hP 0 rfl rfl 0 (by decide) (List.mem_of_getElem? (i := 1) rfl) rfl dX4_first_23 ?_
  refine lv_iload_n hx hb dX4_first_26 rfl (lv_at hl 1 rfl) ?_
  refine kV_R (n := 1) (ci := 3) (q := (RX3, TX3, 8)) S (c_firstBlock_N lc D cI cZ N w wc k kn t tc ts b bm br mn tA sA kA ck nb cn sm mo re lim (by omega) (by omega) (by omega) h1) gX4_first_X3_firstBlockAbove rfl rfl (by decide +kernel) rfl rfl ⟨Nat.le_trans (Nat.le_of_ble_eq_true rfl) hfr, Nat.le_trans (Nat.le_of_ble_eq_true rfl) hlo⟩ hE hAN hP hD hS [1, 2, 3, 4, 5, 6, 7, 8, 9, 10] rfl (by decide) rfl rfl rfl rfl hl.1 [] rfl (Nat.le_of_ble_eq_true rfl) dX4_first_27 ⟨Nat.zero_le _, Nat.zero_le _⟩ ?_
  refine W.eq (g2 := F0 m 30 ls [.int (iI (200))]) rfl ?_
  refine lv_istore_n (lv' := [(3, .int (iI (200))), (0, .ref o), (1, .int (iI (lim))), (2, .int (iI (y)))]) hx hb dX4_first_30 rfl hl (by decide) rfl (fun ls hl => ?_)
  refine lv_iload_n hx hb dX4_first_31 rfl (lv_at hl 0 rfl) ?_
  refine kS_R (n := 1) S (c_isBlock_F lc D cI cZ N 200 (by omega) (by omega)) gX4_first_X4_isBlock rfl (by decide +kernel) rfl rfl ⟨Nat.le_trans (Nat.le_of_ble_eq_true rfl) hfr, Nat.le_trans (Nat.le_of_ble_eq_true rfl) hlo⟩ hE hAN hP hD hS [] rfl (by decide) rfl hl.1 [] rfl (Nat.le_of_ble_eq_true rfl) dX4_first_32 ⟨Nat.zero_le _, Nat.zero_le _⟩ ?_
  refine W.eq (g2 := F0 m 35 ls [.int (iI (0))]) rfl ?_
  refine b_neF (tgt := 41) S dX4_first_35 (by decide) (by decide) ?_
  refine lv_bipush (v := iI ((-6))) hx hb dX4_first_38 (by decide) ?_
  exact hret _ _ _ dX4_first_40 (congrArg iI (by omega))
set_option maxHeartbeats 4000000 in
set_option maxRecDepth 100000 in
theorem c_first_0 (lc : Launch) (D : va_G) (cI cZ : ClassId) (N : Nat) (o : Nat) (v2 : Nat) (v3 : Nat) (ik : Int) (w : Nat) (wc : Nat) (k : Nat) (kn : Nat) (t : Nat) (tc : Nat) (ts : Nat) (b : Nat) (bm : Nat) (br : Nat) (mn : Nat) (tA : Int) (sA : Int) (kA : Int) (ck : Nat → Int) (nb : Nat → Int) (cn : Nat → Int) (sm : Nat → Int) (mo : Nat → Int) (re : Nat → Int) (lim : Int) (B : Nat) (hmn : 2 ≤ mn ∧ mn ≤ 5) (hcn : ∀ k, k < 1000 → 0 ≤ cn k ∧ cn k ≤ 200) (hlim : 0 ≤ lim ∧ lim ≤ 20) (hB : B < 200) (h1 : ∀ i, i < B → cn (0 * 200 + i) - cn ((mn - 1) * 200 + i) ≤ lim) (h2 : lim < cn (0 * 200 + B) - cn ((mn - 1) * 200 + B)) : CR lc D cI cZ N yX4_first wsX4_first (rmK 4 88) [.ref o, .int (iI (lim)), .int (iI (0))] [(o, .inr (4, [.ref w, .ref v2, .ref v3, .int (iI (ik))])), (w, .inr (3, [.int (iI (((mn : Nat) : Int))), .int (iI (tA)), .int (iI (sA)), .int (iI (kA)), .ref wc, .ref k, .ref t, .ref b])), (wc, .inl (cI, 5, .inl (vI ck))), (k, .inr (1, [.ref kn])), (kn, .inl (cI, 24, .inl (vI nb))), (t, .inr (2, [.ref tc, .ref ts])), (tc, .inl (cI, 1000, .inl (vI cn))), (ts, .inl (cI, 1000, .inl (vI sm))), (b, .inr (0, [.ref bm, .ref br])), (bm, .inl (cI, 25, .inl (vI mo))), (br, .inl (cI, 5, .inl (vI re)))] (some (.int (iI (((B : Nat) : Int))))) := by
  refine CR.I (cc := cX4_first) (maxL := 5) (by decide) rfl (Nat.le_of_ble_eq_true rfl) ?_
  intro p e s m args below meth c R Q S hE A hAN hfr hlo hP hD hS hret ls hl
  have S : CallFix p m c cX4_first 5 s args wsX4_first RX4 := S
  have hx := S.1
  have hb := S.2.1
  have hl : lv_has ls 5 [(0, .ref o), (1, .int (iI (lim))), (2, .int (iI (0)))] := hl
  refine lv_iload_n hx hb dX4_first_0 rfl (lv_at hl 1 rfl) ?_
  refine lv_iconst (v := iI (0)) hx hb dX4_first_1 rfl ?_
  refine lv_bipush (v := iI (20)) hx hb dX4_first_2 (by decide) ?_
  refine kS_R (n := 3) S (c_within_T lc D cI cZ N lim 0 20 (by omega) (by omega) (by omega) (by omega)) gX4_first_X4_within rfl (by decide +kernel) rfl rfl ⟨Nat.le_trans (Nat.le_of_ble_eq_true rfl) hfr, Nat.le_trans (Nat.le_of_ble_eq_true rfl) hlo⟩ hE hAN hP hD hS [] rfl (by decide) rfl hl.1 [] rfl (Nat.le_of_ble_eq_true rfl) dX4_first_4 ⟨Nat.zero_le _, Nat.zero_le _⟩ ?_
  refine W.eq (g2 := F0 m 7 ls [.int (iI (1))]) rfl ?_
  refine b_eqF (tgt := 19) S dX4_first_7 (by decide) (by decide) (by decide) ?_
  refine lv_iload_n hx hb dX4_first_10 rfl (lv_at hl 2 rfl) ?_
  refine lv_iconst (v := iI (0)) hx hb dX4_first_11 rfl ?_
  refine lv_iconst (v := iI (2)) hx hb dX4_first_12 rfl ?_
  refine kS_R (n := 3) S (c_within_T lc D cI cZ N 0 0 2 (by omega) (by omega) (by omega) (by omega)) gX4_first_X4_within rfl (by decide +kernel) rfl rfl ⟨Nat.le_trans (Nat.le_of_ble_eq_true rfl) hfr, Nat.le_trans (Nat.le_of_ble_eq_true rfl) hlo⟩ hE hAN hP hD hS [] rfl (by decide) rfl hl.1 [] rfl (Nat.le_of_ble_eq_true rfl) dX4_first_13 ⟨Nat.zero_le _, Nat.zero_le _⟩ ?_
  refine W.eq (g2 := F0 m 16 ls [.int (iI (1))]) rfl ?_
  refine b_neT (tgt := 22) S dX4_first_16 (by decide) (by decide) (by decide) ?_
  refine lv_aload_n hx hb dX4_first_22 rfl (lv_at hl 0 rfl) ?_
  refine w_get (C := RX4) (T := TX4) (Nf := 4) (ci := 4) (v := .ref w) S (fun _ h => List.mem_cons_of_mem _ (List.mem_append_left _ (List.mem_append_left _ (List.mem_append_right _ h)))) hE hP 0 rfl rfl 0 (by decide) (List.mem_of_getElem? (i := 1) rfl) rfl dX4_first_23 ?_
  refine lv_iload_n hx hb dX4_first_26 rfl (lv_at hl 1 rfl) ?_
  refine kV_R (n := 1) (ci := 3) (q := (RX3, TX3, 8)) S (c_firstBlock_S lc D cI cZ N w wc k kn t tc ts b bm br mn tA sA kA ck nb cn sm mo re lim B (by omega) (by omega) (by omega) (by omega) h1 (by omega)) gX4_first_X3_firstBlockAbove rfl rfl (by decide +kernel) rfl rfl ⟨Nat.le_trans (Nat.le_of_ble_eq_true rfl) hfr, Nat.le_trans (Nat.le_of_ble_eq_true rfl) hlo⟩ hE hAN hP hD hS [1, 2, 3, 4, 5, 6, 7, 8, 9, 10] rfl (by decide) rfl rfl rfl rfl hl.1 [] rfl (Nat.le_of_ble_eq_true rfl) dX4_first_27 ⟨Nat.zero_le _, Nat.zero_le _⟩ ?_
  refine W.eq (g2 := F0 m 30 ls [.int (iI (((B : Nat) : Int)))]) rfl ?_
  refine lv_istore_n (lv' := [(3, .int (iI (((B : Nat) : Int)))), (0, .ref o), (1, .int (iI (lim))), (2, .int (iI (0)))]) hx hb dX4_first_30 rfl hl (by decide) rfl (fun ls hl => ?_)
  refine lv_iload_n hx hb dX4_first_31 rfl (lv_at hl 0 rfl) ?_
  refine kS_R (n := 1) S (c_isBlock_T lc D cI cZ N ((B : Nat) : Int) (by omega) (by omega)) gX4_first_X4_isBlock rfl (by decide +kernel) rfl rfl ⟨Nat.le_trans (Nat.le_of_ble_eq_true rfl) hfr, Nat.le_trans (Nat.le_of_ble_eq_true rfl) hlo⟩ hE hAN hP hD hS [] rfl (by decide) rfl hl.1 [] rfl (Nat.le_of_ble_eq_true rfl) dX4_first_32 ⟨Nat.zero_le _, Nat.zero_le _⟩ ?_
  refine W.eq (g2 := F0 m 35 ls [.int (iI (1))]) rfl ?_
  refine b_neT (tgt := 41) S dX4_first_35 (by decide) (by decide) (by decide) ?_
  refine lv_iload_n hx hb dX4_first_41 rfl (lv_at hl 3 rfl) ?_
  refine b_neF (tgt := 47) S dX4_first_42 (by decide) (by decide) ?_
  refine lv_iload_n hx hb dX4_first_45 rfl (lv_at hl 0 rfl) ?_
  exact hret _ _ _ dX4_first_46 rfl
set_option maxHeartbeats 4000000 in
set_option maxRecDepth 100000 in
theorem c_first_1 (lc : Launch) (D : va_G) (cI cZ : ClassId) (N : Nat) (o : Nat) (v2 : Nat) (v3 : Nat) (ik : Int) (w : Nat) (wc : Nat) (k : Nat) (kn : Nat) (t : Nat) (tc : Nat) (ts : Nat) (b : Nat) (bm : Nat) (br : Nat) (mn : Nat) (tA : Int) (sA : Int) (kA : Int) (ck : Nat → Int) (nb : Nat → Int) (cn : Nat → Int) (sm : Nat → Int) (mo : Nat → Int) (re : Nat → Int) (lim : Int) (B : Nat) (J : Nat) (hmn : 2 ≤ mn ∧ mn ≤ 5) (hcn : ∀ k, k < 1000 → 0 ≤ cn k ∧ cn k ≤ 200) (hlim : 0 ≤ lim ∧ lim ≤ 20) (hB : B < 200) (h1 : ∀ i, i < B → cn (0 * 200 + i) - cn ((mn - 1) * 200 + i) ≤ lim) (h2 : lim < cn (0 * 200 + B) - cn ((mn - 1) * 200 + B)) (hJ : J ≤ mn - 2) (h3 : ∀ i, i < J → cn (i * 200 + B) - cn ((i + 1) * 200 + B) ≤ 0) (h4 : J < mn - 2 → 0 < cn (J * 200 + B) - cn ((J + 1) * 200 + B)) : CR lc D cI cZ N yX4_first wsX4_first (rmK 4 88) [.ref o, .int (iI (lim)), .int (iI (1))] [(o, .inr (4, [.ref w, .ref v2, .ref v3, .int (iI (ik))])), (w, .inr (3, [.int (iI (((mn : Nat) : Int))), .int (iI (tA)), .int (iI (sA)), .int (iI (kA)), .ref wc, .ref k, .ref t, .ref b])), (wc, .inl (cI, 5, .inl (vI ck))), (k, .inr (1, [.ref kn])), (kn, .inl (cI, 24, .inl (vI nb))), (t, .inr (2, [.ref tc, .ref ts])), (tc, .inl (cI, 1000, .inl (vI cn))), (ts, .inl (cI, 1000, .inl (vI sm))), (b, .inr (0, [.ref bm, .ref br])), (bm, .inl (cI, 25, .inl (vI mo))), (br, .inl (cI, 5, .inl (vI re)))] (some (.int (iI (((J : Nat) : Int))))) := by
  refine CR.I (cc := cX4_first) (maxL := 5) (by decide) rfl (Nat.le_of_ble_eq_true rfl) ?_
  intro p e s m args below meth c R Q S hE A hAN hfr hlo hP hD hS hret ls hl
  have S : CallFix p m c cX4_first 5 s args wsX4_first RX4 := S
  have hx := S.1
  have hb := S.2.1
  have hl : lv_has ls 5 [(0, .ref o), (1, .int (iI (lim))), (2, .int (iI (1)))] := hl
  refine lv_iload_n hx hb dX4_first_0 rfl (lv_at hl 1 rfl) ?_
  refine lv_iconst (v := iI (0)) hx hb dX4_first_1 rfl ?_
  refine lv_bipush (v := iI (20)) hx hb dX4_first_2 (by decide) ?_
  refine kS_R (n := 3) S (c_within_T lc D cI cZ N lim 0 20 (by omega) (by omega) (by omega) (by omega)) gX4_first_X4_within rfl (by decide +kernel) rfl rfl ⟨Nat.le_trans (Nat.le_of_ble_eq_true rfl) hfr, Nat.le_trans (Nat.le_of_ble_eq_true rfl) hlo⟩ hE hAN hP hD hS [] rfl (by decide) rfl hl.1 [] rfl (Nat.le_of_ble_eq_true rfl) dX4_first_4 ⟨Nat.zero_le _, Nat.zero_le _⟩ ?_
  refine W.eq (g2 := F0 m 7 ls [.int (iI (1))]) rfl ?_
  refine b_eqF (tgt := 19) S dX4_first_7 (by decide) (by decide) (by decide) ?_
  refine lv_iload_n hx hb dX4_first_10 rfl (lv_at hl 2 rfl) ?_
  refine lv_iconst (v := iI (0)) hx hb dX4_first_11 rfl ?_
  refine lv_iconst (v := iI (2)) hx hb dX4_first_12 rfl ?_
  refine kS_R (n := 3) S (c_within_T lc D cI cZ N 1 0 2 (by omega) (by omega) (by omega) (by omega)) gX4_first_X4_within rfl (by decide +kernel) rfl rfl ⟨Nat.le_trans (Nat.le_of_ble_eq_true rfl) hfr, Nat.le_trans (Nat.le_of_ble_eq_true rfl) hlo⟩ hE hAN hP hD hS [] rfl (by decide) rfl hl.1 [] rfl (Nat.le_of_ble_eq_true rfl) dX4_first_13 ⟨Nat.zero_le _, Nat.zero_le _⟩ ?_
  refine W.eq (g2 := F0 m 16 ls [.int (iI (1))]) rfl ?_
  refine b_neT (tgt := 22) S dX4_first_16 (by decide) (by decide) (by decide) ?_
  refine lv_aload_n hx hb dX4_first_22 rfl (lv_at hl 0 rfl) ?_
  refine w_get (C := RX4) (T := TX4) (Nf := 4) (ci := 4) (v := .ref w) S (fun _ h => List.mem_cons_of_mem _ (List.mem_append_left _ (List.mem_append_left _ (List.mem_append_right _ h)))) hE hP 0 rfl rfl 0 (by decide) (List.mem_of_getElem? (i := 1) rfl) rfl dX4_first_23 ?_
  refine lv_iload_n hx hb dX4_first_26 rfl (lv_at hl 1 rfl) ?_
  refine kV_R (n := 1) (ci := 3) (q := (RX3, TX3, 8)) S (c_firstBlock_S lc D cI cZ N w wc k kn t tc ts b bm br mn tA sA kA ck nb cn sm mo re lim B (by omega) (by omega) (by omega) (by omega) h1 (by omega)) gX4_first_X3_firstBlockAbove rfl rfl (by decide +kernel) rfl rfl ⟨Nat.le_trans (Nat.le_of_ble_eq_true rfl) hfr, Nat.le_trans (Nat.le_of_ble_eq_true rfl) hlo⟩ hE hAN hP hD hS [1, 2, 3, 4, 5, 6, 7, 8, 9, 10] rfl (by decide) rfl rfl rfl rfl hl.1 [] rfl (Nat.le_of_ble_eq_true rfl) dX4_first_27 ⟨Nat.zero_le _, Nat.zero_le _⟩ ?_
  refine W.eq (g2 := F0 m 30 ls [.int (iI (((B : Nat) : Int)))]) rfl ?_
  refine lv_istore_n (lv' := [(3, .int (iI (((B : Nat) : Int)))), (0, .ref o), (1, .int (iI (lim))), (2, .int (iI (1)))]) hx hb dX4_first_30 rfl hl (by decide) rfl (fun ls hl => ?_)
  refine lv_iload_n hx hb dX4_first_31 rfl (lv_at hl 0 rfl) ?_
  refine kS_R (n := 1) S (c_isBlock_T lc D cI cZ N ((B : Nat) : Int) (by omega) (by omega)) gX4_first_X4_isBlock rfl (by decide +kernel) rfl rfl ⟨Nat.le_trans (Nat.le_of_ble_eq_true rfl) hfr, Nat.le_trans (Nat.le_of_ble_eq_true rfl) hlo⟩ hE hAN hP hD hS [] rfl (by decide) rfl hl.1 [] rfl (Nat.le_of_ble_eq_true rfl) dX4_first_32 ⟨Nat.zero_le _, Nat.zero_le _⟩ ?_
  refine W.eq (g2 := F0 m 35 ls [.int (iI (1))]) rfl ?_
  refine b_neT (tgt := 41) S dX4_first_35 (by decide) (by decide) (by decide) ?_
  refine lv_iload_n hx hb dX4_first_41 rfl (lv_at hl 3 rfl) ?_
  refine b_neT (tgt := 47) S dX4_first_42 (by decide) (by decide) (by decide) ?_
  refine lv_aload_n hx hb dX4_first_47 rfl (lv_at hl 1 rfl) ?_
  refine w_get (C := RX4) (T := TX4) (Nf := 4) (ci := 4) (v := .ref w) S (fun _ h => List.mem_cons_of_mem _ (List.mem_append_left _ (List.mem_append_left _ (List.mem_append_right _ h)))) hE hP 0 rfl rfl 0 (by decide) (List.mem_of_getElem? (i := 1) rfl) rfl dX4_first_48 ?_
  refine lv_iload_n hx hb dX4_first_51 rfl (lv_at hl 0 rfl) ?_
  refine kV_R (n := 1) (ci := 3) (q := (RX3, TX3, 8)) S (c_firstLink lc D cI cZ N w wc k kn t tc ts b bm br mn tA sA kA ck nb cn sm mo re B J (by omega) (by omega) (by omega) (by omega) h3 h4) gX4_first_X3_firstLinkThatLost rfl rfl (by decide +kernel) rfl rfl ⟨Nat.le_trans (Nat.le_of_ble_eq_true rfl) hfr, Nat.le_trans (Nat.le_of_ble_eq_true rfl) hlo⟩ hE hAN hP hD hS [1, 2, 3, 4, 5, 6, 7, 8, 9, 10] rfl (by decide) rfl rfl rfl rfl hl.1 [] rfl (Nat.le_of_ble_eq_true rfl) dX4_first_52 ⟨Nat.zero_le _, Nat.zero_le _⟩ ?_
  refine W.eq (g2 := F0 m 55 ls [.int (iI (((J : Nat) : Int)))]) rfl ?_
  refine lv_istore (lv' := [(4, .int (iI (((J : Nat) : Int)))), (3, .int (iI (((B : Nat) : Int)))), (0, .ref o), (1, .int (iI (lim))), (2, .int (iI (1)))]) hx hb dX4_first_55 hl (by decide) rfl (fun ls hl => ?_)
  refine lv_iload_n hx hb dX4_first_57 rfl (lv_at hl 4 rfl) ?_
  refine lv_iconst (v := iI (1)) hx hb dX4_first_58 rfl ?_
  refine c_neF (tgt := 67) S dX4_first_59 (by decide) (by decide) ?_
  refine lv_iload hx hb dX4_first_62 (lv_at hl 0 rfl) ?_
  refine lv_goto (tgt := 84) hx hb dX4_first_64 (by decide) ?_
  exact hret _ _ _ dX4_first_84 rfl
set_option maxHeartbeats 4000000 in
set_option maxRecDepth 100000 in
theorem c_first_2 (lc : Launch) (D : va_G) (cI cZ : ClassId) (N : Nat) (o : Nat) (v2 : Nat) (v3 : Nat) (ik : Int) (w : Nat) (wc : Nat) (k : Nat) (kn : Nat) (t : Nat) (tc : Nat) (ts : Nat) (b : Nat) (bm : Nat) (br : Nat) (mn : Nat) (tA : Int) (sA : Int) (kA : Int) (ck : Nat → Int) (nb : Nat → Int) (cn : Nat → Int) (sm : Nat → Int) (mo : Nat → Int) (re : Nat → Int) (lim : Int) (B : Nat) (J : Nat) (hmn : 2 ≤ mn ∧ mn ≤ 5) (hcn : ∀ k, k < 1000 → 0 ≤ cn k ∧ cn k ≤ 200) (hlim : 0 ≤ lim ∧ lim ≤ 20) (hB : B < 200) (h1 : ∀ i, i < B → cn (0 * 200 + i) - cn ((mn - 1) * 200 + i) ≤ lim) (h2 : lim < cn (0 * 200 + B) - cn ((mn - 1) * 200 + B)) (hJ : J ≤ mn - 2) (h3 : ∀ i, i < J → cn (i * 200 + B) - cn ((i + 1) * 200 + B) ≤ 0) (h4 : J < mn - 2 → 0 < cn (J * 200 + B) - cn ((J + 1) * 200 + B)) : CR lc D cI cZ N yX4_first wsX4_first (rmK 4 88) [.ref o, .int (iI (lim)), .int (iI (2))] [(o, .inr (4, [.ref w, .ref v2, .ref v3, .int (iI (ik))])), (w, .inr (3, [.int (iI (((mn : Nat) : Int))), .int (iI (tA)), .int (iI (sA)), .int (iI (kA)), .ref wc, .ref k, .ref t, .ref b])), (wc, .inl (cI, 5, .inl (vI ck))), (k, .inr (1, [.ref kn])), (kn, .inl (cI, 24, .inl (vI nb))), (t, .inr (2, [.ref tc, .ref ts])), (tc, .inl (cI, 1000, .inl (vI cn))), (ts, .inl (cI, 1000, .inl (vI sm))), (b, .inr (0, [.ref bm, .ref br])), (bm, .inl (cI, 25, .inl (vI mo))), (br, .inl (cI, 5, .inl (vI re)))] (some (.int (iI (cn (J * 200 + B) - cn ((J + 1) * 200 + B))))) := by
  refine CR.I (cc := cX4_first) (maxL := 5) (by decide) rfl (Nat.le_of_ble_eq_true rfl) ?_
  intro p e s m args below meth c R Q S hE A hAN hfr hlo hP hD hS hret ls hl
  have S : CallFix p m c cX4_first 5 s args wsX4_first RX4 := S
  have hx := S.1
  have hb := S.2.1
  have hl : lv_has ls 5 [(0, .ref o), (1, .int (iI (lim))), (2, .int (iI (2)))] := hl
  refine lv_iload_n hx hb dX4_first_0 rfl (lv_at hl 1 rfl) ?_
  refine lv_iconst (v := iI (0)) hx hb dX4_first_1 rfl ?_
  refine lv_bipush (v := iI (20)) hx hb dX4_first_2 (by decide) ?_
  refine kS_R (n := 3) S (c_within_T lc D cI cZ N lim 0 20 (by omega) (by omega) (by omega) (by omega)) gX4_first_X4_within rfl (by decide +kernel) rfl rfl ⟨Nat.le_trans (Nat.le_of_ble_eq_true rfl) hfr, Nat.le_trans (Nat.le_of_ble_eq_true rfl) hlo⟩ hE hAN hP hD hS [] rfl (by decide) rfl hl.1 [] rfl (Nat.le_of_ble_eq_true rfl) dX4_first_4 ⟨Nat.zero_le _, Nat.zero_le _⟩ ?_
  refine W.eq (g2 := F0 m 7 ls [.int (iI (1))]) rfl ?_
  refine b_eqF (tgt := 19) S dX4_first_7 (by decide) (by decide) (by decide) ?_
  refine lv_iload_n hx hb dX4_first_10 rfl (lv_at hl 2 rfl) ?_
  refine lv_iconst (v := iI (0)) hx hb dX4_first_11 rfl ?_
  refine lv_iconst (v := iI (2)) hx hb dX4_first_12 rfl ?_
  refine kS_R (n := 3) S (c_within_T lc D cI cZ N 2 0 2 (by omega) (by omega) (by omega) (by omega)) gX4_first_X4_within rfl (by decide +kernel) rfl rfl ⟨Nat.le_trans (Nat.le_of_ble_eq_true rfl) hfr, Nat.le_trans (Nat.le_of_ble_eq_true rfl) hlo⟩ hE hAN hP hD hS [] rfl (by decide) rfl hl.1 [] rfl (Nat.le_of_ble_eq_true rfl) dX4_first_13 ⟨Nat.zero_le _, Nat.zero_le _⟩ ?_
  refine W.eq (g2 := F0 m 16 ls [.int (iI (1))]) rfl ?_
  refine b_neT (tgt := 22) S dX4_first_16 (by decide) (by decide) (by decide) ?_
  refine lv_aload_n hx hb dX4_first_22 rfl (lv_at hl 0 rfl) ?_
  refine w_get (C := RX4) (T := TX4) (Nf := 4) (ci := 4) (v := .ref w) S (fun _ h => List.mem_cons_of_mem _ (List.mem_append_left _ (List.mem_append_left _ (List.mem_append_right _ h)))) hE hP 0 rfl rfl 0 (by decide) (List.mem_of_getElem? (i := 1) rfl) rfl dX4_first_23 ?_
  refine lv_iload_n hx hb dX4_first_26 rfl (lv_at hl 1 rfl) ?_
  refine kV_R (n := 1) (ci := 3) (q := (RX3, TX3, 8)) S (c_firstBlock_S lc D cI cZ N w wc k kn t tc ts b bm br mn tA sA kA ck nb cn sm mo re lim B (by omega) (by omega) (by omega) (by omega) h1 (by omega)) gX4_first_X3_firstBlockAbove rfl rfl (by decide +kernel) rfl rfl ⟨Nat.le_trans (Nat.le_of_ble_eq_true rfl) hfr, Nat.le_trans (Nat.le_of_ble_eq_true rfl) hlo⟩ hE hAN hP hD hS [1, 2, 3, 4, 5, 6, 7, 8, 9, 10] rfl (by decide) rfl rfl rfl rfl hl.1 [] rfl (Nat.le_of_ble_eq_true rfl) dX4_first_27 ⟨Nat.zero_le _, Nat.zero_le _⟩ ?_
  refine W.eq (g2 := F0 m 30 ls [.int (iI (((B : Nat) : Int)))]) rfl ?_
  refine lv_istore_n (lv' := [(3, .int (iI (((B : Nat) : Int)))), (0, .ref o), (1, .int (iI (lim))), (2, .int (iI (2)))]) hx hb dX4_first_30 rfl hl (by decide) rfl (fun ls hl => ?_)
  refine lv_iload_n hx hb dX4_first_31 rfl (lv_at hl 0 rfl) ?_
  refine kS_R (n := 1) S (c_isBlock_T lc D cI cZ N ((B : Nat) : Int) (by omega) (by omega)) gX4_first_X4_isBlock rfl (by decide +kernel) rfl rfl ⟨Nat.le_trans (Nat.le_of_ble_eq_true rfl) hfr, Nat.le_trans (Nat.le_of_ble_eq_true rfl) hlo⟩ hE hAN hP hD hS [] rfl (by decide) rfl hl.1 [] rfl (Nat.le_of_ble_eq_true rfl) dX4_first_32 ⟨Nat.zero_le _, Nat.zero_le _⟩ ?_
  refine W.eq (g2 := F0 m 35 ls [.int (iI (1))]) rfl ?_
  refine b_neT (tgt := 41) S dX4_first_35 (by decide) (by decide) (by decide) ?_
  refine lv_iload_n hx hb dX4_first_41 rfl (lv_at hl 3 rfl) ?_
  refine b_neT (tgt := 47) S dX4_first_42 (by decide) (by decide) (by decide) ?_
  refine lv_aload_n hx hb dX4_first_47 rfl (lv_at hl 1 rfl) ?_
  refine w_get (C := RX4) (T := TX4) (Nf := 4) (ci := 4) (v := .ref w) S (fun _ h => List.mem_cons_of_mem _ (List.mem_append_left _ (List.mem_append_left _ (List.mem_append_right _ h)))) hE hP 0 rfl rfl 0 (by decide) (List.mem_of_getElem? (i := 1) rfl) rfl dX4_first_48 ?_
  refine lv_iload_n hx hb dX4_first_51 rfl (lv_at hl 0 rfl) ?_
  refine kV_R (n := 1) (ci := 3) (q := (RX3, TX3, 8)) S (c_firstLink lc D cI cZ N w wc k kn t tc ts b bm br mn tA sA kA ck nb cn sm mo re B J (by omega) (by omega) (by omega) (by omega) h3 h4) gX4_first_X3_firstLinkThatLost rfl rfl (by decide +kernel) rfl rfl ⟨Nat.le_trans (Nat.le_of_ble_eq_true rfl) hfr, Nat.le_trans (Nat.le_of_ble_eq_true rfl) hlo⟩ hE hAN hP hD hS [1, 2, 3, 4, 5, 6, 7, 8, 9, 10] rfl (by decide) rfl rfl rfl rfl hl.1 [] rfl (Nat.le_of_ble_eq_true rfl) dX4_first_52 ⟨Nat.zero_le _, Nat.zero_le _⟩ ?_
  refine W.eq (g2 := F0 m 55 ls [.int (iI (((J : Nat) : Int)))]) rfl ?_
  refine lv_istore (lv' := [(4, .int (iI (((J : Nat) : Int)))), (3, .int (iI (((B : Nat) : Int)))), (0, .ref o), (1, .int (iI (lim))), (2, .int (iI (2)))]) hx hb dX4_first_55 hl (by decide) rfl (fun ls hl => ?_)
  refine lv_iload_n hx hb dX4_first_57 rfl (lv_at hl 4 rfl) ?_
  refine lv_iconst (v := iI (1)) hx hb dX4_first_58 rfl ?_
  refine c_neT (tgt := 67) S dX4_first_59 (by decide) (by omega) (by omega) (by decide) ?_
  refine lv_aload_n hx hb dX4_first_67 rfl (lv_at hl 2 rfl) ?_
  refine w_get (C := RX4) (T := TX4) (Nf := 4) (ci := 4) (v := .ref w) S (fun _ h => List.mem_cons_of_mem _ (List.mem_append_left _ (List.mem_append_left _ (List.mem_append_right _ h)))) hE hP 0 rfl rfl 0 (by decide) (List.mem_of_getElem? (i := 1) rfl) rfl dX4_first_68 ?_
  refine w_get (C := RX3) (T := TX3) (Nf := 8) (ci := 3) (v := .ref t) S (fun _ h => List.mem_cons_of_mem _ (List.mem_append_left _ (List.mem_append_right _ h))) hE hP 1 rfl rfl 6 (by decide) (List.mem_of_getElem? (i := 2) rfl) rfl dX4_first_71 ?_
  refine lv_iload hx hb dX4_first_74 (lv_at hl 0 rfl) ?_
  refine lv_iload hx hb dX4_first_76 (lv_at hl 0 rfl) ?_
  refine lv_iconst (v := iI (1)) hx hb dX4_first_78 rfl ?_
  refine w_iadd S dX4_first_79 ?_
  refine lv_iload_n hx hb dX4_first_80 rfl (lv_at hl 1 rfl) ?_
  refine kV_R (n := 3) (ci := 2) (q := (RX2, TX2, 2)) S (c_lostBetween lc D cI cZ N t tc ts cn sm J (J + 1) B (by omega) (by omega) (by omega)) gX4_first_X2_lostBetween rfl rfl (by decide +kernel) rfl rfl ⟨Nat.le_trans (Nat.le_of_ble_eq_true rfl) hfr, Nat.le_trans (Nat.le_of_ble_eq_true rfl) hlo⟩ hE hAN hP hD hS [5, 6, 7] rfl (by decide) rfl rfl rfl rfl hl.1 [] rfl (Nat.le_of_ble_eq_true rfl) dX4_first_81 ⟨Nat.zero_le _, Nat.zero_le _⟩ ?_
  refine W.eq (g2 := F0 m 84 ls [.int (iI (cn (J * 200 + B) - cn ((J + 1) * 200 + B)))]) rfl ?_
  exact hret _ _ _ dX4_first_84 rfl
set_option maxHeartbeats 4000000 in
set_option maxRecDepth 100000 in
theorem c_sound_U (lc : Launch) (D : va_G) (cI cZ : ClassId) (N : Nat) (o : Nat) (v2 : Nat) (v3 : Nat) (ik : Int) (w : Nat) (wc : Nat) (k : Nat) (kn : Nat) (t : Nat) (tc : Nat) (ts : Nat) (b : Nat) (bm : Nat) (br : Nat) (mn : Nat) (tA : Int) (sA : Int) (kA : Int) (ck : Nat → Int) (nb : Nat → Int) (cn : Nat → Int) (sm : Nat → Int) (mo : Nat → Int) (re : Nat → Int) (x : Int) (y : Int) (hmn : 2 ≤ mn ∧ mn ≤ 5) (r_x : -2147483648 ≤ x ∧ x ≤ 2147483647) (r_y : -2147483648 ≤ y ∧ y ≤ 2147483647) (h : ¬ ((0 ≤ x ∧ x ≤ (mn : Int) - 1) ∧ (0 ≤ y ∧ y ≤ (mn : Int) - 1))) : CR lc D cI cZ N yX4_sound wsX4_sound (rmK 3 74) [.ref o, .int (iI (x)), .int (iI (y))] [(o, .inr (4, [.ref w, .ref v2, .ref v3, .int (iI (ik))])), (w, .inr (3, [.int (iI (((mn : Nat) : Int))), .int (iI (tA)), .int (iI (sA)), .int (iI (kA)), .ref wc, .ref k, .ref t, .ref b])), (wc, .inl (cI, 5, .inl (vI ck))), (k, .inr (1, [.ref kn])), (kn, .inl (cI, 24, .inl (vI nb))), (t, .inr (2, [.ref tc, .ref ts])), (tc, .inl (cI, 1000, .inl (vI cn))), (ts, .inl (cI, 1000, .inl (vI sm))), (b, .inr (0, [.ref bm, .ref br])), (bm, .inl (cI, 25, .inl (vI mo))), (br, .inl (cI, 5, .inl (vI re)))] (some (.int (iI (-1)))) := by
  refine CR.I (cc := cX4_sound) (maxL := 4) (by decide) rfl (Nat.le_of_ble_eq_true rfl) ?_
  intro p e s m args below meth c R Q S hE A hAN hfr hlo hP hD hS hret ls hl
  have S : CallFix p m c cX4_sound 4 s args wsX4_sound RX4 := S
  have hx := S.1
  have hb := S.2.1
  have hl : lv_has ls 4 [(0, .ref o), (1, .int (iI (x))), (2, .int (iI (y)))] := hl
  refine lv_aload_n hx hb dX4_sound_0 rfl (lv_at hl 0 rfl) ?_
  refine lv_iload_n hx hb dX4_sound_1 rfl (lv_at hl 1 rfl) ?_
  refine lv_iload_n hx hb dX4_sound_2 rfl (lv_at hl 2 rfl) ?_
  refine kV_R (n := 2) (ci := 4) (q := (RX4, TX4, 4)) S (c_pair_U lc D cI cZ N o v2 v3 ik w wc k kn t tc ts b bm br mn tA sA kA ck nb cn sm mo re x y (by omega) (by omega) (by omega) (by omega)) gX4_sound_X4_pairRefusal rfl rfl (by decide +kernel) rfl rfl ⟨Nat.le_trans (Nat.le_of_ble_eq_true rfl) hfr, Nat.le_trans (Nat.le_of_ble_eq_true rfl) hlo⟩ hE hAN hP hD hS [0, 1, 2, 3, 4, 5, 6, 7, 8, 9, 10] rfl (by decide) rfl rfl rfl rfl hl.1 [] rfl (Nat.le_of_ble_eq_true rfl) dX4_sound_3 ⟨Nat.zero_le _, Nat.zero_le _⟩ ?_
  refine W.eq (g2 := F0 m 6 ls [.int (iI (-1))]) rfl ?_
  refine lv_istore_n (lv' := [(3, .int (iI (-1))), (0, .ref o), (1, .int (iI (x))), (2, .int (iI (y)))]) hx hb dX4_sound_6 rfl hl (by decide) rfl (fun ls hl => ?_)
  refine lv_iload_n hx hb dX4_sound_7 rfl (lv_at hl 0 rfl) ?_
  refine b_eqF (tgt := 13) S dX4_sound_8 (by decide) (by decide) (by decide) ?_
  refine lv_iload_n hx hb dX4_sound_11 rfl (lv_at hl 0 rfl) ?_
  exact hret _ _ _ dX4_sound_12 rfl
set_option maxHeartbeats 4000000 in
set_option maxRecDepth 100000 in
theorem c_sound_O (lc : Launch) (D : va_G) (cI cZ : ClassId) (N : Nat) (o : Nat) (v2 : Nat) (v3 : Nat) (ik : Int) (w : Nat) (wc : Nat) (k : Nat) (kn : Nat) (t : Nat) (tc : Nat) (ts : Nat) (b : Nat) (bm : Nat) (br : Nat) (mn : Nat) (tA : Int) (sA : Int) (kA : Int) (ck : Nat → Int) (nb : Nat → Int) (cn : Nat → Int) (sm : Nat → Int) (mo : Nat → Int) (re : Nat → Int) (x : Int) (y : Int) (hmn : 2 ≤ mn ∧ mn ≤ 5) (r_x : -2147483648 ≤ x ∧ x ≤ 2147483647) (r_y : -2147483648 ≤ y ∧ y ≤ 2147483647) (h1 : (0 ≤ x ∧ x ≤ (mn : Int) - 1)) (h2 : (0 ≤ y ∧ y ≤ (mn : Int) - 1)) (h : y ≤ x) : CR lc D cI cZ N yX4_sound wsX4_sound (rmK 3 74) [.ref o, .int (iI (x)), .int (iI (y))] [(o, .inr (4, [.ref w, .ref v2, .ref v3, .int (iI (ik))])), (w, .inr (3, [.int (iI (((mn : Nat) : Int))), .int (iI (tA)), .int (iI (sA)), .int (iI (kA)), .ref wc, .ref k, .ref t, .ref b])), (wc, .inl (cI, 5, .inl (vI ck))), (k, .inr (1, [.ref kn])), (kn, .inl (cI, 24, .inl (vI nb))), (t, .inr (2, [.ref tc, .ref ts])), (tc, .inl (cI, 1000, .inl (vI cn))), (ts, .inl (cI, 1000, .inl (vI sm))), (b, .inr (0, [.ref bm, .ref br])), (bm, .inl (cI, 25, .inl (vI mo))), (br, .inl (cI, 5, .inl (vI re)))] (some (.int (iI (-2)))) := by
  refine CR.I (cc := cX4_sound) (maxL := 4) (by decide) rfl (Nat.le_of_ble_eq_true rfl) ?_
  intro p e s m args below meth c R Q S hE A hAN hfr hlo hP hD hS hret ls hl
  have S : CallFix p m c cX4_sound 4 s args wsX4_sound RX4 := S
  have hx := S.1
  have hb := S.2.1
  have hl : lv_has ls 4 [(0, .ref o), (1, .int (iI (x))), (2, .int (iI (y)))] := hl
  refine lv_aload_n hx hb dX4_sound_0 rfl (lv_at hl 0 rfl) ?_
  refine lv_iload_n hx hb dX4_sound_1 rfl (lv_at hl 1 rfl) ?_
  refine lv_iload_n hx hb dX4_sound_2 rfl (lv_at hl 2 rfl) ?_
  refine kV_R (n := 2) (ci := 4) (q := (RX4, TX4, 4)) S (c_pair_O lc D cI cZ N o v2 v3 ik w wc k kn t tc ts b bm br mn tA sA kA ck nb cn sm mo re x y (by omega) (by omega) (by omega) (by omega) (by omega) (by omega)) gX4_sound_X4_pairRefusal rfl rfl (by decide +kernel) rfl rfl ⟨Nat.le_trans (Nat.le_of_ble_eq_true rfl) hfr, Nat.le_trans (Nat.le_of_ble_eq_true rfl) hlo⟩ hE hAN hP hD hS [0, 1, 2, 3, 4, 5, 6, 7, 8, 9, 10] rfl (by decide) rfl rfl rfl rfl hl.1 [] rfl (Nat.le_of_ble_eq_true rfl) dX4_sound_3 ⟨Nat.zero_le _, Nat.zero_le _⟩ ?_
  refine W.eq (g2 := F0 m 6 ls [.int (iI (-2))]) rfl ?_
  refine lv_istore_n (lv' := [(3, .int (iI (-2))), (0, .ref o), (1, .int (iI (x))), (2, .int (iI (y)))]) hx hb dX4_sound_6 rfl hl (by decide) rfl (fun ls hl => ?_)
  refine lv_iload_n hx hb dX4_sound_7 rfl (lv_at hl 0 rfl) ?_
  refine b_eqF (tgt := 13) S dX4_sound_8 (by decide) (by decide) (by decide) ?_
  refine lv_iload_n hx hb dX4_sound_11 rfl (lv_at hl 0 rfl) ?_
  exact hret _ _ _ dX4_sound_12 rfl
set_option maxHeartbeats 4000000 in
set_option maxRecDepth 100000 in
theorem c_sound_F (lc : Launch) (D : va_G) (cI cZ : ClassId) (N : Nat) (o : Nat) (v2 : Nat) (v3 : Nat) (ik : Int) (w : Nat) (wc : Nat) (k : Nat) (kn : Nat) (t : Nat) (tc : Nat) (ts : Nat) (b : Nat) (bm : Nat) (br : Nat) (mn : Nat) (tA : Int) (sA : Int) (kA : Int) (ck : Nat → Int) (nb : Nat → Int) (cn : Nat → Int) (sm : Nat → Int) (mo : Nat → Int) (re : Nat → Int) (x : Int) (y : Int) (hmn : 2 ≤ mn ∧ mn ≤ 5) (hta : 0 ≤ tA ∧ tA ≤ 10000) (r_x : -2147483648 ≤ x ∧ x ≤ 2147483647) (r_y : -2147483648 ≤ y ∧ y ≤ 2147483647) (h1 : (0 ≤ x ∧ x ≤ (mn : Int) - 1)) (h2 : (0 ≤ y ∧ y ≤ (mn : Int) - 1)) (h : x < y) (h3 : 9999 < tA + 1) : CR lc D cI cZ N yX4_sound wsX4_sound (rmK 3 74) [.ref o, .int (iI (x)), .int (iI (y))] [(o, .inr (4, [.ref w, .ref v2, .ref v3, .int (iI (ik))])), (w, .inr (3, [.int (iI (((mn : Nat) : Int))), .int (iI (tA)), .int (iI (sA)), .int (iI (kA)), .ref wc, .ref k, .ref t, .ref b])), (wc, .inl (cI, 5, .inl (vI ck))), (k, .inr (1, [.ref kn])), (kn, .inl (cI, 24, .inl (vI nb))), (t, .inr (2, [.ref tc, .ref ts])), (tc, .inl (cI, 1000, .inl (vI cn))), (ts, .inl (cI, 1000, .inl (vI sm))), (b, .inr (0, [.ref bm, .ref br])), (bm, .inl (cI, 25, .inl (vI mo))), (br, .inl (cI, 5, .inl (vI re)))] (some (.int (iI (-4)))) := by
  refine CR.I (cc := cX4_sound) (maxL := 4) (by decide) rfl (Nat.le_of_ble_eq_true rfl) ?_
  intro p e s m args below meth c R Q S hE A hAN hfr hlo hP hD hS hret ls hl
  have S : CallFix p m c cX4_sound 4 s args wsX4_sound RX4 := S
  have hx := S.1
  have hb := S.2.1
  have hl : lv_has ls 4 [(0, .ref o), (1, .int (iI (x))), (2, .int (iI (y)))] := hl
  refine lv_aload_n hx hb dX4_sound_0 rfl (lv_at hl 0 rfl) ?_
  refine lv_iload_n hx hb dX4_sound_1 rfl (lv_at hl 1 rfl) ?_
  refine lv_iload_n hx hb dX4_sound_2 rfl (lv_at hl 2 rfl) ?_
  refine kV_R (n := 2) (ci := 4) (q := (RX4, TX4, 4)) S (c_pair lc D cI cZ N o v2 v3 ik w wc k kn t tc ts b bm br mn tA sA kA ck nb cn sm mo re x y (by omega) (by omega) (by omega) (by omega) (by omega) (by omega)) gX4_sound_X4_pairRefusal rfl rfl (by decide +kernel) rfl rfl ⟨Nat.le_trans (Nat.le_of_ble_eq_true rfl) hfr, Nat.le_trans (Nat.le_of_ble_eq_true rfl) hlo⟩ hE hAN hP hD hS [0, 1, 2, 3, 4, 5, 6, 7, 8, 9, 10] rfl (by decide) rfl rfl rfl rfl hl.1 [] rfl (Nat.le_of_ble_eq_true rfl) dX4_sound_3 ⟨Nat.zero_le _, Nat.zero_le _⟩ ?_
  refine W.eq (g2 := F0 m 6 ls [.int (iI (0))]) rfl ?_
  refine lv_istore_n (lv' := [(3, .int (iI (0))), (0, .ref o), (1, .int (iI (x))), (2, .int (iI (y)))]) hx hb dX4_sound_6 rfl hl (by decide) rfl (fun ls hl => ?_)
  refine lv_iload_n hx hb dX4_sound_7 rfl (lv_at hl 0 rfl) ?_
  refine b_eqT (tgt := 13) S dX4_sound_8 (by decide) (by decide) ?_
  refine lv_aload_n hx hb dX4_sound_13 rfl (lv_at hl 1 rfl) ?_
  refine w_get (C := RX4) (T := TX4) (Nf := 4) (ci := 4) (v := .ref w) S (fun _ h => List.mem_cons_of_mem _ (List.mem_append_left _ (List.mem_append_left _ (List.mem_append_left _ (List.mem_append_right _ h))))) hE hP 0 rfl rfl 0 (by decide) (List.mem_of_getElem? (i := 1) rfl) rfl dX4_sound_14 ?_
  refine w_get (C := RX3) (T := TX3) (Nf := 8) (ci := 3) (v := .int (iI (tA))) S (fun _ h => List.mem_cons_of_mem _ (List.mem_append_left _ (List.mem_append_left _ (List.mem_append_right _ h)))) hE hP 1 rfl rfl 1 (by decide) (List.mem_of_getElem? (i := 2) rfl) rfl dX4_sound_17 ?_
  refine lv_iconst (v := iI (1)) hx hb dX4_sound_20 rfl ?_
  refine w_iadd S dX4_sound_21 ?_
  refine lv_sipush (v := iI (9999)) hx hb dX4_sound_22 (by decide) ?_
  refine c_leF (tgt := 31) S dX4_sound_25 (by decide) (by omega) (by omega) (by omega) ?_
  refine lv_bipush (v := iI ((-4))) hx hb dX4_sound_28 (by decide) ?_
  exact hret _ _ _ dX4_sound_30 (congrArg iI (by omega))
set_option maxHeartbeats 4000000 in
set_option maxRecDepth 100000 in
theorem c_sound (lc : Launch) (D : va_G) (cI cZ : ClassId) (N : Nat) (o : Nat) (v2 : Nat) (v3 : Nat) (ik : Int) (w : Nat) (wc : Nat) (k : Nat) (kn : Nat) (t : Nat) (tc : Nat) (ts : Nat) (b : Nat) (bm : Nat) (br : Nat) (mn : Nat) (tA : Int) (sA : Int) (kA : Int) (ck : Nat → Int) (nb : Nat → Int) (cn : Nat → Int) (sm : Nat → Int) (mo : Nat → Int) (re : Nat → Int) (f : Nat) (g : Nat) (hmn : 2 ≤ mn ∧ mn ≤ 5) (hnb : ∀ k, k < 24 → 0 ≤ nb k ∧ nb k ≤ 20) (hta : 0 ≤ tA ∧ tA ≤ 10000) (hck : ∀ k, k < 5 → -99 ≤ ck k ∧ ck k ≤ 99) (hmo : ∀ k, k < 25 → -1000 ≤ mo k ∧ mo k ≤ 1000000000) (hfg : f < g) (hgm : g < mn) (h3 : tA + 1 ≤ 9999) : CM lc D cI cZ N yX4_sound wsX4_sound (rmK 3 74) [.ref o, .int (iI (((f : Nat) : Int))), .int (iI (((g : Nat) : Int)))] [(o, .inr (4, [.ref w, .ref v2, .ref v3, .int (iI (ik))])), (w, .inr (3, [.int (iI (((mn : Nat) : Int))), .int (iI (tA)), .int (iI (sA)), .int (iI (kA)), .ref wc, .ref k, .ref t, .ref b])), (wc, .inl (cI, 5, .inl (vI ck))), (k, .inr (1, [.ref kn])), (kn, .inl (cI, 24, .inl (vI nb))), (t, .inr (2, [.ref tc, .ref ts])), (tc, .inl (cI, 1000, .inl (vI cn))), (ts, .inl (cI, 1000, .inl (vI sm))), (b, .inr (0, [.ref bm, .ref br])), (bm, .inl (cI, 25, .inl (vI mo))), (br, .inl (cI, 5, .inl (vI re)))] (some (.int (iI ((bkN nb (thN nb tA f (g - f)) g (g - f)) - tA)))) [(o, .inr (4, [.ref w, .ref v2, .ref v3, .int (iI (ik))])), (w, .inr (3, [.int (iI (((mn : Nat) : Int))), .int (iI ((tA + 1))), .int (iI (sA)), .int (iI (kA)), .ref wc, .ref k, .ref t, .ref b])), (wc, .inl (cI, 5, .inl (vI ck))), (k, .inr (1, [.ref kn])), (kn, .inl (cI, 24, .inl (vI nb))), (t, .inr (2, [.ref tc, .ref ts])), (tc, .inl (cI, 1000, .inl (vI cn))), (ts, .inl (cI, 1000, .inl (vI sm))), (b, .inr (0, [.ref bm, .ref br])), (bm, .inl (cI, 25, .inl (vI (nrw mo f g ((((thN nb tA f (g - f)) + ck g) - (tA + ck f)) - (((g : Nat) : Int) - ((f : Nat) : Int))) ((((thN nb tA f (g - f)) + ck g) - ((bkN nb (thN nb tA f (g - f)) g (g - f)) + ck f)) + (((g : Nat) : Int) - ((f : Nat) : Int))))))), (br, .inl (cI, 5, .inl (vI re)))] := by
  refine CM.I (cc := cX4_sound) (maxL := 4) (by decide) rfl (Nat.le_of_ble_eq_true rfl) ?_
  intro p e s m args below meth c R Q S hE A hAN hfr hlo hP hD hS hret ls hl
  have S : CallFix p m c cX4_sound 4 s args wsX4_sound RX4 := S
  have hx := S.1
  have hb := S.2.1
  have hl : lv_has ls 4 [(0, .ref o), (1, .int (iI (((f : Nat) : Int)))), (2, .int (iI (((g : Nat) : Int))))] := hl
  refine lv_aload_n hx hb dX4_sound_0 rfl (lv_at hl 0 rfl) ?_
  refine lv_iload_n hx hb dX4_sound_1 rfl (lv_at hl 1 rfl) ?_
  refine lv_iload_n hx hb dX4_sound_2 rfl (lv_at hl 2 rfl) ?_
  refine kV_R (n := 2) (ci := 4) (q := (RX4, TX4, 4)) S (c_pair lc D cI cZ N o v2 v3 ik w wc k kn t tc ts b bm br mn tA sA kA ck nb cn sm mo re ((f : Nat) : Int) ((g : Nat) : Int) (by omega) (by omega) (by omega) (by omega) (by omega) (by omega)) gX4_sound_X4_pairRefusal rfl rfl (by decide +kernel) rfl rfl ⟨Nat.le_trans (Nat.le_of_ble_eq_true rfl) hfr, Nat.le_trans (Nat.le_of_ble_eq_true rfl) hlo⟩ hE hAN hP hD hS [0, 1, 2, 3, 4, 5, 6, 7, 8, 9, 10] rfl (by decide) rfl rfl rfl rfl hl.1 [] rfl (Nat.le_of_ble_eq_true rfl) dX4_sound_3 ⟨Nat.zero_le _, Nat.zero_le _⟩ ?_
  refine W.eq (g2 := F0 m 6 ls [.int (iI (0))]) rfl ?_
  refine lv_istore_n (lv' := [(3, .int (iI (0))), (0, .ref o), (1, .int (iI (((f : Nat) : Int)))), (2, .int (iI (((g : Nat) : Int))))]) hx hb dX4_sound_6 rfl hl (by decide) rfl (fun ls hl => ?_)
  refine lv_iload_n hx hb dX4_sound_7 rfl (lv_at hl 0 rfl) ?_
  refine b_eqT (tgt := 13) S dX4_sound_8 (by decide) (by decide) ?_
  refine lv_aload_n hx hb dX4_sound_13 rfl (lv_at hl 1 rfl) ?_
  refine w_get (C := RX4) (T := TX4) (Nf := 4) (ci := 4) (v := .ref w) S (fun _ h => List.mem_cons_of_mem _ (List.mem_append_left _ (List.mem_append_left _ (List.mem_append_left _ (List.mem_append_right _ h))))) hE hP 0 rfl rfl 0 (by decide) (List.mem_of_getElem? (i := 1) rfl) rfl dX4_sound_14 ?_
  refine w_get (C := RX3) (T := TX3) (Nf := 8) (ci := 3) (v := .int (iI (tA))) S (fun _ h => List.mem_cons_of_mem _ (List.mem_append_left _ (List.mem_append_left _ (List.mem_append_right _ h)))) hE hP 1 rfl rfl 1 (by decide) (List.mem_of_getElem? (i := 2) rfl) rfl dX4_sound_17 ?_
  refine lv_iconst (v := iI (1)) hx hb dX4_sound_20 rfl ?_
  refine w_iadd S dX4_sound_21 ?_
  refine lv_sipush (v := iI (9999)) hx hb dX4_sound_22 (by decide) ?_
  refine c_leT (tgt := 31) S dX4_sound_25 (by decide) (by omega) (by omega) (by omega) ?_
  refine lv_aload_n hx hb dX4_sound_31 rfl (lv_at hl 1 rfl) ?_
  refine w_get (C := RX4) (T := TX4) (Nf := 4) (ci := 4) (v := .ref w) S (fun _ h => List.mem_cons_of_mem _ (List.mem_append_left _ (List.mem_append_left _ (List.mem_append_left _ (List.mem_append_right _ h))))) hE hP 0 rfl rfl 0 (by decide) (List.mem_of_getElem? (i := 1) rfl) rfl dX4_sound_32 ?_
  refine lv_iload_n hx hb dX4_sound_35 rfl (lv_at hl 2 rfl) ?_
  refine lv_iload_n hx hb dX4_sound_36 rfl (lv_at hl 3 rfl) ?_
  refine kV_M (n := 2) (ci := 3) (q := (RX3, TX3, 8)) S (c_soundPath lc D cI cZ N w wc k kn t tc ts b bm br mn tA sA kA ck nb cn sm mo re f g (by omega) hnb (by omega) hck hmo (by omega) (by omega)) gX4_sound_X3_soundPath rfl rfl (by decide +kernel) rfl rfl ⟨Nat.le_trans (Nat.le_of_ble_eq_true rfl) hfr, Nat.le_trans (Nat.le_of_ble_eq_true rfl) hlo⟩ hE hAN hP hD hS [1, 2, 3, 4, 5, 6, 7, 8, 9, 10] rfl (by decide) rfl rfl rfl rfl rfl hl.1 [] rfl (Nat.le_of_ble_eq_true rfl) dX4_sound_37 ⟨Nat.zero_le _, Nat.zero_le _⟩ (fun H locs hP hD hS => ?_)
  have hP : va_P D vwCl [(o, .inr (4, [.ref w, .ref v2, .ref v3, .int (iI (ik))])), (w, .inr (3, [.int (iI (((mn : Nat) : Int))), .int (iI ((tA + 1))), .int (iI (sA)), .int (iI (kA)), .ref wc, .ref k, .ref t, .ref b])), (wc, .inl (cI, 5, .inl (vI ck))), (k, .inr (1, [.ref kn])), (kn, .inl (cI, 24, .inl (vI nb))), (t, .inr (2, [.ref tc, .ref ts])), (tc, .inl (cI, 1000, .inl (vI cn))), (ts, .inl (cI, 1000, .inl (vI sm))), (b, .inr (0, [.ref bm, .ref br])), (bm, .inl (cI, 25, .inl (vI (nrw mo f g ((((thN nb tA f (g - f)) + ck g) - (tA + ck f)) - (((g : Nat) : Int) - ((f : Nat) : Int))) ((((thN nb tA f (g - f)) + ck g) - ((bkN nb (thN nb tA f (g - f)) g (g - f)) + ck f)) + (((g : Nat) : Int) - ((f : Nat) : Int))))))), (br, .inl (cI, 5, .inl (vI re)))] H := hP
  have hD : va_D A [(o, .inr (4, [.ref w, .ref v2, .ref v3, .int (iI (ik))])), (w, .inr (3, [.int (iI (((mn : Nat) : Int))), .int (iI ((tA + 1))), .int (iI (sA)), .int (iI (kA)), .ref wc, .ref k, .ref t, .ref b])), (wc, .inl (cI, 5, .inl (vI ck))), (k, .inr (1, [.ref kn])), (kn, .inl (cI, 24, .inl (vI nb))), (t, .inr (2, [.ref tc, .ref ts])), (tc, .inl (cI, 1000, .inl (vI cn))), (ts, .inl (cI, 1000, .inl (vI sm))), (b, .inr (0, [.ref bm, .ref br])), (bm, .inl (cI, 25, .inl (vI (nrw mo f g ((((thN nb tA f (g - f)) + ck g) - (tA + ck f)) - (((g : Nat) : Int) - ((f : Nat) : Int))) ((((thN nb tA f (g - f)) + ck g) - ((bkN nb (thN nb tA f (g - f)) g (g - f)) + ck f)) + (((g : Nat) : Int) - ((f : Nat) : Int))))))), (br, .inl (cI, 5, .inl (vI re)))] := hD
  refine W.eq (g2 := F0 m 40 ls [.int (iI ((bkN nb (thN nb tA f (g - f)) g (g - f)) - tA))]) rfl ?_
  exact hret _ _ _ _ _ dX4_sound_40 rfl hP hS
set_option maxHeartbeats 4000000 in
set_option maxRecDepth 100000 in
theorem c_apart_U (lc : Launch) (D : va_G) (cI cZ : ClassId) (N : Nat) (o : Nat) (v2 : Nat) (v3 : Nat) (ik : Int) (w : Nat) (wc : Nat) (k : Nat) (kn : Nat) (t : Nat) (tc : Nat) (ts : Nat) (b : Nat) (bm : Nat) (br : Nat) (mn : Nat) (tA : Int) (sA : Int) (kA : Int) (ck : Nat → Int) (nb : Nat → Int) (cn : Nat → Int) (sm : Nat → Int) (mo : Nat → Int) (re : Nat → Int) (x : Int) (y : Int) (z : Int) (hmn : 2 ≤ mn ∧ mn ≤ 5) (r_x : -2147483648 ≤ x ∧ x ≤ 2147483647) (r_y : -2147483648 ≤ y ∧ y ≤ 2147483647) (h : ¬ ((0 ≤ x ∧ x ≤ (mn : Int) - 1) ∧ (0 ≤ y ∧ y ≤ (mn : Int) - 1))) : CR lc D cI cZ N yX4_apart wsX4_apart (rmK 3 65) [.ref o, .int (iI (x)), .int (iI (y)), .int (iI (z))] [(o, .inr (4, [.ref w, .ref v2, .ref v3, .int (iI (ik))])), (w, .inr (3, [.int (iI (((mn : Nat) : Int))), .int (iI (tA)), .int (iI (sA)), .int (iI (kA)), .ref wc, .ref k, .ref t, .ref b])), (wc, .inl (cI, 5, .inl (vI ck))), (k, .inr (1, [.ref kn])), (kn, .inl (cI, 24, .inl (vI nb))), (t, .inr (2, [.ref tc, .ref ts])), (tc, .inl (cI, 1000, .inl (vI cn))), (ts, .inl (cI, 1000, .inl (vI sm))), (b, .inr (0, [.ref bm, .ref br])), (bm, .inl (cI, 25, .inl (vI mo))), (br, .inl (cI, 5, .inl (vI re)))] (some (.int (iI (-1000000001)))) := by
  refine CR.I (cc := cX4_apart) (maxL := 5) (by decide) rfl (Nat.le_of_ble_eq_true rfl) ?_
  intro p e s m args below meth c R Q S hE A hAN hfr hlo hP hD hS hret ls hl
  have S : CallFix p m c cX4_apart 5 s args wsX4_apart RX4 := S
  have hx := S.1
  have hb := S.2.1
  have hl : lv_has ls 5 [(0, .ref o), (1, .int (iI (x))), (2, .int (iI (y))), (3, .int (iI (z)))] := hl
  refine lv_aload_n hx hb dX4_apart_0 rfl (lv_at hl 0 rfl) ?_
  refine lv_iload_n hx hb dX4_apart_1 rfl (lv_at hl 1 rfl) ?_
  refine lv_iload_n hx hb dX4_apart_2 rfl (lv_at hl 2 rfl) ?_
  refine kV_R (n := 2) (ci := 4) (q := (RX4, TX4, 4)) S (c_pair_U lc D cI cZ N o v2 v3 ik w wc k kn t tc ts b bm br mn tA sA kA ck nb cn sm mo re x y (by omega) (by omega) (by omega) (by omega)) gX4_apart_X4_pairRefusal rfl rfl (by decide +kernel) rfl rfl ⟨Nat.le_trans (Nat.le_of_ble_eq_true rfl) hfr, Nat.le_trans (Nat.le_of_ble_eq_true rfl) hlo⟩ hE hAN hP hD hS [0, 1, 2, 3, 4, 5, 6, 7, 8, 9, 10] rfl (by decide) rfl rfl rfl rfl hl.1 [] rfl (Nat.le_of_ble_eq_true rfl) dX4_apart_3 ⟨Nat.zero_le _, Nat.zero_le _⟩ ?_
  refine W.eq (g2 := F0 m 6 ls [.int (iI (-1))]) rfl ?_
  refine lv_istore (lv' := [(4, .int (iI (-1))), (0, .ref o), (1, .int (iI (x))), (2, .int (iI (y))), (3, .int (iI (z)))]) hx hb dX4_apart_6 hl (by decide) rfl (fun ls hl => ?_)
  refine lv_iload hx hb dX4_apart_8 (lv_at hl 0 rfl) ?_
  refine b_eqF (tgt := 19) S dX4_apart_10 (by decide) (by decide) (by decide) ?_
  refine w_ldc (z := (-1000000000)) S (List.mem_of_getElem? (i := 1) rfl) (by decide) dX4_apart_13 ?_
  refine lv_iload hx hb dX4_apart_15 (lv_at hl 0 rfl) ?_
  refine w_iadd S dX4_apart_17 ?_
  exact hret _ _ _ dX4_apart_18 (congrArg iI (by omega))
set_option maxHeartbeats 4000000 in
set_option maxRecDepth 100000 in
theorem c_apart_O (lc : Launch) (D : va_G) (cI cZ : ClassId) (N : Nat) (o : Nat) (v2 : Nat) (v3 : Nat) (ik : Int) (w : Nat) (wc : Nat) (k : Nat) (kn : Nat) (t : Nat) (tc : Nat) (ts : Nat) (b : Nat) (bm : Nat) (br : Nat) (mn : Nat) (tA : Int) (sA : Int) (kA : Int) (ck : Nat → Int) (nb : Nat → Int) (cn : Nat → Int) (sm : Nat → Int) (mo : Nat → Int) (re : Nat → Int) (x : Int) (y : Int) (z : Int) (hmn : 2 ≤ mn ∧ mn ≤ 5) (r_x : -2147483648 ≤ x ∧ x ≤ 2147483647) (r_y : -2147483648 ≤ y ∧ y ≤ 2147483647) (r_z : -2147483648 ≤ z ∧ z ≤ 2147483647) (h1 : (0 ≤ x ∧ x ≤ (mn : Int) - 1)) (h2 : (0 ≤ y ∧ y ≤ (mn : Int) - 1)) (h : ¬ (x < y ∧ (0 ≤ z ∧ z ≤ 1))) : CR lc D cI cZ N yX4_apart wsX4_apart (rmK 3 65) [.ref o, .int (iI (x)), .int (iI (y)), .int (iI (z))] [(o, .inr (4, [.ref w, .ref v2, .ref v3, .int (iI (ik))])), (w, .inr (3, [.int (iI (((mn : Nat) : Int))), .int (iI (tA)), .int (iI (sA)), .int (iI (kA)), .ref wc, .ref k, .ref t, .ref b])), (wc, .inl (cI, 5, .inl (vI ck))), (k, .inr (1, [.ref kn])), (kn, .inl (cI, 24, .inl (vI nb))), (t, .inr (2, [.ref tc, .ref ts])), (tc, .inl (cI, 1000, .inl (vI cn))), (ts, .inl (cI, 1000, .inl (vI sm))), (b, .inr (0, [.ref bm, .ref br])), (bm, .inl (cI, 25, .inl (vI mo))), (br, .inl (cI, 5, .inl (vI re)))] (some (.int (iI (-1000000002)))) := by
  refine CR.I (cc := cX4_apart) (maxL := 5) (by decide) rfl (Nat.le_of_ble_eq_true rfl) ?_
  intro p e s m args below meth c R Q S hE A hAN hfr hlo hP hD hS hret ls hl
  have S : CallFix p m c cX4_apart 5 s args wsX4_apart RX4 := S
  have hx := S.1
  have hb := S.2.1
  have hl : lv_has ls 5 [(0, .ref o), (1, .int (iI (x))), (2, .int (iI (y))), (3, .int (iI (z)))] := hl
  by_cases h3 : x < y
  · refine lv_aload_n hx hb dX4_apart_0 rfl (lv_at hl 0 rfl) ?_
    refine lv_iload_n hx hb dX4_apart_1 rfl (lv_at hl 1 rfl) ?_
    refine lv_iload_n hx hb dX4_apart_2 rfl (lv_at hl 2 rfl) ?_
    refine kV_R (n := 2) (ci := 4) (q := (RX4, TX4, 4)) S (c_pair lc D cI cZ N o v2 v3 ik w wc k kn t tc ts b bm br mn tA sA kA ck nb cn sm mo re x y (by omega) (by omega) (by omega) (by omega) (by omega) (by omega)) gX4_apart_X4_pairRefusal rfl rfl (by decide +kernel) rfl rfl ⟨Nat.le_trans (Nat.le_of_ble_eq_true rfl) hfr, Nat.le_trans (Nat.le_of_ble_eq_true rfl) hlo⟩ hE hAN hP hD hS [0, 1, 2, 3, 4, 5, 6, 7, 8, 9, 10] rfl (by decide) rfl rfl rfl rfl hl.1 [] rfl (Nat.le_of_ble_eq_true rfl) dX4_apart_3 ⟨Nat.zero_le _, Nat.zero_le _⟩ ?_
    refine W.eq (g2 := F0 m 6 ls [.int (iI (0))]) rfl ?_
    refine lv_istore (lv' := [(4, .int (iI (0))), (0, .ref o), (1, .int (iI (x))), (2, .int (iI (y))), (3, .int (iI (z)))]) hx hb dX4_apart_6 hl (by decide) rfl (fun ls hl => ?_)
    refine lv_iload hx hb dX4_apart_8 (lv_at hl 0 rfl) ?_
    refine b_eqT (tgt := 19) S dX4_apart_10 (by decide) (by decide) ?_
    refine lv_iload_n hx hb dX4_apart_19 rfl (lv_at hl 4 rfl) ?_
    refine lv_iconst (v := iI (0)) hx hb dX4_apart_20 rfl ?_
    refine lv_iconst (v := iI (1)) hx hb dX4_apart_21 rfl ?_
    refine kS_R (n := 3) S (c_within_F lc D cI cZ N z 0 1 (by omega) (by omega) (by omega) (by omega)) gX4_apart_X4_within rfl (by decide +kernel) rfl rfl ⟨Nat.le_trans (Nat.le_of_ble_eq_true rfl) hfr, Nat.le_trans (Nat.le_of_ble_eq_true rfl) hlo⟩ hE hAN hP hD hS [] rfl (by decide) rfl hl.1 [] rfl (Nat.le_of_ble_eq_true rfl) dX4_apart_22 ⟨Nat.zero_le _, Nat.zero_le _⟩ ?_
    refine W.eq (g2 := F0 m 25 ls [.int (iI (0))]) rfl ?_
    refine b_neF (tgt := 31) S dX4_apart_25 (by decide) (by decide) ?_
    refine w_ldc (z := (-1000000002)) S (List.mem_of_getElem? (i := 2) rfl) (by decide) dX4_apart_28 ?_
    exact hret _ _ _ dX4_apart_30 (congrArg iI (by omega))
  · refine lv_aload_n hx hb dX4_apart_0 rfl (lv_at hl 0 rfl) ?_
    refine lv_iload_n hx hb dX4_apart_1 rfl (lv_at hl 1 rfl) ?_
    refine lv_iload_n hx hb dX4_apart_2 rfl (lv_at hl 2 rfl) ?_
    refine kV_R (n := 2) (ci := 4) (q := (RX4, TX4, 4)) S (c_pair_O lc D cI cZ N o v2 v3 ik w wc k kn t tc ts b bm br mn tA sA kA ck nb cn sm mo re x y (by omega) (by omega) (by omega) (by omega) (by omega) (by omega)) gX4_apart_X4_pairRefusal rfl rfl (by decide +kernel) rfl rfl ⟨Nat.le_trans (Nat.le_of_ble_eq_true rfl) hfr, Nat.le_trans (Nat.le_of_ble_eq_true rfl) hlo⟩ hE hAN hP hD hS [0, 1, 2, 3, 4, 5, 6, 7, 8, 9, 10] rfl (by decide) rfl rfl rfl rfl hl.1 [] rfl (Nat.le_of_ble_eq_true rfl) dX4_apart_3 ⟨Nat.zero_le _, Nat.zero_le _⟩ ?_
    refine W.eq (g2 := F0 m 6 ls [.int (iI (-2))]) rfl ?_
    refine lv_istore (lv' := [(4, .int (iI (-2))), (0, .ref o), (1, .int (iI (x))), (2, .int (iI (y))), (3, .int (iI (z)))]) hx hb dX4_apart_6 hl (by decide) rfl (fun ls hl => ?_)
    refine lv_iload hx hb dX4_apart_8 (lv_at hl 0 rfl) ?_
    refine b_eqF (tgt := 19) S dX4_apart_10 (by decide) (by decide) (by decide) ?_
    refine w_ldc (z := (-1000000000)) S (List.mem_of_getElem? (i := 1) rfl) (by decide) dX4_apart_13 ?_
    refine lv_iload hx hb dX4_apart_15 (lv_at hl 0 rfl) ?_
    refine w_iadd S dX4_apart_17 ?_
    exact hret _ _ _ dX4_apart_18 (congrArg iI (by omega))
set_option maxHeartbeats 4000000 in
set_option maxRecDepth 100000 in
theorem c_apart_N (lc : Launch) (D : va_G) (cI cZ : ClassId) (N : Nat) (o : Nat) (v2 : Nat) (v3 : Nat) (ik : Int) (w : Nat) (wc : Nat) (k : Nat) (kn : Nat) (t : Nat) (tc : Nat) (ts : Nat) (b : Nat) (bm : Nat) (br : Nat) (mn : Nat) (tA : Int) (sA : Int) (kA : Int) (ck : Nat → Int) (nb : Nat → Int) (cn : Nat → Int) (sm : Nat → Int) (mo : Nat → Int) (re : Nat → Int) (f : Nat) (g : Nat) (z : Int) (hmn : 2 ≤ mn ∧ mn ≤ 5) (hfg : f < g) (hgm : g < mn) (r_z : -2147483648 ≤ z ∧ z ≤ 2147483647) (h : (0 ≤ z ∧ z ≤ 1)) (h2 : mo (f * 5 + g) = 1000000000) : CR lc D cI cZ N yX4_apart wsX4_apart (rmK 3 65) [.ref o, .int (iI (((f : Nat) : Int))), .int (iI (((g : Nat) : Int))), .int (iI (z))] [(o, .inr (4, [.ref w, .ref v2, .ref v3, .int (iI (ik))])), (w, .inr (3, [.int (iI (((mn : Nat) : Int))), .int (iI (tA)), .int (iI (sA)), .int (iI (kA)), .ref wc, .ref k, .ref t, .ref b])), (wc, .inl (cI, 5, .inl (vI ck))), (k, .inr (1, [.ref kn])), (kn, .inl (cI, 24, .inl (vI nb))), (t, .inr (2, [.ref tc, .ref ts])), (tc, .inl (cI, 1000, .inl (vI cn))), (ts, .inl (cI, 1000, .inl (vI sm))), (b, .inr (0, [.ref bm, .ref br])), (bm, .inl (cI, 25, .inl (vI mo))), (br, .inl (cI, 5, .inl (vI re)))] (some (.int (iI (-1000000006)))) := by
  refine CR.I (cc := cX4_apart) (maxL := 5) (by decide) rfl (Nat.le_of_ble_eq_true rfl) ?_
  intro p e s m args below meth c R Q S hE A hAN hfr hlo hP hD hS hret ls hl
  have S : CallFix p m c cX4_apart 5 s args wsX4_apart RX4 := S
  have hx := S.1
  have hb := S.2.1
  have hl : lv_has ls 5 [(0, .ref o), (1, .int (iI (((f : Nat) : Int)))), (2, .int (iI (((g : Nat) : Int)))), (3, .int (iI (z)))] := hl
  refine lv_aload_n hx hb dX4_apart_0 rfl (lv_at hl 0 rfl) ?_
  refine lv_iload_n hx hb dX4_apart_1 rfl (lv_at hl 1 rfl) ?_
  refine lv_iload_n hx hb dX4_apart_2 rfl (lv_at hl 2 rfl) ?_
  refine kV_R (n := 2) (ci := 4) (q := (RX4, TX4, 4)) S (c_pair lc D cI cZ N o v2 v3 ik w wc k kn t tc ts b bm br mn tA sA kA ck nb cn sm mo re ((f : Nat) : Int) ((g : Nat) : Int) (by omega) (by omega) (by omega) (by omega) (by omega) (by omega)) gX4_apart_X4_pairRefusal rfl rfl (by decide +kernel) rfl rfl ⟨Nat.le_trans (Nat.le_of_ble_eq_true rfl) hfr, Nat.le_trans (Nat.le_of_ble_eq_true rfl) hlo⟩ hE hAN hP hD hS [0, 1, 2, 3, 4, 5, 6, 7, 8, 9, 10] rfl (by decide) rfl rfl rfl rfl hl.1 [] rfl (Nat.le_of_ble_eq_true rfl) dX4_apart_3 ⟨Nat.zero_le _, Nat.zero_le _⟩ ?_
  refine W.eq (g2 := F0 m 6 ls [.int (iI (0))]) rfl ?_
  refine lv_istore (lv' := [(4, .int (iI (0))), (0, .ref o), (1, .int (iI (((f : Nat) : Int)))), (2, .int (iI (((g : Nat) : Int)))), (3, .int (iI (z)))]) hx hb dX4_apart_6 hl (by decide) rfl (fun ls hl => ?_)
  refine lv_iload hx hb dX4_apart_8 (lv_at hl 0 rfl) ?_
  refine b_eqT (tgt := 19) S dX4_apart_10 (by decide) (by decide) ?_
  refine lv_iload_n hx hb dX4_apart_19 rfl (lv_at hl 4 rfl) ?_
  refine lv_iconst (v := iI (0)) hx hb dX4_apart_20 rfl ?_
  refine lv_iconst (v := iI (1)) hx hb dX4_apart_21 rfl ?_
  refine kS_R (n := 3) S (c_within_T lc D cI cZ N z 0 1 (by omega) (by omega) (by omega) (by omega)) gX4_apart_X4_within rfl (by decide +kernel) rfl rfl ⟨Nat.le_trans (Nat.le_of_ble_eq_true rfl) hfr, Nat.le_trans (Nat.le_of_ble_eq_true rfl) hlo⟩ hE hAN hP hD hS [] rfl (by decide) rfl hl.1 [] rfl (Nat.le_of_ble_eq_true rfl) dX4_apart_22 ⟨Nat.zero_le _, Nat.zero_le _⟩ ?_
  refine W.eq (g2 := F0 m 25 ls [.int (iI (1))]) rfl ?_
  refine b_neT (tgt := 31) S dX4_apart_25 (by decide) (by decide) (by decide) ?_
  refine lv_aload_n hx hb dX4_apart_31 rfl (lv_at hl 1 rfl) ?_
  refine w_get (C := RX4) (T := TX4) (Nf := 4) (ci := 4) (v := .ref w) S (fun _ h => List.mem_cons_of_mem _ (List.mem_append_left _ (List.mem_append_left _ (List.mem_append_right _ h)))) hE hP 0 rfl rfl 0 (by decide) (List.mem_of_getElem? (i := 3) rfl) rfl dX4_apart_32 ?_
  refine w_get (C := RX3) (T := TX3) (Nf := 8) (ci := 3) (v := .ref b) S (fun _ h => List.mem_cons_of_mem _ (List.mem_append_left _ (List.mem_append_right _ h))) hE hP 1 rfl rfl 7 (by decide) (List.mem_of_getElem? (i := 4) rfl) rfl dX4_apart_35 ?_
  refine lv_iload_n hx hb dX4_apart_38 rfl (lv_at hl 2 rfl) ?_
  refine lv_iload_n hx hb dX4_apart_39 rfl (lv_at hl 3 rfl) ?_
  refine kV_R (n := 2) (ci := 0) (q := (RX0, TX0, 2)) S (c_hasBoth_F lc D cI cZ N b bm br mo re f g (by omega) (by omega) (by omega)) gX4_apart_X0_hasBoth rfl rfl (by decide +kernel) rfl rfl ⟨Nat.le_trans (Nat.le_of_ble_eq_true rfl) hfr, Nat.le_trans (Nat.le_of_ble_eq_true rfl) hlo⟩ hE hAN hP hD hS [8, 9, 10] rfl (by decide) rfl rfl rfl rfl hl.1 [] rfl (Nat.le_of_ble_eq_true rfl) dX4_apart_40 ⟨Nat.zero_le _, Nat.zero_le _⟩ ?_
  refine W.eq (g2 := F0 m 43 ls [.int (iI (0))]) rfl ?_
  refine b_neF (tgt := 49) S dX4_apart_43 (by decide) (by decide) ?_
  refine w_ldc (z := (-1000000006)) S (List.mem_of_getElem? (i := 5) rfl) (by decide) dX4_apart_46 ?_
  exact hret _ _ _ dX4_apart_48 (congrArg iI (by omega))
set_option maxHeartbeats 4000000 in
set_option maxRecDepth 100000 in
theorem c_apart_0 (lc : Launch) (D : va_G) (cI cZ : ClassId) (N : Nat) (o : Nat) (v2 : Nat) (v3 : Nat) (ik : Int) (w : Nat) (wc : Nat) (k : Nat) (kn : Nat) (t : Nat) (tc : Nat) (ts : Nat) (b : Nat) (bm : Nat) (br : Nat) (mn : Nat) (tA : Int) (sA : Int) (kA : Int) (ck : Nat → Int) (nb : Nat → Int) (cn : Nat → Int) (sm : Nat → Int) (mo : Nat → Int) (re : Nat → Int) (f : Nat) (g : Nat) (hmn : 2 ≤ mn ∧ mn ≤ 5) (hfg : f < g) (hgm : g < mn) (hmo : ∀ k, k < 25 → -1000 ≤ mo k ∧ mo k ≤ 1000000000) (h2 : mo (f * 5 + g) ≠ 1000000000) : CR lc D cI cZ N yX4_apart wsX4_apart (rmK 3 65) [.ref o, .int (iI (((f : Nat) : Int))), .int (iI (((g : Nat) : Int))), .int (iI (0))] [(o, .inr (4, [.ref w, .ref v2, .ref v3, .int (iI (ik))])), (w, .inr (3, [.int (iI (((mn : Nat) : Int))), .int (iI (tA)), .int (iI (sA)), .int (iI (kA)), .ref wc, .ref k, .ref t, .ref b])), (wc, .inl (cI, 5, .inl (vI ck))), (k, .inr (1, [.ref kn])), (kn, .inl (cI, 24, .inl (vI nb))), (t, .inr (2, [.ref tc, .ref ts])), (tc, .inl (cI, 1000, .inl (vI cn))), (ts, .inl (cI, 1000, .inl (vI sm))), (b, .inr (0, [.ref bm, .ref br])), (bm, .inl (cI, 25, .inl (vI mo))), (br, .inl (cI, 5, .inl (vI re)))] (some (.int (iI (-(mo (g * 5 + f)))))) := by
  refine CR.I (cc := cX4_apart) (maxL := 5) (by decide) rfl (Nat.le_of_ble_eq_true rfl) ?_
  intro p e s m args below meth c R Q S hE A hAN hfr hlo hP hD hS hret ls hl
  have S : CallFix p m c cX4_apart 5 s args wsX4_apart RX4 := S
  have hx := S.1
  have hb := S.2.1
  have hl : lv_has ls 5 [(0, .ref o), (1, .int (iI (((f : Nat) : Int)))), (2, .int (iI (((g : Nat) : Int)))), (3, .int (iI (0)))] := hl
  refine lv_aload_n hx hb dX4_apart_0 rfl (lv_at hl 0 rfl) ?_
  refine lv_iload_n hx hb dX4_apart_1 rfl (lv_at hl 1 rfl) ?_
  refine lv_iload_n hx hb dX4_apart_2 rfl (lv_at hl 2 rfl) ?_
  refine kV_R (n := 2) (ci := 4) (q := (RX4, TX4, 4)) S (c_pair lc D cI cZ N o v2 v3 ik w wc k kn t tc ts b bm br mn tA sA kA ck nb cn sm mo re ((f : Nat) : Int) ((g : Nat) : Int) (by omega) (by omega) (by omega) (by omega) (by omega) (by omega)) gX4_apart_X4_pairRefusal rfl rfl (by decide +kernel) rfl rfl ⟨Nat.le_trans (Nat.le_of_ble_eq_true rfl) hfr, Nat.le_trans (Nat.le_of_ble_eq_true rfl) hlo⟩ hE hAN hP hD hS [0, 1, 2, 3, 4, 5, 6, 7, 8, 9, 10] rfl (by decide) rfl rfl rfl rfl hl.1 [] rfl (Nat.le_of_ble_eq_true rfl) dX4_apart_3 ⟨Nat.zero_le _, Nat.zero_le _⟩ ?_
  refine W.eq (g2 := F0 m 6 ls [.int (iI (0))]) rfl ?_
  refine lv_istore (lv' := [(4, .int (iI (0))), (0, .ref o), (1, .int (iI (((f : Nat) : Int)))), (2, .int (iI (((g : Nat) : Int)))), (3, .int (iI (0)))]) hx hb dX4_apart_6 hl (by decide) rfl (fun ls hl => ?_)
  refine lv_iload hx hb dX4_apart_8 (lv_at hl 0 rfl) ?_
  refine b_eqT (tgt := 19) S dX4_apart_10 (by decide) (by decide) ?_
  refine lv_iload_n hx hb dX4_apart_19 rfl (lv_at hl 4 rfl) ?_
  refine lv_iconst (v := iI (0)) hx hb dX4_apart_20 rfl ?_
  refine lv_iconst (v := iI (1)) hx hb dX4_apart_21 rfl ?_
  refine kS_R (n := 3) S (c_within_T lc D cI cZ N 0 0 1 (by omega) (by omega) (by omega) (by omega)) gX4_apart_X4_within rfl (by decide +kernel) rfl rfl ⟨Nat.le_trans (Nat.le_of_ble_eq_true rfl) hfr, Nat.le_trans (Nat.le_of_ble_eq_true rfl) hlo⟩ hE hAN hP hD hS [] rfl (by decide) rfl hl.1 [] rfl (Nat.le_of_ble_eq_true rfl) dX4_apart_22 ⟨Nat.zero_le _, Nat.zero_le _⟩ ?_
  refine W.eq (g2 := F0 m 25 ls [.int (iI (1))]) rfl ?_
  refine b_neT (tgt := 31) S dX4_apart_25 (by decide) (by decide) (by decide) ?_
  refine lv_aload_n hx hb dX4_apart_31 rfl (lv_at hl 1 rfl) ?_
  refine w_get (C := RX4) (T := TX4) (Nf := 4) (ci := 4) (v := .ref w) S (fun _ h => List.mem_cons_of_mem _ (List.mem_append_left _ (List.mem_append_left _ (List.mem_append_right _ h)))) hE hP 0 rfl rfl 0 (by decide) (List.mem_of_getElem? (i := 3) rfl) rfl dX4_apart_32 ?_
  refine w_get (C := RX3) (T := TX3) (Nf := 8) (ci := 3) (v := .ref b) S (fun _ h => List.mem_cons_of_mem _ (List.mem_append_left _ (List.mem_append_right _ h))) hE hP 1 rfl rfl 7 (by decide) (List.mem_of_getElem? (i := 4) rfl) rfl dX4_apart_35 ?_
  refine lv_iload_n hx hb dX4_apart_38 rfl (lv_at hl 2 rfl) ?_
  refine lv_iload_n hx hb dX4_apart_39 rfl (lv_at hl 3 rfl) ?_
  refine kV_R (n := 2) (ci := 0) (q := (RX0, TX0, 2)) S (c_hasBoth_T lc D cI cZ N b bm br mo re f g (by omega) (by omega) (by omega) (by omega)) gX4_apart_X0_hasBoth rfl rfl (by decide +kernel) rfl rfl ⟨Nat.le_trans (Nat.le_of_ble_eq_true rfl) hfr, Nat.le_trans (Nat.le_of_ble_eq_true rfl) hlo⟩ hE hAN hP hD hS [8, 9, 10] rfl (by decide) rfl rfl rfl rfl hl.1 [] rfl (Nat.le_of_ble_eq_true rfl) dX4_apart_40 ⟨Nat.zero_le _, Nat.zero_le _⟩ ?_
  refine W.eq (g2 := F0 m 43 ls [.int (iI (1))]) rfl ?_
  refine b_neT (tgt := 49) S dX4_apart_43 (by decide) (by decide) (by decide) ?_
  refine lv_iload_n hx hb dX4_apart_49 rfl (lv_at hl 4 rfl) ?_
  refine b_neF (tgt := 68) S dX4_apart_50 (by decide) (by decide) ?_
  refine lv_aload_n hx hb dX4_apart_53 rfl (lv_at hl 1 rfl) ?_
  refine w_get (C := RX4) (T := TX4) (Nf := 4) (ci := 4) (v := .ref w) S (fun _ h => List.mem_cons_of_mem _ (List.mem_append_left _ (List.mem_append_left _ (List.mem_append_right _ h)))) hE hP 0 rfl rfl 0 (by decide) (List.mem_of_getElem? (i := 3) rfl) rfl dX4_apart_54 ?_
  refine w_get (C := RX3) (T := TX3) (Nf := 8) (ci := 3) (v := .ref b) S (fun _ h => List.mem_cons_of_mem _ (List.mem_append_left _ (List.mem_append_right _ h))) hE hP 1 rfl rfl 7 (by decide) (List.mem_of_getElem? (i := 4) rfl) rfl dX4_apart_57 ?_
  refine lv_iload_n hx hb dX4_apart_60 rfl (lv_at hl 2 rfl) ?_
  refine lv_iload_n hx hb dX4_apart_61 rfl (lv_at hl 3 rfl) ?_
  refine kV_R (n := 2) (ci := 0) (q := (RX0, TX0, 2)) S (c_low lc D cI cZ N b bm br mo re f g (by omega) (by omega)) gX4_apart_X0_low rfl rfl (by decide +kernel) rfl rfl ⟨Nat.le_trans (Nat.le_of_ble_eq_true rfl) hfr, Nat.le_trans (Nat.le_of_ble_eq_true rfl) hlo⟩ hE hAN hP hD hS [8, 9, 10] rfl (by decide) rfl rfl rfl rfl hl.1 [] rfl (Nat.le_of_ble_eq_true rfl) dX4_apart_62 ⟨Nat.zero_le _, Nat.zero_le _⟩ ?_
  refine W.eq (g2 := F0 m 65 ls [.int (iI (-(mo (g * 5 + f))))]) rfl ?_
  refine lv_goto (tgt := 80) hx hb dX4_apart_65 (by decide) ?_
  exact hret _ _ _ dX4_apart_80 rfl
set_option maxHeartbeats 4000000 in
set_option maxRecDepth 100000 in
theorem c_apart_1 (lc : Launch) (D : va_G) (cI cZ : ClassId) (N : Nat) (o : Nat) (v2 : Nat) (v3 : Nat) (ik : Int) (w : Nat) (wc : Nat) (k : Nat) (kn : Nat) (t : Nat) (tc : Nat) (ts : Nat) (b : Nat) (bm : Nat) (br : Nat) (mn : Nat) (tA : Int) (sA : Int) (kA : Int) (ck : Nat → Int) (nb : Nat → Int) (cn : Nat → Int) (sm : Nat → Int) (mo : Nat → Int) (re : Nat → Int) (f : Nat) (g : Nat) (hmn : 2 ≤ mn ∧ mn ≤ 5) (hfg : f < g) (hgm : g < mn) (hmo : ∀ k, k < 25 → -1000 ≤ mo k ∧ mo k ≤ 1000000000) (h2 : mo (f * 5 + g) ≠ 1000000000) : CR lc D cI cZ N yX4_apart wsX4_apart (rmK 3 65) [.ref o, .int (iI (((f : Nat) : Int))), .int (iI (((g : Nat) : Int))), .int (iI (1))] [(o, .inr (4, [.ref w, .ref v2, .ref v3, .int (iI (ik))])), (w, .inr (3, [.int (iI (((mn : Nat) : Int))), .int (iI (tA)), .int (iI (sA)), .int (iI (kA)), .ref wc, .ref k, .ref t, .ref b])), (wc, .inl (cI, 5, .inl (vI ck))), (k, .inr (1, [.ref kn])), (kn, .inl (cI, 24, .inl (vI nb))), (t, .inr (2, [.ref tc, .ref ts])), (tc, .inl (cI, 1000, .inl (vI cn))), (ts, .inl (cI, 1000, .inl (vI sm))), (b, .inr (0, [.ref bm, .ref br])), (bm, .inl (cI, 25, .inl (vI mo))), (br, .inl (cI, 5, .inl (vI re)))] (some (.int (iI (mo (f * 5 + g))))) := by
  refine CR.I (cc := cX4_apart) (maxL := 5) (by decide) rfl (Nat.le_of_ble_eq_true rfl) ?_
  intro p e s m args below meth c R Q S hE A hAN hfr hlo hP hD hS hret ls hl
  have S : CallFix p m c cX4_apart 5 s args wsX4_apart RX4 := S
  have hx := S.1
  have hb := S.2.1
  have hl : lv_has ls 5 [(0, .ref o), (1, .int (iI (((f : Nat) : Int)))), (2, .int (iI (((g : Nat) : Int)))), (3, .int (iI (1)))] := hl
  refine lv_aload_n hx hb dX4_apart_0 rfl (lv_at hl 0 rfl) ?_
  refine lv_iload_n hx hb dX4_apart_1 rfl (lv_at hl 1 rfl) ?_
  refine lv_iload_n hx hb dX4_apart_2 rfl (lv_at hl 2 rfl) ?_
  refine kV_R (n := 2) (ci := 4) (q := (RX4, TX4, 4)) S (c_pair lc D cI cZ N o v2 v3 ik w wc k kn t tc ts b bm br mn tA sA kA ck nb cn sm mo re ((f : Nat) : Int) ((g : Nat) : Int) (by omega) (by omega) (by omega) (by omega) (by omega) (by omega)) gX4_apart_X4_pairRefusal rfl rfl (by decide +kernel) rfl rfl ⟨Nat.le_trans (Nat.le_of_ble_eq_true rfl) hfr, Nat.le_trans (Nat.le_of_ble_eq_true rfl) hlo⟩ hE hAN hP hD hS [0, 1, 2, 3, 4, 5, 6, 7, 8, 9, 10] rfl (by decide) rfl rfl rfl rfl hl.1 [] rfl (Nat.le_of_ble_eq_true rfl) dX4_apart_3 ⟨Nat.zero_le _, Nat.zero_le _⟩ ?_
  refine W.eq (g2 := F0 m 6 ls [.int (iI (0))]) rfl ?_
  refine lv_istore (lv' := [(4, .int (iI (0))), (0, .ref o), (1, .int (iI (((f : Nat) : Int)))), (2, .int (iI (((g : Nat) : Int)))), (3, .int (iI (1)))]) hx hb dX4_apart_6 hl (by decide) rfl (fun ls hl => ?_)
  refine lv_iload hx hb dX4_apart_8 (lv_at hl 0 rfl) ?_
  refine b_eqT (tgt := 19) S dX4_apart_10 (by decide) (by decide) ?_
  refine lv_iload_n hx hb dX4_apart_19 rfl (lv_at hl 4 rfl) ?_
  refine lv_iconst (v := iI (0)) hx hb dX4_apart_20 rfl ?_
  refine lv_iconst (v := iI (1)) hx hb dX4_apart_21 rfl ?_
  refine kS_R (n := 3) S (c_within_T lc D cI cZ N 1 0 1 (by omega) (by omega) (by omega) (by omega)) gX4_apart_X4_within rfl (by decide +kernel) rfl rfl ⟨Nat.le_trans (Nat.le_of_ble_eq_true rfl) hfr, Nat.le_trans (Nat.le_of_ble_eq_true rfl) hlo⟩ hE hAN hP hD hS [] rfl (by decide) rfl hl.1 [] rfl (Nat.le_of_ble_eq_true rfl) dX4_apart_22 ⟨Nat.zero_le _, Nat.zero_le _⟩ ?_
  refine W.eq (g2 := F0 m 25 ls [.int (iI (1))]) rfl ?_
  refine b_neT (tgt := 31) S dX4_apart_25 (by decide) (by decide) (by decide) ?_
  refine lv_aload_n hx hb dX4_apart_31 rfl (lv_at hl 1 rfl) ?_
  refine w_get (C := RX4) (T := TX4) (Nf := 4) (ci := 4) (v := .ref w) S (fun _ h => List.mem_cons_of_mem _ (List.mem_append_left _ (List.mem_append_left _ (List.mem_append_right _ h)))) hE hP 0 rfl rfl 0 (by decide) (List.mem_of_getElem? (i := 3) rfl) rfl dX4_apart_32 ?_
  refine w_get (C := RX3) (T := TX3) (Nf := 8) (ci := 3) (v := .ref b) S (fun _ h => List.mem_cons_of_mem _ (List.mem_append_left _ (List.mem_append_right _ h))) hE hP 1 rfl rfl 7 (by decide) (List.mem_of_getElem? (i := 4) rfl) rfl dX4_apart_35 ?_
  refine lv_iload_n hx hb dX4_apart_38 rfl (lv_at hl 2 rfl) ?_
  refine lv_iload_n hx hb dX4_apart_39 rfl (lv_at hl 3 rfl) ?_
  refine kV_R (n := 2) (ci := 0) (q := (RX0, TX0, 2)) S (c_hasBoth_T lc D cI cZ N b bm br mo re f g (by omega) (by omega) (by omega) (by omega)) gX4_apart_X0_hasBoth rfl rfl (by decide +kernel) rfl rfl ⟨Nat.le_trans (Nat.le_of_ble_eq_true rfl) hfr, Nat.le_trans (Nat.le_of_ble_eq_true rfl) hlo⟩ hE hAN hP hD hS [8, 9, 10] rfl (by decide) rfl rfl rfl rfl hl.1 [] rfl (Nat.le_of_ble_eq_true rfl) dX4_apart_40 ⟨Nat.zero_le _, Nat.zero_le _⟩ ?_
  refine W.eq (g2 := F0 m 43 ls [.int (iI (1))]) rfl ?_
  refine b_neT (tgt := 49) S dX4_apart_43 (by decide) (by decide) (by decide) ?_
  refine lv_iload_n hx hb dX4_apart_49 rfl (lv_at hl 4 rfl) ?_
  refine b_neT (tgt := 68) S dX4_apart_50 (by decide) (by decide) (by decide) ?_
  refine lv_aload_n hx hb dX4_apart_68 rfl (lv_at hl 1 rfl) ?_
  refine w_get (C := RX4) (T := TX4) (Nf := 4) (ci := 4) (v := .ref w) S (fun _ h => List.mem_cons_of_mem _ (List.mem_append_left _ (List.mem_append_left _ (List.mem_append_right _ h)))) hE hP 0 rfl rfl 0 (by decide) (List.mem_of_getElem? (i := 3) rfl) rfl dX4_apart_69 ?_
  refine w_get (C := RX3) (T := TX3) (Nf := 8) (ci := 3) (v := .ref b) S (fun _ h => List.mem_cons_of_mem _ (List.mem_append_left _ (List.mem_append_right _ h))) hE hP 1 rfl rfl 7 (by decide) (List.mem_of_getElem? (i := 4) rfl) rfl dX4_apart_72 ?_
  refine lv_iload_n hx hb dX4_apart_75 rfl (lv_at hl 2 rfl) ?_
  refine lv_iload_n hx hb dX4_apart_76 rfl (lv_at hl 3 rfl) ?_
  refine kV_R (n := 2) (ci := 0) (q := (RX0, TX0, 2)) S (c_high lc D cI cZ N b bm br mo re f g (by omega) (by omega)) gX4_apart_X0_high rfl rfl (by decide +kernel) rfl rfl ⟨Nat.le_trans (Nat.le_of_ble_eq_true rfl) hfr, Nat.le_trans (Nat.le_of_ble_eq_true rfl) hlo⟩ hE hAN hP hD hS [8, 9, 10] rfl (by decide) rfl rfl rfl rfl hl.1 [] rfl (Nat.le_of_ble_eq_true rfl) dX4_apart_77 ⟨Nat.zero_le _, Nat.zero_le _⟩ ?_
  refine W.eq (g2 := F0 m 80 ls [.int (iI (mo (f * 5 + g)))]) rfl ?_
  exact hret _ _ _ dX4_apart_80 rfl
set_option maxHeartbeats 4000000 in
set_option maxRecDepth 100000 in
theorem c_tight_U (lc : Launch) (D : va_G) (cI cZ : ClassId) (N : Nat) (o : Nat) (v2 : Nat) (v3 : Nat) (ik : Int) (w : Nat) (wc : Nat) (k : Nat) (kn : Nat) (t : Nat) (tc : Nat) (ts : Nat) (b : Nat) (bm : Nat) (br : Nat) (mn : Nat) (tA : Int) (sA : Int) (kA : Int) (ck : Nat → Int) (nb : Nat → Int) (cn : Nat → Int) (sm : Nat → Int) (mo : Nat → Int) (re : Nat → Int) (x : Int) (y : Int) (hmn : 2 ≤ mn ∧ mn ≤ 5) (r_x : -2147483648 ≤ x ∧ x ≤ 2147483647) (r_y : -2147483648 ≤ y ∧ y ≤ 2147483647) (h : ¬ ((0 ≤ x ∧ x ≤ (mn : Int) - 1) ∧ (0 ≤ y ∧ y ≤ (mn : Int) - 1))) : CR lc D cI cZ N yX4_tight wsX4_tight (rmK 3 68) [.ref o, .int (iI (x)), .int (iI (y))] [(o, .inr (4, [.ref w, .ref v2, .ref v3, .int (iI (ik))])), (w, .inr (3, [.int (iI (((mn : Nat) : Int))), .int (iI (tA)), .int (iI (sA)), .int (iI (kA)), .ref wc, .ref k, .ref t, .ref b])), (wc, .inl (cI, 5, .inl (vI ck))), (k, .inr (1, [.ref kn])), (kn, .inl (cI, 24, .inl (vI nb))), (t, .inr (2, [.ref tc, .ref ts])), (tc, .inl (cI, 1000, .inl (vI cn))), (ts, .inl (cI, 1000, .inl (vI sm))), (b, .inr (0, [.ref bm, .ref br])), (bm, .inl (cI, 25, .inl (vI mo))), (br, .inl (cI, 5, .inl (vI re)))] (some (.int (iI (-1000000001)))) := by
  refine CR.I (cc := cX4_tight) (maxL := 4) (by decide) rfl (Nat.le_of_ble_eq_true rfl) ?_
  intro p e s m args below meth c R Q S hE A hAN hfr hlo hP hD hS hret ls hl
  have S : CallFix p m c cX4_tight 4 s args wsX4_tight RX4 := S
  have hx := S.1
  have hb := S.2.1
  have hl : lv_has ls 4 [(0, .ref o), (1, .int (iI (x))), (2, .int (iI (y)))] := hl
  by_cases h3 : (0 ≤ x ∧ x ≤ (mn : Int) - 1)
  · refine lv_aload_n hx hb dX4_tight_0 rfl (lv_at hl 0 rfl) ?_
    refine w_get (C := RX4) (T := TX4) (Nf := 4) (ci := 4) (v := .ref w) S (fun _ h => List.mem_cons_of_mem _ (List.mem_append_left _ (List.mem_append_left _ (List.mem_append_right _ h)))) hE hP 0 rfl rfl 0 (by decide) (List.mem_of_getElem? (i := 1) rfl) rfl dX4_tight_1 ?_
    refine lv_iload_n hx hb dX4_tight_4 rfl (lv_at hl 1 rfl) ?_
    refine kV_R (n := 1) (ci := 3) (q := (RX3, TX3, 8)) S (c_hasNode_T lc D cI cZ N w wc k kn t tc ts b bm br mn tA sA kA ck nb cn sm mo re x (by omega) (by omega) (by omega)) gX4_tight_X3_hasNode rfl rfl (by decide +kernel) rfl rfl ⟨Nat.le_trans (Nat.le_of_ble_eq_true rfl) hfr, Nat.le_trans (Nat.le_of_ble_eq_true rfl) hlo⟩ hE hAN hP hD hS [1, 2, 3, 4, 5, 6, 7, 8, 9, 10] rfl (by decide) rfl rfl rfl rfl hl.1 [] rfl (Nat.le_of_ble_eq_true rfl) dX4_tight_5 ⟨Nat.zero_le _, Nat.zero_le _⟩ ?_
    refine W.eq (g2 := F0 m 8 ls [.int (iI (1))]) rfl ?_
    refine b_eqF (tgt := 22) S dX4_tight_8 (by decide) (by decide) (by decide) ?_
    refine lv_aload_n hx hb dX4_tight_11 rfl (lv_at hl 0 rfl) ?_
    refine w_get (C := RX4) (T := TX4) (Nf := 4) (ci := 4) (v := .ref w) S (fun _ h => List.mem_cons_of_mem _ (List.mem_append_left _ (List.mem_append_left _ (List.mem_append_right _ h)))) hE hP 0 rfl rfl 0 (by decide) (List.mem_of_getElem? (i := 1) rfl) rfl dX4_tight_12 ?_
    refine lv_iload_n hx hb dX4_tight_15 rfl (lv_at hl 2 rfl) ?_
    refine kV_R (n := 1) (ci := 3) (q := (RX3, TX3, 8)) S (c_hasNode_F lc D cI cZ N w wc k kn t tc ts b bm br mn tA sA kA ck nb cn sm mo re y (by omega) (by omega) (by omega)) gX4_tight_X3_hasNode rfl rfl (by decide +kernel) rfl rfl ⟨Nat.le_trans (Nat.le_of_ble_eq_true rfl) hfr, Nat.le_trans (Nat.le_of_ble_eq_true rfl) hlo⟩ hE hAN hP hD hS [1, 2, 3, 4, 5, 6, 7, 8, 9, 10] rfl (by decide) rfl rfl rfl rfl hl.1 [] rfl (Nat.le_of_ble_eq_true rfl) dX4_tight_16 ⟨Nat.zero_le _, Nat.zero_le _⟩ ?_
    refine W.eq (g2 := F0 m 19 ls [.int (iI (0))]) rfl ?_
    refine b_neF (tgt := 25) S dX4_tight_19 (by decide) (by decide) ?_
    refine w_ldc (z := (-1000000001)) S (List.mem_of_getElem? (i := 2) rfl) (by decide) dX4_tight_22 ?_
    exact hret _ _ _ dX4_tight_24 (congrArg iI (by omega))
  · refine lv_aload_n hx hb dX4_tight_0 rfl (lv_at hl 0 rfl) ?_
    refine w_get (C := RX4) (T := TX4) (Nf := 4) (ci := 4) (v := .ref w) S (fun _ h => List.mem_cons_of_mem _ (List.mem_append_left _ (List.mem_append_left _ (List.mem_append_right _ h)))) hE hP 0 rfl rfl 0 (by decide) (List.mem_of_getElem? (i := 1) rfl) rfl dX4_tight_1 ?_
    refine lv_iload_n hx hb dX4_tight_4 rfl (lv_at hl 1 rfl) ?_
    refine kV_R (n := 1) (ci := 3) (q := (RX3, TX3, 8)) S (c_hasNode_F lc D cI cZ N w wc k kn t tc ts b bm br mn tA sA kA ck nb cn sm mo re x (by omega) (by omega) (by omega)) gX4_tight_X3_hasNode rfl rfl (by decide +kernel) rfl rfl ⟨Nat.le_trans (Nat.le_of_ble_eq_true rfl) hfr, Nat.le_trans (Nat.le_of_ble_eq_true rfl) hlo⟩ hE hAN hP hD hS [1, 2, 3, 4, 5, 6, 7, 8, 9, 10] rfl (by decide) rfl rfl rfl rfl hl.1 [] rfl (Nat.le_of_ble_eq_true rfl) dX4_tight_5 ⟨Nat.zero_le _, Nat.zero_le _⟩ ?_
    refine W.eq (g2 := F0 m 8 ls [.int (iI (0))]) rfl ?_
    refine b_eqT (tgt := 22) S dX4_tight_8 (by decide) (by decide) ?_
    refine w_ldc (z := (-1000000001)) S (List.mem_of_getElem? (i := 2) rfl) (by decide) dX4_tight_22 ?_
    exact hret _ _ _ dX4_tight_24 (congrArg iI (by omega))
set_option maxHeartbeats 4000000 in
set_option maxRecDepth 100000 in
theorem c_tight_N (lc : Launch) (D : va_G) (cI cZ : ClassId) (N : Nat) (o : Nat) (v2 : Nat) (v3 : Nat) (ik : Int) (w : Nat) (wc : Nat) (k : Nat) (kn : Nat) (t : Nat) (tc : Nat) (ts : Nat) (b : Nat) (bm : Nat) (br : Nat) (mn : Nat) (tA : Int) (sA : Int) (kA : Int) (ck : Nat → Int) (nb : Nat → Int) (cn : Nat → Int) (sm : Nat → Int) (mo : Nat → Int) (re : Nat → Int) (xx : Nat) (yy : Nat) (hmn : 2 ≤ mn ∧ mn ≤ 5) (hmo : ∀ k, k < 25 → -1000 ≤ mo k ∧ mo k ≤ 1000000000) (hx5 : xx < mn) (hy5 : yy < mn) (h : rnds mo (re0 xx) 4 yy = 1000000000) : CM lc D cI cZ N yX4_tight wsX4_tight (rmK 3 68) [.ref o, .int (iI (((xx : Nat) : Int))), .int (iI (((yy : Nat) : Int)))] [(o, .inr (4, [.ref w, .ref v2, .ref v3, .int (iI (ik))])), (w, .inr (3, [.int (iI (((mn : Nat) : Int))), .int (iI (tA)), .int (iI (sA)), .int (iI (kA)), .ref wc, .ref k, .ref t, .ref b])), (wc, .inl (cI, 5, .inl (vI ck))), (k, .inr (1, [.ref kn])), (kn, .inl (cI, 24, .inl (vI nb))), (t, .inr (2, [.ref tc, .ref ts])), (tc, .inl (cI, 1000, .inl (vI cn))), (ts, .inl (cI, 1000, .inl (vI sm))), (b, .inr (0, [.ref bm, .ref br])), (bm, .inl (cI, 25, .inl (vI mo))), (br, .inl (cI, 5, .inl (vI re)))] (some (.int (iI (-1000000006)))) [(o, .inr (4, [.ref w, .ref v2, .ref v3, .int (iI (ik))])), (w, .inr (3, [.int (iI (((mn : Nat) : Int))), .int (iI (tA)), .int (iI (sA)), .int (iI (kA)), .ref wc, .ref k, .ref t, .ref b])), (wc, .inl (cI, 5, .inl (vI ck))), (k, .inr (1, [.ref kn])), (kn, .inl (cI, 24, .inl (vI nb))), (t, .inr (2, [.ref tc, .ref ts])), (tc, .inl (cI, 1000, .inl (vI cn))), (ts, .inl (cI, 1000, .inl (vI sm))), (b, .inr (0, [.ref bm, .ref br])), (bm, .inl (cI, 25, .inl (vI mo))), (br, .inl (cI, 5, .inl (vI (rnds mo (re0 xx) 4))))] := by
  refine CM.I (cc := cX4_tight) (maxL := 4) (by decide) rfl (Nat.le_of_ble_eq_true rfl) ?_
  intro p e s m args below meth c R Q S hE A hAN hfr hlo hP hD hS hret ls hl
  have S : CallFix p m c cX4_tight 4 s args wsX4_tight RX4 := S
  have hx := S.1
  have hb := S.2.1
  have hl : lv_has ls 4 [(0, .ref o), (1, .int (iI (((xx : Nat) : Int)))), (2, .int (iI (((yy : Nat) : Int))))] := hl
  have g1 := rnds_rng (Int.le_refl 0) hmo (re0_rng xx) 4 yy (by omega)
  refine lv_aload_n hx hb dX4_tight_0 rfl (lv_at hl 0 rfl) ?_
  refine w_get (C := RX4) (T := TX4) (Nf := 4) (ci := 4) (v := .ref w) S (fun _ h => List.mem_cons_of_mem _ (List.mem_append_left _ (List.mem_append_left _ (List.mem_append_right _ h)))) hE hP 0 rfl rfl 0 (by decide) (List.mem_of_getElem? (i := 1) rfl) rfl dX4_tight_1 ?_
  refine lv_iload_n hx hb dX4_tight_4 rfl (lv_at hl 1 rfl) ?_
  refine kV_R (n := 1) (ci := 3) (q := (RX3, TX3, 8)) S (c_hasNode_T lc D cI cZ N w wc k kn t tc ts b bm br mn tA sA kA ck nb cn sm mo re ((xx : Nat) : Int) (by omega) (by omega) (by omega)) gX4_tight_X3_hasNode rfl rfl (by decide +kernel) rfl rfl ⟨Nat.le_trans (Nat.le_of_ble_eq_true rfl) hfr, Nat.le_trans (Nat.le_of_ble_eq_true rfl) hlo⟩ hE hAN hP hD hS [1, 2, 3, 4, 5, 6, 7, 8, 9, 10] rfl (by decide) rfl rfl rfl rfl hl.1 [] rfl (Nat.le_of_ble_eq_true rfl) dX4_tight_5 ⟨Nat.zero_le _, Nat.zero_le _⟩ ?_
  refine W.eq (g2 := F0 m 8 ls [.int (iI (1))]) rfl ?_
  refine b_eqF (tgt := 22) S dX4_tight_8 (by decide) (by decide) (by decide) ?_
  refine lv_aload_n hx hb dX4_tight_11 rfl (lv_at hl 0 rfl) ?_
  refine w_get (C := RX4) (T := TX4) (Nf := 4) (ci := 4) (v := .ref w) S (fun _ h => List.mem_cons_of_mem _ (List.mem_append_left _ (List.mem_append_left _ (List.mem_append_right _ h)))) hE hP 0 rfl rfl 0 (by decide) (List.mem_of_getElem? (i := 1) rfl) rfl dX4_tight_12 ?_
  refine lv_iload_n hx hb dX4_tight_15 rfl (lv_at hl 2 rfl) ?_
  refine kV_R (n := 1) (ci := 3) (q := (RX3, TX3, 8)) S (c_hasNode_T lc D cI cZ N w wc k kn t tc ts b bm br mn tA sA kA ck nb cn sm mo re ((yy : Nat) : Int) (by omega) (by omega) (by omega)) gX4_tight_X3_hasNode rfl rfl (by decide +kernel) rfl rfl ⟨Nat.le_trans (Nat.le_of_ble_eq_true rfl) hfr, Nat.le_trans (Nat.le_of_ble_eq_true rfl) hlo⟩ hE hAN hP hD hS [1, 2, 3, 4, 5, 6, 7, 8, 9, 10] rfl (by decide) rfl rfl rfl rfl hl.1 [] rfl (Nat.le_of_ble_eq_true rfl) dX4_tight_16 ⟨Nat.zero_le _, Nat.zero_le _⟩ ?_
  refine W.eq (g2 := F0 m 19 ls [.int (iI (1))]) rfl ?_
  refine b_neT (tgt := 25) S dX4_tight_19 (by decide) (by decide) (by decide) ?_
  refine lv_aload_n hx hb dX4_tight_25 rfl (lv_at hl 0 rfl) ?_
  refine w_get (C := RX4) (T := TX4) (Nf := 4) (ci := 4) (v := .ref w) S (fun _ h => List.mem_cons_of_mem _ (List.mem_append_left _ (List.mem_append_left _ (List.mem_append_right _ h)))) hE hP 0 rfl rfl 0 (by decide) (List.mem_of_getElem? (i := 1) rfl) rfl dX4_tight_26 ?_
  refine w_get (C := RX3) (T := TX3) (Nf := 8) (ci := 3) (v := .ref b) S (fun _ h => List.mem_cons_of_mem _ (List.mem_append_left _ (List.mem_append_right _ h))) hE hP 1 rfl rfl 7 (by decide) (List.mem_of_getElem? (i := 3) rfl) rfl dX4_tight_29 ?_
  refine lv_iload_n hx hb dX4_tight_32 rfl (lv_at hl 1 rfl) ?_
  refine lv_iload_n hx hb dX4_tight_33 rfl (lv_at hl 2 rfl) ?_
  refine kV_M (n := 2) (ci := 0) (q := (RX0, TX0, 2)) S (c_tightest lc D cI cZ N b bm br mo re xx yy (by omega) (by omega) (by omega)) gX4_tight_X0_tightest rfl rfl (by decide +kernel) rfl rfl ⟨Nat.le_trans (Nat.le_of_ble_eq_true rfl) hfr, Nat.le_trans (Nat.le_of_ble_eq_true rfl) hlo⟩ hE hAN hP hD hS [8, 9, 10] rfl (by decide) rfl rfl rfl rfl rfl hl.1 [] rfl (Nat.le_of_ble_eq_true rfl) dX4_tight_34 ⟨Nat.zero_le _, Nat.zero_le _⟩ (fun H locs hP hD hS => ?_)
  have hP : va_P D vwCl [(o, .inr (4, [.ref w, .ref v2, .ref v3, .int (iI (ik))])), (w, .inr (3, [.int (iI (((mn : Nat) : Int))), .int (iI (tA)), .int (iI (sA)), .int (iI (kA)), .ref wc, .ref k, .ref t, .ref b])), (wc, .inl (cI, 5, .inl (vI ck))), (k, .inr (1, [.ref kn])), (kn, .inl (cI, 24, .inl (vI nb))), (t, .inr (2, [.ref tc, .ref ts])), (tc, .inl (cI, 1000, .inl (vI cn))), (ts, .inl (cI, 1000, .inl (vI sm))), (b, .inr (0, [.ref bm, .ref br])), (bm, .inl (cI, 25, .inl (vI mo))), (br, .inl (cI, 5, .inl (vI (rnds mo (re0 xx) 4))))] H := hP
  have hD : va_D A [(o, .inr (4, [.ref w, .ref v2, .ref v3, .int (iI (ik))])), (w, .inr (3, [.int (iI (((mn : Nat) : Int))), .int (iI (tA)), .int (iI (sA)), .int (iI (kA)), .ref wc, .ref k, .ref t, .ref b])), (wc, .inl (cI, 5, .inl (vI ck))), (k, .inr (1, [.ref kn])), (kn, .inl (cI, 24, .inl (vI nb))), (t, .inr (2, [.ref tc, .ref ts])), (tc, .inl (cI, 1000, .inl (vI cn))), (ts, .inl (cI, 1000, .inl (vI sm))), (b, .inr (0, [.ref bm, .ref br])), (bm, .inl (cI, 25, .inl (vI mo))), (br, .inl (cI, 5, .inl (vI (rnds mo (re0 xx) 4))))] := hD
  refine W.eq (g2 := F0 m 37 ls [.int (iI (rnds mo (re0 xx) 4 yy))]) rfl ?_
  refine lv_istore_n (lv' := [(3, .int (iI (rnds mo (re0 xx) 4 yy))), (0, .ref o), (1, .int (iI (((xx : Nat) : Int)))), (2, .int (iI (((yy : Nat) : Int))))]) hx hb dX4_tight_37 rfl hl (by decide) rfl (fun ls hl => ?_)
  refine lv_iload_n hx hb dX4_tight_38 rfl (lv_at hl 0 rfl) ?_
  refine w_ldc (z := 1000000000) S (List.mem_of_getElem? (i := 4) rfl) (by decide) dX4_tight_39 ?_
  refine c_neF (tgt := 49) S dX4_tight_41 (by decide) (by omega) ?_
  refine w_ldc (z := (-1000000006)) S (List.mem_of_getElem? (i := 5) rfl) (by decide) dX4_tight_44 ?_
  refine lv_goto (tgt := 50) hx hb dX4_tight_46 (by decide) ?_
  exact hret _ _ _ _ _ dX4_tight_50 (congrArg iI (by omega)) hP hS
set_option maxHeartbeats 4000000 in
set_option maxRecDepth 100000 in
theorem c_tight (lc : Launch) (D : va_G) (cI cZ : ClassId) (N : Nat) (o : Nat) (v2 : Nat) (v3 : Nat) (ik : Int) (w : Nat) (wc : Nat) (k : Nat) (kn : Nat) (t : Nat) (tc : Nat) (ts : Nat) (b : Nat) (bm : Nat) (br : Nat) (mn : Nat) (tA : Int) (sA : Int) (kA : Int) (ck : Nat → Int) (nb : Nat → Int) (cn : Nat → Int) (sm : Nat → Int) (mo : Nat → Int) (re : Nat → Int) (xx : Nat) (yy : Nat) (hmn : 2 ≤ mn ∧ mn ≤ 5) (hmo : ∀ k, k < 25 → -1000 ≤ mo k ∧ mo k ≤ 1000000000) (hx5 : xx < mn) (hy5 : yy < mn) (h : rnds mo (re0 xx) 4 yy ≠ 1000000000) : CM lc D cI cZ N yX4_tight wsX4_tight (rmK 3 68) [.ref o, .int (iI (((xx : Nat) : Int))), .int (iI (((yy : Nat) : Int)))] [(o, .inr (4, [.ref w, .ref v2, .ref v3, .int (iI (ik))])), (w, .inr (3, [.int (iI (((mn : Nat) : Int))), .int (iI (tA)), .int (iI (sA)), .int (iI (kA)), .ref wc, .ref k, .ref t, .ref b])), (wc, .inl (cI, 5, .inl (vI ck))), (k, .inr (1, [.ref kn])), (kn, .inl (cI, 24, .inl (vI nb))), (t, .inr (2, [.ref tc, .ref ts])), (tc, .inl (cI, 1000, .inl (vI cn))), (ts, .inl (cI, 1000, .inl (vI sm))), (b, .inr (0, [.ref bm, .ref br])), (bm, .inl (cI, 25, .inl (vI mo))), (br, .inl (cI, 5, .inl (vI re)))] (some (.int (iI (rnds mo (re0 xx) 4 yy)))) [(o, .inr (4, [.ref w, .ref v2, .ref v3, .int (iI (ik))])), (w, .inr (3, [.int (iI (((mn : Nat) : Int))), .int (iI (tA)), .int (iI (sA)), .int (iI (kA)), .ref wc, .ref k, .ref t, .ref b])), (wc, .inl (cI, 5, .inl (vI ck))), (k, .inr (1, [.ref kn])), (kn, .inl (cI, 24, .inl (vI nb))), (t, .inr (2, [.ref tc, .ref ts])), (tc, .inl (cI, 1000, .inl (vI cn))), (ts, .inl (cI, 1000, .inl (vI sm))), (b, .inr (0, [.ref bm, .ref br])), (bm, .inl (cI, 25, .inl (vI mo))), (br, .inl (cI, 5, .inl (vI (rnds mo (re0 xx) 4))))] := by
  refine CM.I (cc := cX4_tight) (maxL := 4) (by decide) rfl (Nat.le_of_ble_eq_true rfl) ?_
  intro p e s m args below meth c R Q S hE A hAN hfr hlo hP hD hS hret ls hl
  have S : CallFix p m c cX4_tight 4 s args wsX4_tight RX4 := S
  have hx := S.1
  have hb := S.2.1
  have hl : lv_has ls 4 [(0, .ref o), (1, .int (iI (((xx : Nat) : Int)))), (2, .int (iI (((yy : Nat) : Int))))] := hl
  have g1 := rnds_rng (Int.le_refl 0) hmo (re0_rng xx) 4 yy (by omega)
  refine lv_aload_n hx hb dX4_tight_0 rfl (lv_at hl 0 rfl) ?_
  refine w_get (C := RX4) (T := TX4) (Nf := 4) (ci := 4) (v := .ref w) S (fun _ h => List.mem_cons_of_mem _ (List.mem_append_left _ (List.mem_append_left _ (List.mem_append_right _ h)))) hE hP 0 rfl rfl 0 (by decide) (List.mem_of_getElem? (i := 1) rfl) rfl dX4_tight_1 ?_
  refine lv_iload_n hx hb dX4_tight_4 rfl (lv_at hl 1 rfl) ?_
  refine kV_R (n := 1) (ci := 3) (q := (RX3, TX3, 8)) S (c_hasNode_T lc D cI cZ N w wc k kn t tc ts b bm br mn tA sA kA ck nb cn sm mo re ((xx : Nat) : Int) (by omega) (by omega) (by omega)) gX4_tight_X3_hasNode rfl rfl (by decide +kernel) rfl rfl ⟨Nat.le_trans (Nat.le_of_ble_eq_true rfl) hfr, Nat.le_trans (Nat.le_of_ble_eq_true rfl) hlo⟩ hE hAN hP hD hS [1, 2, 3, 4, 5, 6, 7, 8, 9, 10] rfl (by decide) rfl rfl rfl rfl hl.1 [] rfl (Nat.le_of_ble_eq_true rfl) dX4_tight_5 ⟨Nat.zero_le _, Nat.zero_le _⟩ ?_
  refine W.eq (g2 := F0 m 8 ls [.int (iI (1))]) rfl ?_
  refine b_eqF (tgt := 22) S dX4_tight_8 (by decide) (by decide) (by decide) ?_
  refine lv_aload_n hx hb dX4_tight_11 rfl (lv_at hl 0 rfl) ?_
  refine w_get (C := RX4) (T := TX4) (Nf := 4) (ci := 4) (v := .ref w) S (fun _ h => List.mem_cons_of_mem _ (List.mem_append_left _ (List.mem_append_left _ (List.mem_append_right _ h)))) hE hP 0 rfl rfl 0 (by decide) (List.mem_of_getElem? (i := 1) rfl) rfl dX4_tight_12 ?_
  refine lv_iload_n hx hb dX4_tight_15 rfl (lv_at hl 2 rfl) ?_
  refine kV_R (n := 1) (ci := 3) (q := (RX3, TX3, 8)) S (c_hasNode_T lc D cI cZ N w wc k kn t tc ts b bm br mn tA sA kA ck nb cn sm mo re ((yy : Nat) : Int) (by omega) (by omega) (by omega)) gX4_tight_X3_hasNode rfl rfl (by decide +kernel) rfl rfl ⟨Nat.le_trans (Nat.le_of_ble_eq_true rfl) hfr, Nat.le_trans (Nat.le_of_ble_eq_true rfl) hlo⟩ hE hAN hP hD hS [1, 2, 3, 4, 5, 6, 7, 8, 9, 10] rfl (by decide) rfl rfl rfl rfl hl.1 [] rfl (Nat.le_of_ble_eq_true rfl) dX4_tight_16 ⟨Nat.zero_le _, Nat.zero_le _⟩ ?_
  refine W.eq (g2 := F0 m 19 ls [.int (iI (1))]) rfl ?_
  refine b_neT (tgt := 25) S dX4_tight_19 (by decide) (by decide) (by decide) ?_
  refine lv_aload_n hx hb dX4_tight_25 rfl (lv_at hl 0 rfl) ?_
  refine w_get (C := RX4) (T := TX4) (Nf := 4) (ci := 4) (v := .ref w) S (fun _ h => List.mem_cons_of_mem _ (List.mem_append_left _ (List.mem_append_left _ (List.mem_append_right _ h)))) hE hP 0 rfl rfl 0 (by decide) (List.mem_of_getElem? (i := 1) rfl) rfl dX4_tight_26 ?_
  refine w_get (C := RX3) (T := TX3) (Nf := 8) (ci := 3) (v := .ref b) S (fun _ h => List.mem_cons_of_mem _ (List.mem_append_left _ (List.mem_append_right _ h))) hE hP 1 rfl rfl 7 (by decide) (List.mem_of_getElem? (i := 3) rfl) rfl dX4_tight_29 ?_
  refine lv_iload_n hx hb dX4_tight_32 rfl (lv_at hl 1 rfl) ?_
  refine lv_iload_n hx hb dX4_tight_33 rfl (lv_at hl 2 rfl) ?_
  refine kV_M (n := 2) (ci := 0) (q := (RX0, TX0, 2)) S (c_tightest lc D cI cZ N b bm br mo re xx yy (by omega) (by omega) (by omega)) gX4_tight_X0_tightest rfl rfl (by decide +kernel) rfl rfl ⟨Nat.le_trans (Nat.le_of_ble_eq_true rfl) hfr, Nat.le_trans (Nat.le_of_ble_eq_true rfl) hlo⟩ hE hAN hP hD hS [8, 9, 10] rfl (by decide) rfl rfl rfl rfl rfl hl.1 [] rfl (Nat.le_of_ble_eq_true rfl) dX4_tight_34 ⟨Nat.zero_le _, Nat.zero_le _⟩ (fun H locs hP hD hS => ?_)
  have hP : va_P D vwCl [(o, .inr (4, [.ref w, .ref v2, .ref v3, .int (iI (ik))])), (w, .inr (3, [.int (iI (((mn : Nat) : Int))), .int (iI (tA)), .int (iI (sA)), .int (iI (kA)), .ref wc, .ref k, .ref t, .ref b])), (wc, .inl (cI, 5, .inl (vI ck))), (k, .inr (1, [.ref kn])), (kn, .inl (cI, 24, .inl (vI nb))), (t, .inr (2, [.ref tc, .ref ts])), (tc, .inl (cI, 1000, .inl (vI cn))), (ts, .inl (cI, 1000, .inl (vI sm))), (b, .inr (0, [.ref bm, .ref br])), (bm, .inl (cI, 25, .inl (vI mo))), (br, .inl (cI, 5, .inl (vI (rnds mo (re0 xx) 4))))] H := hP
  have hD : va_D A [(o, .inr (4, [.ref w, .ref v2, .ref v3, .int (iI (ik))])), (w, .inr (3, [.int (iI (((mn : Nat) : Int))), .int (iI (tA)), .int (iI (sA)), .int (iI (kA)), .ref wc, .ref k, .ref t, .ref b])), (wc, .inl (cI, 5, .inl (vI ck))), (k, .inr (1, [.ref kn])), (kn, .inl (cI, 24, .inl (vI nb))), (t, .inr (2, [.ref tc, .ref ts])), (tc, .inl (cI, 1000, .inl (vI cn))), (ts, .inl (cI, 1000, .inl (vI sm))), (b, .inr (0, [.ref bm, .ref br])), (bm, .inl (cI, 25, .inl (vI mo))), (br, .inl (cI, 5, .inl (vI (rnds mo (re0 xx) 4))))] := hD
  refine W.eq (g2 := F0 m 37 ls [.int (iI (rnds mo (re0 xx) 4 yy))]) rfl ?_
  refine lv_istore_n (lv' := [(3, .int (iI (rnds mo (re0 xx) 4 yy))), (0, .ref o), (1, .int (iI (((xx : Nat) : Int)))), (2, .int (iI (((yy : Nat) : Int))))]) hx hb dX4_tight_37 rfl hl (by decide) rfl (fun ls hl => ?_)
  refine lv_iload_n hx hb dX4_tight_38 rfl (lv_at hl 0 rfl) ?_
  refine w_ldc (z := 1000000000) S (List.mem_of_getElem? (i := 4) rfl) (by decide) dX4_tight_39 ?_
  refine c_neT (tgt := 49) S dX4_tight_41 (by decide) (by omega) (by omega) (by omega) ?_
  refine lv_iload_n hx hb dX4_tight_49 rfl (lv_at hl 0 rfl) ?_
  exact hret _ _ _ _ _ dX4_tight_50 rfl hP hS
set_option maxHeartbeats 4000000 in
set_option maxRecDepth 100000 in
theorem c_truth_U (lc : Launch) (D : va_G) (cI cZ : ClassId) (N : Nat) (o : Nat) (v2 : Nat) (v3 : Nat) (ik : Int) (w : Nat) (wc : Nat) (k : Nat) (kn : Nat) (t : Nat) (tc : Nat) (ts : Nat) (b : Nat) (bm : Nat) (br : Nat) (mn : Nat) (tA : Int) (sA : Int) (kA : Int) (ck : Nat → Int) (nb : Nat → Int) (cn : Nat → Int) (sm : Nat → Int) (mo : Nat → Int) (re : Nat → Int) (x : Int) (y : Int) (z : Int) (t1 : Int) (u : Int) (hmn : 2 ≤ mn ∧ mn ≤ 5) (r_x : -2147483648 ≤ x ∧ x ≤ 2147483647) (r_y : -2147483648 ≤ y ∧ y ≤ 2147483647) (h : ¬ ((0 ≤ x ∧ x ≤ (mn : Int) - 1) ∧ (0 ≤ y ∧ y ≤ (mn : Int) - 1))) : CR lc D cI cZ N yX4_truth wsX4_truth (rmK 4 90) [.ref o, .int (iI (x)), .int (iI (y)), .int (iI (z)), .int (iI (t1)), .int (iI (u))] [(o, .inr (4, [.ref w, .ref v2, .ref v3, .int (iI (ik))])), (w, .inr (3, [.int (iI (((mn : Nat) : Int))), .int (iI (tA)), .int (iI (sA)), .int (iI (kA)), .ref wc, .ref k, .ref t, .ref b])), (wc, .inl (cI, 5, .inl (vI ck))), (k, .inr (1, [.ref kn])), (kn, .inl (cI, 24, .inl (vI nb))), (t, .inr (2, [.ref tc, .ref ts])), (tc, .inl (cI, 1000, .inl (vI cn))), (ts, .inl (cI, 1000, .inl (vI sm))), (b, .inr (0, [.ref bm, .ref br])), (bm, .inl (cI, 25, .inl (vI mo))), (br, .inl (cI, 5, .inl (vI re)))] (some (.int (iI (-1000000001)))) := by
  refine CR.I (cc := cX4_truth) (maxL := 10) (by decide) rfl (Nat.le_of_ble_eq_true rfl) ?_
  intro p e s m args below meth c R Q S hE A hAN hfr hlo hP hD hS hret ls hl
  have S : CallFix p m c cX4_truth 10 s args wsX4_truth RX4 := S
  have hx := S.1
  have hb := S.2.1
  have hl : lv_has ls 10 [(0, .ref o), (1, .int (iI (x))), (2, .int (iI (y))), (3, .int (iI (z))), (4, .int (iI (t1))), (5, .int (iI (u)))] := hl
  refine lv_aload_n hx hb dX4_truth_0 rfl (lv_at hl 0 rfl) ?_
  refine lv_iload_n hx hb dX4_truth_1 rfl (lv_at hl 1 rfl) ?_
  refine lv_iload_n hx hb dX4_truth_2 rfl (lv_at hl 2 rfl) ?_
  refine lv_iload_n hx hb dX4_truth_3 rfl (lv_at hl 3 rfl) ?_
  refine lv_iload hx hb dX4_truth_4 (lv_at hl 5 rfl) ?_
  refine kV_R (n := 4) (ci := 4) (q := (RX4, TX4, 4)) S (c_tref_U lc D cI cZ N o v2 v3 ik w wc k kn t tc ts b bm br mn tA sA kA ck nb cn sm mo re x y z u (by omega) (by omega) (by omega) (by omega)) gX4_truth_X4_tookRefusal rfl rfl (by decide +kernel) rfl rfl ⟨Nat.le_trans (Nat.le_of_ble_eq_true rfl) hfr, Nat.le_trans (Nat.le_of_ble_eq_true rfl) hlo⟩ hE hAN hP hD hS [0, 1, 2, 3, 4, 5, 6, 7, 8, 9, 10] rfl (by decide) rfl rfl rfl rfl hl.1 [] rfl (Nat.le_of_ble_eq_true rfl) dX4_truth_6 ⟨Nat.zero_le _, Nat.zero_le _⟩ ?_
  refine W.eq (g2 := F0 m 9 ls [.int (iI (-1))]) rfl ?_
  refine lv_istore (lv' := [(6, .int (iI (-1))), (0, .ref o), (1, .int (iI (x))), (2, .int (iI (y))), (3, .int (iI (z))), (4, .int (iI (t1))), (5, .int (iI (u)))]) hx hb dX4_truth_9 hl (by decide) rfl (fun ls hl => ?_)
  refine lv_iload hx hb dX4_truth_11 (lv_at hl 0 rfl) ?_
  refine b_eqF (tgt := 22) S dX4_truth_13 (by decide) (by decide) (by decide) ?_
  refine w_ldc (z := (-1000000000)) S (List.mem_of_getElem? (i := 1) rfl) (by decide) dX4_truth_16 ?_
  refine lv_iload hx hb dX4_truth_18 (lv_at hl 0 rfl) ?_
  refine w_iadd S dX4_truth_20 ?_
  exact hret _ _ _ dX4_truth_21 (congrArg iI (by omega))
set_option maxHeartbeats 4000000 in
set_option maxRecDepth 100000 in
theorem c_truth_O (lc : Launch) (D : va_G) (cI cZ : ClassId) (N : Nat) (o : Nat) (v2 : Nat) (v3 : Nat) (ik : Int) (w : Nat) (wc : Nat) (k : Nat) (kn : Nat) (t : Nat) (tc : Nat) (ts : Nat) (b : Nat) (bm : Nat) (br : Nat) (mn : Nat) (tA : Int) (sA : Int) (kA : Int) (ck : Nat → Int) (nb : Nat → Int) (cn : Nat → Int) (sm : Nat → Int) (mo : Nat → Int) (re : Nat → Int) (x : Int) (y : Int) (z : Int) (t1 : Int) (u : Int) (hmn : 2 ≤ mn ∧ mn ≤ 5) (r_x : -2147483648 ≤ x ∧ x ≤ 2147483647) (r_y : -2147483648 ≤ y ∧ y ≤ 2147483647) (r_z : -2147483648 ≤ z ∧ z ≤ 2147483647) (r_t1 : -2147483648 ≤ t1 ∧ t1 ≤ 2147483647) (r_u : -2147483648 ≤ u ∧ u ≤ 2147483647) (h1 : (0 ≤ x ∧ x ≤ (mn : Int) - 1)) (h2 : (0 ≤ y ∧ y ≤ (mn : Int) - 1)) (h : ¬ (x < y ∧ (0 ≤ z ∧ z ≤ 199) ∧ (0 ≤ t1 ∧ t1 ≤ 1) ∧ (0 ≤ u ∧ u ≤ 1))) : CR lc D cI cZ N yX4_truth wsX4_truth (rmK 4 90) [.ref o, .int (iI (x)), .int (iI (y)), .int (iI (z)), .int (iI (t1)), .int (iI (u))] [(o, .inr (4, [.ref w, .ref v2, .ref v3, .int (iI (ik))])), (w, .inr (3, [.int (iI (((mn : Nat) : Int))), .int (iI (tA)), .int (iI (sA)), .int (iI (kA)), .ref wc, .ref k, .ref t, .ref b])), (wc, .inl (cI, 5, .inl (vI ck))), (k, .inr (1, [.ref kn])), (kn, .inl (cI, 24, .inl (vI nb))), (t, .inr (2, [.ref tc, .ref ts])), (tc, .inl (cI, 1000, .inl (vI cn))), (ts, .inl (cI, 1000, .inl (vI sm))), (b, .inr (0, [.ref bm, .ref br])), (bm, .inl (cI, 25, .inl (vI mo))), (br, .inl (cI, 5, .inl (vI re)))] (some (.int (iI (-1000000002)))) := by
  refine CR.I (cc := cX4_truth) (maxL := 10) (by decide) rfl (Nat.le_of_ble_eq_true rfl) ?_
  intro p e s m args below meth c R Q S hE A hAN hfr hlo hP hD hS hret ls hl
  have S : CallFix p m c cX4_truth 10 s args wsX4_truth RX4 := S
  have hx := S.1
  have hb := S.2.1
  have hl : lv_has ls 10 [(0, .ref o), (1, .int (iI (x))), (2, .int (iI (y))), (3, .int (iI (z))), (4, .int (iI (t1))), (5, .int (iI (u)))] := hl
  by_cases h3 : x < y ∧ (0 ≤ z ∧ z ≤ 199) ∧ (0 ≤ u ∧ u ≤ 1)
  · refine lv_aload_n hx hb dX4_truth_0 rfl (lv_at hl 0 rfl) ?_
    refine lv_iload_n hx hb dX4_truth_1 rfl (lv_at hl 1 rfl) ?_
    refine lv_iload_n hx hb dX4_truth_2 rfl (lv_at hl 2 rfl) ?_
    refine lv_iload_n hx hb dX4_truth_3 rfl (lv_at hl 3 rfl) ?_
    refine lv_iload hx hb dX4_truth_4 (lv_at hl 5 rfl) ?_
    refine kV_R (n := 4) (ci := 4) (q := (RX4, TX4, 4)) S (c_tref lc D cI cZ N o v2 v3 ik w wc k kn t tc ts b bm br mn tA sA kA ck nb cn sm mo re x y z u (by omega) (by omega) (by omega) (by omega) (by omega) (by omega) (by omega) (by omega)) gX4_truth_X4_tookRefusal rfl rfl (by decide +kernel) rfl rfl ⟨Nat.le_trans (Nat.le_of_ble_eq_true rfl) hfr, Nat.le_trans (Nat.le_of_ble_eq_true rfl) hlo⟩ hE hAN hP hD hS [0, 1, 2, 3, 4, 5, 6, 7, 8, 9, 10] rfl (by decide) rfl rfl rfl rfl hl.1 [] rfl (Nat.le_of_ble_eq_true rfl) dX4_truth_6 ⟨Nat.zero_le _, Nat.zero_le _⟩ ?_
    refine W.eq (g2 := F0 m 9 ls [.int (iI (0))]) rfl ?_
    refine lv_istore (lv' := [(6, .int (iI (0))), (0, .ref o), (1, .int (iI (x))), (2, .int (iI (y))), (3, .int (iI (z))), (4, .int (iI (t1))), (5, .int (iI (u)))]) hx hb dX4_truth_9 hl (by decide) rfl (fun ls hl => ?_)
    refine lv_iload hx hb dX4_truth_11 (lv_at hl 0 rfl) ?_
    refine b_eqT (tgt := 22) S dX4_truth_13 (by decide) (by decide) ?_
    refine lv_iload hx hb dX4_truth_22 (lv_at hl 5 rfl) ?_
    refine lv_iconst (v := iI (0)) hx hb dX4_truth_24 rfl ?_
    refine lv_iconst (v := iI (1)) hx hb dX4_truth_25 rfl ?_
    refine kS_R (n := 3) S (c_within_F lc D cI cZ N t1 0 1 (by omega) (by omega) (by omega) (by omega)) gX4_truth_X4_within rfl (by decide +kernel) rfl rfl ⟨Nat.le_trans (Nat.le_of_ble_eq_true rfl) hfr, Nat.le_trans (Nat.le_of_ble_eq_true rfl) hlo⟩ hE hAN hP hD hS [] rfl (by decide) rfl hl.1 [] rfl (Nat.le_of_ble_eq_true rfl) dX4_truth_26 ⟨Nat.zero_le _, Nat.zero_le _⟩ ?_
    refine W.eq (g2 := F0 m 29 ls [.int (iI (0))]) rfl ?_
    refine b_neF (tgt := 35) S dX4_truth_29 (by decide) (by decide) ?_
    refine w_ldc (z := (-1000000002)) S (List.mem_of_getElem? (i := 2) rfl) (by decide) dX4_truth_32 ?_
    exact hret _ _ _ dX4_truth_34 (congrArg iI (by omega))
  · refine lv_aload_n hx hb dX4_truth_0 rfl (lv_at hl 0 rfl) ?_
    refine lv_iload_n hx hb dX4_truth_1 rfl (lv_at hl 1 rfl) ?_
    refine lv_iload_n hx hb dX4_truth_2 rfl (lv_at hl 2 rfl) ?_
    refine lv_iload_n hx hb dX4_truth_3 rfl (lv_at hl 3 rfl) ?_
    refine lv_iload hx hb dX4_truth_4 (lv_at hl 5 rfl) ?_
    refine kV_R (n := 4) (ci := 4) (q := (RX4, TX4, 4)) S (c_tref_O lc D cI cZ N o v2 v3 ik w wc k kn t tc ts b bm br mn tA sA kA ck nb cn sm mo re x y z u (by omega) (by omega) (by omega) (by omega) (by omega) (by omega) (by omega) (by omega)) gX4_truth_X4_tookRefusal rfl rfl (by decide +kernel) rfl rfl ⟨Nat.le_trans (Nat.le_of_ble_eq_true rfl) hfr, Nat.le_trans (Nat.le_of_ble_eq_true rfl) hlo⟩ hE hAN hP hD hS [0, 1, 2, 3, 4, 5, 6, 7, 8, 9, 10] rfl (by decide) rfl rfl rfl rfl hl.1 [] rfl (Nat.le_of_ble_eq_true rfl) dX4_truth_6 ⟨Nat.zero_le _, Nat.zero_le _⟩ ?_
    refine W.eq (g2 := F0 m 9 ls [.int (iI (-2))]) rfl ?_
    refine lv_istore (lv' := [(6, .int (iI (-2))), (0, .ref o), (1, .int (iI (x))), (2, .int (iI (y))), (3, .int (iI (z))), (4, .int (iI (t1))), (5, .int (iI (u)))]) hx hb dX4_truth_9 hl (by decide) rfl (fun ls hl => ?_)
    refine lv_iload hx hb dX4_truth_11 (lv_at hl 0 rfl) ?_
    refine b_eqF (tgt := 22) S dX4_truth_13 (by decide) (by decide) (by decide) ?_
    refine w_ldc (z := (-1000000000)) S (List.mem_of_getElem? (i := 1) rfl) (by decide) dX4_truth_16 ?_
    refine lv_iload hx hb dX4_truth_18 (lv_at hl 0 rfl) ?_
    refine w_iadd S dX4_truth_20 ?_
    exact hret _ _ _ dX4_truth_21 (congrArg iI (by omega))
set_option maxHeartbeats 4000000 in
set_option maxRecDepth 100000 in
theorem c_truth_N (lc : Launch) (D : va_G) (cI cZ : ClassId) (N : Nat) (o : Nat) (v2 : Nat) (v3 : Nat) (ik : Int) (w : Nat) (wc : Nat) (k : Nat) (kn : Nat) (t : Nat) (tc : Nat) (ts : Nat) (b : Nat) (bm : Nat) (br : Nat) (mn : Nat) (tA : Int) (sA : Int) (kA : Int) (ck : Nat → Int) (nb : Nat → Int) (cn : Nat → Int) (sm : Nat → Int) (mo : Nat → Int) (re : Nat → Int) (f : Nat) (g : Nat) (bk : Nat) (t1 : Int) (u : Int) (hmn : 2 ≤ mn ∧ mn ≤ 5) (hfg : f < g) (hgm : g < mn) (hbk : bk < 200) (hcn : ∀ k, k < 1000 → 0 ≤ cn k ∧ cn k ≤ 200) (r_t1 : -2147483648 ≤ t1 ∧ t1 ≤ 2147483647) (r_u : -2147483648 ≤ u ∧ u ≤ 2147483647) (h : (0 ≤ u ∧ u ≤ 1)) (h1 : (0 ≤ t1 ∧ t1 ≤ 1)) (h2 : ¬ (0 < cn (f * 200 + bk) ∧ cn (f * 200 + bk) = cn (g * 200 + bk))) : CR lc D cI cZ N yX4_truth wsX4_truth (rmK 4 90) [.ref o, .int (iI (((f : Nat) : Int))), .int (iI (((g : Nat) : Int))), .int (iI (((bk : Nat) : Int))), .int (iI (t1)), .int (iI (u))] [(o, .inr (4, [.ref w, .ref v2, .ref v3, .int (iI (ik))])), (w, .inr (3, [.int (iI (((mn : Nat) : Int))), .int (iI (tA)), .int (iI (sA)), .int (iI (kA)), .ref wc, .ref k, .ref t, .ref b])), (wc, .inl (cI, 5, .inl (vI ck))), (k, .inr (1, [.ref kn])), (kn, .inl (cI, 24, .inl (vI nb))), (t, .inr (2, [.ref tc, .ref ts])), (tc, .inl (cI, 1000, .inl (vI cn))), (ts, .inl (cI, 1000, .inl (vI sm))), (b, .inr (0, [.ref bm, .ref br])), (bm, .inl (cI, 25, .inl (vI mo))), (br, .inl (cI, 5, .inl (vI re)))] (some (.int (iI (-1000000005)))) := by
  refine CR.I (cc := cX4_truth) (maxL := 10) (by decide) rfl (Nat.le_of_ble_eq_true rfl) ?_
  intro p e s m args below meth c R Q S hE A hAN hfr hlo hP hD hS hret ls hl
  have S : CallFix p m c cX4_truth 10 s args wsX4_truth RX4 := S
  have hx := S.1
  have hb := S.2.1
  have hl : lv_has ls 10 [(0, .ref o), (1, .int (iI (((f : Nat) : Int)))), (2, .int (iI (((g : Nat) : Int)))), (3, .int (iI (((bk : Nat) : Int)))), (4, .int (iI (t1))), (5, .int (iI (u)))] := hl
  refine lv_aload_n hx hb dX4_truth_0 rfl (lv_at hl 0 rfl) ?_
  refine lv_iload_n hx hb dX4_truth_1 rfl (lv_at hl 1 rfl) ?_
  refine lv_iload_n hx hb dX4_truth_2 rfl (lv_at hl 2 rfl) ?_
  refine lv_iload_n hx hb dX4_truth_3 rfl (lv_at hl 3 rfl) ?_
  refine lv_iload hx hb dX4_truth_4 (lv_at hl 5 rfl) ?_
  refine kV_R (n := 4) (ci := 4) (q := (RX4, TX4, 4)) S (c_tref lc D cI cZ N o v2 v3 ik w wc k kn t tc ts b bm br mn tA sA kA ck nb cn sm mo re ((f : Nat) : Int) ((g : Nat) : Int) ((bk : Nat) : Int) u (by omega) (by omega) (by omega) (by omega) (by omega) (by omega) (by omega) (by omega)) gX4_truth_X4_tookRefusal rfl rfl (by decide +kernel) rfl rfl ⟨Nat.le_trans (Nat.le_of_ble_eq_true rfl) hfr, Nat.le_trans (Nat.le_of_ble_eq_true rfl) hlo⟩ hE hAN hP hD hS [0, 1, 2, 3, 4, 5, 6, 7, 8, 9, 10] rfl (by decide) rfl rfl rfl rfl hl.1 [] rfl (Nat.le_of_ble_eq_true rfl) dX4_truth_6 ⟨Nat.zero_le _, Nat.zero_le _⟩ ?_
  refine W.eq (g2 := F0 m 9 ls [.int (iI (0))]) rfl ?_
  refine lv_istore (lv' := [(6, .int (iI (0))), (0, .ref o), (1, .int (iI (((f : Nat) : Int)))), (2, .int (iI (((g : Nat) : Int)))), (3, .int (iI (((bk : Nat) : Int)))), (4, .int (iI (t1))), (5, .int (iI (u)))]) hx hb dX4_truth_9 hl (by decide) rfl (fun ls hl => ?_)
  refine lv_iload hx hb dX4_truth_11 (lv_at hl 0 rfl) ?_
  refine b_eqT (tgt := 22) S dX4_truth_13 (by decide) (by decide) ?_
  refine lv_iload hx hb dX4_truth_22 (lv_at hl 5 rfl) ?_
  refine lv_iconst (v := iI (0)) hx hb dX4_truth_24 rfl ?_
  refine lv_iconst (v := iI (1)) hx hb dX4_truth_25 rfl ?_
  refine kS_R (n := 3) S (c_within_T lc D cI cZ N t1 0 1 (by omega) (by omega) (by omega) (by omega)) gX4_truth_X4_within rfl (by decide +kernel) rfl rfl ⟨Nat.le_trans (Nat.le_of_ble_eq_true rfl) hfr, Nat.le_trans (Nat.le_of_ble_eq_true rfl) hlo⟩ hE hAN hP hD hS [] rfl (by decide) rfl hl.1 [] rfl (Nat.le_of_ble_eq_true rfl) dX4_truth_26 ⟨Nat.zero_le _, Nat.zero_le _⟩ ?_
  refine W.eq (g2 := F0 m 29 ls [.int (iI (1))]) rfl ?_
  refine b_neT (tgt := 35) S dX4_truth_29 (by decide) (by decide) (by decide) ?_
  refine lv_aload_n hx hb dX4_truth_35 rfl (lv_at hl 1 rfl) ?_
  refine w_get (C := RX4) (T := TX4) (Nf := 4) (ci := 4) (v := .ref w) S (fun _ h => List.mem_cons_of_mem _ (List.mem_append_left _ (List.mem_append_left _ (List.mem_append_left _ (List.mem_append_right _ h))))) hE hP 0 rfl rfl 0 (by decide) (List.mem_of_getElem? (i := 3) rfl) rfl dX4_truth_36 ?_
  refine w_get (C := RX3) (T := TX3) (Nf := 8) (ci := 3) (v := .ref t) S (fun _ h => List.mem_cons_of_mem _ (List.mem_append_left _ (List.mem_append_left _ (List.mem_append_right _ h)))) hE hP 1 rfl rfl 6 (by decide) (List.mem_of_getElem? (i := 4) rfl) rfl dX4_truth_39 ?_
  refine lv_iload_n hx hb dX4_truth_42 rfl (lv_at hl 2 rfl) ?_
  refine lv_iload_n hx hb dX4_truth_43 rfl (lv_at hl 3 rfl) ?_
  refine lv_iload_n hx hb dX4_truth_44 rfl (lv_at hl 4 rfl) ?_
  refine kV_R (n := 3) (ci := 2) (q := (RX2, TX2, 2)) S (c_hasTook_F lc D cI cZ N t tc ts cn sm f g bk (by omega) (by omega) (by omega) (by omega) (by omega)) gX4_truth_X2_hasTook rfl rfl (by decide +kernel) rfl rfl ⟨Nat.le_trans (Nat.le_of_ble_eq_true rfl) hfr, Nat.le_trans (Nat.le_of_ble_eq_true rfl) hlo⟩ hE hAN hP hD hS [5, 6, 7] rfl (by decide) rfl rfl rfl rfl hl.1 [] rfl (Nat.le_of_ble_eq_true rfl) dX4_truth_45 ⟨Nat.zero_le _, Nat.zero_le _⟩ ?_
  refine W.eq (g2 := F0 m 48 ls [.int (iI (0))]) rfl ?_
  refine b_neF (tgt := 54) S dX4_truth_48 (by decide) (by decide) ?_
  refine w_ldc (z := (-1000000005)) S (List.mem_of_getElem? (i := 5) rfl) (by decide) dX4_truth_51 ?_
  exact hret _ _ _ dX4_truth_53 (congrArg iI (by omega))
set_option maxHeartbeats 4000000 in
set_option maxRecDepth 100000 in
theorem c_truth_T0 (lc : Launch) (D : va_G) (cI cZ : ClassId) (N : Nat) (o : Nat) (v2 : Nat) (v3 : Nat) (ik : Int) (w : Nat) (wc : Nat) (k : Nat) (kn : Nat) (t : Nat) (tc : Nat) (ts : Nat) (b : Nat) (bm : Nat) (br : Nat) (mn : Nat) (tA : Int) (sA : Int) (kA : Int) (ck : Nat → Int) (nb : Nat → Int) (cn : Nat → Int) (sm : Nat → Int) (mo : Nat → Int) (re : Nat → Int) (f : Nat) (g : Nat) (bk : Nat) (u : Int) (hmn : 2 ≤ mn ∧ mn ≤ 5) (hfg : f < g) (hgm : g < mn) (hbk : bk < 200) (hcn : ∀ k, k < 1000 → 0 ≤ cn k ∧ cn k ≤ 200) (hmo : ∀ k, k < 25 → -1000 ≤ mo k ∧ mo k ≤ 1000000000) (r_u : -2147483648 ≤ u ∧ u ≤ 2147483647) (h : (0 ≤ u ∧ u ≤ 1)) (h2 : 0 < cn (f * 200 + bk) ∧ cn (f * 200 + bk) = cn (g * 200 + bk)) (h5 : rnds mo (re0 g) 4 f = 1000000000) : CM lc D cI cZ N yX4_truth wsX4_truth (rmK 4 90) [.ref o, .int (iI (((f : Nat) : Int))), .int (iI (((g : Nat) : Int))), .int (iI (((bk : Nat) : Int))), .int (iI (0)), .int (iI (u))] [(o, .inr (4, [.ref w, .ref v2, .ref v3, .int (iI (ik))])), (w, .inr (3, [.int (iI (((mn : Nat) : Int))), .int (iI (tA)), .int (iI (sA)), .int (iI (kA)), .ref wc, .ref k, .ref t, .ref b])), (wc, .inl (cI, 5, .inl (vI ck))), (k, .inr (1, [.ref kn])), (kn, .inl (cI, 24, .inl (vI nb))), (t, .inr (2, [.ref tc, .ref ts])), (tc, .inl (cI, 1000, .inl (vI cn))), (ts, .inl (cI, 1000, .inl (vI sm))), (b, .inr (0, [.ref bm, .ref br])), (bm, .inl (cI, 25, .inl (vI mo))), (br, .inl (cI, 5, .inl (vI re)))] (some (.int (iI (-1000000006)))) [(o, .inr (4, [.ref w, .ref v2, .ref v3, .int (iI (ik))])), (w, .inr (3, [.int (iI (((mn : Nat) : Int))), .int (iI (tA)), .int (iI (sA)), .int (iI (kA)), .ref wc, .ref k, .ref t, .ref b])), (wc, .inl (cI, 5, .inl (vI ck))), (k, .inr (1, [.ref kn])), (kn, .inl (cI, 24, .inl (vI nb))), (t, .inr (2, [.ref tc, .ref ts])), (tc, .inl (cI, 1000, .inl (vI cn))), (ts, .inl (cI, 1000, .inl (vI sm))), (b, .inr (0, [.ref bm, .ref br])), (bm, .inl (cI, 25, .inl (vI mo))), (br, .inl (cI, 5, .inl (vI (rnds mo (re0 g) 4))))] := by
  refine CM.I (cc := cX4_truth) (maxL := 10) (by decide) rfl (Nat.le_of_ble_eq_true rfl) ?_
  intro p e s m args below meth c R Q S hE A hAN hfr hlo hP hD hS hret ls hl
  have S : CallFix p m c cX4_truth 10 s args wsX4_truth RX4 := S
  have hx := S.1
  have hb := S.2.1
  have hl : lv_has ls 10 [(0, .ref o), (1, .int (iI (((f : Nat) : Int)))), (2, .int (iI (((g : Nat) : Int)))), (3, .int (iI (((bk : Nat) : Int)))), (4, .int (iI (0))), (5, .int (iI (u)))] := hl
  have g1 := rnds_rng (Int.le_refl 0) hmo (re0_rng g) 4 f (by omega)
  refine lv_aload_n hx hb dX4_truth_0 rfl (lv_at hl 0 rfl) ?_
  refine lv_iload_n hx hb dX4_truth_1 rfl (lv_at hl 1 rfl) ?_
  refine lv_iload_n hx hb dX4_truth_2 rfl (lv_at hl 2 rfl) ?_
  refine lv_iload_n hx hb dX4_truth_3 rfl (lv_at hl 3 rfl) ?_
  refine lv_iload hx hb dX4_truth_4 (lv_at hl 5 rfl) ?_
  refine kV_R (n := 4) (ci := 4) (q := (RX4, TX4, 4)) S (c_tref lc D cI cZ N o v2 v3 ik w wc k kn t tc ts b bm br mn tA sA kA ck nb cn sm mo re ((f : Nat) : Int) ((g : Nat) : Int) ((bk : Nat) : Int) u (by omega) (by omega) (by omega) (by omega) (by omega) (by omega) (by omega) (by omega)) gX4_truth_X4_tookRefusal rfl rfl (by decide +kernel) rfl rfl ⟨Nat.le_trans (Nat.le_of_ble_eq_true rfl) hfr, Nat.le_trans (Nat.le_of_ble_eq_true rfl) hlo⟩ hE hAN hP hD hS [0, 1, 2, 3, 4, 5, 6, 7, 8, 9, 10] rfl (by decide) rfl rfl rfl rfl hl.1 [] rfl (Nat.le_of_ble_eq_true rfl) dX4_truth_6 ⟨Nat.zero_le _, Nat.zero_le _⟩ ?_
  refine W.eq (g2 := F0 m 9 ls [.int (iI (0))]) rfl ?_
  refine lv_istore (lv' := [(6, .int (iI (0))), (0, .ref o), (1, .int (iI (((f : Nat) : Int)))), (2, .int (iI (((g : Nat) : Int)))), (3, .int (iI (((bk : Nat) : Int)))), (4, .int (iI (0))), (5, .int (iI (u)))]) hx hb dX4_truth_9 hl (by decide) rfl (fun ls hl => ?_)
  refine lv_iload hx hb dX4_truth_11 (lv_at hl 0 rfl) ?_
  refine b_eqT (tgt := 22) S dX4_truth_13 (by decide) (by decide) ?_
  refine lv_iload hx hb dX4_truth_22 (lv_at hl 5 rfl) ?_
  refine lv_iconst (v := iI (0)) hx hb dX4_truth_24 rfl ?_
  refine lv_iconst (v := iI (1)) hx hb dX4_truth_25 rfl ?_
  refine kS_R (n := 3) S (c_within_T lc D cI cZ N 0 0 1 (by omega) (by omega) (by omega) (by omega)) gX4_truth_X4_within rfl (by decide +kernel) rfl rfl ⟨Nat.le_trans (Nat.le_of_ble_eq_true rfl) hfr, Nat.le_trans (Nat.le_of_ble_eq_true rfl) hlo⟩ hE hAN hP hD hS [] rfl (by decide) rfl hl.1 [] rfl (Nat.le_of_ble_eq_true rfl) dX4_truth_26 ⟨Nat.zero_le _, Nat.zero_le _⟩ ?_
  refine W.eq (g2 := F0 m 29 ls [.int (iI (1))]) rfl ?_
  refine b_neT (tgt := 35) S dX4_truth_29 (by decide) (by decide) (by decide) ?_
  refine lv_aload_n hx hb dX4_truth_35 rfl (lv_at hl 1 rfl) ?_
  refine w_get (C := RX4) (T := TX4) (Nf := 4) (ci := 4) (v := .ref w) S (fun _ h => List.mem_cons_of_mem _ (List.mem_append_left _ (List.mem_append_left _ (List.mem_append_left _ (List.mem_append_right _ h))))) hE hP 0 rfl rfl 0 (by decide) (List.mem_of_getElem? (i := 3) rfl) rfl dX4_truth_36 ?_
  refine w_get (C := RX3) (T := TX3) (Nf := 8) (ci := 3) (v := .ref t) S (fun _ h => List.mem_cons_of_mem _ (List.mem_append_left _ (List.mem_append_left _ (List.mem_append_right _ h)))) hE hP 1 rfl rfl 6 (by decide) (List.mem_of_getElem? (i := 4) rfl) rfl dX4_truth_39 ?_
  refine lv_iload_n hx hb dX4_truth_42 rfl (lv_at hl 2 rfl) ?_
  refine lv_iload_n hx hb dX4_truth_43 rfl (lv_at hl 3 rfl) ?_
  refine lv_iload_n hx hb dX4_truth_44 rfl (lv_at hl 4 rfl) ?_
  refine kV_R (n := 3) (ci := 2) (q := (RX2, TX2, 2)) S (c_hasTook_T lc D cI cZ N t tc ts cn sm f g bk (by omega) (by omega) (by omega) (by omega) (by omega)) gX4_truth_X2_hasTook rfl rfl (by decide +kernel) rfl rfl ⟨Nat.le_trans (Nat.le_of_ble_eq_true rfl) hfr, Nat.le_trans (Nat.le_of_ble_eq_true rfl) hlo⟩ hE hAN hP hD hS [5, 6, 7] rfl (by decide) rfl rfl rfl rfl hl.1 [] rfl (Nat.le_of_ble_eq_true rfl) dX4_truth_45 ⟨Nat.zero_le _, Nat.zero_le _⟩ ?_
  refine W.eq (g2 := F0 m 48 ls [.int (iI (1))]) rfl ?_
  refine b_neT (tgt := 54) S dX4_truth_48 (by decide) (by decide) (by decide) ?_
  refine lv_iload hx hb dX4_truth_54 (lv_at hl 5 rfl) ?_
  refine b_neF (tgt := 74) S dX4_truth_56 (by decide) (by decide) ?_
  refine lv_aload_n hx hb dX4_truth_59 rfl (lv_at hl 1 rfl) ?_
  refine w_get (C := RX4) (T := TX4) (Nf := 4) (ci := 4) (v := .ref w) S (fun _ h => List.mem_cons_of_mem _ (List.mem_append_left _ (List.mem_append_left _ (List.mem_append_left _ (List.mem_append_right _ h))))) hE hP 0 rfl rfl 0 (by decide) (List.mem_of_getElem? (i := 3) rfl) rfl dX4_truth_60 ?_
  refine w_get (C := RX3) (T := TX3) (Nf := 8) (ci := 3) (v := .ref b) S (fun _ h => List.mem_cons_of_mem _ (List.mem_append_left _ (List.mem_append_left _ (List.mem_append_right _ h)))) hE hP 1 rfl rfl 7 (by decide) (List.mem_of_getElem? (i := 6) rfl) rfl dX4_truth_63 ?_
  refine lv_iload_n hx hb dX4_truth_66 rfl (lv_at hl 3 rfl) ?_
  refine lv_iload_n hx hb dX4_truth_67 rfl (lv_at hl 2 rfl) ?_
  refine kV_M (n := 2) (ci := 0) (q := (RX0, TX0, 2)) S (c_tightest lc D cI cZ N b bm br mo re g f (by omega) (by omega) (by omega)) gX4_truth_X0_tightest rfl rfl (by decide +kernel) rfl rfl ⟨Nat.le_trans (Nat.le_of_ble_eq_true rfl) hfr, Nat.le_trans (Nat.le_of_ble_eq_true rfl) hlo⟩ hE hAN hP hD hS [8, 9, 10] rfl (by decide) rfl rfl rfl rfl rfl hl.1 [] rfl (Nat.le_of_ble_eq_true rfl) dX4_truth_68 ⟨Nat.zero_le _, Nat.zero_le _⟩ (fun H locs hP hD hS => ?_)
  have hP : va_P D vwCl [(o, .inr (4, [.ref w, .ref v2, .ref v3, .int (iI (ik))])), (w, .inr (3, [.int (iI (((mn : Nat) : Int))), .int (iI (tA)), .int (iI (sA)), .int (iI (kA)), .ref wc, .ref k, .ref t, .ref b])), (wc, .inl (cI, 5, .inl (vI ck))), (k, .inr (1, [.ref kn])), (kn, .inl (cI, 24, .inl (vI nb))), (t, .inr (2, [.ref tc, .ref ts])), (tc, .inl (cI, 1000, .inl (vI cn))), (ts, .inl (cI, 1000, .inl (vI sm))), (b, .inr (0, [.ref bm, .ref br])), (bm, .inl (cI, 25, .inl (vI mo))), (br, .inl (cI, 5, .inl (vI (rnds mo (re0 g) 4))))] H := hP
  have hD : va_D A [(o, .inr (4, [.ref w, .ref v2, .ref v3, .int (iI (ik))])), (w, .inr (3, [.int (iI (((mn : Nat) : Int))), .int (iI (tA)), .int (iI (sA)), .int (iI (kA)), .ref wc, .ref k, .ref t, .ref b])), (wc, .inl (cI, 5, .inl (vI ck))), (k, .inr (1, [.ref kn])), (kn, .inl (cI, 24, .inl (vI nb))), (t, .inr (2, [.ref tc, .ref ts])), (tc, .inl (cI, 1000, .inl (vI cn))), (ts, .inl (cI, 1000, .inl (vI sm))), (b, .inr (0, [.ref bm, .ref br])), (bm, .inl (cI, 25, .inl (vI mo))), (br, .inl (cI, 5, .inl (vI (rnds mo (re0 g) 4))))] := hD
  refine W.eq (g2 := F0 m 71 ls [.int (iI (rnds mo (re0 g) 4 f))]) rfl ?_
  refine lv_goto (tgt := 86) hx hb dX4_truth_71 (by decide) ?_
  refine lv_istore (lv' := [(7, .int (iI (rnds mo (re0 g) 4 f))), (6, .int (iI (0))), (0, .ref o), (1, .int (iI (((f : Nat) : Int)))), (2, .int (iI (((g : Nat) : Int)))), (3, .int (iI (((bk : Nat) : Int)))), (4, .int (iI (0))), (5, .int (iI (u)))]) hx hb dX4_truth_86 hl (by decide) rfl (fun ls hl => ?_)
  refine lv_iload hx hb dX4_truth_88 (lv_at hl 0 rfl) ?_
  refine w_ldc (z := 1000000000) S (List.mem_of_getElem? (i := 7) rfl) (by decide) dX4_truth_90 ?_
  refine c_neF (tgt := 98) S dX4_truth_92 (by decide) (by omega) ?_
  refine w_ldc (z := (-1000000006)) S (List.mem_of_getElem? (i := 8) rfl) (by decide) dX4_truth_95 ?_
  exact hret _ _ _ _ _ dX4_truth_97 (congrArg iI (by omega)) hP hS
set_option maxHeartbeats 4000000 in
set_option maxRecDepth 100000 in
theorem c_truth_00 (lc : Launch) (D : va_G) (cI cZ : ClassId) (N : Nat) (o : Nat) (v2 : Nat) (v3 : Nat) (ik : Int) (w : Nat) (wc : Nat) (k : Nat) (kn : Nat) (t : Nat) (tc : Nat) (ts : Nat) (b : Nat) (bm : Nat) (br : Nat) (mn : Nat) (tA : Int) (sA : Int) (kA : Int) (ck : Nat → Int) (nb : Nat → Int) (cn : Nat → Int) (sm : Nat → Int) (mo : Nat → Int) (re : Nat → Int) (f : Nat) (g : Nat) (bk : Nat) (wq : Nat) (hmn : 2 ≤ mn ∧ mn ≤ 5) (hfg : f < g) (hgm : g < mn) (hbk : bk < 200) (hcn : ∀ k, k < 1000 → 0 ≤ cn k ∧ cn k ≤ 200) (hmo : ∀ k, k < 25 → -1000 ≤ mo k ∧ mo k ≤ 1000000000) (h2 : 0 < cn (f * 200 + bk) ∧ cn (f * 200 + bk) = cn (g * 200 + bk)) (h5 : rnds mo (re0 g) 4 f ≠ 1000000000) (hwq : cn (f * 200 + bk) = ((wq : Nat) : Int)) (hwq2 : 0 < wq ∧ wq ≤ 200) (hU : -1000000000 ≤ ((sm (g * 200 + bk) - sm (f * 200 + bk)) + (rnds mo (re0 g) 4 f) * ((wq : Nat) : Int)) ∧ ((sm (g * 200 + bk) - sm (f * 200 + bk)) + (rnds mo (re0 g) 4 f) * ((wq : Nat) : Int)) ≤ 1000000000) : CM lc D cI cZ N yX4_truth wsX4_truth (rmK 4 90) [.ref o, .int (iI (((f : Nat) : Int))), .int (iI (((g : Nat) : Int))), .int (iI (((bk : Nat) : Int))), .int (iI (0)), .int (iI (0))] [(o, .inr (4, [.ref w, .ref v2, .ref v3, .int (iI (ik))])), (w, .inr (3, [.int (iI (((mn : Nat) : Int))), .int (iI (tA)), .int (iI (sA)), .int (iI (kA)), .ref wc, .ref k, .ref t, .ref b])), (wc, .inl (cI, 5, .inl (vI ck))), (k, .inr (1, [.ref kn])), (kn, .inl (cI, 24, .inl (vI nb))), (t, .inr (2, [.ref tc, .ref ts])), (tc, .inl (cI, 1000, .inl (vI cn))), (ts, .inl (cI, 1000, .inl (vI sm))), (b, .inr (0, [.ref bm, .ref br])), (bm, .inl (cI, 25, .inl (vI mo))), (br, .inl (cI, 5, .inl (vI re)))] (some (.int (iI (((sm (g * 200 + bk) - sm (f * 200 + bk)) + (rnds mo (re0 g) 4 f) * ((wq : Nat) : Int)).tdiv ((Nat.gcd (((sm (g * 200 + bk) - sm (f * 200 + bk)) + (rnds mo (re0 g) 4 f) * ((wq : Nat) : Int))).natAbs wq : Nat) : Int))))) [(o, .inr (4, [.ref w, .ref v2, .ref v3, .int (iI (ik))])), (w, .inr (3, [.int (iI (((mn : Nat) : Int))), .int (iI (tA)), .int (iI (sA)), .int (iI (kA)), .ref wc, .ref k, .ref t, .ref b])), (wc, .inl (cI, 5, .inl (vI ck))), (k, .inr (1, [.ref kn])), (kn, .inl (cI, 24, .inl (vI nb))), (t, .inr (2, [.ref tc, .ref ts])), (tc, .inl (cI, 1000, .inl (vI cn))), (ts, .inl (cI, 1000, .inl (vI sm))), (b, .inr (0, [.ref bm, .ref br])), (bm, .inl (cI, 25, .inl (vI mo))), (br, .inl (cI, 5, .inl (vI (rnds mo (re0 g) 4))))] := by
  refine CM.I (cc := cX4_truth) (maxL := 10) (by decide) rfl (Nat.le_of_ble_eq_true rfl) ?_
  intro p e s m args below meth c R Q S hE A hAN hfr hlo hP hD hS hret ls hl
  have S : CallFix p m c cX4_truth 10 s args wsX4_truth RX4 := S
  have hx := S.1
  have hb := S.2.1
  have hl : lv_has ls 10 [(0, .ref o), (1, .int (iI (((f : Nat) : Int)))), (2, .int (iI (((g : Nat) : Int)))), (3, .int (iI (((bk : Nat) : Int)))), (4, .int (iI (0))), (5, .int (iI (0)))] := hl
  have g1 := rnds_rng (Int.le_refl 0) hmo (re0_rng g) 4 f (by omega)
  refine lv_aload_n hx hb dX4_truth_0 rfl (lv_at hl 0 rfl) ?_
  refine lv_iload_n hx hb dX4_truth_1 rfl (lv_at hl 1 rfl) ?_
  refine lv_iload_n hx hb dX4_truth_2 rfl (lv_at hl 2 rfl) ?_
  refine lv_iload_n hx hb dX4_truth_3 rfl (lv_at hl 3 rfl) ?_
  refine lv_iload hx hb dX4_truth_4 (lv_at hl 5 rfl) ?_
  refine kV_R (n := 4) (ci := 4) (q := (RX4, TX4, 4)) S (c_tref lc D cI cZ N o v2 v3 ik w wc k kn t tc ts b bm br mn tA sA kA ck nb cn sm mo re ((f : Nat) : Int) ((g : Nat) : Int) ((bk : Nat) : Int) 0 (by omega) (by omega) (by omega) (by omega) (by omega) (by omega) (by omega) (by omega)) gX4_truth_X4_tookRefusal rfl rfl (by decide +kernel) rfl rfl ⟨Nat.le_trans (Nat.le_of_ble_eq_true rfl) hfr, Nat.le_trans (Nat.le_of_ble_eq_true rfl) hlo⟩ hE hAN hP hD hS [0, 1, 2, 3, 4, 5, 6, 7, 8, 9, 10] rfl (by decide) rfl rfl rfl rfl hl.1 [] rfl (Nat.le_of_ble_eq_true rfl) dX4_truth_6 ⟨Nat.zero_le _, Nat.zero_le _⟩ ?_
  refine W.eq (g2 := F0 m 9 ls [.int (iI (0))]) rfl ?_
  refine lv_istore (lv' := [(6, .int (iI (0))), (0, .ref o), (1, .int (iI (((f : Nat) : Int)))), (2, .int (iI (((g : Nat) : Int)))), (3, .int (iI (((bk : Nat) : Int)))), (4, .int (iI (0))), (5, .int (iI (0)))]) hx hb dX4_truth_9 hl (by decide) rfl (fun ls hl => ?_)
  refine lv_iload hx hb dX4_truth_11 (lv_at hl 0 rfl) ?_
  refine b_eqT (tgt := 22) S dX4_truth_13 (by decide) (by decide) ?_
  refine lv_iload hx hb dX4_truth_22 (lv_at hl 5 rfl) ?_
  refine lv_iconst (v := iI (0)) hx hb dX4_truth_24 rfl ?_
  refine lv_iconst (v := iI (1)) hx hb dX4_truth_25 rfl ?_
  refine kS_R (n := 3) S (c_within_T lc D cI cZ N 0 0 1 (by omega) (by omega) (by omega) (by omega)) gX4_truth_X4_within rfl (by decide +kernel) rfl rfl ⟨Nat.le_trans (Nat.le_of_ble_eq_true rfl) hfr, Nat.le_trans (Nat.le_of_ble_eq_true rfl) hlo⟩ hE hAN hP hD hS [] rfl (by decide) rfl hl.1 [] rfl (Nat.le_of_ble_eq_true rfl) dX4_truth_26 ⟨Nat.zero_le _, Nat.zero_le _⟩ ?_
  refine W.eq (g2 := F0 m 29 ls [.int (iI (1))]) rfl ?_
  refine b_neT (tgt := 35) S dX4_truth_29 (by decide) (by decide) (by decide) ?_
  refine lv_aload_n hx hb dX4_truth_35 rfl (lv_at hl 1 rfl) ?_
  refine w_get (C := RX4) (T := TX4) (Nf := 4) (ci := 4) (v := .ref w) S (fun _ h => List.mem_cons_of_mem _ (List.mem_append_left _ (List.mem_append_left _ (List.mem_append_left _ (List.mem_append_right _ h))))) hE hP 0 rfl rfl 0 (by decide) (List.mem_of_getElem? (i := 3) rfl) rfl dX4_truth_36 ?_
  refine w_get (C := RX3) (T := TX3) (Nf := 8) (ci := 3) (v := .ref t) S (fun _ h => List.mem_cons_of_mem _ (List.mem_append_left _ (List.mem_append_left _ (List.mem_append_right _ h)))) hE hP 1 rfl rfl 6 (by decide) (List.mem_of_getElem? (i := 4) rfl) rfl dX4_truth_39 ?_
  refine lv_iload_n hx hb dX4_truth_42 rfl (lv_at hl 2 rfl) ?_
  refine lv_iload_n hx hb dX4_truth_43 rfl (lv_at hl 3 rfl) ?_
  refine lv_iload_n hx hb dX4_truth_44 rfl (lv_at hl 4 rfl) ?_
  refine kV_R (n := 3) (ci := 2) (q := (RX2, TX2, 2)) S (c_hasTook_T lc D cI cZ N t tc ts cn sm f g bk (by omega) (by omega) (by omega) (by omega) (by omega)) gX4_truth_X2_hasTook rfl rfl (by decide +kernel) rfl rfl ⟨Nat.le_trans (Nat.le_of_ble_eq_true rfl) hfr, Nat.le_trans (Nat.le_of_ble_eq_true rfl) hlo⟩ hE hAN hP hD hS [5, 6, 7] rfl (by decide) rfl rfl rfl rfl hl.1 [] rfl (Nat.le_of_ble_eq_true rfl) dX4_truth_45 ⟨Nat.zero_le _, Nat.zero_le _⟩ ?_
  refine W.eq (g2 := F0 m 48 ls [.int (iI (1))]) rfl ?_
  refine b_neT (tgt := 54) S dX4_truth_48 (by decide) (by decide) (by decide) ?_
  refine lv_iload hx hb dX4_truth_54 (lv_at hl 5 rfl) ?_
  refine b_neF (tgt := 74) S dX4_truth_56 (by decide) (by decide) ?_
  refine lv_aload_n hx hb dX4_truth_59 rfl (lv_at hl 1 rfl) ?_
  refine w_get (C := RX4) (T := TX4) (Nf := 4) (ci := 4) (v := .ref w) S (fun _ h => List.mem_cons_of_mem _ (List.mem_append_left _ (List.mem_append_left _ (List.mem_append_left _ (List.mem_append_right _ h))))) hE hP 0 rfl rfl 0 (by decide) (List.mem_of_getElem? (i := 3) rfl) rfl dX4_truth_60 ?_
  refine w_get (C := RX3) (T := TX3) (Nf := 8) (ci := 3) (v := .ref b) S (fun _ h => List.mem_cons_of_mem _ (List.mem_append_left _ (List.mem_append_left _ (List.mem_append_right _ h)))) hE hP 1 rfl rfl 7 (by decide) (List.mem_of_getElem? (i := 6) rfl) rfl dX4_truth_63 ?_
  refine lv_iload_n hx hb dX4_truth_66 rfl (lv_at hl 3 rfl) ?_
  refine lv_iload_n hx hb dX4_truth_67 rfl (lv_at hl 2 rfl) ?_
  refine kV_M (n := 2) (ci := 0) (q := (RX0, TX0, 2)) S (c_tightest lc D cI cZ N b bm br mo re g f (by omega) (by omega) (by omega)) gX4_truth_X0_tightest rfl rfl (by decide +kernel) rfl rfl ⟨Nat.le_trans (Nat.le_of_ble_eq_true rfl) hfr, Nat.le_trans (Nat.le_of_ble_eq_true rfl) hlo⟩ hE hAN hP hD hS [8, 9, 10] rfl (by decide) rfl rfl rfl rfl rfl hl.1 [] rfl (Nat.le_of_ble_eq_true rfl) dX4_truth_68 ⟨Nat.zero_le _, Nat.zero_le _⟩ (fun H locs hP hD hS => ?_)
  have hP : va_P D vwCl [(o, .inr (4, [.ref w, .ref v2, .ref v3, .int (iI (ik))])), (w, .inr (3, [.int (iI (((mn : Nat) : Int))), .int (iI (tA)), .int (iI (sA)), .int (iI (kA)), .ref wc, .ref k, .ref t, .ref b])), (wc, .inl (cI, 5, .inl (vI ck))), (k, .inr (1, [.ref kn])), (kn, .inl (cI, 24, .inl (vI nb))), (t, .inr (2, [.ref tc, .ref ts])), (tc, .inl (cI, 1000, .inl (vI cn))), (ts, .inl (cI, 1000, .inl (vI sm))), (b, .inr (0, [.ref bm, .ref br])), (bm, .inl (cI, 25, .inl (vI mo))), (br, .inl (cI, 5, .inl (vI (rnds mo (re0 g) 4))))] H := hP
  have hD : va_D A [(o, .inr (4, [.ref w, .ref v2, .ref v3, .int (iI (ik))])), (w, .inr (3, [.int (iI (((mn : Nat) : Int))), .int (iI (tA)), .int (iI (sA)), .int (iI (kA)), .ref wc, .ref k, .ref t, .ref b])), (wc, .inl (cI, 5, .inl (vI ck))), (k, .inr (1, [.ref kn])), (kn, .inl (cI, 24, .inl (vI nb))), (t, .inr (2, [.ref tc, .ref ts])), (tc, .inl (cI, 1000, .inl (vI cn))), (ts, .inl (cI, 1000, .inl (vI sm))), (b, .inr (0, [.ref bm, .ref br])), (bm, .inl (cI, 25, .inl (vI mo))), (br, .inl (cI, 5, .inl (vI (rnds mo (re0 g) 4))))] := hD
  refine W.eq (g2 := F0 m 71 ls [.int (iI (rnds mo (re0 g) 4 f))]) rfl ?_
  refine lv_goto (tgt := 86) hx hb dX4_truth_71 (by decide) ?_
  refine lv_istore (lv' := [(7, .int (iI (rnds mo (re0 g) 4 f))), (6, .int (iI (0))), (0, .ref o), (1, .int (iI (((f : Nat) : Int)))), (2, .int (iI (((g : Nat) : Int)))), (3, .int (iI (((bk : Nat) : Int)))), (4, .int (iI (0))), (5, .int (iI (0)))]) hx hb dX4_truth_86 hl (by decide) rfl (fun ls hl => ?_)
  refine lv_iload hx hb dX4_truth_88 (lv_at hl 0 rfl) ?_
  refine w_ldc (z := 1000000000) S (List.mem_of_getElem? (i := 7) rfl) (by decide) dX4_truth_90 ?_
  refine c_neT (tgt := 98) S dX4_truth_92 (by decide) (by omega) (by omega) (by omega) ?_
  refine lv_aload_n hx hb dX4_truth_98 rfl (lv_at hl 2 rfl) ?_
  refine w_get (C := RX4) (T := TX4) (Nf := 4) (ci := 4) (v := .ref w) S (fun _ h => List.mem_cons_of_mem _ (List.mem_append_left _ (List.mem_append_left _ (List.mem_append_left _ (List.mem_append_right _ h))))) hE hP 0 rfl rfl 0 (by decide) (List.mem_of_getElem? (i := 3) rfl) rfl dX4_truth_99 ?_
  refine w_get (C := RX3) (T := TX3) (Nf := 8) (ci := 3) (v := .ref t) S (fun _ h => List.mem_cons_of_mem _ (List.mem_append_left _ (List.mem_append_left _ (List.mem_append_right _ h)))) hE hP 1 rfl rfl 6 (by decide) (List.mem_of_getElem? (i := 4) rfl) rfl dX4_truth_102 ?_
  refine lv_iload_n hx hb dX4_truth_105 rfl (lv_at hl 3 rfl) ?_
  refine lv_iload_n hx hb dX4_truth_106 rfl (lv_at hl 5 rfl) ?_
  refine kV_R (n := 2) (ci := 2) (q := (RX2, TX2, 2)) S (c_countOf lc D cI cZ N t tc ts cn sm f bk (by omega) (by omega)) gX4_truth_X2_countOf rfl rfl (by decide +kernel) rfl rfl ⟨Nat.le_trans (Nat.le_of_ble_eq_true rfl) hfr, Nat.le_trans (Nat.le_of_ble_eq_true rfl) hlo⟩ hE hAN hP hD hS [5, 6, 7] rfl (by decide) rfl rfl rfl rfl hl.1 [] rfl (Nat.le_of_ble_eq_true rfl) dX4_truth_107 ⟨Nat.zero_le _, Nat.zero_le _⟩ ?_
  refine W.eq (g2 := F0 m 110 ls [.int (iI (cn (f * 200 + bk)))]) rfl ?_
  refine w_tz (z := ((wq : Nat) : Int)) hwq ?_
  refine lv_istore (lv' := [(8, .int (iI (((wq : Nat) : Int)))), (7, .int (iI (rnds mo (re0 g) 4 f))), (6, .int (iI (0))), (0, .ref o), (1, .int (iI (((f : Nat) : Int)))), (2, .int (iI (((g : Nat) : Int)))), (3, .int (iI (((bk : Nat) : Int)))), (4, .int (iI (0))), (5, .int (iI (0)))]) hx hb dX4_truth_110 hl (by decide) rfl (fun ls hl => ?_)
  refine lv_iload hx hb dX4_truth_112 (lv_at hl 7 rfl) ?_
  refine b_neF (tgt := 125) S dX4_truth_114 (by decide) (by decide) ?_
  refine lv_iload hx hb dX4_truth_117 (lv_at hl 1 rfl) ?_
  refine lv_iload hx hb dX4_truth_119 (lv_at hl 0 rfl) ?_
  refine w_imul S dX4_truth_121 ?_
  refine lv_goto (tgt := 131) hx hb dX4_truth_122 (by decide) ?_
  refine lv_istore (lv' := [(9, .int (iI ((rnds mo (re0 g) 4 f) * ((wq : Nat) : Int)))), (8, .int (iI (((wq : Nat) : Int)))), (7, .int (iI (rnds mo (re0 g) 4 f))), (6, .int (iI (0))), (0, .ref o), (1, .int (iI (((f : Nat) : Int)))), (2, .int (iI (((g : Nat) : Int)))), (3, .int (iI (((bk : Nat) : Int)))), (4, .int (iI (0))), (5, .int (iI (0)))]) hx hb dX4_truth_131 hl (by decide) rfl (fun ls hl => ?_)
  refine lv_aload_n hx hb dX4_truth_133 rfl (lv_at hl 4 rfl) ?_
  refine w_get (C := RX4) (T := TX4) (Nf := 4) (ci := 4) (v := .ref w) S (fun _ h => List.mem_cons_of_mem _ (List.mem_append_left _ (List.mem_append_left _ (List.mem_append_left _ (List.mem_append_right _ h))))) hE hP 0 rfl rfl 0 (by decide) (List.mem_of_getElem? (i := 3) rfl) rfl dX4_truth_134 ?_
  refine w_get (C := RX3) (T := TX3) (Nf := 8) (ci := 3) (v := .ref t) S (fun _ h => List.mem_cons_of_mem _ (List.mem_append_left _ (List.mem_append_left _ (List.mem_append_right _ h)))) hE hP 1 rfl rfl 6 (by decide) (List.mem_of_getElem? (i := 4) rfl) rfl dX4_truth_137 ?_
  refine lv_iload_n hx hb dX4_truth_140 rfl (lv_at hl 5 rfl) ?_
  refine lv_iload_n hx hb dX4_truth_141 rfl (lv_at hl 6 rfl) ?_
  refine lv_iload_n hx hb dX4_truth_142 rfl (lv_at hl 7 rfl) ?_
  refine kV_R (n := 3) (ci := 2) (q := (RX2, TX2, 2)) S (c_tookUpper lc D cI cZ N t tc ts cn sm f g bk (by omega) (by omega) (by omega)) gX4_truth_X2_tookUpper rfl rfl (by decide +kernel) rfl rfl ⟨Nat.le_trans (Nat.le_of_ble_eq_true rfl) hfr, Nat.le_trans (Nat.le_of_ble_eq_true rfl) hlo⟩ hE hAN hP hD hS [5, 6, 7] rfl (by decide) rfl rfl rfl rfl hl.1 [] rfl (Nat.le_of_ble_eq_true rfl) dX4_truth_143 ⟨Nat.zero_le _, Nat.zero_le _⟩ ?_
  refine W.eq (g2 := F0 m 146 ls [.int (iI (sm (g * 200 + bk) - sm (f * 200 + bk)))]) rfl ?_
  refine lv_iload hx hb dX4_truth_146 (lv_at hl 0 rfl) ?_
  refine w_iadd S dX4_truth_148 ?_
  refine lv_iload hx hb dX4_truth_149 (lv_at hl 1 rfl) ?_
  refine lv_iload hx hb dX4_truth_151 (lv_at hl 9 rfl) ?_
  refine kS_R (n := 3) S (c_fraction_0 lc D cI cZ N ((sm (g * 200 + bk) - sm (f * 200 + bk)) + ((rnds mo (re0 g) 4 f) * ((wq : Nat) : Int))) wq 0 (by omega) (by omega) (by omega)) gX4_truth_X4_fractionPart rfl (by decide +kernel) rfl rfl ⟨Nat.le_trans (Nat.le_of_ble_eq_true rfl) hfr, Nat.le_trans (Nat.le_of_ble_eq_true rfl) hlo⟩ hE hAN hP hD hS [] rfl (by decide) rfl hl.1 [] rfl (Nat.le_of_ble_eq_true rfl) dX4_truth_153 ⟨Nat.zero_le _, Nat.zero_le _⟩ ?_
  refine W.eq (g2 := F0 m 156 ls [.int (iI (((sm (g * 200 + bk) - sm (f * 200 + bk)) + ((rnds mo (re0 g) 4 f) * ((wq : Nat) : Int))).tdiv ((Nat.gcd ((sm (g * 200 + bk) - sm (f * 200 + bk)) + ((rnds mo (re0 g) 4 f) * ((wq : Nat) : Int))).natAbs wq : Nat) : Int)))]) rfl ?_
  exact hret _ _ _ _ _ dX4_truth_156 (congrArg iI (by omega)) hP hS
set_option maxHeartbeats 4000000 in
set_option maxRecDepth 100000 in
theorem c_truth_01 (lc : Launch) (D : va_G) (cI cZ : ClassId) (N : Nat) (o : Nat) (v2 : Nat) (v3 : Nat) (ik : Int) (w : Nat) (wc : Nat) (k : Nat) (kn : Nat) (t : Nat) (tc : Nat) (ts : Nat) (b : Nat) (bm : Nat) (br : Nat) (mn : Nat) (tA : Int) (sA : Int) (kA : Int) (ck : Nat → Int) (nb : Nat → Int) (cn : Nat → Int) (sm : Nat → Int) (mo : Nat → Int) (re : Nat → Int) (f : Nat) (g : Nat) (bk : Nat) (wq : Nat) (hmn : 2 ≤ mn ∧ mn ≤ 5) (hfg : f < g) (hgm : g < mn) (hbk : bk < 200) (hcn : ∀ k, k < 1000 → 0 ≤ cn k ∧ cn k ≤ 200) (hmo : ∀ k, k < 25 → -1000 ≤ mo k ∧ mo k ≤ 1000000000) (h2 : 0 < cn (f * 200 + bk) ∧ cn (f * 200 + bk) = cn (g * 200 + bk)) (h5 : rnds mo (re0 g) 4 f ≠ 1000000000) (hwq : cn (f * 200 + bk) = ((wq : Nat) : Int)) (hwq2 : 0 < wq ∧ wq ≤ 200) (hU : -1000000000 ≤ ((sm (g * 200 + bk) - sm (f * 200 + bk)) + (rnds mo (re0 g) 4 f) * ((wq : Nat) : Int)) ∧ ((sm (g * 200 + bk) - sm (f * 200 + bk)) + (rnds mo (re0 g) 4 f) * ((wq : Nat) : Int)) ≤ 1000000000) : CM lc D cI cZ N yX4_truth wsX4_truth (rmK 4 90) [.ref o, .int (iI (((f : Nat) : Int))), .int (iI (((g : Nat) : Int))), .int (iI (((bk : Nat) : Int))), .int (iI (0)), .int (iI (1))] [(o, .inr (4, [.ref w, .ref v2, .ref v3, .int (iI (ik))])), (w, .inr (3, [.int (iI (((mn : Nat) : Int))), .int (iI (tA)), .int (iI (sA)), .int (iI (kA)), .ref wc, .ref k, .ref t, .ref b])), (wc, .inl (cI, 5, .inl (vI ck))), (k, .inr (1, [.ref kn])), (kn, .inl (cI, 24, .inl (vI nb))), (t, .inr (2, [.ref tc, .ref ts])), (tc, .inl (cI, 1000, .inl (vI cn))), (ts, .inl (cI, 1000, .inl (vI sm))), (b, .inr (0, [.ref bm, .ref br])), (bm, .inl (cI, 25, .inl (vI mo))), (br, .inl (cI, 5, .inl (vI re)))] (some (.int (iI (((wq : Nat) : Int).tdiv ((Nat.gcd (((sm (g * 200 + bk) - sm (f * 200 + bk)) + (rnds mo (re0 g) 4 f) * ((wq : Nat) : Int))).natAbs wq : Nat) : Int))))) [(o, .inr (4, [.ref w, .ref v2, .ref v3, .int (iI (ik))])), (w, .inr (3, [.int (iI (((mn : Nat) : Int))), .int (iI (tA)), .int (iI (sA)), .int (iI (kA)), .ref wc, .ref k, .ref t, .ref b])), (wc, .inl (cI, 5, .inl (vI ck))), (k, .inr (1, [.ref kn])), (kn, .inl (cI, 24, .inl (vI nb))), (t, .inr (2, [.ref tc, .ref ts])), (tc, .inl (cI, 1000, .inl (vI cn))), (ts, .inl (cI, 1000, .inl (vI sm))), (b, .inr (0, [.ref bm, .ref br])), (bm, .inl (cI, 25, .inl (vI mo))), (br, .inl (cI, 5, .inl (vI (rnds mo (re0 g) 4))))] := by
  refine CM.I (cc := cX4_truth) (maxL := 10) (by decide) rfl (Nat.le_of_ble_eq_true rfl) ?_
  intro p e s m args below meth c R Q S hE A hAN hfr hlo hP hD hS hret ls hl
  have S : CallFix p m c cX4_truth 10 s args wsX4_truth RX4 := S
  have hx := S.1
  have hb := S.2.1
  have hl : lv_has ls 10 [(0, .ref o), (1, .int (iI (((f : Nat) : Int)))), (2, .int (iI (((g : Nat) : Int)))), (3, .int (iI (((bk : Nat) : Int)))), (4, .int (iI (0))), (5, .int (iI (1)))] := hl
  have g1 := rnds_rng (Int.le_refl 0) hmo (re0_rng g) 4 f (by omega)
  refine lv_aload_n hx hb dX4_truth_0 rfl (lv_at hl 0 rfl) ?_
  refine lv_iload_n hx hb dX4_truth_1 rfl (lv_at hl 1 rfl) ?_
  refine lv_iload_n hx hb dX4_truth_2 rfl (lv_at hl 2 rfl) ?_
  refine lv_iload_n hx hb dX4_truth_3 rfl (lv_at hl 3 rfl) ?_
  refine lv_iload hx hb dX4_truth_4 (lv_at hl 5 rfl) ?_
  refine kV_R (n := 4) (ci := 4) (q := (RX4, TX4, 4)) S (c_tref lc D cI cZ N o v2 v3 ik w wc k kn t tc ts b bm br mn tA sA kA ck nb cn sm mo re ((f : Nat) : Int) ((g : Nat) : Int) ((bk : Nat) : Int) 1 (by omega) (by omega) (by omega) (by omega) (by omega) (by omega) (by omega) (by omega)) gX4_truth_X4_tookRefusal rfl rfl (by decide +kernel) rfl rfl ⟨Nat.le_trans (Nat.le_of_ble_eq_true rfl) hfr, Nat.le_trans (Nat.le_of_ble_eq_true rfl) hlo⟩ hE hAN hP hD hS [0, 1, 2, 3, 4, 5, 6, 7, 8, 9, 10] rfl (by decide) rfl rfl rfl rfl hl.1 [] rfl (Nat.le_of_ble_eq_true rfl) dX4_truth_6 ⟨Nat.zero_le _, Nat.zero_le _⟩ ?_
  refine W.eq (g2 := F0 m 9 ls [.int (iI (0))]) rfl ?_
  refine lv_istore (lv' := [(6, .int (iI (0))), (0, .ref o), (1, .int (iI (((f : Nat) : Int)))), (2, .int (iI (((g : Nat) : Int)))), (3, .int (iI (((bk : Nat) : Int)))), (4, .int (iI (0))), (5, .int (iI (1)))]) hx hb dX4_truth_9 hl (by decide) rfl (fun ls hl => ?_)
  refine lv_iload hx hb dX4_truth_11 (lv_at hl 0 rfl) ?_
  refine b_eqT (tgt := 22) S dX4_truth_13 (by decide) (by decide) ?_
  refine lv_iload hx hb dX4_truth_22 (lv_at hl 5 rfl) ?_
  refine lv_iconst (v := iI (0)) hx hb dX4_truth_24 rfl ?_
  refine lv_iconst (v := iI (1)) hx hb dX4_truth_25 rfl ?_
  refine kS_R (n := 3) S (c_within_T lc D cI cZ N 0 0 1 (by omega) (by omega) (by omega) (by omega)) gX4_truth_X4_within rfl (by decide +kernel) rfl rfl ⟨Nat.le_trans (Nat.le_of_ble_eq_true rfl) hfr, Nat.le_trans (Nat.le_of_ble_eq_true rfl) hlo⟩ hE hAN hP hD hS [] rfl (by decide) rfl hl.1 [] rfl (Nat.le_of_ble_eq_true rfl) dX4_truth_26 ⟨Nat.zero_le _, Nat.zero_le _⟩ ?_
  refine W.eq (g2 := F0 m 29 ls [.int (iI (1))]) rfl ?_
  refine b_neT (tgt := 35) S dX4_truth_29 (by decide) (by decide) (by decide) ?_
  refine lv_aload_n hx hb dX4_truth_35 rfl (lv_at hl 1 rfl) ?_
  refine w_get (C := RX4) (T := TX4) (Nf := 4) (ci := 4) (v := .ref w) S (fun _ h => List.mem_cons_of_mem _ (List.mem_append_left _ (List.mem_append_left _ (List.mem_append_left _ (List.mem_append_right _ h))))) hE hP 0 rfl rfl 0 (by decide) (List.mem_of_getElem? (i := 3) rfl) rfl dX4_truth_36 ?_
  refine w_get (C := RX3) (T := TX3) (Nf := 8) (ci := 3) (v := .ref t) S (fun _ h => List.mem_cons_of_mem _ (List.mem_append_left _ (List.mem_append_left _ (List.mem_append_right _ h)))) hE hP 1 rfl rfl 6 (by decide) (List.mem_of_getElem? (i := 4) rfl) rfl dX4_truth_39 ?_
  refine lv_iload_n hx hb dX4_truth_42 rfl (lv_at hl 2 rfl) ?_
  refine lv_iload_n hx hb dX4_truth_43 rfl (lv_at hl 3 rfl) ?_
  refine lv_iload_n hx hb dX4_truth_44 rfl (lv_at hl 4 rfl) ?_
  refine kV_R (n := 3) (ci := 2) (q := (RX2, TX2, 2)) S (c_hasTook_T lc D cI cZ N t tc ts cn sm f g bk (by omega) (by omega) (by omega) (by omega) (by omega)) gX4_truth_X2_hasTook rfl rfl (by decide +kernel) rfl rfl ⟨Nat.le_trans (Nat.le_of_ble_eq_true rfl) hfr, Nat.le_trans (Nat.le_of_ble_eq_true rfl) hlo⟩ hE hAN hP hD hS [5, 6, 7] rfl (by decide) rfl rfl rfl rfl hl.1 [] rfl (Nat.le_of_ble_eq_true rfl) dX4_truth_45 ⟨Nat.zero_le _, Nat.zero_le _⟩ ?_
  refine W.eq (g2 := F0 m 48 ls [.int (iI (1))]) rfl ?_
  refine b_neT (tgt := 54) S dX4_truth_48 (by decide) (by decide) (by decide) ?_
  refine lv_iload hx hb dX4_truth_54 (lv_at hl 5 rfl) ?_
  refine b_neF (tgt := 74) S dX4_truth_56 (by decide) (by decide) ?_
  refine lv_aload_n hx hb dX4_truth_59 rfl (lv_at hl 1 rfl) ?_
  refine w_get (C := RX4) (T := TX4) (Nf := 4) (ci := 4) (v := .ref w) S (fun _ h => List.mem_cons_of_mem _ (List.mem_append_left _ (List.mem_append_left _ (List.mem_append_left _ (List.mem_append_right _ h))))) hE hP 0 rfl rfl 0 (by decide) (List.mem_of_getElem? (i := 3) rfl) rfl dX4_truth_60 ?_
  refine w_get (C := RX3) (T := TX3) (Nf := 8) (ci := 3) (v := .ref b) S (fun _ h => List.mem_cons_of_mem _ (List.mem_append_left _ (List.mem_append_left _ (List.mem_append_right _ h)))) hE hP 1 rfl rfl 7 (by decide) (List.mem_of_getElem? (i := 6) rfl) rfl dX4_truth_63 ?_
  refine lv_iload_n hx hb dX4_truth_66 rfl (lv_at hl 3 rfl) ?_
  refine lv_iload_n hx hb dX4_truth_67 rfl (lv_at hl 2 rfl) ?_
  refine kV_M (n := 2) (ci := 0) (q := (RX0, TX0, 2)) S (c_tightest lc D cI cZ N b bm br mo re g f (by omega) (by omega) (by omega)) gX4_truth_X0_tightest rfl rfl (by decide +kernel) rfl rfl ⟨Nat.le_trans (Nat.le_of_ble_eq_true rfl) hfr, Nat.le_trans (Nat.le_of_ble_eq_true rfl) hlo⟩ hE hAN hP hD hS [8, 9, 10] rfl (by decide) rfl rfl rfl rfl rfl hl.1 [] rfl (Nat.le_of_ble_eq_true rfl) dX4_truth_68 ⟨Nat.zero_le _, Nat.zero_le _⟩ (fun H locs hP hD hS => ?_)
  have hP : va_P D vwCl [(o, .inr (4, [.ref w, .ref v2, .ref v3, .int (iI (ik))])), (w, .inr (3, [.int (iI (((mn : Nat) : Int))), .int (iI (tA)), .int (iI (sA)), .int (iI (kA)), .ref wc, .ref k, .ref t, .ref b])), (wc, .inl (cI, 5, .inl (vI ck))), (k, .inr (1, [.ref kn])), (kn, .inl (cI, 24, .inl (vI nb))), (t, .inr (2, [.ref tc, .ref ts])), (tc, .inl (cI, 1000, .inl (vI cn))), (ts, .inl (cI, 1000, .inl (vI sm))), (b, .inr (0, [.ref bm, .ref br])), (bm, .inl (cI, 25, .inl (vI mo))), (br, .inl (cI, 5, .inl (vI (rnds mo (re0 g) 4))))] H := hP
  have hD : va_D A [(o, .inr (4, [.ref w, .ref v2, .ref v3, .int (iI (ik))])), (w, .inr (3, [.int (iI (((mn : Nat) : Int))), .int (iI (tA)), .int (iI (sA)), .int (iI (kA)), .ref wc, .ref k, .ref t, .ref b])), (wc, .inl (cI, 5, .inl (vI ck))), (k, .inr (1, [.ref kn])), (kn, .inl (cI, 24, .inl (vI nb))), (t, .inr (2, [.ref tc, .ref ts])), (tc, .inl (cI, 1000, .inl (vI cn))), (ts, .inl (cI, 1000, .inl (vI sm))), (b, .inr (0, [.ref bm, .ref br])), (bm, .inl (cI, 25, .inl (vI mo))), (br, .inl (cI, 5, .inl (vI (rnds mo (re0 g) 4))))] := hD
  refine W.eq (g2 := F0 m 71 ls [.int (iI (rnds mo (re0 g) 4 f))]) rfl ?_
  refine lv_goto (tgt := 86) hx hb dX4_truth_71 (by decide) ?_
  refine lv_istore (lv' := [(7, .int (iI (rnds mo (re0 g) 4 f))), (6, .int (iI (0))), (0, .ref o), (1, .int (iI (((f : Nat) : Int)))), (2, .int (iI (((g : Nat) : Int)))), (3, .int (iI (((bk : Nat) : Int)))), (4, .int (iI (0))), (5, .int (iI (1)))]) hx hb dX4_truth_86 hl (by decide) rfl (fun ls hl => ?_)
  refine lv_iload hx hb dX4_truth_88 (lv_at hl 0 rfl) ?_
  refine w_ldc (z := 1000000000) S (List.mem_of_getElem? (i := 7) rfl) (by decide) dX4_truth_90 ?_
  refine c_neT (tgt := 98) S dX4_truth_92 (by decide) (by omega) (by omega) (by omega) ?_
  refine lv_aload_n hx hb dX4_truth_98 rfl (lv_at hl 2 rfl) ?_
  refine w_get (C := RX4) (T := TX4) (Nf := 4) (ci := 4) (v := .ref w) S (fun _ h => List.mem_cons_of_mem _ (List.mem_append_left _ (List.mem_append_left _ (List.mem_append_left _ (List.mem_append_right _ h))))) hE hP 0 rfl rfl 0 (by decide) (List.mem_of_getElem? (i := 3) rfl) rfl dX4_truth_99 ?_
  refine w_get (C := RX3) (T := TX3) (Nf := 8) (ci := 3) (v := .ref t) S (fun _ h => List.mem_cons_of_mem _ (List.mem_append_left _ (List.mem_append_left _ (List.mem_append_right _ h)))) hE hP 1 rfl rfl 6 (by decide) (List.mem_of_getElem? (i := 4) rfl) rfl dX4_truth_102 ?_
  refine lv_iload_n hx hb dX4_truth_105 rfl (lv_at hl 3 rfl) ?_
  refine lv_iload_n hx hb dX4_truth_106 rfl (lv_at hl 5 rfl) ?_
  refine kV_R (n := 2) (ci := 2) (q := (RX2, TX2, 2)) S (c_countOf lc D cI cZ N t tc ts cn sm f bk (by omega) (by omega)) gX4_truth_X2_countOf rfl rfl (by decide +kernel) rfl rfl ⟨Nat.le_trans (Nat.le_of_ble_eq_true rfl) hfr, Nat.le_trans (Nat.le_of_ble_eq_true rfl) hlo⟩ hE hAN hP hD hS [5, 6, 7] rfl (by decide) rfl rfl rfl rfl hl.1 [] rfl (Nat.le_of_ble_eq_true rfl) dX4_truth_107 ⟨Nat.zero_le _, Nat.zero_le _⟩ ?_
  refine W.eq (g2 := F0 m 110 ls [.int (iI (cn (f * 200 + bk)))]) rfl ?_
  refine w_tz (z := ((wq : Nat) : Int)) hwq ?_
  refine lv_istore (lv' := [(8, .int (iI (((wq : Nat) : Int)))), (7, .int (iI (rnds mo (re0 g) 4 f))), (6, .int (iI (0))), (0, .ref o), (1, .int (iI (((f : Nat) : Int)))), (2, .int (iI (((g : Nat) : Int)))), (3, .int (iI (((bk : Nat) : Int)))), (4, .int (iI (0))), (5, .int (iI (1)))]) hx hb dX4_truth_110 hl (by decide) rfl (fun ls hl => ?_)
  refine lv_iload hx hb dX4_truth_112 (lv_at hl 7 rfl) ?_
  refine b_neF (tgt := 125) S dX4_truth_114 (by decide) (by decide) ?_
  refine lv_iload hx hb dX4_truth_117 (lv_at hl 1 rfl) ?_
  refine lv_iload hx hb dX4_truth_119 (lv_at hl 0 rfl) ?_
  refine w_imul S dX4_truth_121 ?_
  refine lv_goto (tgt := 131) hx hb dX4_truth_122 (by decide) ?_
  refine lv_istore (lv' := [(9, .int (iI ((rnds mo (re0 g) 4 f) * ((wq : Nat) : Int)))), (8, .int (iI (((wq : Nat) : Int)))), (7, .int (iI (rnds mo (re0 g) 4 f))), (6, .int (iI (0))), (0, .ref o), (1, .int (iI (((f : Nat) : Int)))), (2, .int (iI (((g : Nat) : Int)))), (3, .int (iI (((bk : Nat) : Int)))), (4, .int (iI (0))), (5, .int (iI (1)))]) hx hb dX4_truth_131 hl (by decide) rfl (fun ls hl => ?_)
  refine lv_aload_n hx hb dX4_truth_133 rfl (lv_at hl 4 rfl) ?_
  refine w_get (C := RX4) (T := TX4) (Nf := 4) (ci := 4) (v := .ref w) S (fun _ h => List.mem_cons_of_mem _ (List.mem_append_left _ (List.mem_append_left _ (List.mem_append_left _ (List.mem_append_right _ h))))) hE hP 0 rfl rfl 0 (by decide) (List.mem_of_getElem? (i := 3) rfl) rfl dX4_truth_134 ?_
  refine w_get (C := RX3) (T := TX3) (Nf := 8) (ci := 3) (v := .ref t) S (fun _ h => List.mem_cons_of_mem _ (List.mem_append_left _ (List.mem_append_left _ (List.mem_append_right _ h)))) hE hP 1 rfl rfl 6 (by decide) (List.mem_of_getElem? (i := 4) rfl) rfl dX4_truth_137 ?_
  refine lv_iload_n hx hb dX4_truth_140 rfl (lv_at hl 5 rfl) ?_
  refine lv_iload_n hx hb dX4_truth_141 rfl (lv_at hl 6 rfl) ?_
  refine lv_iload_n hx hb dX4_truth_142 rfl (lv_at hl 7 rfl) ?_
  refine kV_R (n := 3) (ci := 2) (q := (RX2, TX2, 2)) S (c_tookUpper lc D cI cZ N t tc ts cn sm f g bk (by omega) (by omega) (by omega)) gX4_truth_X2_tookUpper rfl rfl (by decide +kernel) rfl rfl ⟨Nat.le_trans (Nat.le_of_ble_eq_true rfl) hfr, Nat.le_trans (Nat.le_of_ble_eq_true rfl) hlo⟩ hE hAN hP hD hS [5, 6, 7] rfl (by decide) rfl rfl rfl rfl hl.1 [] rfl (Nat.le_of_ble_eq_true rfl) dX4_truth_143 ⟨Nat.zero_le _, Nat.zero_le _⟩ ?_
  refine W.eq (g2 := F0 m 146 ls [.int (iI (sm (g * 200 + bk) - sm (f * 200 + bk)))]) rfl ?_
  refine lv_iload hx hb dX4_truth_146 (lv_at hl 0 rfl) ?_
  refine w_iadd S dX4_truth_148 ?_
  refine lv_iload hx hb dX4_truth_149 (lv_at hl 1 rfl) ?_
  refine lv_iload hx hb dX4_truth_151 (lv_at hl 9 rfl) ?_
  refine kS_R (n := 3) S (c_fraction_1 lc D cI cZ N ((sm (g * 200 + bk) - sm (f * 200 + bk)) + ((rnds mo (re0 g) 4 f) * ((wq : Nat) : Int))) wq 1 (by omega) (by omega) (by omega)) gX4_truth_X4_fractionPart rfl (by decide +kernel) rfl rfl ⟨Nat.le_trans (Nat.le_of_ble_eq_true rfl) hfr, Nat.le_trans (Nat.le_of_ble_eq_true rfl) hlo⟩ hE hAN hP hD hS [] rfl (by decide) rfl hl.1 [] rfl (Nat.le_of_ble_eq_true rfl) dX4_truth_153 ⟨Nat.zero_le _, Nat.zero_le _⟩ ?_
  refine W.eq (g2 := F0 m 156 ls [.int (iI (((wq : Nat) : Int).tdiv ((Nat.gcd ((sm (g * 200 + bk) - sm (f * 200 + bk)) + ((rnds mo (re0 g) 4 f) * ((wq : Nat) : Int))).natAbs wq : Nat) : Int)))]) rfl ?_
  exact hret _ _ _ _ _ dX4_truth_156 (congrArg iI (by omega)) hP hS
set_option maxHeartbeats 4000000 in
set_option maxRecDepth 100000 in
theorem c_truth_T1 (lc : Launch) (D : va_G) (cI cZ : ClassId) (N : Nat) (o : Nat) (v2 : Nat) (v3 : Nat) (ik : Int) (w : Nat) (wc : Nat) (k : Nat) (kn : Nat) (t : Nat) (tc : Nat) (ts : Nat) (b : Nat) (bm : Nat) (br : Nat) (mn : Nat) (tA : Int) (sA : Int) (kA : Int) (ck : Nat → Int) (nb : Nat → Int) (cn : Nat → Int) (sm : Nat → Int) (mo : Nat → Int) (re : Nat → Int) (f : Nat) (g : Nat) (bk : Nat) (u : Int) (hmn : 2 ≤ mn ∧ mn ≤ 5) (hfg : f < g) (hgm : g < mn) (hbk : bk < 200) (hcn : ∀ k, k < 1000 → 0 ≤ cn k ∧ cn k ≤ 200) (hmo : ∀ k, k < 25 → -1000 ≤ mo k ∧ mo k ≤ 1000000000) (r_u : -2147483648 ≤ u ∧ u ≤ 2147483647) (h : (0 ≤ u ∧ u ≤ 1)) (h2 : 0 < cn (f * 200 + bk) ∧ cn (f * 200 + bk) = cn (g * 200 + bk)) (h5 : rnds mo (re0 f) 4 g = 1000000000) : CM lc D cI cZ N yX4_truth wsX4_truth (rmK 4 90) [.ref o, .int (iI (((f : Nat) : Int))), .int (iI (((g : Nat) : Int))), .int (iI (((bk : Nat) : Int))), .int (iI (1)), .int (iI (u))] [(o, .inr (4, [.ref w, .ref v2, .ref v3, .int (iI (ik))])), (w, .inr (3, [.int (iI (((mn : Nat) : Int))), .int (iI (tA)), .int (iI (sA)), .int (iI (kA)), .ref wc, .ref k, .ref t, .ref b])), (wc, .inl (cI, 5, .inl (vI ck))), (k, .inr (1, [.ref kn])), (kn, .inl (cI, 24, .inl (vI nb))), (t, .inr (2, [.ref tc, .ref ts])), (tc, .inl (cI, 1000, .inl (vI cn))), (ts, .inl (cI, 1000, .inl (vI sm))), (b, .inr (0, [.ref bm, .ref br])), (bm, .inl (cI, 25, .inl (vI mo))), (br, .inl (cI, 5, .inl (vI re)))] (some (.int (iI (-1000000006)))) [(o, .inr (4, [.ref w, .ref v2, .ref v3, .int (iI (ik))])), (w, .inr (3, [.int (iI (((mn : Nat) : Int))), .int (iI (tA)), .int (iI (sA)), .int (iI (kA)), .ref wc, .ref k, .ref t, .ref b])), (wc, .inl (cI, 5, .inl (vI ck))), (k, .inr (1, [.ref kn])), (kn, .inl (cI, 24, .inl (vI nb))), (t, .inr (2, [.ref tc, .ref ts])), (tc, .inl (cI, 1000, .inl (vI cn))), (ts, .inl (cI, 1000, .inl (vI sm))), (b, .inr (0, [.ref bm, .ref br])), (bm, .inl (cI, 25, .inl (vI mo))), (br, .inl (cI, 5, .inl (vI (rnds mo (re0 f) 4))))] := by
  refine CM.I (cc := cX4_truth) (maxL := 10) (by decide) rfl (Nat.le_of_ble_eq_true rfl) ?_
  intro p e s m args below meth c R Q S hE A hAN hfr hlo hP hD hS hret ls hl
  have S : CallFix p m c cX4_truth 10 s args wsX4_truth RX4 := S
  have hx := S.1
  have hb := S.2.1
  have hl : lv_has ls 10 [(0, .ref o), (1, .int (iI (((f : Nat) : Int)))), (2, .int (iI (((g : Nat) : Int)))), (3, .int (iI (((bk : Nat) : Int)))), (4, .int (iI (1))), (5, .int (iI (u)))] := hl
  have g1 := rnds_rng (Int.le_refl 0) hmo (re0_rng f) 4 g (by omega)
  refine lv_aload_n hx hb dX4_truth_0 rfl (lv_at hl 0 rfl) ?_
  refine lv_iload_n hx hb dX4_truth_1 rfl (lv_at hl 1 rfl) ?_
  refine lv_iload_n hx hb dX4_truth_2 rfl (lv_at hl 2 rfl) ?_
  refine lv_iload_n hx hb dX4_truth_3 rfl (lv_at hl 3 rfl) ?_
  refine lv_iload hx hb dX4_truth_4 (lv_at hl 5 rfl) ?_
  refine kV_R (n := 4) (ci := 4) (q := (RX4, TX4, 4)) S (c_tref lc D cI cZ N o v2 v3 ik w wc k kn t tc ts b bm br mn tA sA kA ck nb cn sm mo re ((f : Nat) : Int) ((g : Nat) : Int) ((bk : Nat) : Int) u (by omega) (by omega) (by omega) (by omega) (by omega) (by omega) (by omega) (by omega)) gX4_truth_X4_tookRefusal rfl rfl (by decide +kernel) rfl rfl ⟨Nat.le_trans (Nat.le_of_ble_eq_true rfl) hfr, Nat.le_trans (Nat.le_of_ble_eq_true rfl) hlo⟩ hE hAN hP hD hS [0, 1, 2, 3, 4, 5, 6, 7, 8, 9, 10] rfl (by decide) rfl rfl rfl rfl hl.1 [] rfl (Nat.le_of_ble_eq_true rfl) dX4_truth_6 ⟨Nat.zero_le _, Nat.zero_le _⟩ ?_
  refine W.eq (g2 := F0 m 9 ls [.int (iI (0))]) rfl ?_
  refine lv_istore (lv' := [(6, .int (iI (0))), (0, .ref o), (1, .int (iI (((f : Nat) : Int)))), (2, .int (iI (((g : Nat) : Int)))), (3, .int (iI (((bk : Nat) : Int)))), (4, .int (iI (1))), (5, .int (iI (u)))]) hx hb dX4_truth_9 hl (by decide) rfl (fun ls hl => ?_)
  refine lv_iload hx hb dX4_truth_11 (lv_at hl 0 rfl) ?_
  refine b_eqT (tgt := 22) S dX4_truth_13 (by decide) (by decide) ?_
  refine lv_iload hx hb dX4_truth_22 (lv_at hl 5 rfl) ?_
  refine lv_iconst (v := iI (0)) hx hb dX4_truth_24 rfl ?_
  refine lv_iconst (v := iI (1)) hx hb dX4_truth_25 rfl ?_
  refine kS_R (n := 3) S (c_within_T lc D cI cZ N 1 0 1 (by omega) (by omega) (by omega) (by omega)) gX4_truth_X4_within rfl (by decide +kernel) rfl rfl ⟨Nat.le_trans (Nat.le_of_ble_eq_true rfl) hfr, Nat.le_trans (Nat.le_of_ble_eq_true rfl) hlo⟩ hE hAN hP hD hS [] rfl (by decide) rfl hl.1 [] rfl (Nat.le_of_ble_eq_true rfl) dX4_truth_26 ⟨Nat.zero_le _, Nat.zero_le _⟩ ?_
  refine W.eq (g2 := F0 m 29 ls [.int (iI (1))]) rfl ?_
  refine b_neT (tgt := 35) S dX4_truth_29 (by decide) (by decide) (by decide) ?_
  refine lv_aload_n hx hb dX4_truth_35 rfl (lv_at hl 1 rfl) ?_
  refine w_get (C := RX4) (T := TX4) (Nf := 4) (ci := 4) (v := .ref w) S (fun _ h => List.mem_cons_of_mem _ (List.mem_append_left _ (List.mem_append_left _ (List.mem_append_left _ (List.mem_append_right _ h))))) hE hP 0 rfl rfl 0 (by decide) (List.mem_of_getElem? (i := 3) rfl) rfl dX4_truth_36 ?_
  refine w_get (C := RX3) (T := TX3) (Nf := 8) (ci := 3) (v := .ref t) S (fun _ h => List.mem_cons_of_mem _ (List.mem_append_left _ (List.mem_append_left _ (List.mem_append_right _ h)))) hE hP 1 rfl rfl 6 (by decide) (List.mem_of_getElem? (i := 4) rfl) rfl dX4_truth_39 ?_
  refine lv_iload_n hx hb dX4_truth_42 rfl (lv_at hl 2 rfl) ?_
  refine lv_iload_n hx hb dX4_truth_43 rfl (lv_at hl 3 rfl) ?_
  refine lv_iload_n hx hb dX4_truth_44 rfl (lv_at hl 4 rfl) ?_
  refine kV_R (n := 3) (ci := 2) (q := (RX2, TX2, 2)) S (c_hasTook_T lc D cI cZ N t tc ts cn sm f g bk (by omega) (by omega) (by omega) (by omega) (by omega)) gX4_truth_X2_hasTook rfl rfl (by decide +kernel) rfl rfl ⟨Nat.le_trans (Nat.le_of_ble_eq_true rfl) hfr, Nat.le_trans (Nat.le_of_ble_eq_true rfl) hlo⟩ hE hAN hP hD hS [5, 6, 7] rfl (by decide) rfl rfl rfl rfl hl.1 [] rfl (Nat.le_of_ble_eq_true rfl) dX4_truth_45 ⟨Nat.zero_le _, Nat.zero_le _⟩ ?_
  refine W.eq (g2 := F0 m 48 ls [.int (iI (1))]) rfl ?_
  refine b_neT (tgt := 54) S dX4_truth_48 (by decide) (by decide) (by decide) ?_
  refine lv_iload hx hb dX4_truth_54 (lv_at hl 5 rfl) ?_
  refine b_neT (tgt := 74) S dX4_truth_56 (by decide) (by decide) (by decide) ?_
  refine lv_aload_n hx hb dX4_truth_74 rfl (lv_at hl 1 rfl) ?_
  refine w_get (C := RX4) (T := TX4) (Nf := 4) (ci := 4) (v := .ref w) S (fun _ h => List.mem_cons_of_mem _ (List.mem_append_left _ (List.mem_append_left _ (List.mem_append_left _ (List.mem_append_right _ h))))) hE hP 0 rfl rfl 0 (by decide) (List.mem_of_getElem? (i := 3) rfl) rfl dX4_truth_75 ?_
  refine w_get (C := RX3) (T := TX3) (Nf := 8) (ci := 3) (v := .ref b) S (fun _ h => List.mem_cons_of_mem _ (List.mem_append_left _ (List.mem_append_left _ (List.mem_append_right _ h)))) hE hP 1 rfl rfl 7 (by decide) (List.mem_of_getElem? (i := 6) rfl) rfl dX4_truth_78 ?_
  refine lv_iload_n hx hb dX4_truth_81 rfl (lv_at hl 2 rfl) ?_
  refine lv_iload_n hx hb dX4_truth_82 rfl (lv_at hl 3 rfl) ?_
  refine kV_M (n := 2) (ci := 0) (q := (RX0, TX0, 2)) S (c_tightest lc D cI cZ N b bm br mo re f g (by omega) (by omega) (by omega)) gX4_truth_X0_tightest rfl rfl (by decide +kernel) rfl rfl ⟨Nat.le_trans (Nat.le_of_ble_eq_true rfl) hfr, Nat.le_trans (Nat.le_of_ble_eq_true rfl) hlo⟩ hE hAN hP hD hS [8, 9, 10] rfl (by decide) rfl rfl rfl rfl rfl hl.1 [] rfl (Nat.le_of_ble_eq_true rfl) dX4_truth_83 ⟨Nat.zero_le _, Nat.zero_le _⟩ (fun H locs hP hD hS => ?_)
  have hP : va_P D vwCl [(o, .inr (4, [.ref w, .ref v2, .ref v3, .int (iI (ik))])), (w, .inr (3, [.int (iI (((mn : Nat) : Int))), .int (iI (tA)), .int (iI (sA)), .int (iI (kA)), .ref wc, .ref k, .ref t, .ref b])), (wc, .inl (cI, 5, .inl (vI ck))), (k, .inr (1, [.ref kn])), (kn, .inl (cI, 24, .inl (vI nb))), (t, .inr (2, [.ref tc, .ref ts])), (tc, .inl (cI, 1000, .inl (vI cn))), (ts, .inl (cI, 1000, .inl (vI sm))), (b, .inr (0, [.ref bm, .ref br])), (bm, .inl (cI, 25, .inl (vI mo))), (br, .inl (cI, 5, .inl (vI (rnds mo (re0 f) 4))))] H := hP
  have hD : va_D A [(o, .inr (4, [.ref w, .ref v2, .ref v3, .int (iI (ik))])), (w, .inr (3, [.int (iI (((mn : Nat) : Int))), .int (iI (tA)), .int (iI (sA)), .int (iI (kA)), .ref wc, .ref k, .ref t, .ref b])), (wc, .inl (cI, 5, .inl (vI ck))), (k, .inr (1, [.ref kn])), (kn, .inl (cI, 24, .inl (vI nb))), (t, .inr (2, [.ref tc, .ref ts])), (tc, .inl (cI, 1000, .inl (vI cn))), (ts, .inl (cI, 1000, .inl (vI sm))), (b, .inr (0, [.ref bm, .ref br])), (bm, .inl (cI, 25, .inl (vI mo))), (br, .inl (cI, 5, .inl (vI (rnds mo (re0 f) 4))))] := hD
  refine W.eq (g2 := F0 m 86 ls [.int (iI (rnds mo (re0 f) 4 g))]) rfl ?_
  refine lv_istore (lv' := [(7, .int (iI (rnds mo (re0 f) 4 g))), (6, .int (iI (0))), (0, .ref o), (1, .int (iI (((f : Nat) : Int)))), (2, .int (iI (((g : Nat) : Int)))), (3, .int (iI (((bk : Nat) : Int)))), (4, .int (iI (1))), (5, .int (iI (u)))]) hx hb dX4_truth_86 hl (by decide) rfl (fun ls hl => ?_)
  refine lv_iload hx hb dX4_truth_88 (lv_at hl 0 rfl) ?_
  refine w_ldc (z := 1000000000) S (List.mem_of_getElem? (i := 7) rfl) (by decide) dX4_truth_90 ?_
  refine c_neF (tgt := 98) S dX4_truth_92 (by decide) (by omega) ?_
  refine w_ldc (z := (-1000000006)) S (List.mem_of_getElem? (i := 8) rfl) (by decide) dX4_truth_95 ?_
  exact hret _ _ _ _ _ dX4_truth_97 (congrArg iI (by omega)) hP hS
set_option maxHeartbeats 4000000 in
set_option maxRecDepth 100000 in
theorem c_truth_10 (lc : Launch) (D : va_G) (cI cZ : ClassId) (N : Nat) (o : Nat) (v2 : Nat) (v3 : Nat) (ik : Int) (w : Nat) (wc : Nat) (k : Nat) (kn : Nat) (t : Nat) (tc : Nat) (ts : Nat) (b : Nat) (bm : Nat) (br : Nat) (mn : Nat) (tA : Int) (sA : Int) (kA : Int) (ck : Nat → Int) (nb : Nat → Int) (cn : Nat → Int) (sm : Nat → Int) (mo : Nat → Int) (re : Nat → Int) (f : Nat) (g : Nat) (bk : Nat) (wq : Nat) (hmn : 2 ≤ mn ∧ mn ≤ 5) (hfg : f < g) (hgm : g < mn) (hbk : bk < 200) (hcn : ∀ k, k < 1000 → 0 ≤ cn k ∧ cn k ≤ 200) (hmo : ∀ k, k < 25 → -1000 ≤ mo k ∧ mo k ≤ 1000000000) (h2 : 0 < cn (f * 200 + bk) ∧ cn (f * 200 + bk) = cn (g * 200 + bk)) (h5 : rnds mo (re0 f) 4 g ≠ 1000000000) (hwq : cn (f * 200 + bk) = ((wq : Nat) : Int)) (hwq2 : 0 < wq ∧ wq ≤ 200) (hU : -1000000000 ≤ ((sm (g * 200 + bk) - sm (f * 200 + bk)) + (-(rnds mo (re0 f) 4 g)) * ((wq : Nat) : Int)) ∧ ((sm (g * 200 + bk) - sm (f * 200 + bk)) + (-(rnds mo (re0 f) 4 g)) * ((wq : Nat) : Int)) ≤ 1000000000) : CM lc D cI cZ N yX4_truth wsX4_truth (rmK 4 90) [.ref o, .int (iI (((f : Nat) : Int))), .int (iI (((g : Nat) : Int))), .int (iI (((bk : Nat) : Int))), .int (iI (1)), .int (iI (0))] [(o, .inr (4, [.ref w, .ref v2, .ref v3, .int (iI (ik))])), (w, .inr (3, [.int (iI (((mn : Nat) : Int))), .int (iI (tA)), .int (iI (sA)), .int (iI (kA)), .ref wc, .ref k, .ref t, .ref b])), (wc, .inl (cI, 5, .inl (vI ck))), (k, .inr (1, [.ref kn])), (kn, .inl (cI, 24, .inl (vI nb))), (t, .inr (2, [.ref tc, .ref ts])), (tc, .inl (cI, 1000, .inl (vI cn))), (ts, .inl (cI, 1000, .inl (vI sm))), (b, .inr (0, [.ref bm, .ref br])), (bm, .inl (cI, 25, .inl (vI mo))), (br, .inl (cI, 5, .inl (vI re)))] (some (.int (iI (((sm (g * 200 + bk) - sm (f * 200 + bk)) + (-(rnds mo (re0 f) 4 g)) * ((wq : Nat) : Int)).tdiv ((Nat.gcd (((sm (g * 200 + bk) - sm (f * 200 + bk)) + (-(rnds mo (re0 f) 4 g)) * ((wq : Nat) : Int))).natAbs wq : Nat) : Int))))) [(o, .inr (4, [.ref w, .ref v2, .ref v3, .int (iI (ik))])), (w, .inr (3, [.int (iI (((mn : Nat) : Int))), .int (iI (tA)), .int (iI (sA)), .int (iI (kA)), .ref wc, .ref k, .ref t, .ref b])), (wc, .inl (cI, 5, .inl (vI ck))), (k, .inr (1, [.ref kn])), (kn, .inl (cI, 24, .inl (vI nb))), (t, .inr (2, [.ref tc, .ref ts])), (tc, .inl (cI, 1000, .inl (vI cn))), (ts, .inl (cI, 1000, .inl (vI sm))), (b, .inr (0, [.ref bm, .ref br])), (bm, .inl (cI, 25, .inl (vI mo))), (br, .inl (cI, 5, .inl (vI (rnds mo (re0 f) 4))))] := by
  refine CM.I (cc := cX4_truth) (maxL := 10) (by decide) rfl (Nat.le_of_ble_eq_true rfl) ?_
  intro p e s m args below meth c R Q S hE A hAN hfr hlo hP hD hS hret ls hl
  have S : CallFix p m c cX4_truth 10 s args wsX4_truth RX4 := S
  have hx := S.1
  have hb := S.2.1
  have hl : lv_has ls 10 [(0, .ref o), (1, .int (iI (((f : Nat) : Int)))), (2, .int (iI (((g : Nat) : Int)))), (3, .int (iI (((bk : Nat) : Int)))), (4, .int (iI (1))), (5, .int (iI (0)))] := hl
  have g1 := rnds_rng (Int.le_refl 0) hmo (re0_rng f) 4 g (by omega)
  refine lv_aload_n hx hb dX4_truth_0 rfl (lv_at hl 0 rfl) ?_
  refine lv_iload_n hx hb dX4_truth_1 rfl (lv_at hl 1 rfl) ?_
  refine lv_iload_n hx hb dX4_truth_2 rfl (lv_at hl 2 rfl) ?_
  refine lv_iload_n hx hb dX4_truth_3 rfl (lv_at hl 3 rfl) ?_
  refine lv_iload hx hb dX4_truth_4 (lv_at hl 5 rfl) ?_
  refine kV_R (n := 4) (ci := 4) (q := (RX4, TX4, 4)) S (c_tref lc D cI cZ N o v2 v3 ik w wc k kn t tc ts b bm br mn tA sA kA ck nb cn sm mo re ((f : Nat) : Int) ((g : Nat) : Int) ((bk : Nat) : Int) 0 (by omega) (by omega) (by omega) (by omega) (by omega) (by omega) (by omega) (by omega)) gX4_truth_X4_tookRefusal rfl rfl (by decide +kernel) rfl rfl ⟨Nat.le_trans (Nat.le_of_ble_eq_true rfl) hfr, Nat.le_trans (Nat.le_of_ble_eq_true rfl) hlo⟩ hE hAN hP hD hS [0, 1, 2, 3, 4, 5, 6, 7, 8, 9, 10] rfl (by decide) rfl rfl rfl rfl hl.1 [] rfl (Nat.le_of_ble_eq_true rfl) dX4_truth_6 ⟨Nat.zero_le _, Nat.zero_le _⟩ ?_
  refine W.eq (g2 := F0 m 9 ls [.int (iI (0))]) rfl ?_
  refine lv_istore (lv' := [(6, .int (iI (0))), (0, .ref o), (1, .int (iI (((f : Nat) : Int)))), (2, .int (iI (((g : Nat) : Int)))), (3, .int (iI (((bk : Nat) : Int)))), (4, .int (iI (1))), (5, .int (iI (0)))]) hx hb dX4_truth_9 hl (by decide) rfl (fun ls hl => ?_)
  refine lv_iload hx hb dX4_truth_11 (lv_at hl 0 rfl) ?_
  refine b_eqT (tgt := 22) S dX4_truth_13 (by decide) (by decide) ?_
  refine lv_iload hx hb dX4_truth_22 (lv_at hl 5 rfl) ?_
  refine lv_iconst (v := iI (0)) hx hb dX4_truth_24 rfl ?_
  refine lv_iconst (v := iI (1)) hx hb dX4_truth_25 rfl ?_
  refine kS_R (n := 3) S (c_within_T lc D cI cZ N 1 0 1 (by omega) (by omega) (by omega) (by omega)) gX4_truth_X4_within rfl (by decide +kernel) rfl rfl ⟨Nat.le_trans (Nat.le_of_ble_eq_true rfl) hfr, Nat.le_trans (Nat.le_of_ble_eq_true rfl) hlo⟩ hE hAN hP hD hS [] rfl (by decide) rfl hl.1 [] rfl (Nat.le_of_ble_eq_true rfl) dX4_truth_26 ⟨Nat.zero_le _, Nat.zero_le _⟩ ?_
  refine W.eq (g2 := F0 m 29 ls [.int (iI (1))]) rfl ?_
  refine b_neT (tgt := 35) S dX4_truth_29 (by decide) (by decide) (by decide) ?_
  refine lv_aload_n hx hb dX4_truth_35 rfl (lv_at hl 1 rfl) ?_
  refine w_get (C := RX4) (T := TX4) (Nf := 4) (ci := 4) (v := .ref w) S (fun _ h => List.mem_cons_of_mem _ (List.mem_append_left _ (List.mem_append_left _ (List.mem_append_left _ (List.mem_append_right _ h))))) hE hP 0 rfl rfl 0 (by decide) (List.mem_of_getElem? (i := 3) rfl) rfl dX4_truth_36 ?_
  refine w_get (C := RX3) (T := TX3) (Nf := 8) (ci := 3) (v := .ref t) S (fun _ h => List.mem_cons_of_mem _ (List.mem_append_left _ (List.mem_append_left _ (List.mem_append_right _ h)))) hE hP 1 rfl rfl 6 (by decide) (List.mem_of_getElem? (i := 4) rfl) rfl dX4_truth_39 ?_
  refine lv_iload_n hx hb dX4_truth_42 rfl (lv_at hl 2 rfl) ?_
  refine lv_iload_n hx hb dX4_truth_43 rfl (lv_at hl 3 rfl) ?_
  refine lv_iload_n hx hb dX4_truth_44 rfl (lv_at hl 4 rfl) ?_
  refine kV_R (n := 3) (ci := 2) (q := (RX2, TX2, 2)) S (c_hasTook_T lc D cI cZ N t tc ts cn sm f g bk (by omega) (by omega) (by omega) (by omega) (by omega)) gX4_truth_X2_hasTook rfl rfl (by decide +kernel) rfl rfl ⟨Nat.le_trans (Nat.le_of_ble_eq_true rfl) hfr, Nat.le_trans (Nat.le_of_ble_eq_true rfl) hlo⟩ hE hAN hP hD hS [5, 6, 7] rfl (by decide) rfl rfl rfl rfl hl.1 [] rfl (Nat.le_of_ble_eq_true rfl) dX4_truth_45 ⟨Nat.zero_le _, Nat.zero_le _⟩ ?_
  refine W.eq (g2 := F0 m 48 ls [.int (iI (1))]) rfl ?_
  refine b_neT (tgt := 54) S dX4_truth_48 (by decide) (by decide) (by decide) ?_
  refine lv_iload hx hb dX4_truth_54 (lv_at hl 5 rfl) ?_
  refine b_neT (tgt := 74) S dX4_truth_56 (by decide) (by decide) (by decide) ?_
  refine lv_aload_n hx hb dX4_truth_74 rfl (lv_at hl 1 rfl) ?_
  refine w_get (C := RX4) (T := TX4) (Nf := 4) (ci := 4) (v := .ref w) S (fun _ h => List.mem_cons_of_mem _ (List.mem_append_left _ (List.mem_append_left _ (List.mem_append_left _ (List.mem_append_right _ h))))) hE hP 0 rfl rfl 0 (by decide) (List.mem_of_getElem? (i := 3) rfl) rfl dX4_truth_75 ?_
  refine w_get (C := RX3) (T := TX3) (Nf := 8) (ci := 3) (v := .ref b) S (fun _ h => List.mem_cons_of_mem _ (List.mem_append_left _ (List.mem_append_left _ (List.mem_append_right _ h)))) hE hP 1 rfl rfl 7 (by decide) (List.mem_of_getElem? (i := 6) rfl) rfl dX4_truth_78 ?_
  refine lv_iload_n hx hb dX4_truth_81 rfl (lv_at hl 2 rfl) ?_
  refine lv_iload_n hx hb dX4_truth_82 rfl (lv_at hl 3 rfl) ?_
  refine kV_M (n := 2) (ci := 0) (q := (RX0, TX0, 2)) S (c_tightest lc D cI cZ N b bm br mo re f g (by omega) (by omega) (by omega)) gX4_truth_X0_tightest rfl rfl (by decide +kernel) rfl rfl ⟨Nat.le_trans (Nat.le_of_ble_eq_true rfl) hfr, Nat.le_trans (Nat.le_of_ble_eq_true rfl) hlo⟩ hE hAN hP hD hS [8, 9, 10] rfl (by decide) rfl rfl rfl rfl rfl hl.1 [] rfl (Nat.le_of_ble_eq_true rfl) dX4_truth_83 ⟨Nat.zero_le _, Nat.zero_le _⟩ (fun H locs hP hD hS => ?_)
  have hP : va_P D vwCl [(o, .inr (4, [.ref w, .ref v2, .ref v3, .int (iI (ik))])), (w, .inr (3, [.int (iI (((mn : Nat) : Int))), .int (iI (tA)), .int (iI (sA)), .int (iI (kA)), .ref wc, .ref k, .ref t, .ref b])), (wc, .inl (cI, 5, .inl (vI ck))), (k, .inr (1, [.ref kn])), (kn, .inl (cI, 24, .inl (vI nb))), (t, .inr (2, [.ref tc, .ref ts])), (tc, .inl (cI, 1000, .inl (vI cn))), (ts, .inl (cI, 1000, .inl (vI sm))), (b, .inr (0, [.ref bm, .ref br])), (bm, .inl (cI, 25, .inl (vI mo))), (br, .inl (cI, 5, .inl (vI (rnds mo (re0 f) 4))))] H := hP
  have hD : va_D A [(o, .inr (4, [.ref w, .ref v2, .ref v3, .int (iI (ik))])), (w, .inr (3, [.int (iI (((mn : Nat) : Int))), .int (iI (tA)), .int (iI (sA)), .int (iI (kA)), .ref wc, .ref k, .ref t, .ref b])), (wc, .inl (cI, 5, .inl (vI ck))), (k, .inr (1, [.ref kn])), (kn, .inl (cI, 24, .inl (vI nb))), (t, .inr (2, [.ref tc, .ref ts])), (tc, .inl (cI, 1000, .inl (vI cn))), (ts, .inl (cI, 1000, .inl (vI sm))), (b, .inr (0, [.ref bm, .ref br])), (bm, .inl (cI, 25, .inl (vI mo))), (br, .inl (cI, 5, .inl (vI (rnds mo (re0 f) 4))))] := hD
  refine W.eq (g2 := F0 m 86 ls [.int (iI (rnds mo (re0 f) 4 g))]) rfl ?_
  refine lv_istore (lv' := [(7, .int (iI (rnds mo (re0 f) 4 g))), (6, .int (iI (0))), (0, .ref o), (1, .int (iI (((f : Nat) : Int)))), (2, .int (iI (((g : Nat) : Int)))), (3, .int (iI (((bk : Nat) : Int)))), (4, .int (iI (1))), (5, .int (iI (0)))]) hx hb dX4_truth_86 hl (by decide) rfl (fun ls hl => ?_)
  refine lv_iload hx hb dX4_truth_88 (lv_at hl 0 rfl) ?_
  refine w_ldc (z := 1000000000) S (List.mem_of_getElem? (i := 7) rfl) (by decide) dX4_truth_90 ?_
  refine c_neT (tgt := 98) S dX4_truth_92 (by decide) (by omega) (by omega) (by omega) ?_
  refine lv_aload_n hx hb dX4_truth_98 rfl (lv_at hl 2 rfl) ?_
  refine w_get (C := RX4) (T := TX4) (Nf := 4) (ci := 4) (v := .ref w) S (fun _ h => List.mem_cons_of_mem _ (List.mem_append_left _ (List.mem_append_left _ (List.mem_append_left _ (List.mem_append_right _ h))))) hE hP 0 rfl rfl 0 (by decide) (List.mem_of_getElem? (i := 3) rfl) rfl dX4_truth_99 ?_
  refine w_get (C := RX3) (T := TX3) (Nf := 8) (ci := 3) (v := .ref t) S (fun _ h => List.mem_cons_of_mem _ (List.mem_append_left _ (List.mem_append_left _ (List.mem_append_right _ h)))) hE hP 1 rfl rfl 6 (by decide) (List.mem_of_getElem? (i := 4) rfl) rfl dX4_truth_102 ?_
  refine lv_iload_n hx hb dX4_truth_105 rfl (lv_at hl 3 rfl) ?_
  refine lv_iload_n hx hb dX4_truth_106 rfl (lv_at hl 5 rfl) ?_
  refine kV_R (n := 2) (ci := 2) (q := (RX2, TX2, 2)) S (c_countOf lc D cI cZ N t tc ts cn sm f bk (by omega) (by omega)) gX4_truth_X2_countOf rfl rfl (by decide +kernel) rfl rfl ⟨Nat.le_trans (Nat.le_of_ble_eq_true rfl) hfr, Nat.le_trans (Nat.le_of_ble_eq_true rfl) hlo⟩ hE hAN hP hD hS [5, 6, 7] rfl (by decide) rfl rfl rfl rfl hl.1 [] rfl (Nat.le_of_ble_eq_true rfl) dX4_truth_107 ⟨Nat.zero_le _, Nat.zero_le _⟩ ?_
  refine W.eq (g2 := F0 m 110 ls [.int (iI (cn (f * 200 + bk)))]) rfl ?_
  refine w_tz (z := ((wq : Nat) : Int)) hwq ?_
  refine lv_istore (lv' := [(8, .int (iI (((wq : Nat) : Int)))), (7, .int (iI (rnds mo (re0 f) 4 g))), (6, .int (iI (0))), (0, .ref o), (1, .int (iI (((f : Nat) : Int)))), (2, .int (iI (((g : Nat) : Int)))), (3, .int (iI (((bk : Nat) : Int)))), (4, .int (iI (1))), (5, .int (iI (0)))]) hx hb dX4_truth_110 hl (by decide) rfl (fun ls hl => ?_)
  refine lv_iload hx hb dX4_truth_112 (lv_at hl 7 rfl) ?_
  refine b_neT (tgt := 125) S dX4_truth_114 (by decide) (by decide) (by decide) ?_
  refine lv_iload hx hb dX4_truth_125 (lv_at hl 1 rfl) ?_
  refine w_ineg S dX4_truth_127 ?_
  refine lv_iload hx hb dX4_truth_128 (lv_at hl 0 rfl) ?_
  refine w_imul S dX4_truth_130 ?_
  refine lv_istore (lv' := [(9, .int (iI ((-(rnds mo (re0 f) 4 g)) * ((wq : Nat) : Int)))), (8, .int (iI (((wq : Nat) : Int)))), (7, .int (iI (rnds mo (re0 f) 4 g))), (6, .int (iI (0))), (0, .ref o), (1, .int (iI (((f : Nat) : Int)))), (2, .int (iI (((g : Nat) : Int)))), (3, .int (iI (((bk : Nat) : Int)))), (4, .int (iI (1))), (5, .int (iI (0)))]) hx hb dX4_truth_131 hl (by decide) rfl (fun ls hl => ?_)
  refine lv_aload_n hx hb dX4_truth_133 rfl (lv_at hl 4 rfl) ?_
  refine w_get (C := RX4) (T := TX4) (Nf := 4) (ci := 4) (v := .ref w) S (fun _ h => List.mem_cons_of_mem _ (List.mem_append_left _ (List.mem_append_left _ (List.mem_append_left _ (List.mem_append_right _ h))))) hE hP 0 rfl rfl 0 (by decide) (List.mem_of_getElem? (i := 3) rfl) rfl dX4_truth_134 ?_
  refine w_get (C := RX3) (T := TX3) (Nf := 8) (ci := 3) (v := .ref t) S (fun _ h => List.mem_cons_of_mem _ (List.mem_append_left _ (List.mem_append_left _ (List.mem_append_right _ h)))) hE hP 1 rfl rfl 6 (by decide) (List.mem_of_getElem? (i := 4) rfl) rfl dX4_truth_137 ?_
  refine lv_iload_n hx hb dX4_truth_140 rfl (lv_at hl 5 rfl) ?_
  refine lv_iload_n hx hb dX4_truth_141 rfl (lv_at hl 6 rfl) ?_
  refine lv_iload_n hx hb dX4_truth_142 rfl (lv_at hl 7 rfl) ?_
  refine kV_R (n := 3) (ci := 2) (q := (RX2, TX2, 2)) S (c_tookUpper lc D cI cZ N t tc ts cn sm f g bk (by omega) (by omega) (by omega)) gX4_truth_X2_tookUpper rfl rfl (by decide +kernel) rfl rfl ⟨Nat.le_trans (Nat.le_of_ble_eq_true rfl) hfr, Nat.le_trans (Nat.le_of_ble_eq_true rfl) hlo⟩ hE hAN hP hD hS [5, 6, 7] rfl (by decide) rfl rfl rfl rfl hl.1 [] rfl (Nat.le_of_ble_eq_true rfl) dX4_truth_143 ⟨Nat.zero_le _, Nat.zero_le _⟩ ?_
  refine W.eq (g2 := F0 m 146 ls [.int (iI (sm (g * 200 + bk) - sm (f * 200 + bk)))]) rfl ?_
  refine lv_iload hx hb dX4_truth_146 (lv_at hl 0 rfl) ?_
  refine w_iadd S dX4_truth_148 ?_
  refine lv_iload hx hb dX4_truth_149 (lv_at hl 1 rfl) ?_
  refine lv_iload hx hb dX4_truth_151 (lv_at hl 9 rfl) ?_
  refine kS_R (n := 3) S (c_fraction_0 lc D cI cZ N ((sm (g * 200 + bk) - sm (f * 200 + bk)) + ((-(rnds mo (re0 f) 4 g)) * ((wq : Nat) : Int))) wq 0 (by omega) (by omega) (by omega)) gX4_truth_X4_fractionPart rfl (by decide +kernel) rfl rfl ⟨Nat.le_trans (Nat.le_of_ble_eq_true rfl) hfr, Nat.le_trans (Nat.le_of_ble_eq_true rfl) hlo⟩ hE hAN hP hD hS [] rfl (by decide) rfl hl.1 [] rfl (Nat.le_of_ble_eq_true rfl) dX4_truth_153 ⟨Nat.zero_le _, Nat.zero_le _⟩ ?_
  refine W.eq (g2 := F0 m 156 ls [.int (iI (((sm (g * 200 + bk) - sm (f * 200 + bk)) + ((-(rnds mo (re0 f) 4 g)) * ((wq : Nat) : Int))).tdiv ((Nat.gcd ((sm (g * 200 + bk) - sm (f * 200 + bk)) + ((-(rnds mo (re0 f) 4 g)) * ((wq : Nat) : Int))).natAbs wq : Nat) : Int)))]) rfl ?_
  exact hret _ _ _ _ _ dX4_truth_156 (congrArg iI (by omega)) hP hS
set_option maxHeartbeats 4000000 in
set_option maxRecDepth 100000 in
theorem c_truth_11 (lc : Launch) (D : va_G) (cI cZ : ClassId) (N : Nat) (o : Nat) (v2 : Nat) (v3 : Nat) (ik : Int) (w : Nat) (wc : Nat) (k : Nat) (kn : Nat) (t : Nat) (tc : Nat) (ts : Nat) (b : Nat) (bm : Nat) (br : Nat) (mn : Nat) (tA : Int) (sA : Int) (kA : Int) (ck : Nat → Int) (nb : Nat → Int) (cn : Nat → Int) (sm : Nat → Int) (mo : Nat → Int) (re : Nat → Int) (f : Nat) (g : Nat) (bk : Nat) (wq : Nat) (hmn : 2 ≤ mn ∧ mn ≤ 5) (hfg : f < g) (hgm : g < mn) (hbk : bk < 200) (hcn : ∀ k, k < 1000 → 0 ≤ cn k ∧ cn k ≤ 200) (hmo : ∀ k, k < 25 → -1000 ≤ mo k ∧ mo k ≤ 1000000000) (h2 : 0 < cn (f * 200 + bk) ∧ cn (f * 200 + bk) = cn (g * 200 + bk)) (h5 : rnds mo (re0 f) 4 g ≠ 1000000000) (hwq : cn (f * 200 + bk) = ((wq : Nat) : Int)) (hwq2 : 0 < wq ∧ wq ≤ 200) (hU : -1000000000 ≤ ((sm (g * 200 + bk) - sm (f * 200 + bk)) + (-(rnds mo (re0 f) 4 g)) * ((wq : Nat) : Int)) ∧ ((sm (g * 200 + bk) - sm (f * 200 + bk)) + (-(rnds mo (re0 f) 4 g)) * ((wq : Nat) : Int)) ≤ 1000000000) : CM lc D cI cZ N yX4_truth wsX4_truth (rmK 4 90) [.ref o, .int (iI (((f : Nat) : Int))), .int (iI (((g : Nat) : Int))), .int (iI (((bk : Nat) : Int))), .int (iI (1)), .int (iI (1))] [(o, .inr (4, [.ref w, .ref v2, .ref v3, .int (iI (ik))])), (w, .inr (3, [.int (iI (((mn : Nat) : Int))), .int (iI (tA)), .int (iI (sA)), .int (iI (kA)), .ref wc, .ref k, .ref t, .ref b])), (wc, .inl (cI, 5, .inl (vI ck))), (k, .inr (1, [.ref kn])), (kn, .inl (cI, 24, .inl (vI nb))), (t, .inr (2, [.ref tc, .ref ts])), (tc, .inl (cI, 1000, .inl (vI cn))), (ts, .inl (cI, 1000, .inl (vI sm))), (b, .inr (0, [.ref bm, .ref br])), (bm, .inl (cI, 25, .inl (vI mo))), (br, .inl (cI, 5, .inl (vI re)))] (some (.int (iI (((wq : Nat) : Int).tdiv ((Nat.gcd (((sm (g * 200 + bk) - sm (f * 200 + bk)) + (-(rnds mo (re0 f) 4 g)) * ((wq : Nat) : Int))).natAbs wq : Nat) : Int))))) [(o, .inr (4, [.ref w, .ref v2, .ref v3, .int (iI (ik))])), (w, .inr (3, [.int (iI (((mn : Nat) : Int))), .int (iI (tA)), .int (iI (sA)), .int (iI (kA)), .ref wc, .ref k, .ref t, .ref b])), (wc, .inl (cI, 5, .inl (vI ck))), (k, .inr (1, [.ref kn])), (kn, .inl (cI, 24, .inl (vI nb))), (t, .inr (2, [.ref tc, .ref ts])), (tc, .inl (cI, 1000, .inl (vI cn))), (ts, .inl (cI, 1000, .inl (vI sm))), (b, .inr (0, [.ref bm, .ref br])), (bm, .inl (cI, 25, .inl (vI mo))), (br, .inl (cI, 5, .inl (vI (rnds mo (re0 f) 4))))] := by
  refine CM.I (cc := cX4_truth) (maxL := 10) (by decide) rfl (Nat.le_of_ble_eq_true rfl) ?_
  intro p e s m args below meth c R Q S hE A hAN hfr hlo hP hD hS hret ls hl
  have S : CallFix p m c cX4_truth 10 s args wsX4_truth RX4 := S
  have hx := S.1
  have hb := S.2.1
  have hl : lv_has ls 10 [(0, .ref o), (1, .int (iI (((f : Nat) : Int)))), (2, .int (iI (((g : Nat) : Int)))), (3, .int (iI (((bk : Nat) : Int)))), (4, .int (iI (1))), (5, .int (iI (1)))] := hl
  have g1 := rnds_rng (Int.le_refl 0) hmo (re0_rng f) 4 g (by omega)
  refine lv_aload_n hx hb dX4_truth_0 rfl (lv_at hl 0 rfl) ?_
  refine lv_iload_n hx hb dX4_truth_1 rfl (lv_at hl 1 rfl) ?_
  refine lv_iload_n hx hb dX4_truth_2 rfl (lv_at hl 2 rfl) ?_
  refine lv_iload_n hx hb dX4_truth_3 rfl (lv_at hl 3 rfl) ?_
  refine lv_iload hx hb dX4_truth_4 (lv_at hl 5 rfl) ?_
  refine kV_R (n := 4) (ci := 4) (q := (RX4, TX4, 4)) S (c_tref lc D cI cZ N o v2 v3 ik w wc k kn t tc ts b bm br mn tA sA kA ck nb cn sm mo re ((f : Nat) : Int) ((g : Nat) : Int) ((bk : Nat) : Int) 1 (by omega) (by omega) (by omega) (by omega) (by omega) (by omega) (by omega) (by omega)) gX4_truth_X4_tookRefusal rfl rfl (by decide +kernel) rfl rfl ⟨Nat.le_trans (Nat.le_of_ble_eq_true rfl) hfr, Nat.le_trans (Nat.le_of_ble_eq_true rfl) hlo⟩ hE hAN hP hD hS [0, 1, 2, 3, 4, 5, 6, 7, 8, 9, 10] rfl (by decide) rfl rfl rfl rfl hl.1 [] rfl (Nat.le_of_ble_eq_true rfl) dX4_truth_6 ⟨Nat.zero_le _, Nat.zero_le _⟩ ?_
  refine W.eq (g2 := F0 m 9 ls [.int (iI (0))]) rfl ?_
  refine lv_istore (lv' := [(6, .int (iI (0))), (0, .ref o), (1, .int (iI (((f : Nat) : Int)))), (2, .int (iI (((g : Nat) : Int)))), (3, .int (iI (((bk : Nat) : Int)))), (4, .int (iI (1))), (5, .int (iI (1)))]) hx hb dX4_truth_9 hl (by decide) rfl (fun ls hl => ?_)
  refine lv_iload hx hb dX4_truth_11 (lv_at hl 0 rfl) ?_
  refine b_eqT (tgt := 22) S dX4_truth_13 (by decide) (by decide) ?_
  refine lv_iload hx hb dX4_truth_22 (lv_at hl 5 rfl) ?_
  refine lv_iconst (v := iI (0)) hx hb dX4_truth_24 rfl ?_
  refine lv_iconst (v := iI (1)) hx hb dX4_truth_25 rfl ?_
  refine kS_R (n := 3) S (c_within_T lc D cI cZ N 1 0 1 (by omega) (by omega) (by omega) (by omega)) gX4_truth_X4_within rfl (by decide +kernel) rfl rfl ⟨Nat.le_trans (Nat.le_of_ble_eq_true rfl) hfr, Nat.le_trans (Nat.le_of_ble_eq_true rfl) hlo⟩ hE hAN hP hD hS [] rfl (by decide) rfl hl.1 [] rfl (Nat.le_of_ble_eq_true rfl) dX4_truth_26 ⟨Nat.zero_le _, Nat.zero_le _⟩ ?_
  refine W.eq (g2 := F0 m 29 ls [.int (iI (1))]) rfl ?_
  refine b_neT (tgt := 35) S dX4_truth_29 (by decide) (by decide) (by decide) ?_
  refine lv_aload_n hx hb dX4_truth_35 rfl (lv_at hl 1 rfl) ?_
  refine w_get (C := RX4) (T := TX4) (Nf := 4) (ci := 4) (v := .ref w) S (fun _ h => List.mem_cons_of_mem _ (List.mem_append_left _ (List.mem_append_left _ (List.mem_append_left _ (List.mem_append_right _ h))))) hE hP 0 rfl rfl 0 (by decide) (List.mem_of_getElem? (i := 3) rfl) rfl dX4_truth_36 ?_
  refine w_get (C := RX3) (T := TX3) (Nf := 8) (ci := 3) (v := .ref t) S (fun _ h => List.mem_cons_of_mem _ (List.mem_append_left _ (List.mem_append_left _ (List.mem_append_right _ h)))) hE hP 1 rfl rfl 6 (by decide) (List.mem_of_getElem? (i := 4) rfl) rfl dX4_truth_39 ?_
  refine lv_iload_n hx hb dX4_truth_42 rfl (lv_at hl 2 rfl) ?_
  refine lv_iload_n hx hb dX4_truth_43 rfl (lv_at hl 3 rfl) ?_
  refine lv_iload_n hx hb dX4_truth_44 rfl (lv_at hl 4 rfl) ?_
  refine kV_R (n := 3) (ci := 2) (q := (RX2, TX2, 2)) S (c_hasTook_T lc D cI cZ N t tc ts cn sm f g bk (by omega) (by omega) (by omega) (by omega) (by omega)) gX4_truth_X2_hasTook rfl rfl (by decide +kernel) rfl rfl ⟨Nat.le_trans (Nat.le_of_ble_eq_true rfl) hfr, Nat.le_trans (Nat.le_of_ble_eq_true rfl) hlo⟩ hE hAN hP hD hS [5, 6, 7] rfl (by decide) rfl rfl rfl rfl hl.1 [] rfl (Nat.le_of_ble_eq_true rfl) dX4_truth_45 ⟨Nat.zero_le _, Nat.zero_le _⟩ ?_
  refine W.eq (g2 := F0 m 48 ls [.int (iI (1))]) rfl ?_
  refine b_neT (tgt := 54) S dX4_truth_48 (by decide) (by decide) (by decide) ?_
  refine lv_iload hx hb dX4_truth_54 (lv_at hl 5 rfl) ?_
  refine b_neT (tgt := 74) S dX4_truth_56 (by decide) (by decide) (by decide) ?_
  refine lv_aload_n hx hb dX4_truth_74 rfl (lv_at hl 1 rfl) ?_
  refine w_get (C := RX4) (T := TX4) (Nf := 4) (ci := 4) (v := .ref w) S (fun _ h => List.mem_cons_of_mem _ (List.mem_append_left _ (List.mem_append_left _ (List.mem_append_left _ (List.mem_append_right _ h))))) hE hP 0 rfl rfl 0 (by decide) (List.mem_of_getElem? (i := 3) rfl) rfl dX4_truth_75 ?_
  refine w_get (C := RX3) (T := TX3) (Nf := 8) (ci := 3) (v := .ref b) S (fun _ h => List.mem_cons_of_mem _ (List.mem_append_left _ (List.mem_append_left _ (List.mem_append_right _ h)))) hE hP 1 rfl rfl 7 (by decide) (List.mem_of_getElem? (i := 6) rfl) rfl dX4_truth_78 ?_
  refine lv_iload_n hx hb dX4_truth_81 rfl (lv_at hl 2 rfl) ?_
  refine lv_iload_n hx hb dX4_truth_82 rfl (lv_at hl 3 rfl) ?_
  refine kV_M (n := 2) (ci := 0) (q := (RX0, TX0, 2)) S (c_tightest lc D cI cZ N b bm br mo re f g (by omega) (by omega) (by omega)) gX4_truth_X0_tightest rfl rfl (by decide +kernel) rfl rfl ⟨Nat.le_trans (Nat.le_of_ble_eq_true rfl) hfr, Nat.le_trans (Nat.le_of_ble_eq_true rfl) hlo⟩ hE hAN hP hD hS [8, 9, 10] rfl (by decide) rfl rfl rfl rfl rfl hl.1 [] rfl (Nat.le_of_ble_eq_true rfl) dX4_truth_83 ⟨Nat.zero_le _, Nat.zero_le _⟩ (fun H locs hP hD hS => ?_)
  have hP : va_P D vwCl [(o, .inr (4, [.ref w, .ref v2, .ref v3, .int (iI (ik))])), (w, .inr (3, [.int (iI (((mn : Nat) : Int))), .int (iI (tA)), .int (iI (sA)), .int (iI (kA)), .ref wc, .ref k, .ref t, .ref b])), (wc, .inl (cI, 5, .inl (vI ck))), (k, .inr (1, [.ref kn])), (kn, .inl (cI, 24, .inl (vI nb))), (t, .inr (2, [.ref tc, .ref ts])), (tc, .inl (cI, 1000, .inl (vI cn))), (ts, .inl (cI, 1000, .inl (vI sm))), (b, .inr (0, [.ref bm, .ref br])), (bm, .inl (cI, 25, .inl (vI mo))), (br, .inl (cI, 5, .inl (vI (rnds mo (re0 f) 4))))] H := hP
  have hD : va_D A [(o, .inr (4, [.ref w, .ref v2, .ref v3, .int (iI (ik))])), (w, .inr (3, [.int (iI (((mn : Nat) : Int))), .int (iI (tA)), .int (iI (sA)), .int (iI (kA)), .ref wc, .ref k, .ref t, .ref b])), (wc, .inl (cI, 5, .inl (vI ck))), (k, .inr (1, [.ref kn])), (kn, .inl (cI, 24, .inl (vI nb))), (t, .inr (2, [.ref tc, .ref ts])), (tc, .inl (cI, 1000, .inl (vI cn))), (ts, .inl (cI, 1000, .inl (vI sm))), (b, .inr (0, [.ref bm, .ref br])), (bm, .inl (cI, 25, .inl (vI mo))), (br, .inl (cI, 5, .inl (vI (rnds mo (re0 f) 4))))] := hD
  refine W.eq (g2 := F0 m 86 ls [.int (iI (rnds mo (re0 f) 4 g))]) rfl ?_
  refine lv_istore (lv' := [(7, .int (iI (rnds mo (re0 f) 4 g))), (6, .int (iI (0))), (0, .ref o), (1, .int (iI (((f : Nat) : Int)))), (2, .int (iI (((g : Nat) : Int)))), (3, .int (iI (((bk : Nat) : Int)))), (4, .int (iI (1))), (5, .int (iI (1)))]) hx hb dX4_truth_86 hl (by decide) rfl (fun ls hl => ?_)
  refine lv_iload hx hb dX4_truth_88 (lv_at hl 0 rfl) ?_
  refine w_ldc (z := 1000000000) S (List.mem_of_getElem? (i := 7) rfl) (by decide) dX4_truth_90 ?_
  refine c_neT (tgt := 98) S dX4_truth_92 (by decide) (by omega) (by omega) (by omega) ?_
  refine lv_aload_n hx hb dX4_truth_98 rfl (lv_at hl 2 rfl) ?_
  refine w_get (C := RX4) (T := TX4) (Nf := 4) (ci := 4) (v := .ref w) S (fun _ h => List.mem_cons_of_mem _ (List.mem_append_left _ (List.mem_append_left _ (List.mem_append_left _ (List.mem_append_right _ h))))) hE hP 0 rfl rfl 0 (by decide) (List.mem_of_getElem? (i := 3) rfl) rfl dX4_truth_99 ?_
  refine w_get (C := RX3) (T := TX3) (Nf := 8) (ci := 3) (v := .ref t) S (fun _ h => List.mem_cons_of_mem _ (List.mem_append_left _ (List.mem_append_left _ (List.mem_append_right _ h)))) hE hP 1 rfl rfl 6 (by decide) (List.mem_of_getElem? (i := 4) rfl) rfl dX4_truth_102 ?_
  refine lv_iload_n hx hb dX4_truth_105 rfl (lv_at hl 3 rfl) ?_
  refine lv_iload_n hx hb dX4_truth_106 rfl (lv_at hl 5 rfl) ?_
  refine kV_R (n := 2) (ci := 2) (q := (RX2, TX2, 2)) S (c_countOf lc D cI cZ N t tc ts cn sm f bk (by omega) (by omega)) gX4_truth_X2_countOf rfl rfl (by decide +kernel) rfl rfl ⟨Nat.le_trans (Nat.le_of_ble_eq_true rfl) hfr, Nat.le_trans (Nat.le_of_ble_eq_true rfl) hlo⟩ hE hAN hP hD hS [5, 6, 7] rfl (by decide) rfl rfl rfl rfl hl.1 [] rfl (Nat.le_of_ble_eq_true rfl) dX4_truth_107 ⟨Nat.zero_le _, Nat.zero_le _⟩ ?_
  refine W.eq (g2 := F0 m 110 ls [.int (iI (cn (f * 200 + bk)))]) rfl ?_
  refine w_tz (z := ((wq : Nat) : Int)) hwq ?_
  refine lv_istore (lv' := [(8, .int (iI (((wq : Nat) : Int)))), (7, .int (iI (rnds mo (re0 f) 4 g))), (6, .int (iI (0))), (0, .ref o), (1, .int (iI (((f : Nat) : Int)))), (2, .int (iI (((g : Nat) : Int)))), (3, .int (iI (((bk : Nat) : Int)))), (4, .int (iI (1))), (5, .int (iI (1)))]) hx hb dX4_truth_110 hl (by decide) rfl (fun ls hl => ?_)
  refine lv_iload hx hb dX4_truth_112 (lv_at hl 7 rfl) ?_
  refine b_neT (tgt := 125) S dX4_truth_114 (by decide) (by decide) (by decide) ?_
  refine lv_iload hx hb dX4_truth_125 (lv_at hl 1 rfl) ?_
  refine w_ineg S dX4_truth_127 ?_
  refine lv_iload hx hb dX4_truth_128 (lv_at hl 0 rfl) ?_
  refine w_imul S dX4_truth_130 ?_
  refine lv_istore (lv' := [(9, .int (iI ((-(rnds mo (re0 f) 4 g)) * ((wq : Nat) : Int)))), (8, .int (iI (((wq : Nat) : Int)))), (7, .int (iI (rnds mo (re0 f) 4 g))), (6, .int (iI (0))), (0, .ref o), (1, .int (iI (((f : Nat) : Int)))), (2, .int (iI (((g : Nat) : Int)))), (3, .int (iI (((bk : Nat) : Int)))), (4, .int (iI (1))), (5, .int (iI (1)))]) hx hb dX4_truth_131 hl (by decide) rfl (fun ls hl => ?_)
  refine lv_aload_n hx hb dX4_truth_133 rfl (lv_at hl 4 rfl) ?_
  refine w_get (C := RX4) (T := TX4) (Nf := 4) (ci := 4) (v := .ref w) S (fun _ h => List.mem_cons_of_mem _ (List.mem_append_left _ (List.mem_append_left _ (List.mem_append_left _ (List.mem_append_right _ h))))) hE hP 0 rfl rfl 0 (by decide) (List.mem_of_getElem? (i := 3) rfl) rfl dX4_truth_134 ?_
  refine w_get (C := RX3) (T := TX3) (Nf := 8) (ci := 3) (v := .ref t) S (fun _ h => List.mem_cons_of_mem _ (List.mem_append_left _ (List.mem_append_left _ (List.mem_append_right _ h)))) hE hP 1 rfl rfl 6 (by decide) (List.mem_of_getElem? (i := 4) rfl) rfl dX4_truth_137 ?_
  refine lv_iload_n hx hb dX4_truth_140 rfl (lv_at hl 5 rfl) ?_
  refine lv_iload_n hx hb dX4_truth_141 rfl (lv_at hl 6 rfl) ?_
  refine lv_iload_n hx hb dX4_truth_142 rfl (lv_at hl 7 rfl) ?_
  refine kV_R (n := 3) (ci := 2) (q := (RX2, TX2, 2)) S (c_tookUpper lc D cI cZ N t tc ts cn sm f g bk (by omega) (by omega) (by omega)) gX4_truth_X2_tookUpper rfl rfl (by decide +kernel) rfl rfl ⟨Nat.le_trans (Nat.le_of_ble_eq_true rfl) hfr, Nat.le_trans (Nat.le_of_ble_eq_true rfl) hlo⟩ hE hAN hP hD hS [5, 6, 7] rfl (by decide) rfl rfl rfl rfl hl.1 [] rfl (Nat.le_of_ble_eq_true rfl) dX4_truth_143 ⟨Nat.zero_le _, Nat.zero_le _⟩ ?_
  refine W.eq (g2 := F0 m 146 ls [.int (iI (sm (g * 200 + bk) - sm (f * 200 + bk)))]) rfl ?_
  refine lv_iload hx hb dX4_truth_146 (lv_at hl 0 rfl) ?_
  refine w_iadd S dX4_truth_148 ?_
  refine lv_iload hx hb dX4_truth_149 (lv_at hl 1 rfl) ?_
  refine lv_iload hx hb dX4_truth_151 (lv_at hl 9 rfl) ?_
  refine kS_R (n := 3) S (c_fraction_1 lc D cI cZ N ((sm (g * 200 + bk) - sm (f * 200 + bk)) + ((-(rnds mo (re0 f) 4 g)) * ((wq : Nat) : Int))) wq 1 (by omega) (by omega) (by omega)) gX4_truth_X4_fractionPart rfl (by decide +kernel) rfl rfl ⟨Nat.le_trans (Nat.le_of_ble_eq_true rfl) hfr, Nat.le_trans (Nat.le_of_ble_eq_true rfl) hlo⟩ hE hAN hP hD hS [] rfl (by decide) rfl hl.1 [] rfl (Nat.le_of_ble_eq_true rfl) dX4_truth_153 ⟨Nat.zero_le _, Nat.zero_le _⟩ ?_
  refine W.eq (g2 := F0 m 156 ls [.int (iI (((wq : Nat) : Int).tdiv ((Nat.gcd ((sm (g * 200 + bk) - sm (f * 200 + bk)) + ((-(rnds mo (re0 f) 4 g)) * ((wq : Nat) : Int))).natAbs wq : Nat) : Int)))]) rfl ?_
  exact hret _ _ _ _ _ dX4_truth_156 (congrArg iI (by omega)) hP hS
