set_option maxHeartbeats 4000000 in
set_option maxRecDepth 100000 in
theorem m_lostInBlock (lc : Launch) (D : va_G) (cI cZ : ClassId) (N : Nat) (q : Nat) (qs : Nat) (qi : Nat) (qk : Nat) (ql : Nat) (mn : Nat) (tA : Int) (sA : Int) (kA : Int) (nb : Nat → Int) (ck : Nat → Int) (hi : Nat → Int) (lo : Nat → Int) (ha : Nat → Int) (cn : Nat → Int) (sm : Nat → Int) (im : Nat → Int) (kp : Nat → Int) (le : Nat → Int) (bk : Nat) (hmn : 2 ≤ mn ∧ mn ≤ 5) (hb2 : bk < 200) : CR lc D cI cZ N yX5_lostInBlock wsX5_lostInBlock (rmK 1 22) [.ref q, .int (iI (((bk : Nat) : Int)))] [(q, .inr (5, [.ref qs, .ref qi, .ref qk, .ref ql])), (qs, .inl (cI, 2108, .inl (vI (stF ((mn : Nat) : Int) tA sA kA nb ck hi lo ha cn sm)))), (qi, .inl (cI, 4216, .inl (vI im))), (qk, .inl (cZ, 2, .inl (vI kp))), (ql, .inl (cI, 25, .inl (vI le)))] (some (.int (iI (cn (0 * 200 + bk) - cn ((mn - 1) * 200 + bk))))) := by
  refine CR.I (cc := cX5_lostInBlock) (maxL := 2) (by decide) rfl (Nat.le_of_ble_eq_true rfl) ?_
  intro p e s m args below meth c R Q S hE A hAN hfr hlo hP hD hS hret ls hl
  have S : CallFix p m c cX5_lostInBlock 2 s args wsX5_lostInBlock RX5 := S
  have hx := S.1
  have hb := S.2.1
  have hl : lv_has ls 2 [(0, .ref q), (1, .int (iI (((bk : Nat) : Int))))] := hl
  refine lv_aload_n hx hb dX5_lostInBlock_0 rfl (lv_at hl 0 rfl) ?_
  refine lv_iconst (v := iI (0)) hx hb dX5_lostInBlock_1 rfl ?_
  refine lv_iload_n hx hb dX5_lostInBlock_2 rfl (lv_at hl 1 rfl) ?_
  refine kV_R (n := 2) (ci := 5) (q := (RX5, TX5, 4)) S (m_countOf lc D cI cZ N q qs qi qk ql mn tA sA kA nb ck hi lo ha cn sm im kp le 0 bk (by omega) (by omega)) gX5_lostInBlock_X5_countOf rfl rfl (by decide +kernel) rfl rfl ⟨Nat.le_trans (Nat.le_of_ble_eq_true rfl) hfr, Nat.le_trans (Nat.le_of_ble_eq_true rfl) hlo⟩ hE hAN hP hD hS [0, 1, 2, 3, 4] rfl (by decide) rfl rfl rfl rfl hl.1 [] rfl (Nat.le_of_ble_eq_true rfl) dX5_lostInBlock_3 ⟨Nat.zero_le _, Nat.zero_le _⟩ ?_
  refine W.eq (g2 := F0 m 6 ls [.int (iI (cn (0 * 200 + bk)))]) rfl ?_
  refine lv_aload_n hx hb dX5_lostInBlock_6 rfl (lv_at hl 0 rfl) ?_
  refine lv_aload_n hx hb dX5_lostInBlock_7 rfl (lv_at hl 0 rfl) ?_
  refine w_get (C := RX5) (T := TX5) (Nf := 4) (ci := 5) (v := .ref qs) S (fun _ h => List.mem_cons_of_mem _ (List.mem_append_right _ h)) hE hP 0 rfl rfl 0 (by decide) (List.mem_of_getElem? (i := 1) rfl) rfl dX5_lostInBlock_8 ?_
  refine lv_iconst (v := iI (0)) hx hb dX5_lostInBlock_11 rfl ?_
  refine w_iald S hE hP 1 rfl (0) (by omega) (by omega) (by omega) dX5_lostInBlock_12 ?_
  refine w_tz (z := ((mn : Nat) : Int)) rfl ?_
  refine lv_iconst (v := iI (1)) hx hb dX5_lostInBlock_13 rfl ?_
  refine w_isub S dX5_lostInBlock_14 ?_
  refine w_tz (z := ((mn - 1 : Nat) : Int)) (by omega) ?_
  refine lv_iload_n hx hb dX5_lostInBlock_15 rfl (lv_at hl 1 rfl) ?_
  refine kV_R (n := 2) (ci := 5) (q := (RX5, TX5, 4)) S (m_countOf lc D cI cZ N q qs qi qk ql mn tA sA kA nb ck hi lo ha cn sm im kp le (mn - 1) bk (by omega) (by omega)) gX5_lostInBlock_X5_countOf rfl rfl (by decide +kernel) rfl rfl ⟨Nat.le_trans (Nat.le_of_ble_eq_true rfl) hfr, Nat.le_trans (Nat.le_of_ble_eq_true rfl) hlo⟩ hE hAN hP hD hS [0, 1, 2, 3, 4] rfl (by decide) rfl rfl rfl rfl hl.1 [.int (iI (cn (0 * 200 + bk)))] rfl (Nat.le_of_ble_eq_true rfl) dX5_lostInBlock_16 ⟨Nat.zero_le _, Nat.zero_le _⟩ ?_
  refine W.eq (g2 := F0 m 19 ls [.int (iI (cn ((mn - 1) * 200 + bk))), .int (iI (cn (0 * 200 + bk)))]) rfl ?_
  refine w_isub S dX5_lostInBlock_19 ?_
  exact hret _ _ _ dX5_lostInBlock_20 (congrArg iI (by omega))
set_option maxHeartbeats 4000000 in
set_option maxRecDepth 100000 in
theorem m_firstLink (lc : Launch) (D : va_G) (cI cZ : ClassId) (N : Nat) (q : Nat) (qs : Nat) (qi : Nat) (qk : Nat) (ql : Nat) (mn : Nat) (tA : Int) (sA : Int) (kA : Int) (nb : Nat → Int) (ck : Nat → Int) (hi : Nat → Int) (lo : Nat → Int) (ha : Nat → Int) (cn : Nat → Int) (sm : Nat → Int) (im : Nat → Int) (kp : Nat → Int) (le : Nat → Int) (bk : Nat) (J : Nat) (hmn : 2 ≤ mn ∧ mn ≤ 5) (hcn : ∀ k, k < 1000 → 0 ≤ cn k ∧ cn k ≤ 200) (hbk : bk < 200) (hJ : J ≤ mn - 2) (h1 : ∀ i, i < J → cn (i * 200 + bk) - cn ((i + 1) * 200 + bk) = 0) (h2 : cn (J * 200 + bk) - cn ((J + 1) * 200 + bk) ≠ 0) : CR lc D cI cZ N yX5_firstLink wsX5_firstLink (rmK 2 44) [.ref q, .int (iI (((bk : Nat) : Int)))] [(q, .inr (5, [.ref qs, .ref qi, .ref qk, .ref ql])), (qs, .inl (cI, 2108, .inl (vI (stF ((mn : Nat) : Int) tA sA kA nb ck hi lo ha cn sm)))), (qi, .inl (cI, 4216, .inl (vI im))), (qk, .inl (cZ, 2, .inl (vI kp))), (ql, .inl (cI, 25, .inl (vI le)))] (some (.int (iI (((J : Nat) : Int))))) := by
  refine CR.I (cc := cX5_firstLink) (maxL := 3) (by decide) rfl (Nat.le_of_ble_eq_true rfl) ?_
  intro p e s m args below meth c R Q S hE A hAN hfr hlo hP hD hS hret ls hl
  have S : CallFix p m c cX5_firstLink 3 s args wsX5_firstLink RX5 := S
  have hx := S.1
  have hb := S.2.1
  have hl : lv_has ls 3 [(0, .ref q), (1, .int (iI (((bk : Nat) : Int))))] := hl
  refine lv_iconst (v := iI (0)) hx hb dX5_firstLink_0 rfl ?_
  refine lv_istore_n (lv' := [(2, .int (iI (0))), (0, .ref q), (1, .int (iI (((bk : Nat) : Int))))]) hx hb dX5_firstLink_1 rfl hl (by decide) rfl (fun ls hl => ?_)
  have loop7 : ∀ (u i : Nat) , i + u = J → ∀ (ls : Array Slot), lv_has ls 3 [(2, .int (iI (((i : Nat) : Int)))), (0, .ref q), (1, .int (iI (((bk : Nat) : Int))))] → W p lc e R s m args below meth c s.heap [] 0 0 Q (F0 m 2 ls []) := by
    intro u
    induction u with
    | zero =>
      intro i  hm  ls hl
      have hiq : i = J := by omega
      subst hiq
      have r1 := hcn (i * 200 + bk) (by omega)
      have r2 := hcn ((i + 1) * 200 + bk) (by omega)
      refine lv_aload_n hx hb dX5_firstLink_2 rfl (lv_at hl 1 rfl) ?_
      refine lv_iload_n hx hb dX5_firstLink_3 rfl (lv_at hl 0 rfl) ?_
      refine lv_iload_n hx hb dX5_firstLink_4 rfl (lv_at hl 2 rfl) ?_
      refine kV_R (n := 2) (ci := 5) (q := (RX5, TX5, 4)) S (m_lostOf lc D cI cZ N q qs qi qk ql mn tA sA kA nb ck hi lo ha cn sm im kp le i bk (by omega) (by omega)) gX5_firstLink_X5_lostOf rfl rfl (by decide +kernel) rfl rfl ⟨Nat.le_trans (Nat.le_of_ble_eq_true rfl) hfr, Nat.le_trans (Nat.le_of_ble_eq_true rfl) hlo⟩ hE hAN hP hD hS [0, 1, 2, 3, 4] rfl (by decide) rfl rfl rfl rfl hl.1 [] rfl (Nat.le_of_ble_eq_true rfl) dX5_firstLink_5 ⟨Nat.zero_le _, Nat.zero_le _⟩ ?_
      refine W.eq (g2 := F0 m 8 ls [.int (iI (cn (i * 200 + bk) - cn ((i + 1) * 200 + bk)))]) rfl ?_
      refine b_neT (tgt := 17) S dX5_firstLink_8 (by decide) (by omega) (by omega) ?_
      refine lv_iload_n hx hb dX5_firstLink_17 rfl (lv_at hl 0 rfl) ?_
      exact hret _ _ _ dX5_firstLink_18 (congrArg iI (by omega))
    | succ u ih7 =>
      intro i  hm  ls hl
      have r1 := hcn (i * 200 + bk) (by omega)
      have r2 := hcn ((i + 1) * 200 + bk) (by omega)
      have r3 := h1 i (by omega)
      refine lv_aload_n hx hb dX5_firstLink_2 rfl (lv_at hl 1 rfl) ?_
      refine lv_iload_n hx hb dX5_firstLink_3 rfl (lv_at hl 0 rfl) ?_
      refine lv_iload_n hx hb dX5_firstLink_4 rfl (lv_at hl 2 rfl) ?_
      refine kV_R (n := 2) (ci := 5) (q := (RX5, TX5, 4)) S (m_lostOf lc D cI cZ N q qs qi qk ql mn tA sA kA nb ck hi lo ha cn sm im kp le i bk (by omega) (by omega)) gX5_firstLink_X5_lostOf rfl rfl (by decide +kernel) rfl rfl ⟨Nat.le_trans (Nat.le_of_ble_eq_true rfl) hfr, Nat.le_trans (Nat.le_of_ble_eq_true rfl) hlo⟩ hE hAN hP hD hS [0, 1, 2, 3, 4] rfl (by decide) rfl rfl rfl rfl hl.1 [] rfl (Nat.le_of_ble_eq_true rfl) dX5_firstLink_5 ⟨Nat.zero_le _, Nat.zero_le _⟩ ?_
      refine W.eq (g2 := F0 m 8 ls [.int (iI (cn (i * 200 + bk) - cn ((i + 1) * 200 + bk)))]) rfl ?_
      refine b_neF (tgt := 17) S dX5_firstLink_8 (by decide) (by omega) ?_
      refine w_iinc (v := ((i + 1 : Nat) : Int)) (lv' := [(2, .int (iI (((i + 1 : Nat) : Int)))), (0, .ref q), (1, .int (iI (((bk : Nat) : Int))))]) S dX5_firstLink_11 hl (k := 0) rfl (by omega) (by decide) rfl (fun ls hl => ?_)
      refine lv_goto (tgt := 2) hx hb dX5_firstLink_14 (by decide) ?_
      exact ih7 (i + 1)  (by omega)  _ (lv_sub hl [0, 1, 2] rfl)
  exact loop7 J 0  (by omega)  _ (lv_sub hl [0, 1, 2] rfl)
set_option maxHeartbeats 4000000 in
set_option maxRecDepth 100000 in
theorem m_first_O (lc : Launch) (D : va_G) (cI cZ : ClassId) (N : Nat) (q : Nat) (qs : Nat) (qi : Nat) (qk : Nat) (ql : Nat) (mn : Nat) (tA : Int) (sA : Int) (kA : Int) (nb : Nat → Int) (ck : Nat → Int) (hi : Nat → Int) (lo : Nat → Int) (ha : Nat → Int) (cn : Nat → Int) (sm : Nat → Int) (im : Nat → Int) (kp : Nat → Int) (le : Nat → Int) (x : Int) (y : Int) (r_x : -2147483648 ≤ x ∧ x ≤ 2147483647) (r_y : -2147483648 ≤ y ∧ y ≤ 2147483647) (h : ¬ ((0 ≤ x ∧ x ≤ 20) ∧ (0 ≤ y ∧ y ≤ 2))) : CR lc D cI cZ N yX5_first wsX5_first (rmK 3 66) [.ref q, .int (iI (x)), .int (iI (y))] [(q, .inr (5, [.ref qs, .ref qi, .ref qk, .ref ql])), (qs, .inl (cI, 2108, .inl (vI (stF ((mn : Nat) : Int) tA sA kA nb ck hi lo ha cn sm)))), (qi, .inl (cI, 4216, .inl (vI im))), (qk, .inl (cZ, 2, .inl (vI kp))), (ql, .inl (cI, 25, .inl (vI le)))] (some (.int (iI (-2)))) := by
  refine CR.I (cc := cX5_first) (maxL := 4) (by decide) rfl (Nat.le_of_ble_eq_true rfl) ?_
  intro p e s m args below meth c R Q S hE A hAN hfr hlo hP hD hS hret ls hl
  have S : CallFix p m c cX5_first 4 s args wsX5_first RX5 := S
  have hx := S.1
  have hb := S.2.1
  have hl : lv_has ls 4 [(0, .ref q), (1, .int (iI (x))), (2, .int (iI (y)))] := hl
  by_cases h3 : 0 ≤ x ∧ x ≤ 20
  · refine lv_iload_n hx hb dX5_first_0 rfl (lv_at hl 1 rfl) ?_
    refine lv_iconst (v := iI (0)) hx hb dX5_first_1 rfl ?_
    refine lv_bipush (v := iI (20)) hx hb dX5_first_2 (by decide) ?_
    refine kS_R (n := 3) S (m_in_T lc D cI cZ N x 0 20 (by omega) (by omega) (by omega) (by omega)) gX5_first_X5_in rfl (by decide +kernel) rfl rfl ⟨Nat.le_trans (Nat.le_of_ble_eq_true rfl) hfr, Nat.le_trans (Nat.le_of_ble_eq_true rfl) hlo⟩ hE hAN hP hD hS [] rfl (by decide) rfl hl.1 [] rfl (Nat.le_of_ble_eq_true rfl) dX5_first_4 ⟨Nat.zero_le _, Nat.zero_le _⟩ ?_
    refine W.eq (g2 := F0 m 7 ls [.int (iI (1))]) rfl ?_
    refine b_eqF (tgt := 19) S dX5_first_7 (by decide) (by decide) (by decide) ?_
    refine lv_iload_n hx hb dX5_first_10 rfl (lv_at hl 2 rfl) ?_
    refine lv_iconst (v := iI (0)) hx hb dX5_first_11 rfl ?_
    refine lv_iconst (v := iI (2)) hx hb dX5_first_12 rfl ?_
    refine kS_R (n := 3) S (m_in_F lc D cI cZ N y 0 2 (by omega) (by omega) (by omega) (by omega)) gX5_first_X5_in rfl (by decide +kernel) rfl rfl ⟨Nat.le_trans (Nat.le_of_ble_eq_true rfl) hfr, Nat.le_trans (Nat.le_of_ble_eq_true rfl) hlo⟩ hE hAN hP hD hS [] rfl (by decide) rfl hl.1 [] rfl (Nat.le_of_ble_eq_true rfl) dX5_first_13 ⟨Nat.zero_le _, Nat.zero_le _⟩ ?_
    refine W.eq (g2 := F0 m 16 ls [.int (iI (0))]) rfl ?_
    refine b_neF (tgt := 22) S dX5_first_16 (by decide) (by decide) ?_
    refine lv_bipush (v := iI ((-2))) hx hb dX5_first_19 (by decide) ?_
    exact hret _ _ _ dX5_first_21 (congrArg iI (by omega))
  · refine lv_iload_n hx hb dX5_first_0 rfl (lv_at hl 1 rfl) ?_
    refine lv_iconst (v := iI (0)) hx hb dX5_first_1 rfl ?_
    refine lv_bipush (v := iI (20)) hx hb dX5_first_2 (by decide) ?_
    refine kS_R (n := 3) S (m_in_F lc D cI cZ N x 0 20 (by omega) (by omega) (by omega) (by omega)) gX5_first_X5_in rfl (by decide +kernel) rfl rfl ⟨Nat.le_trans (Nat.le_of_ble_eq_true rfl) hfr, Nat.le_trans (Nat.le_of_ble_eq_true rfl) hlo⟩ hE hAN hP hD hS [] rfl (by decide) rfl hl.1 [] rfl (Nat.le_of_ble_eq_true rfl) dX5_first_4 ⟨Nat.zero_le _, Nat.zero_le _⟩ ?_
    refine W.eq (g2 := F0 m 7 ls [.int (iI (0))]) rfl ?_
    refine b_eqT (tgt := 19) S dX5_first_7 (by decide) (by decide) ?_
    refine lv_bipush (v := iI ((-2))) hx hb dX5_first_19 (by decide) ?_
    exact hret _ _ _ dX5_first_21 (congrArg iI (by omega))
set_option maxHeartbeats 4000000 in
set_option maxRecDepth 100000 in
theorem m_first_N (lc : Launch) (D : va_G) (cI cZ : ClassId) (N : Nat) (q : Nat) (qs : Nat) (qi : Nat) (qk : Nat) (ql : Nat) (mn : Nat) (tA : Int) (sA : Int) (kA : Int) (nb : Nat → Int) (ck : Nat → Int) (hi : Nat → Int) (lo : Nat → Int) (ha : Nat → Int) (cn : Nat → Int) (sm : Nat → Int) (im : Nat → Int) (kp : Nat → Int) (le : Nat → Int) (lim : Int) (y : Int) (hmn : 2 ≤ mn ∧ mn ≤ 5) (hcn : ∀ k, k < 1000 → 0 ≤ cn k ∧ cn k ≤ 200) (hlim : 0 ≤ lim ∧ lim ≤ 20) (r_y : -2147483648 ≤ y ∧ y ≤ 2147483647) (hy : 0 ≤ y ∧ y ≤ 2) (h1 : ∀ i, i < 200 → cn (0 * 200 + i) - cn ((mn - 1) * 200 + i) ≤ lim) : CR lc D cI cZ N yX5_first wsX5_first (rmK 3 66) [.ref q, .int (iI (lim)), .int (iI (y))] [(q, .inr (5, [.ref qs, .ref qi, .ref qk, .ref ql])), (qs, .inl (cI, 2108, .inl (vI (stF ((mn : Nat) : Int) tA sA kA nb ck hi lo ha cn sm)))), (qi, .inl (cI, 4216, .inl (vI im))), (qk, .inl (cZ, 2, .inl (vI kp))), (ql, .inl (cI, 25, .inl (vI le)))] (some (.int (iI (-6)))) := by
  refine CR.I (cc := cX5_first) (maxL := 4) (by decide) rfl (Nat.le_of_ble_eq_true rfl) ?_
  intro p e s m args below meth c R Q S hE A hAN hfr hlo hP hD hS hret ls hl
  have S : CallFix p m c cX5_first 4 s args wsX5_first RX5 := S
  have hx := S.1
  have hb := S.2.1
  have hl : lv_has ls 4 [(0, .ref q), (1, .int (iI (lim))), (2, .int (iI (y)))] := hl
  refine lv_iload_n hx hb dX5_first_0 rfl (lv_at hl 1 rfl) ?_
  refine lv_iconst (v := iI (0)) hx hb dX5_first_1 rfl ?_
  refine lv_bipush (v := iI (20)) hx hb dX5_first_2 (by decide) ?_
  refine kS_R (n := 3) S (m_in_T lc D cI cZ N lim 0 20 (by omega) (by omega) (by omega) (by omega)) gX5_first_X5_in rfl (by decide +kernel) rfl rfl ⟨Nat.le_trans (Nat.le_of_ble_eq_true rfl) hfr, Nat.le_trans (Nat.le_of_ble_eq_true rfl) hlo⟩ hE hAN hP hD hS [] rfl (by decide) rfl hl.1 [] rfl (Nat.le_of_ble_eq_true rfl) dX5_first_4 ⟨Nat.zero_le _, Nat.zero_le _⟩ ?_
  refine W.eq (g2 := F0 m 7 ls [.int (iI (1))]) rfl ?_
  refine b_eqF (tgt := 19) S dX5_first_7 (by decide) (by decide) (by decide) ?_
  refine lv_iload_n hx hb dX5_first_10 rfl (lv_at hl 2 rfl) ?_
  refine lv_iconst (v := iI (0)) hx hb dX5_first_11 rfl ?_
  refine lv_iconst (v := iI (2)) hx hb dX5_first_12 rfl ?_
  refine kS_R (n := 3) S (m_in_T lc D cI cZ N y 0 2 (by omega) (by omega) (by omega) (by omega)) gX5_first_X5_in rfl (by decide +kernel) rfl rfl ⟨Nat.le_trans (Nat.le_of_ble_eq_true rfl) hfr, Nat.le_trans (Nat.le_of_ble_eq_true rfl) hlo⟩ hE hAN hP hD hS [] rfl (by decide) rfl hl.1 [] rfl (Nat.le_of_ble_eq_true rfl) dX5_first_13 ⟨Nat.zero_le _, Nat.zero_le _⟩ ?_
  refine W.eq (g2 := F0 m 16 ls [.int (iI (1))]) rfl ?_
  refine b_neT (tgt := 22) S dX5_first_16 (by decide) (by decide) (by decide) ?_
  refine lv_iconst (v := iI (0)) hx hb dX5_first_22 rfl ?_
  refine lv_istore_n (lv' := [(3, .int (iI (0))), (0, .ref q), (1, .int (iI (lim))), (2, .int (iI (y)))]) hx hb dX5_first_23 rfl hl (by decide) rfl (fun ls hl => ?_)
  have loop8 : ∀ (u i : Nat) , i + u = 200 → ∀ (ls : Array Slot), lv_has ls 4 [(3, .int (iI (((i : Nat) : Int)))), (0, .ref q), (1, .int (iI (lim))), (2, .int (iI (y)))] → W p lc e R s m args below meth c s.heap [] 0 0 Q (F0 m 24 ls []) := by
    intro u
    induction u with
    | zero =>
      intro i  hm  ls hl
      refine lv_iload_n hx hb dX5_first_24 rfl (lv_at hl 0 rfl) ?_
      refine lv_sipush (v := iI (200)) hx hb dX5_first_25 (by decide) ?_
      refine c_geT (tgt := 46) S dX5_first_28 (by decide) (by omega) (by omega) (by omega) ?_
      refine lv_iload_n hx hb dX5_first_46 rfl (lv_at hl 0 rfl) ?_
      refine lv_sipush (v := iI (200)) hx hb dX5_first_47 (by decide) ?_
      refine c_neF (tgt := 56) S dX5_first_50 (by decide) (by omega) ?_
      refine lv_bipush (v := iI ((-6))) hx hb dX5_first_53 (by decide) ?_
      exact hret _ _ _ dX5_first_55 (congrArg iI (by omega))
    | succ u ih8 =>
      intro i  hm  ls hl
      have r1 := hcn (0 * 200 + i) (by omega)
      have r2 := hcn ((mn - 1) * 200 + i) (by omega)
      have r3 := h1 i (by omega)
      refine lv_iload_n hx hb dX5_first_24 rfl (lv_at hl 0 rfl) ?_
      refine lv_sipush (v := iI (200)) hx hb dX5_first_25 (by decide) ?_
      refine c_geF (tgt := 46) S dX5_first_28 (by decide) (by omega) (by omega) (by omega) ?_
      refine lv_aload_n hx hb dX5_first_31 rfl (lv_at hl 1 rfl) ?_
      refine lv_iload_n hx hb dX5_first_32 rfl (lv_at hl 0 rfl) ?_
      refine kV_R (n := 1) (ci := 5) (q := (RX5, TX5, 4)) S (m_lostInBlock lc D cI cZ N q qs qi qk ql mn tA sA kA nb ck hi lo ha cn sm im kp le i (by omega) (by omega)) gX5_first_X5_lostInBlock rfl rfl (by decide +kernel) rfl rfl ⟨Nat.le_trans (Nat.le_of_ble_eq_true rfl) hfr, Nat.le_trans (Nat.le_of_ble_eq_true rfl) hlo⟩ hE hAN hP hD hS [0, 1, 2, 3, 4] rfl (by decide) rfl rfl rfl rfl hl.1 [] rfl (Nat.le_of_ble_eq_true rfl) dX5_first_33 ⟨Nat.zero_le _, Nat.zero_le _⟩ ?_
      refine W.eq (g2 := F0 m 36 ls [.int (iI (cn (0 * 200 + i) - cn ((mn - 1) * 200 + i)))]) rfl ?_
      refine lv_iload_n hx hb dX5_first_36 rfl (lv_at hl 2 rfl) ?_
      refine c_gtF (tgt := 46) S dX5_first_37 (by decide) (by omega) (by omega) (by omega) ?_
      refine w_iinc (v := ((i + 1 : Nat) : Int)) (lv' := [(3, .int (iI (((i + 1 : Nat) : Int)))), (0, .ref q), (1, .int (iI (lim))), (2, .int (iI (y)))]) S dX5_first_40 hl (k := 0) rfl (by omega) (by decide) rfl (fun ls hl => ?_)
      refine lv_goto (tgt := 24) hx hb dX5_first_43 (by decide) ?_
      exact ih8 (i + 1)  (by omega)  _ (lv_sub hl [0, 1, 2, 3] rfl)
  exact loop8 200 0  (by omega)  _ (lv_sub hl [0, 1, 2, 3] rfl)
set_option maxHeartbeats 4000000 in
set_option maxRecDepth 100000 in
theorem m_first_0 (lc : Launch) (D : va_G) (cI cZ : ClassId) (N : Nat) (q : Nat) (qs : Nat) (qi : Nat) (qk : Nat) (ql : Nat) (mn : Nat) (tA : Int) (sA : Int) (kA : Int) (nb : Nat → Int) (ck : Nat → Int) (hi : Nat → Int) (lo : Nat → Int) (ha : Nat → Int) (cn : Nat → Int) (sm : Nat → Int) (im : Nat → Int) (kp : Nat → Int) (le : Nat → Int) (lim : Int) (B : Nat) (hmn : 2 ≤ mn ∧ mn ≤ 5) (hcn : ∀ k, k < 1000 → 0 ≤ cn k ∧ cn k ≤ 200) (hlim : 0 ≤ lim ∧ lim ≤ 20) (hB : B < 200) (h1 : ∀ i, i < B → cn (0 * 200 + i) - cn ((mn - 1) * 200 + i) ≤ lim) (h2 : lim < cn (0 * 200 + B) - cn ((mn - 1) * 200 + B)) : CR lc D cI cZ N yX5_first wsX5_first (rmK 3 66) [.ref q, .int (iI (lim)), .int (iI (0))] [(q, .inr (5, [.ref qs, .ref qi, .ref qk, .ref ql])), (qs, .inl (cI, 2108, .inl (vI (stF ((mn : Nat) : Int) tA sA kA nb ck hi lo ha cn sm)))), (qi, .inl (cI, 4216, .inl (vI im))), (qk, .inl (cZ, 2, .inl (vI kp))), (ql, .inl (cI, 25, .inl (vI le)))] (some (.int (iI (((B : Nat) : Int))))) := by
  refine CR.I (cc := cX5_first) (maxL := 4) (by decide) rfl (Nat.le_of_ble_eq_true rfl) ?_
  intro p e s m args below meth c R Q S hE A hAN hfr hlo hP hD hS hret ls hl
  have S : CallFix p m c cX5_first 4 s args wsX5_first RX5 := S
  have hx := S.1
  have hb := S.2.1
  have hl : lv_has ls 4 [(0, .ref q), (1, .int (iI (lim))), (2, .int (iI (0)))] := hl
  refine lv_iload_n hx hb dX5_first_0 rfl (lv_at hl 1 rfl) ?_
  refine lv_iconst (v := iI (0)) hx hb dX5_first_1 rfl ?_
  refine lv_bipush (v := iI (20)) hx hb dX5_first_2 (by decide) ?_
  refine kS_R (n := 3) S (m_in_T lc D cI cZ N lim 0 20 (by omega) (by omega) (by omega) (by omega)) gX5_first_X5_in rfl (by decide +kernel) rfl rfl ⟨Nat.le_trans (Nat.le_of_ble_eq_true rfl) hfr, Nat.le_trans (Nat.le_of_ble_eq_true rfl) hlo⟩ hE hAN hP hD hS [] rfl (by decide) rfl hl.1 [] rfl (Nat.le_of_ble_eq_true rfl) dX5_first_4 ⟨Nat.zero_le _, Nat.zero_le _⟩ ?_
  refine W.eq (g2 := F0 m 7 ls [.int (iI (1))]) rfl ?_
  refine b_eqF (tgt := 19) S dX5_first_7 (by decide) (by decide) (by decide) ?_
  refine lv_iload_n hx hb dX5_first_10 rfl (lv_at hl 2 rfl) ?_
  refine lv_iconst (v := iI (0)) hx hb dX5_first_11 rfl ?_
  refine lv_iconst (v := iI (2)) hx hb dX5_first_12 rfl ?_
  refine kS_R (n := 3) S (m_in_T lc D cI cZ N 0 0 2 (by omega) (by omega) (by omega) (by omega)) gX5_first_X5_in rfl (by decide +kernel) rfl rfl ⟨Nat.le_trans (Nat.le_of_ble_eq_true rfl) hfr, Nat.le_trans (Nat.le_of_ble_eq_true rfl) hlo⟩ hE hAN hP hD hS [] rfl (by decide) rfl hl.1 [] rfl (Nat.le_of_ble_eq_true rfl) dX5_first_13 ⟨Nat.zero_le _, Nat.zero_le _⟩ ?_
  refine W.eq (g2 := F0 m 16 ls [.int (iI (1))]) rfl ?_
  refine b_neT (tgt := 22) S dX5_first_16 (by decide) (by decide) (by decide) ?_
  refine lv_iconst (v := iI (0)) hx hb dX5_first_22 rfl ?_
  refine lv_istore_n (lv' := [(3, .int (iI (0))), (0, .ref q), (1, .int (iI (lim))), (2, .int (iI (0)))]) hx hb dX5_first_23 rfl hl (by decide) rfl (fun ls hl => ?_)
  have loop9 : ∀ (u i : Nat) , i + u = B → ∀ (ls : Array Slot), lv_has ls 4 [(3, .int (iI (((i : Nat) : Int)))), (0, .ref q), (1, .int (iI (lim))), (2, .int (iI (0)))] → W p lc e R s m args below meth c s.heap [] 0 0 Q (F0 m 24 ls []) := by
    intro u
    induction u with
    | zero =>
      intro i  hm  ls hl
      have hiq : i = B := by omega
      subst hiq
      have r1 := hcn (0 * 200 + i) (by omega)
      have r2 := hcn ((mn - 1) * 200 + i) (by omega)
      refine lv_iload_n hx hb dX5_first_24 rfl (lv_at hl 0 rfl) ?_
      refine lv_sipush (v := iI (200)) hx hb dX5_first_25 (by decide) ?_
      refine c_geF (tgt := 46) S dX5_first_28 (by decide) (by omega) (by omega) (by omega) ?_
      refine lv_aload_n hx hb dX5_first_31 rfl (lv_at hl 1 rfl) ?_
      refine lv_iload_n hx hb dX5_first_32 rfl (lv_at hl 0 rfl) ?_
      refine kV_R (n := 1) (ci := 5) (q := (RX5, TX5, 4)) S (m_lostInBlock lc D cI cZ N q qs qi qk ql mn tA sA kA nb ck hi lo ha cn sm im kp le i (by omega) (by omega)) gX5_first_X5_lostInBlock rfl rfl (by decide +kernel) rfl rfl ⟨Nat.le_trans (Nat.le_of_ble_eq_true rfl) hfr, Nat.le_trans (Nat.le_of_ble_eq_true rfl) hlo⟩ hE hAN hP hD hS [0, 1, 2, 3, 4] rfl (by decide) rfl rfl rfl rfl hl.1 [] rfl (Nat.le_of_ble_eq_true rfl) dX5_first_33 ⟨Nat.zero_le _, Nat.zero_le _⟩ ?_
      refine W.eq (g2 := F0 m 36 ls [.int (iI (cn (0 * 200 + i) - cn ((mn - 1) * 200 + i)))]) rfl ?_
      refine lv_iload_n hx hb dX5_first_36 rfl (lv_at hl 2 rfl) ?_
      refine c_gtT (tgt := 46) S dX5_first_37 (by decide) (by omega) (by omega) (by omega) ?_
      refine lv_iload_n hx hb dX5_first_46 rfl (lv_at hl 0 rfl) ?_
      refine lv_sipush (v := iI (200)) hx hb dX5_first_47 (by decide) ?_
      refine c_neT (tgt := 56) S dX5_first_50 (by decide) (by omega) (by omega) (by omega) ?_
      refine lv_iload_n hx hb dX5_first_56 rfl (lv_at hl 3 rfl) ?_
      refine b_neF (tgt := 64) S dX5_first_57 (by decide) (by decide) ?_
      refine lv_iload_n hx hb dX5_first_60 rfl (lv_at hl 0 rfl) ?_
      refine lv_goto (tgt := 87) hx hb dX5_first_61 (by decide) ?_
      exact hret _ _ _ dX5_first_87 (congrArg iI (by omega))
    | succ u ih9 =>
      intro i  hm  ls hl
      have r1 := hcn (0 * 200 + i) (by omega)
      have r2 := hcn ((mn - 1) * 200 + i) (by omega)
      have r3 := h1 i (by omega)
      refine lv_iload_n hx hb dX5_first_24 rfl (lv_at hl 0 rfl) ?_
      refine lv_sipush (v := iI (200)) hx hb dX5_first_25 (by decide) ?_
      refine c_geF (tgt := 46) S dX5_first_28 (by decide) (by omega) (by omega) (by omega) ?_
      refine lv_aload_n hx hb dX5_first_31 rfl (lv_at hl 1 rfl) ?_
      refine lv_iload_n hx hb dX5_first_32 rfl (lv_at hl 0 rfl) ?_
      refine kV_R (n := 1) (ci := 5) (q := (RX5, TX5, 4)) S (m_lostInBlock lc D cI cZ N q qs qi qk ql mn tA sA kA nb ck hi lo ha cn sm im kp le i (by omega) (by omega)) gX5_first_X5_lostInBlock rfl rfl (by decide +kernel) rfl rfl ⟨Nat.le_trans (Nat.le_of_ble_eq_true rfl) hfr, Nat.le_trans (Nat.le_of_ble_eq_true rfl) hlo⟩ hE hAN hP hD hS [0, 1, 2, 3, 4] rfl (by decide) rfl rfl rfl rfl hl.1 [] rfl (Nat.le_of_ble_eq_true rfl) dX5_first_33 ⟨Nat.zero_le _, Nat.zero_le _⟩ ?_
      refine W.eq (g2 := F0 m 36 ls [.int (iI (cn (0 * 200 + i) - cn ((mn - 1) * 200 + i)))]) rfl ?_
      refine lv_iload_n hx hb dX5_first_36 rfl (lv_at hl 2 rfl) ?_
      refine c_gtF (tgt := 46) S dX5_first_37 (by decide) (by omega) (by omega) (by omega) ?_
      refine w_iinc (v := ((i + 1 : Nat) : Int)) (lv' := [(3, .int (iI (((i + 1 : Nat) : Int)))), (0, .ref q), (1, .int (iI (lim))), (2, .int (iI (0)))]) S dX5_first_40 hl (k := 0) rfl (by omega) (by decide) rfl (fun ls hl => ?_)
      refine lv_goto (tgt := 24) hx hb dX5_first_43 (by decide) ?_
      exact ih9 (i + 1)  (by omega)  _ (lv_sub hl [0, 1, 2, 3] rfl)
  exact loop9 B 0  (by omega)  _ (lv_sub hl [0, 1, 2, 3] rfl)
set_option maxHeartbeats 4000000 in
set_option maxRecDepth 100000 in
theorem m_first_1 (lc : Launch) (D : va_G) (cI cZ : ClassId) (N : Nat) (q : Nat) (qs : Nat) (qi : Nat) (qk : Nat) (ql : Nat) (mn : Nat) (tA : Int) (sA : Int) (kA : Int) (nb : Nat → Int) (ck : Nat → Int) (hi : Nat → Int) (lo : Nat → Int) (ha : Nat → Int) (cn : Nat → Int) (sm : Nat → Int) (im : Nat → Int) (kp : Nat → Int) (le : Nat → Int) (lim : Int) (B : Nat) (J : Nat) (hmn : 2 ≤ mn ∧ mn ≤ 5) (hcn : ∀ k, k < 1000 → 0 ≤ cn k ∧ cn k ≤ 200) (hlim : 0 ≤ lim ∧ lim ≤ 20) (hB : B < 200) (h1 : ∀ i, i < B → cn (0 * 200 + i) - cn ((mn - 1) * 200 + i) ≤ lim) (h2 : lim < cn (0 * 200 + B) - cn ((mn - 1) * 200 + B)) (hJ : J ≤ mn - 2) (h3 : ∀ i, i < J → cn (i * 200 + B) - cn ((i + 1) * 200 + B) = 0) (h4 : cn (J * 200 + B) - cn ((J + 1) * 200 + B) ≠ 0) : CR lc D cI cZ N yX5_first wsX5_first (rmK 3 66) [.ref q, .int (iI (lim)), .int (iI (1))] [(q, .inr (5, [.ref qs, .ref qi, .ref qk, .ref ql])), (qs, .inl (cI, 2108, .inl (vI (stF ((mn : Nat) : Int) tA sA kA nb ck hi lo ha cn sm)))), (qi, .inl (cI, 4216, .inl (vI im))), (qk, .inl (cZ, 2, .inl (vI kp))), (ql, .inl (cI, 25, .inl (vI le)))] (some (.int (iI (((J : Nat) : Int))))) := by
  refine CR.I (cc := cX5_first) (maxL := 4) (by decide) rfl (Nat.le_of_ble_eq_true rfl) ?_
  intro p e s m args below meth c R Q S hE A hAN hfr hlo hP hD hS hret ls hl
  have S : CallFix p m c cX5_first 4 s args wsX5_first RX5 := S
  have hx := S.1
  have hb := S.2.1
  have hl : lv_has ls 4 [(0, .ref q), (1, .int (iI (lim))), (2, .int (iI (1)))] := hl
  refine lv_iload_n hx hb dX5_first_0 rfl (lv_at hl 1 rfl) ?_
  refine lv_iconst (v := iI (0)) hx hb dX5_first_1 rfl ?_
  refine lv_bipush (v := iI (20)) hx hb dX5_first_2 (by decide) ?_
  refine kS_R (n := 3) S (m_in_T lc D cI cZ N lim 0 20 (by omega) (by omega) (by omega) (by omega)) gX5_first_X5_in rfl (by decide +kernel) rfl rfl ⟨Nat.le_trans (Nat.le_of_ble_eq_true rfl) hfr, Nat.le_trans (Nat.le_of_ble_eq_true rfl) hlo⟩ hE hAN hP hD hS [] rfl (by decide) rfl hl.1 [] rfl (Nat.le_of_ble_eq_true rfl) dX5_first_4 ⟨Nat.zero_le _, Nat.zero_le _⟩ ?_
  refine W.eq (g2 := F0 m 7 ls [.int (iI (1))]) rfl ?_
  refine b_eqF (tgt := 19) S dX5_first_7 (by decide) (by decide) (by decide) ?_
  refine lv_iload_n hx hb dX5_first_10 rfl (lv_at hl 2 rfl) ?_
  refine lv_iconst (v := iI (0)) hx hb dX5_first_11 rfl ?_
  refine lv_iconst (v := iI (2)) hx hb dX5_first_12 rfl ?_
  refine kS_R (n := 3) S (m_in_T lc D cI cZ N 1 0 2 (by omega) (by omega) (by omega) (by omega)) gX5_first_X5_in rfl (by decide +kernel) rfl rfl ⟨Nat.le_trans (Nat.le_of_ble_eq_true rfl) hfr, Nat.le_trans (Nat.le_of_ble_eq_true rfl) hlo⟩ hE hAN hP hD hS [] rfl (by decide) rfl hl.1 [] rfl (Nat.le_of_ble_eq_true rfl) dX5_first_13 ⟨Nat.zero_le _, Nat.zero_le _⟩ ?_
  refine W.eq (g2 := F0 m 16 ls [.int (iI (1))]) rfl ?_
  refine b_neT (tgt := 22) S dX5_first_16 (by decide) (by decide) (by decide) ?_
  refine lv_iconst (v := iI (0)) hx hb dX5_first_22 rfl ?_
  refine lv_istore_n (lv' := [(3, .int (iI (0))), (0, .ref q), (1, .int (iI (lim))), (2, .int (iI (1)))]) hx hb dX5_first_23 rfl hl (by decide) rfl (fun ls hl => ?_)
  have loop10 : ∀ (u i : Nat) , i + u = B → ∀ (ls : Array Slot), lv_has ls 4 [(3, .int (iI (((i : Nat) : Int)))), (0, .ref q), (1, .int (iI (lim))), (2, .int (iI (1)))] → W p lc e R s m args below meth c s.heap [] 0 0 Q (F0 m 24 ls []) := by
    intro u
    induction u with
    | zero =>
      intro i  hm  ls hl
      have hiq : i = B := by omega
      subst hiq
      have r1 := hcn (0 * 200 + i) (by omega)
      have r2 := hcn ((mn - 1) * 200 + i) (by omega)
      refine lv_iload_n hx hb dX5_first_24 rfl (lv_at hl 0 rfl) ?_
      refine lv_sipush (v := iI (200)) hx hb dX5_first_25 (by decide) ?_
      refine c_geF (tgt := 46) S dX5_first_28 (by decide) (by omega) (by omega) (by omega) ?_
      refine lv_aload_n hx hb dX5_first_31 rfl (lv_at hl 1 rfl) ?_
      refine lv_iload_n hx hb dX5_first_32 rfl (lv_at hl 0 rfl) ?_
      refine kV_R (n := 1) (ci := 5) (q := (RX5, TX5, 4)) S (m_lostInBlock lc D cI cZ N q qs qi qk ql mn tA sA kA nb ck hi lo ha cn sm im kp le i (by omega) (by omega)) gX5_first_X5_lostInBlock rfl rfl (by decide +kernel) rfl rfl ⟨Nat.le_trans (Nat.le_of_ble_eq_true rfl) hfr, Nat.le_trans (Nat.le_of_ble_eq_true rfl) hlo⟩ hE hAN hP hD hS [0, 1, 2, 3, 4] rfl (by decide) rfl rfl rfl rfl hl.1 [] rfl (Nat.le_of_ble_eq_true rfl) dX5_first_33 ⟨Nat.zero_le _, Nat.zero_le _⟩ ?_
      refine W.eq (g2 := F0 m 36 ls [.int (iI (cn (0 * 200 + i) - cn ((mn - 1) * 200 + i)))]) rfl ?_
      refine lv_iload_n hx hb dX5_first_36 rfl (lv_at hl 2 rfl) ?_
      refine c_gtT (tgt := 46) S dX5_first_37 (by decide) (by omega) (by omega) (by omega) ?_
      refine lv_iload_n hx hb dX5_first_46 rfl (lv_at hl 0 rfl) ?_
      refine lv_sipush (v := iI (200)) hx hb dX5_first_47 (by decide) ?_
      refine c_neT (tgt := 56) S dX5_first_50 (by decide) (by omega) (by omega) (by omega) ?_
      refine lv_iload_n hx hb dX5_first_56 rfl (lv_at hl 3 rfl) ?_
      refine b_neT (tgt := 64) S dX5_first_57 (by decide) (by decide) (by decide) ?_
      refine lv_iload_n hx hb dX5_first_64 rfl (lv_at hl 3 rfl) ?_
      refine lv_iconst (v := iI (1)) hx hb dX5_first_65 rfl ?_
      refine c_neF (tgt := 77) S dX5_first_66 (by decide) (by decide) ?_
      refine lv_aload_n hx hb dX5_first_69 rfl (lv_at hl 1 rfl) ?_
      refine lv_iload_n hx hb dX5_first_70 rfl (lv_at hl 0 rfl) ?_
      refine kV_R (n := 1) (ci := 5) (q := (RX5, TX5, 4)) S (m_firstLink lc D cI cZ N q qs qi qk ql mn tA sA kA nb ck hi lo ha cn sm im kp le i J (by omega) (by omega) (by omega) (by omega) h3 h4) gX5_first_X5_firstLink rfl rfl (by decide +kernel) rfl rfl ⟨Nat.le_trans (Nat.le_of_ble_eq_true rfl) hfr, Nat.le_trans (Nat.le_of_ble_eq_true rfl) hlo⟩ hE hAN hP hD hS [0, 1, 2, 3, 4] rfl (by decide) rfl rfl rfl rfl hl.1 [] rfl (Nat.le_of_ble_eq_true rfl) dX5_first_71 ⟨Nat.zero_le _, Nat.zero_le _⟩ ?_
      refine W.eq (g2 := F0 m 74 ls [.int (iI (((J : Nat) : Int)))]) rfl ?_
      refine lv_goto (tgt := 87) hx hb dX5_first_74 (by decide) ?_
      exact hret _ _ _ dX5_first_87 rfl
    | succ u ih10 =>
      intro i  hm  ls hl
      have r1 := hcn (0 * 200 + i) (by omega)
      have r2 := hcn ((mn - 1) * 200 + i) (by omega)
      have r3 := h1 i (by omega)
      refine lv_iload_n hx hb dX5_first_24 rfl (lv_at hl 0 rfl) ?_
      refine lv_sipush (v := iI (200)) hx hb dX5_first_25 (by decide) ?_
      refine c_geF (tgt := 46) S dX5_first_28 (by decide) (by omega) (by omega) (by omega) ?_
      refine lv_aload_n hx hb dX5_first_31 rfl (lv_at hl 1 rfl) ?_
      refine lv_iload_n hx hb dX5_first_32 rfl (lv_at hl 0 rfl) ?_
      refine kV_R (n := 1) (ci := 5) (q := (RX5, TX5, 4)) S (m_lostInBlock lc D cI cZ N q qs qi qk ql mn tA sA kA nb ck hi lo ha cn sm im kp le i (by omega) (by omega)) gX5_first_X5_lostInBlock rfl rfl (by decide +kernel) rfl rfl ⟨Nat.le_trans (Nat.le_of_ble_eq_true rfl) hfr, Nat.le_trans (Nat.le_of_ble_eq_true rfl) hlo⟩ hE hAN hP hD hS [0, 1, 2, 3, 4] rfl (by decide) rfl rfl rfl rfl hl.1 [] rfl (Nat.le_of_ble_eq_true rfl) dX5_first_33 ⟨Nat.zero_le _, Nat.zero_le _⟩ ?_
      refine W.eq (g2 := F0 m 36 ls [.int (iI (cn (0 * 200 + i) - cn ((mn - 1) * 200 + i)))]) rfl ?_
      refine lv_iload_n hx hb dX5_first_36 rfl (lv_at hl 2 rfl) ?_
      refine c_gtF (tgt := 46) S dX5_first_37 (by decide) (by omega) (by omega) (by omega) ?_
      refine w_iinc (v := ((i + 1 : Nat) : Int)) (lv' := [(3, .int (iI (((i + 1 : Nat) : Int)))), (0, .ref q), (1, .int (iI (lim))), (2, .int (iI (1)))]) S dX5_first_40 hl (k := 0) rfl (by omega) (by decide) rfl (fun ls hl => ?_)
      refine lv_goto (tgt := 24) hx hb dX5_first_43 (by decide) ?_
      exact ih10 (i + 1)  (by omega)  _ (lv_sub hl [0, 1, 2, 3] rfl)
  exact loop10 B 0  (by omega)  _ (lv_sub hl [0, 1, 2, 3] rfl)
set_option maxHeartbeats 4000000 in
set_option maxRecDepth 100000 in
theorem m_first_2 (lc : Launch) (D : va_G) (cI cZ : ClassId) (N : Nat) (q : Nat) (qs : Nat) (qi : Nat) (qk : Nat) (ql : Nat) (mn : Nat) (tA : Int) (sA : Int) (kA : Int) (nb : Nat → Int) (ck : Nat → Int) (hi : Nat → Int) (lo : Nat → Int) (ha : Nat → Int) (cn : Nat → Int) (sm : Nat → Int) (im : Nat → Int) (kp : Nat → Int) (le : Nat → Int) (lim : Int) (B : Nat) (J : Nat) (hmn : 2 ≤ mn ∧ mn ≤ 5) (hcn : ∀ k, k < 1000 → 0 ≤ cn k ∧ cn k ≤ 200) (hlim : 0 ≤ lim ∧ lim ≤ 20) (hB : B < 200) (h1 : ∀ i, i < B → cn (0 * 200 + i) - cn ((mn - 1) * 200 + i) ≤ lim) (h2 : lim < cn (0 * 200 + B) - cn ((mn - 1) * 200 + B)) (hJ : J ≤ mn - 2) (h3 : ∀ i, i < J → cn (i * 200 + B) - cn ((i + 1) * 200 + B) = 0) (h4 : cn (J * 200 + B) - cn ((J + 1) * 200 + B) ≠ 0) : CR lc D cI cZ N yX5_first wsX5_first (rmK 3 66) [.ref q, .int (iI (lim)), .int (iI (2))] [(q, .inr (5, [.ref qs, .ref qi, .ref qk, .ref ql])), (qs, .inl (cI, 2108, .inl (vI (stF ((mn : Nat) : Int) tA sA kA nb ck hi lo ha cn sm)))), (qi, .inl (cI, 4216, .inl (vI im))), (qk, .inl (cZ, 2, .inl (vI kp))), (ql, .inl (cI, 25, .inl (vI le)))] (some (.int (iI (cn (J * 200 + B) - cn ((J + 1) * 200 + B))))) := by
  refine CR.I (cc := cX5_first) (maxL := 4) (by decide) rfl (Nat.le_of_ble_eq_true rfl) ?_
  intro p e s m args below meth c R Q S hE A hAN hfr hlo hP hD hS hret ls hl
  have S : CallFix p m c cX5_first 4 s args wsX5_first RX5 := S
  have hx := S.1
  have hb := S.2.1
  have hl : lv_has ls 4 [(0, .ref q), (1, .int (iI (lim))), (2, .int (iI (2)))] := hl
  refine lv_iload_n hx hb dX5_first_0 rfl (lv_at hl 1 rfl) ?_
  refine lv_iconst (v := iI (0)) hx hb dX5_first_1 rfl ?_
  refine lv_bipush (v := iI (20)) hx hb dX5_first_2 (by decide) ?_
  refine kS_R (n := 3) S (m_in_T lc D cI cZ N lim 0 20 (by omega) (by omega) (by omega) (by omega)) gX5_first_X5_in rfl (by decide +kernel) rfl rfl ⟨Nat.le_trans (Nat.le_of_ble_eq_true rfl) hfr, Nat.le_trans (Nat.le_of_ble_eq_true rfl) hlo⟩ hE hAN hP hD hS [] rfl (by decide) rfl hl.1 [] rfl (Nat.le_of_ble_eq_true rfl) dX5_first_4 ⟨Nat.zero_le _, Nat.zero_le _⟩ ?_
  refine W.eq (g2 := F0 m 7 ls [.int (iI (1))]) rfl ?_
  refine b_eqF (tgt := 19) S dX5_first_7 (by decide) (by decide) (by decide) ?_
  refine lv_iload_n hx hb dX5_first_10 rfl (lv_at hl 2 rfl) ?_
  refine lv_iconst (v := iI (0)) hx hb dX5_first_11 rfl ?_
  refine lv_iconst (v := iI (2)) hx hb dX5_first_12 rfl ?_
  refine kS_R (n := 3) S (m_in_T lc D cI cZ N 2 0 2 (by omega) (by omega) (by omega) (by omega)) gX5_first_X5_in rfl (by decide +kernel) rfl rfl ⟨Nat.le_trans (Nat.le_of_ble_eq_true rfl) hfr, Nat.le_trans (Nat.le_of_ble_eq_true rfl) hlo⟩ hE hAN hP hD hS [] rfl (by decide) rfl hl.1 [] rfl (Nat.le_of_ble_eq_true rfl) dX5_first_13 ⟨Nat.zero_le _, Nat.zero_le _⟩ ?_
  refine W.eq (g2 := F0 m 16 ls [.int (iI (1))]) rfl ?_
  refine b_neT (tgt := 22) S dX5_first_16 (by decide) (by decide) (by decide) ?_
  refine lv_iconst (v := iI (0)) hx hb dX5_first_22 rfl ?_
  refine lv_istore_n (lv' := [(3, .int (iI (0))), (0, .ref q), (1, .int (iI (lim))), (2, .int (iI (2)))]) hx hb dX5_first_23 rfl hl (by decide) rfl (fun ls hl => ?_)
  have loop11 : ∀ (u i : Nat) , i + u = B → ∀ (ls : Array Slot), lv_has ls 4 [(3, .int (iI (((i : Nat) : Int)))), (0, .ref q), (1, .int (iI (lim))), (2, .int (iI (2)))] → W p lc e R s m args below meth c s.heap [] 0 0 Q (F0 m 24 ls []) := by
    intro u
    induction u with
    | zero =>
      intro i  hm  ls hl
      have hiq : i = B := by omega
      subst hiq
      have r1 := hcn (0 * 200 + i) (by omega)
      have r2 := hcn ((mn - 1) * 200 + i) (by omega)
      refine lv_iload_n hx hb dX5_first_24 rfl (lv_at hl 0 rfl) ?_
      refine lv_sipush (v := iI (200)) hx hb dX5_first_25 (by decide) ?_
      refine c_geF (tgt := 46) S dX5_first_28 (by decide) (by omega) (by omega) (by omega) ?_
      refine lv_aload_n hx hb dX5_first_31 rfl (lv_at hl 1 rfl) ?_
      refine lv_iload_n hx hb dX5_first_32 rfl (lv_at hl 0 rfl) ?_
      refine kV_R (n := 1) (ci := 5) (q := (RX5, TX5, 4)) S (m_lostInBlock lc D cI cZ N q qs qi qk ql mn tA sA kA nb ck hi lo ha cn sm im kp le i (by omega) (by omega)) gX5_first_X5_lostInBlock rfl rfl (by decide +kernel) rfl rfl ⟨Nat.le_trans (Nat.le_of_ble_eq_true rfl) hfr, Nat.le_trans (Nat.le_of_ble_eq_true rfl) hlo⟩ hE hAN hP hD hS [0, 1, 2, 3, 4] rfl (by decide) rfl rfl rfl rfl hl.1 [] rfl (Nat.le_of_ble_eq_true rfl) dX5_first_33 ⟨Nat.zero_le _, Nat.zero_le _⟩ ?_
      refine W.eq (g2 := F0 m 36 ls [.int (iI (cn (0 * 200 + i) - cn ((mn - 1) * 200 + i)))]) rfl ?_
      refine lv_iload_n hx hb dX5_first_36 rfl (lv_at hl 2 rfl) ?_
      refine c_gtT (tgt := 46) S dX5_first_37 (by decide) (by omega) (by omega) (by omega) ?_
      refine lv_iload_n hx hb dX5_first_46 rfl (lv_at hl 0 rfl) ?_
      refine lv_sipush (v := iI (200)) hx hb dX5_first_47 (by decide) ?_
      refine c_neT (tgt := 56) S dX5_first_50 (by decide) (by omega) (by omega) (by omega) ?_
      refine lv_iload_n hx hb dX5_first_56 rfl (lv_at hl 3 rfl) ?_
      refine b_neT (tgt := 64) S dX5_first_57 (by decide) (by decide) (by decide) ?_
      refine lv_iload_n hx hb dX5_first_64 rfl (lv_at hl 3 rfl) ?_
      refine lv_iconst (v := iI (1)) hx hb dX5_first_65 rfl ?_
      refine c_neT (tgt := 77) S dX5_first_66 (by decide) (by omega) (by omega) (by decide) ?_
      refine lv_aload_n hx hb dX5_first_77 rfl (lv_at hl 1 rfl) ?_
      refine lv_aload_n hx hb dX5_first_78 rfl (lv_at hl 1 rfl) ?_
      refine lv_iload_n hx hb dX5_first_79 rfl (lv_at hl 0 rfl) ?_
      refine kV_R (n := 1) (ci := 5) (q := (RX5, TX5, 4)) S (m_firstLink lc D cI cZ N q qs qi qk ql mn tA sA kA nb ck hi lo ha cn sm im kp le i J (by omega) (by omega) (by omega) (by omega) h3 h4) gX5_first_X5_firstLink rfl rfl (by decide +kernel) rfl rfl ⟨Nat.le_trans (Nat.le_of_ble_eq_true rfl) hfr, Nat.le_trans (Nat.le_of_ble_eq_true rfl) hlo⟩ hE hAN hP hD hS [0, 1, 2, 3, 4] rfl (by decide) rfl rfl rfl rfl hl.1 [.ref q] rfl (Nat.le_of_ble_eq_true rfl) dX5_first_80 ⟨Nat.zero_le _, Nat.zero_le _⟩ ?_
      refine W.eq (g2 := F0 m 83 ls [.int (iI (((J : Nat) : Int))), .ref q]) rfl ?_
      refine lv_iload_n hx hb dX5_first_83 rfl (lv_at hl 0 rfl) ?_
      refine kV_R (n := 2) (ci := 5) (q := (RX5, TX5, 4)) S (m_lostOf lc D cI cZ N q qs qi qk ql mn tA sA kA nb ck hi lo ha cn sm im kp le J i (by omega) (by omega)) gX5_first_X5_lostOf rfl rfl (by decide +kernel) rfl rfl ⟨Nat.le_trans (Nat.le_of_ble_eq_true rfl) hfr, Nat.le_trans (Nat.le_of_ble_eq_true rfl) hlo⟩ hE hAN hP hD hS [0, 1, 2, 3, 4] rfl (by decide) rfl rfl rfl rfl hl.1 [] rfl (Nat.le_of_ble_eq_true rfl) dX5_first_84 ⟨Nat.zero_le _, Nat.zero_le _⟩ ?_
      refine W.eq (g2 := F0 m 87 ls [.int (iI (cn (J * 200 + i) - cn ((J + 1) * 200 + i)))]) rfl ?_
      exact hret _ _ _ dX5_first_87 (congrArg iI (by omega))
    | succ u ih11 =>
      intro i  hm  ls hl
      have r1 := hcn (0 * 200 + i) (by omega)
      have r2 := hcn ((mn - 1) * 200 + i) (by omega)
      have r3 := h1 i (by omega)
      refine lv_iload_n hx hb dX5_first_24 rfl (lv_at hl 0 rfl) ?_
      refine lv_sipush (v := iI (200)) hx hb dX5_first_25 (by decide) ?_
      refine c_geF (tgt := 46) S dX5_first_28 (by decide) (by omega) (by omega) (by omega) ?_
      refine lv_aload_n hx hb dX5_first_31 rfl (lv_at hl 1 rfl) ?_
      refine lv_iload_n hx hb dX5_first_32 rfl (lv_at hl 0 rfl) ?_
      refine kV_R (n := 1) (ci := 5) (q := (RX5, TX5, 4)) S (m_lostInBlock lc D cI cZ N q qs qi qk ql mn tA sA kA nb ck hi lo ha cn sm im kp le i (by omega) (by omega)) gX5_first_X5_lostInBlock rfl rfl (by decide +kernel) rfl rfl ⟨Nat.le_trans (Nat.le_of_ble_eq_true rfl) hfr, Nat.le_trans (Nat.le_of_ble_eq_true rfl) hlo⟩ hE hAN hP hD hS [0, 1, 2, 3, 4] rfl (by decide) rfl rfl rfl rfl hl.1 [] rfl (Nat.le_of_ble_eq_true rfl) dX5_first_33 ⟨Nat.zero_le _, Nat.zero_le _⟩ ?_
      refine W.eq (g2 := F0 m 36 ls [.int (iI (cn (0 * 200 + i) - cn ((mn - 1) * 200 + i)))]) rfl ?_
      refine lv_iload_n hx hb dX5_first_36 rfl (lv_at hl 2 rfl) ?_
      refine c_gtF (tgt := 46) S dX5_first_37 (by decide) (by omega) (by omega) (by omega) ?_
      refine w_iinc (v := ((i + 1 : Nat) : Int)) (lv' := [(3, .int (iI (((i + 1 : Nat) : Int)))), (0, .ref q), (1, .int (iI (lim))), (2, .int (iI (2)))]) S dX5_first_40 hl (k := 0) rfl (by omega) (by decide) rfl (fun ls hl => ?_)
      refine lv_goto (tgt := 24) hx hb dX5_first_43 (by decide) ?_
      exact ih11 (i + 1)  (by omega)  _ (lv_sub hl [0, 1, 2, 3] rfl)
  exact loop11 B 0  (by omega)  _ (lv_sub hl [0, 1, 2, 3] rfl)
set_option maxHeartbeats 4000000 in
set_option maxRecDepth 100000 in
theorem m_sound_U (lc : Launch) (D : va_G) (cI cZ : ClassId) (N : Nat) (q : Nat) (qs : Nat) (qi : Nat) (qk : Nat) (ql : Nat) (mn : Nat) (tA : Int) (sA : Int) (kA : Int) (nb : Nat → Int) (ck : Nat → Int) (hi : Nat → Int) (lo : Nat → Int) (ha : Nat → Int) (cn : Nat → Int) (sm : Nat → Int) (im : Nat → Int) (kp : Nat → Int) (le : Nat → Int) (x : Int) (y : Int) (hmn : 2 ≤ mn ∧ mn ≤ 5) (r_x : -2147483648 ≤ x ∧ x ≤ 2147483647) (r_y : -2147483648 ≤ y ∧ y ≤ 2147483647) (h : ¬ ((0 ≤ x ∧ x ≤ (mn : Int) - 1) ∧ (0 ≤ y ∧ y ≤ (mn : Int) - 1))) : CR lc D cI cZ N yX5_sound wsX5_sound (rmK 2 45) [.ref q, .int (iI (x)), .int (iI (y))] [(q, .inr (5, [.ref qs, .ref qi, .ref qk, .ref ql])), (qs, .inl (cI, 2108, .inl (vI (stF ((mn : Nat) : Int) tA sA kA nb ck hi lo ha cn sm)))), (qi, .inl (cI, 4216, .inl (vI im))), (qk, .inl (cZ, 2, .inl (vI kp))), (ql, .inl (cI, 25, .inl (vI le)))] (some (.int (iI (-1)))) := by
  refine CR.I (cc := cX5_sound) (maxL := 11) (by decide) rfl (Nat.le_of_ble_eq_true rfl) ?_
  intro p e s m args below meth c R Q S hE A hAN hfr hlo hP hD hS hret ls hl
  have S : CallFix p m c cX5_sound 11 s args wsX5_sound RX5 := S
  have hx := S.1
  have hb := S.2.1
  have hl : lv_has ls 11 [(0, .ref q), (1, .int (iI (x))), (2, .int (iI (y)))] := hl
  by_cases h3 : (0 ≤ x ∧ x ≤ (mn : Int) - 1)
  · refine lv_aload_n hx hb dX5_sound_0 rfl (lv_at hl 0 rfl) ?_
    refine lv_iload_n hx hb dX5_sound_1 rfl (lv_at hl 1 rfl) ?_
    refine kV_R (n := 1) (ci := 5) (q := (RX5, TX5, 4)) S (m_isNode_T lc D cI cZ N q qs qi qk ql mn tA sA kA nb ck hi lo ha cn sm im kp le x (by omega) (by omega) (by omega)) gX5_sound_X5_isNode rfl rfl (by decide +kernel) rfl rfl ⟨Nat.le_trans (Nat.le_of_ble_eq_true rfl) hfr, Nat.le_trans (Nat.le_of_ble_eq_true rfl) hlo⟩ hE hAN hP hD hS [0, 1, 2, 3, 4] rfl (by decide) rfl rfl rfl rfl hl.1 [] rfl (Nat.le_of_ble_eq_true rfl) dX5_sound_2 ⟨Nat.zero_le _, Nat.zero_le _⟩ ?_
    refine W.eq (g2 := F0 m 5 ls [.int (iI (1))]) rfl ?_
    refine b_eqF (tgt := 16) S dX5_sound_5 (by decide) (by decide) (by decide) ?_
    refine lv_aload_n hx hb dX5_sound_8 rfl (lv_at hl 0 rfl) ?_
    refine lv_iload_n hx hb dX5_sound_9 rfl (lv_at hl 2 rfl) ?_
    refine kV_R (n := 1) (ci := 5) (q := (RX5, TX5, 4)) S (m_isNode_F lc D cI cZ N q qs qi qk ql mn tA sA kA nb ck hi lo ha cn sm im kp le y (by omega) (by omega) (by omega)) gX5_sound_X5_isNode rfl rfl (by decide +kernel) rfl rfl ⟨Nat.le_trans (Nat.le_of_ble_eq_true rfl) hfr, Nat.le_trans (Nat.le_of_ble_eq_true rfl) hlo⟩ hE hAN hP hD hS [0, 1, 2, 3, 4] rfl (by decide) rfl rfl rfl rfl hl.1 [] rfl (Nat.le_of_ble_eq_true rfl) dX5_sound_10 ⟨Nat.zero_le _, Nat.zero_le _⟩ ?_
    refine W.eq (g2 := F0 m 13 ls [.int (iI (0))]) rfl ?_
    refine b_neF (tgt := 18) S dX5_sound_13 (by decide) (by decide) ?_
    refine lv_iconst (v := iI ((-1))) hx hb dX5_sound_16 rfl ?_
    exact hret _ _ _ dX5_sound_17 (congrArg iI (by omega))
  · refine lv_aload_n hx hb dX5_sound_0 rfl (lv_at hl 0 rfl) ?_
    refine lv_iload_n hx hb dX5_sound_1 rfl (lv_at hl 1 rfl) ?_
    refine kV_R (n := 1) (ci := 5) (q := (RX5, TX5, 4)) S (m_isNode_F lc D cI cZ N q qs qi qk ql mn tA sA kA nb ck hi lo ha cn sm im kp le x (by omega) (by omega) (by omega)) gX5_sound_X5_isNode rfl rfl (by decide +kernel) rfl rfl ⟨Nat.le_trans (Nat.le_of_ble_eq_true rfl) hfr, Nat.le_trans (Nat.le_of_ble_eq_true rfl) hlo⟩ hE hAN hP hD hS [0, 1, 2, 3, 4] rfl (by decide) rfl rfl rfl rfl hl.1 [] rfl (Nat.le_of_ble_eq_true rfl) dX5_sound_2 ⟨Nat.zero_le _, Nat.zero_le _⟩ ?_
    refine W.eq (g2 := F0 m 5 ls [.int (iI (0))]) rfl ?_
    refine b_eqT (tgt := 16) S dX5_sound_5 (by decide) (by decide) ?_
    refine lv_iconst (v := iI ((-1))) hx hb dX5_sound_16 rfl ?_
    exact hret _ _ _ dX5_sound_17 (congrArg iI (by omega))
set_option maxHeartbeats 4000000 in
set_option maxRecDepth 100000 in
theorem m_sound_O (lc : Launch) (D : va_G) (cI cZ : ClassId) (N : Nat) (q : Nat) (qs : Nat) (qi : Nat) (qk : Nat) (ql : Nat) (mn : Nat) (tA : Int) (sA : Int) (kA : Int) (nb : Nat → Int) (ck : Nat → Int) (hi : Nat → Int) (lo : Nat → Int) (ha : Nat → Int) (cn : Nat → Int) (sm : Nat → Int) (im : Nat → Int) (kp : Nat → Int) (le : Nat → Int) (x : Int) (y : Int) (hmn : 2 ≤ mn ∧ mn ≤ 5) (r_x : -2147483648 ≤ x ∧ x ≤ 2147483647) (r_y : -2147483648 ≤ y ∧ y ≤ 2147483647) (h1 : (0 ≤ x ∧ x ≤ (mn : Int) - 1)) (h2 : (0 ≤ y ∧ y ≤ (mn : Int) - 1)) (h : y ≤ x) : CR lc D cI cZ N yX5_sound wsX5_sound (rmK 2 45) [.ref q, .int (iI (x)), .int (iI (y))] [(q, .inr (5, [.ref qs, .ref qi, .ref qk, .ref ql])), (qs, .inl (cI, 2108, .inl (vI (stF ((mn : Nat) : Int) tA sA kA nb ck hi lo ha cn sm)))), (qi, .inl (cI, 4216, .inl (vI im))), (qk, .inl (cZ, 2, .inl (vI kp))), (ql, .inl (cI, 25, .inl (vI le)))] (some (.int (iI (-2)))) := by
  refine CR.I (cc := cX5_sound) (maxL := 11) (by decide) rfl (Nat.le_of_ble_eq_true rfl) ?_
  intro p e s m args below meth c R Q S hE A hAN hfr hlo hP hD hS hret ls hl
  have S : CallFix p m c cX5_sound 11 s args wsX5_sound RX5 := S
  have hx := S.1
  have hb := S.2.1
  have hl : lv_has ls 11 [(0, .ref q), (1, .int (iI (x))), (2, .int (iI (y)))] := hl
  refine lv_aload_n hx hb dX5_sound_0 rfl (lv_at hl 0 rfl) ?_
  refine lv_iload_n hx hb dX5_sound_1 rfl (lv_at hl 1 rfl) ?_
  refine kV_R (n := 1) (ci := 5) (q := (RX5, TX5, 4)) S (m_isNode_T lc D cI cZ N q qs qi qk ql mn tA sA kA nb ck hi lo ha cn sm im kp le x (by omega) (by omega) (by omega)) gX5_sound_X5_isNode rfl rfl (by decide +kernel) rfl rfl ⟨Nat.le_trans (Nat.le_of_ble_eq_true rfl) hfr, Nat.le_trans (Nat.le_of_ble_eq_true rfl) hlo⟩ hE hAN hP hD hS [0, 1, 2, 3, 4] rfl (by decide) rfl rfl rfl rfl hl.1 [] rfl (Nat.le_of_ble_eq_true rfl) dX5_sound_2 ⟨Nat.zero_le _, Nat.zero_le _⟩ ?_
  refine W.eq (g2 := F0 m 5 ls [.int (iI (1))]) rfl ?_
  refine b_eqF (tgt := 16) S dX5_sound_5 (by decide) (by decide) (by decide) ?_
  refine lv_aload_n hx hb dX5_sound_8 rfl (lv_at hl 0 rfl) ?_
  refine lv_iload_n hx hb dX5_sound_9 rfl (lv_at hl 2 rfl) ?_
  refine kV_R (n := 1) (ci := 5) (q := (RX5, TX5, 4)) S (m_isNode_T lc D cI cZ N q qs qi qk ql mn tA sA kA nb ck hi lo ha cn sm im kp le y (by omega) (by omega) (by omega)) gX5_sound_X5_isNode rfl rfl (by decide +kernel) rfl rfl ⟨Nat.le_trans (Nat.le_of_ble_eq_true rfl) hfr, Nat.le_trans (Nat.le_of_ble_eq_true rfl) hlo⟩ hE hAN hP hD hS [0, 1, 2, 3, 4] rfl (by decide) rfl rfl rfl rfl hl.1 [] rfl (Nat.le_of_ble_eq_true rfl) dX5_sound_10 ⟨Nat.zero_le _, Nat.zero_le _⟩ ?_
  refine W.eq (g2 := F0 m 13 ls [.int (iI (1))]) rfl ?_
  refine b_neT (tgt := 18) S dX5_sound_13 (by decide) (by decide) (by decide) ?_
  refine lv_iload_n hx hb dX5_sound_18 rfl (lv_at hl 2 rfl) ?_
  refine lv_iload_n hx hb dX5_sound_19 rfl (lv_at hl 1 rfl) ?_
  refine c_gtF (tgt := 26) S dX5_sound_20 (by decide) (by omega) (by omega) (by omega) ?_
  refine lv_bipush (v := iI ((-2))) hx hb dX5_sound_23 (by decide) ?_
  exact hret _ _ _ dX5_sound_25 (congrArg iI (by omega))
set_option maxHeartbeats 4000000 in
set_option maxRecDepth 100000 in
theorem m_sound_F (lc : Launch) (D : va_G) (cI cZ : ClassId) (N : Nat) (q : Nat) (qs : Nat) (qi : Nat) (qk : Nat) (ql : Nat) (mn : Nat) (tA : Int) (sA : Int) (kA : Int) (nb : Nat → Int) (ck : Nat → Int) (hi : Nat → Int) (lo : Nat → Int) (ha : Nat → Int) (cn : Nat → Int) (sm : Nat → Int) (im : Nat → Int) (kp : Nat → Int) (le : Nat → Int) (x : Int) (y : Int) (hmn : 2 ≤ mn ∧ mn ≤ 5) (hta : 0 ≤ tA ∧ tA ≤ 10000) (r_x : -2147483648 ≤ x ∧ x ≤ 2147483647) (r_y : -2147483648 ≤ y ∧ y ≤ 2147483647) (h1 : (0 ≤ x ∧ x ≤ (mn : Int) - 1)) (h2 : (0 ≤ y ∧ y ≤ (mn : Int) - 1)) (h : x < y) (h3 : 9999 < tA + 1) : CR lc D cI cZ N yX5_sound wsX5_sound (rmK 2 45) [.ref q, .int (iI (x)), .int (iI (y))] [(q, .inr (5, [.ref qs, .ref qi, .ref qk, .ref ql])), (qs, .inl (cI, 2108, .inl (vI (stF ((mn : Nat) : Int) tA sA kA nb ck hi lo ha cn sm)))), (qi, .inl (cI, 4216, .inl (vI im))), (qk, .inl (cZ, 2, .inl (vI kp))), (ql, .inl (cI, 25, .inl (vI le)))] (some (.int (iI (-4)))) := by
  refine CR.I (cc := cX5_sound) (maxL := 11) (by decide) rfl (Nat.le_of_ble_eq_true rfl) ?_
  intro p e s m args below meth c R Q S hE A hAN hfr hlo hP hD hS hret ls hl
  have S : CallFix p m c cX5_sound 11 s args wsX5_sound RX5 := S
  have hx := S.1
  have hb := S.2.1
  have hl : lv_has ls 11 [(0, .ref q), (1, .int (iI (x))), (2, .int (iI (y)))] := hl
  refine lv_aload_n hx hb dX5_sound_0 rfl (lv_at hl 0 rfl) ?_
  refine lv_iload_n hx hb dX5_sound_1 rfl (lv_at hl 1 rfl) ?_
  refine kV_R (n := 1) (ci := 5) (q := (RX5, TX5, 4)) S (m_isNode_T lc D cI cZ N q qs qi qk ql mn tA sA kA nb ck hi lo ha cn sm im kp le x (by omega) (by omega) (by omega)) gX5_sound_X5_isNode rfl rfl (by decide +kernel) rfl rfl ⟨Nat.le_trans (Nat.le_of_ble_eq_true rfl) hfr, Nat.le_trans (Nat.le_of_ble_eq_true rfl) hlo⟩ hE hAN hP hD hS [0, 1, 2, 3, 4] rfl (by decide) rfl rfl rfl rfl hl.1 [] rfl (Nat.le_of_ble_eq_true rfl) dX5_sound_2 ⟨Nat.zero_le _, Nat.zero_le _⟩ ?_
  refine W.eq (g2 := F0 m 5 ls [.int (iI (1))]) rfl ?_
  refine b_eqF (tgt := 16) S dX5_sound_5 (by decide) (by decide) (by decide) ?_
  refine lv_aload_n hx hb dX5_sound_8 rfl (lv_at hl 0 rfl) ?_
  refine lv_iload_n hx hb dX5_sound_9 rfl (lv_at hl 2 rfl) ?_
  refine kV_R (n := 1) (ci := 5) (q := (RX5, TX5, 4)) S (m_isNode_T lc D cI cZ N q qs qi qk ql mn tA sA kA nb ck hi lo ha cn sm im kp le y (by omega) (by omega) (by omega)) gX5_sound_X5_isNode rfl rfl (by decide +kernel) rfl rfl ⟨Nat.le_trans (Nat.le_of_ble_eq_true rfl) hfr, Nat.le_trans (Nat.le_of_ble_eq_true rfl) hlo⟩ hE hAN hP hD hS [0, 1, 2, 3, 4] rfl (by decide) rfl rfl rfl rfl hl.1 [] rfl (Nat.le_of_ble_eq_true rfl) dX5_sound_10 ⟨Nat.zero_le _, Nat.zero_le _⟩ ?_
  refine W.eq (g2 := F0 m 13 ls [.int (iI (1))]) rfl ?_
  refine b_neT (tgt := 18) S dX5_sound_13 (by decide) (by decide) (by decide) ?_
  refine lv_iload_n hx hb dX5_sound_18 rfl (lv_at hl 2 rfl) ?_
  refine lv_iload_n hx hb dX5_sound_19 rfl (lv_at hl 1 rfl) ?_
  refine c_gtT (tgt := 26) S dX5_sound_20 (by decide) (by omega) (by omega) (by omega) ?_
  refine lv_aload_n hx hb dX5_sound_26 rfl (lv_at hl 0 rfl) ?_
  refine w_get (C := RX5) (T := TX5) (Nf := 4) (ci := 5) (v := .ref qs) S (fun _ h => List.mem_cons_of_mem _ (List.mem_append_right _ h)) hE hP 0 rfl rfl 0 (by decide) (List.mem_of_getElem? (i := 1) rfl) rfl dX5_sound_27 ?_
  refine lv_iconst (v := iI (1)) hx hb dX5_sound_30 rfl ?_
  refine w_iald S hE hP 1 rfl (1) (by omega) (by omega) (by omega) dX5_sound_31 ?_
  refine w_tz (z := tA) rfl ?_
  refine lv_iconst (v := iI (1)) hx hb dX5_sound_32 rfl ?_
  refine w_iadd S dX5_sound_33 ?_
  refine lv_sipush (v := iI (9999)) hx hb dX5_sound_34 (by decide) ?_
  refine c_leF (tgt := 43) S dX5_sound_37 (by decide) (by omega) (by omega) (by omega) ?_
  refine lv_bipush (v := iI ((-4))) hx hb dX5_sound_40 (by decide) ?_
  exact hret _ _ _ dX5_sound_42 (congrArg iI (by omega))
set_option maxHeartbeats 4000000 in
set_option maxRecDepth 100000 in
theorem m_sound (lc : Launch) (D : va_G) (cI cZ : ClassId) (N : Nat) (q : Nat) (qs : Nat) (qi : Nat) (qk : Nat) (ql : Nat) (mn : Nat) (tA : Int) (sA : Int) (kA : Int) (nb : Nat → Int) (ck : Nat → Int) (hi : Nat → Int) (lo : Nat → Int) (ha : Nat → Int) (cn : Nat → Int) (sm : Nat → Int) (im : Nat → Int) (kp : Nat → Int) (le : Nat → Int) (f : Nat) (g : Nat) (hmn : 2 ≤ mn ∧ mn ≤ 5) (hnb : ∀ k, k < 24 → 0 ≤ nb k ∧ nb k ≤ 20) (hta : 0 ≤ tA ∧ tA ≤ 10000) (hck : ∀ k, k < 5 → -99 ≤ ck k ∧ ck k ≤ 99) (hhi : ∀ k, k < 25 → -100000 ≤ hi k ∧ hi k ≤ 100000) (hlo2 : ∀ k, k < 25 → -100000 ≤ lo k ∧ lo k ≤ 100000) (hha : ∀ k, k < 25 → ha k = 0 ∨ ha k = 1) (hfg : f < g) (hgm : g < mn) (h3 : tA + 1 ≤ 9999) : CM lc D cI cZ N yX5_sound wsX5_sound (rmK 2 45) [.ref q, .int (iI (((f : Nat) : Int))), .int (iI (((g : Nat) : Int)))] [(q, .inr (5, [.ref qs, .ref qi, .ref qk, .ref ql])), (qs, .inl (cI, 2108, .inl (vI (stF ((mn : Nat) : Int) tA sA kA nb ck hi lo ha cn sm)))), (qi, .inl (cI, 4216, .inl (vI im))), (qk, .inl (cZ, 2, .inl (vI kp))), (ql, .inl (cI, 25, .inl (vI le)))] (some (.int (iI ((bkN nb (thN nb tA f (g - f)) g (g - f)) - tA)))) [(q, .inr (5, [.ref qs, .ref qi, .ref qk, .ref ql])), (qs, .inl (cI, 2108, .inl (vI (stF ((mn : Nat) : Int) (tA + 1) sA kA nb ck (updI hi (f * 5 + g) (hiN ha hi (f * 5 + g) ((((thN nb tA f (g - f)) + ck g) - (tA + ck f)) - (((g : Nat) : Int) - ((f : Nat) : Int))))) (updI lo (f * 5 + g) (loN ha lo (f * 5 + g) ((((thN nb tA f (g - f)) + ck g) - ((bkN nb (thN nb tA f (g - f)) g (g - f)) + ck f)) + (((g : Nat) : Int) - ((f : Nat) : Int))))) (updI ha (f * 5 + g) 1) cn sm)))), (qi, .inl (cI, 4216, .inl (vI im))), (qk, .inl (cZ, 2, .inl (vI kp))), (ql, .inl (cI, 25, .inl (vI le)))] := by
  refine CM.I (cc := cX5_sound) (maxL := 11) (by decide) rfl (Nat.le_of_ble_eq_true rfl) ?_
  intro p e s m args below meth c R Q S hE A hAN hfr hlo hP hD hS hret ls hl
  have S : CallFix p m c cX5_sound 11 s args wsX5_sound RX5 := S
  have hx := S.1
  have hb := S.2.1
  have hl : lv_has ls 11 [(0, .ref q), (1, .int (iI (((f : Nat) : Int)))), (2, .int (iI (((g : Nat) : Int))))] := hl
  refine lv_aload_n hx hb dX5_sound_0 rfl (lv_at hl 0 rfl) ?_
  refine lv_iload_n hx hb dX5_sound_1 rfl (lv_at hl 1 rfl) ?_
  refine kV_R (n := 1) (ci := 5) (q := (RX5, TX5, 4)) S (m_isNode_T lc D cI cZ N q qs qi qk ql mn tA sA kA nb ck hi lo ha cn sm im kp le ((f : Nat) : Int) (by omega) (by omega) (by omega)) gX5_sound_X5_isNode rfl rfl (by decide +kernel) rfl rfl ⟨Nat.le_trans (Nat.le_of_ble_eq_true rfl) hfr, Nat.le_trans (Nat.le_of_ble_eq_true rfl) hlo⟩ hE hAN hP hD hS [0, 1, 2, 3, 4] rfl (by decide) rfl rfl rfl rfl hl.1 [] rfl (Nat.le_of_ble_eq_true rfl) dX5_sound_2 ⟨Nat.zero_le _, Nat.zero_le _⟩ ?_
  refine W.eq (g2 := F0 m 5 ls [.int (iI (1))]) rfl ?_
  refine b_eqF (tgt := 16) S dX5_sound_5 (by decide) (by decide) (by decide) ?_
  refine lv_aload_n hx hb dX5_sound_8 rfl (lv_at hl 0 rfl) ?_
  refine lv_iload_n hx hb dX5_sound_9 rfl (lv_at hl 2 rfl) ?_
  refine kV_R (n := 1) (ci := 5) (q := (RX5, TX5, 4)) S (m_isNode_T lc D cI cZ N q qs qi qk ql mn tA sA kA nb ck hi lo ha cn sm im kp le ((g : Nat) : Int) (by omega) (by omega) (by omega)) gX5_sound_X5_isNode rfl rfl (by decide +kernel) rfl rfl ⟨Nat.le_trans (Nat.le_of_ble_eq_true rfl) hfr, Nat.le_trans (Nat.le_of_ble_eq_true rfl) hlo⟩ hE hAN hP hD hS [0, 1, 2, 3, 4] rfl (by decide) rfl rfl rfl rfl hl.1 [] rfl (Nat.le_of_ble_eq_true rfl) dX5_sound_10 ⟨Nat.zero_le _, Nat.zero_le _⟩ ?_
  refine W.eq (g2 := F0 m 13 ls [.int (iI (1))]) rfl ?_
  refine b_neT (tgt := 18) S dX5_sound_13 (by decide) (by decide) (by decide) ?_
  refine lv_iload_n hx hb dX5_sound_18 rfl (lv_at hl 2 rfl) ?_
  refine lv_iload_n hx hb dX5_sound_19 rfl (lv_at hl 1 rfl) ?_
  refine c_gtT (tgt := 26) S dX5_sound_20 (by decide) (by omega) (by omega) (by omega) ?_
  refine lv_aload_n hx hb dX5_sound_26 rfl (lv_at hl 0 rfl) ?_
  refine w_get (C := RX5) (T := TX5) (Nf := 4) (ci := 5) (v := .ref qs) S (fun _ h => List.mem_cons_of_mem _ (List.mem_append_right _ h)) hE hP 0 rfl rfl 0 (by decide) (List.mem_of_getElem? (i := 1) rfl) rfl dX5_sound_27 ?_
  refine lv_iconst (v := iI (1)) hx hb dX5_sound_30 rfl ?_
  refine w_iald S hE hP 1 rfl (1) (by omega) (by omega) (by omega) dX5_sound_31 ?_
  refine w_tz (z := tA) rfl ?_
  refine lv_iconst (v := iI (1)) hx hb dX5_sound_32 rfl ?_
  refine w_iadd S dX5_sound_33 ?_
  refine lv_sipush (v := iI (9999)) hx hb dX5_sound_34 (by decide) ?_
  refine c_leT (tgt := 43) S dX5_sound_37 (by decide) (by omega) (by omega) (by omega) ?_
  refine lv_aload_n hx hb dX5_sound_43 rfl (lv_at hl 0 rfl) ?_
  refine w_get (C := RX5) (T := TX5) (Nf := 4) (ci := 5) (v := .ref qs) S (fun _ h => List.mem_cons_of_mem _ (List.mem_append_right _ h)) hE hP 0 rfl rfl 0 (by decide) (List.mem_of_getElem? (i := 1) rfl) rfl dX5_sound_44 ?_
  refine lv_iconst (v := iI (1)) hx hb dX5_sound_47 rfl ?_
  refine w_iald S hE hP 1 rfl (1) (by omega) (by omega) (by omega) dX5_sound_48 ?_
  refine w_tz (z := tA) rfl ?_
  refine lv_istore_n (lv' := [(3, .int (iI (tA))), (0, .ref q), (1, .int (iI (((f : Nat) : Int)))), (2, .int (iI (((g : Nat) : Int))))]) hx hb dX5_sound_49 rfl hl (by decide) rfl (fun ls hl => ?_)
  refine lv_iload_n hx hb dX5_sound_50 rfl (lv_at hl 2 rfl) ?_
  refine lv_istore (lv' := [(4, .int (iI (((f : Nat) : Int)))), (3, .int (iI (tA))), (0, .ref q), (1, .int (iI (((f : Nat) : Int)))), (2, .int (iI (((g : Nat) : Int))))]) hx hb dX5_sound_51 hl (by decide) rfl (fun ls hl => ?_)
  have loop12 : ∀ (u j : Nat) , f + j + u = g → ∀ (H : Heap) (locs : List Loc) (ls : Array Slot), va_P D vwCl [(q, .inr (5, [.ref qs, .ref qi, .ref qk, .ref ql])), (qs, .inl (cI, 2108, .inl (vI (stF ((mn : Nat) : Int) tA sA kA nb ck hi lo ha cn sm)))), (qi, .inl (cI, 4216, .inl (vI im))), (qk, .inl (cZ, 2, .inl (vI kp))), (ql, .inl (cI, 25, .inl (vI le)))] H → va_D A [(q, .inr (5, [.ref qs, .ref qi, .ref qk, .ref ql])), (qs, .inl (cI, 2108, .inl (vI (stF ((mn : Nat) : Int) tA sA kA nb ck hi lo ha cn sm)))), (qi, .inl (cI, 4216, .inl (vI im))), (qk, .inl (cZ, 2, .inl (vI kp))), (ql, .inl (cI, 25, .inl (vI le)))] → va_S A s.heap H locs → lv_has ls 11 [(4, .int (iI (((f + j : Nat) : Int)))), (3, .int (iI (thN nb tA f j))), (0, .ref q), (1, .int (iI (((f : Nat) : Int)))), (2, .int (iI (((g : Nat) : Int))))] → W p lc e R s m args below meth c H locs 0 0 Q (F0 m 53 ls []) := by
    intro u
    induction u with
    | zero =>
      intro j  hm  H locs ls hP hD hS hl
      refine lv_iload hx hb dX5_sound_53 (lv_at hl 0 rfl) ?_
      refine lv_iload_n hx hb dX5_sound_55 rfl (lv_at hl 4 rfl) ?_
      refine c_geT (tgt := 74) S dX5_sound_56 (by decide) (by omega) (by omega) (by omega) ?_
      have hj : j = g - f := by omega
      subst hj
      refine lv_iload_n hx hb dX5_sound_74 rfl (lv_at hl 1 rfl) ?_
      refine lv_istore (lv' := [(4, .int (iI (thN nb tA f (g - f)))), (3, .int (iI (thN nb tA f (g - f)))), (0, .ref q), (1, .int (iI (((f : Nat) : Int)))), (2, .int (iI (((g : Nat) : Int))))]) hx hb dX5_sound_75 hl (by decide) rfl (fun ls hl => ?_)
      refine lv_iload_n hx hb dX5_sound_77 rfl (lv_at hl 4 rfl) ?_
      refine lv_iconst (v := iI (1)) hx hb dX5_sound_78 rfl ?_
      refine w_isub S dX5_sound_79 ?_
      refine lv_istore (lv' := [(5, .int (iI (((g : Nat) : Int) - 1))), (4, .int (iI (thN nb tA f (g - f)))), (3, .int (iI (thN nb tA f (g - f)))), (0, .ref q), (1, .int (iI (((f : Nat) : Int)))), (2, .int (iI (((g : Nat) : Int))))]) hx hb dX5_sound_80 hl (by decide) rfl (fun ls hl => ?_)
      have loop13 : ∀ (u j : Nat) , f + j + u = g → ∀ (H : Heap) (locs : List Loc) (ls : Array Slot), va_P D vwCl [(q, .inr (5, [.ref qs, .ref qi, .ref qk, .ref ql])), (qs, .inl (cI, 2108, .inl (vI (stF ((mn : Nat) : Int) tA sA kA nb ck hi lo ha cn sm)))), (qi, .inl (cI, 4216, .inl (vI im))), (qk, .inl (cZ, 2, .inl (vI kp))), (ql, .inl (cI, 25, .inl (vI le)))] H → va_D A [(q, .inr (5, [.ref qs, .ref qi, .ref qk, .ref ql])), (qs, .inl (cI, 2108, .inl (vI (stF ((mn : Nat) : Int) tA sA kA nb ck hi lo ha cn sm)))), (qi, .inl (cI, 4216, .inl (vI im))), (qk, .inl (cZ, 2, .inl (vI kp))), (ql, .inl (cI, 25, .inl (vI le)))] → va_S A s.heap H locs → lv_has ls 11 [(5, .int (iI (((g : Nat) : Int) - 1 - ((j : Nat) : Int)))), (4, .int (iI (thN nb tA f (g - f)))), (3, .int (iI (bkN nb (thN nb tA f (g - f)) g j))), (0, .ref q), (1, .int (iI (((f : Nat) : Int)))), (2, .int (iI (((g : Nat) : Int))))] → W p lc e R s m args below meth c H locs 0 0 Q (F0 m 82 ls []) := by
        intro u
        induction u with
        | zero =>
          intro j  hm  H locs ls hP hD hS hl
          refine lv_iload hx hb dX5_sound_82 (lv_at hl 0 rfl) ?_
          refine lv_iload_n hx hb dX5_sound_84 rfl (lv_at hl 4 rfl) ?_
          refine c_ltT (tgt := 103) S dX5_sound_85 (by decide) (by omega) (by omega) (by omega) ?_
          have hj : j = g - f := by omega
          subst hj
          have g3 := thN_rng (f := f) hta.1 hnb (g - f) (by omega)
          have g4 := bkN_rng (g := g) (by omega) g3.1 hnb (g - f) (by omega)
          have g5 := hck f (by omega)
          have g6 := hck g (by omega)
          have g7 := hhi (f * 5 + g) (by omega)
          have g8 := hlo2 (f * 5 + g) (by omega)
          have g9 := hha (f * 5 + g) (by omega)
          refine lv_aload_n hx hb dX5_sound_103 rfl (lv_at hl 3 rfl) ?_
          refine w_get (C := RX5) (T := TX5) (Nf := 4) (ci := 5) (v := .ref qs) S (fun _ h => List.mem_cons_of_mem _ (List.mem_append_right _ h)) hE hP 0 rfl rfl 0 (by decide) (List.mem_of_getElem? (i := 1) rfl) rfl dX5_sound_104 ?_
          refine lv_bipush (v := iI (28)) hx hb dX5_sound_107 (by decide) ?_
          refine lv_iload_n hx hb dX5_sound_109 rfl (lv_at hl 5 rfl) ?_
          refine w_iadd S dX5_sound_110 ?_
          refine w_iald S hE hP 1 rfl (28 + g) (by omega) (by omega) (by omega) dX5_sound_111 ?_
          refine w_tz (z := ck g) (st_ck (by omega) (by omega)) ?_
          refine lv_aload_n hx hb dX5_sound_112 rfl (lv_at hl 3 rfl) ?_
          refine w_get (C := RX5) (T := TX5) (Nf := 4) (ci := 5) (v := .ref qs) S (fun _ h => List.mem_cons_of_mem _ (List.mem_append_right _ h)) hE hP 0 rfl rfl 0 (by decide) (List.mem_of_getElem? (i := 1) rfl) rfl dX5_sound_113 ?_
          refine lv_bipush (v := iI (28)) hx hb dX5_sound_116 (by decide) ?_
          refine lv_iload_n hx hb dX5_sound_118 rfl (lv_at hl 4 rfl) ?_
          refine w_iadd S dX5_sound_119 ?_
          refine w_iald S hE hP 1 rfl (28 + f) (by omega) (by omega) (by omega) dX5_sound_120 ?_
          refine w_tz (z := ck f) (st_ck (by omega) (by omega)) ?_
          refine w_isub S dX5_sound_121 ?_
          refine lv_istore (lv' := [(5, .int (iI ((ck g) - (ck f)))), (4, .int (iI (thN nb tA f (g - f)))), (3, .int (iI ((bkN nb (thN nb tA f (g - f)) g (g - f))))), (0, .ref q), (1, .int (iI (((f : Nat) : Int)))), (2, .int (iI (((g : Nat) : Int))))]) hx hb dX5_sound_122 hl (by decide) rfl (fun ls hl => ?_)
          refine lv_iconst (v := iI (5)) hx hb dX5_sound_124 rfl ?_
          refine lv_iload_n hx hb dX5_sound_125 rfl (lv_at hl 4 rfl) ?_
          refine w_imul S dX5_sound_126 ?_
          refine lv_iload_n hx hb dX5_sound_127 rfl (lv_at hl 5 rfl) ?_
          refine w_iadd S dX5_sound_128 ?_
          refine w_tz (z := ((f * 5 + g : Nat) : Int)) (by omega) ?_
          refine lv_istore (lv' := [(6, .int (iI (((f * 5 + g : Nat) : Int)))), (5, .int (iI ((ck g) - (ck f)))), (4, .int (iI (thN nb tA f (g - f)))), (3, .int (iI ((bkN nb (thN nb tA f (g - f)) g (g - f))))), (0, .ref q), (1, .int (iI (((f : Nat) : Int)))), (2, .int (iI (((g : Nat) : Int))))]) hx hb dX5_sound_129 hl (by decide) rfl (fun ls hl => ?_)
          refine lv_iload hx hb dX5_sound_131 (lv_at hl 2 rfl) ?_
          refine lv_aload_n hx hb dX5_sound_133 rfl (lv_at hl 4 rfl) ?_
          refine w_get (C := RX5) (T := TX5) (Nf := 4) (ci := 5) (v := .ref qs) S (fun _ h => List.mem_cons_of_mem _ (List.mem_append_right _ h)) hE hP 0 rfl rfl 0 (by decide) (List.mem_of_getElem? (i := 1) rfl) rfl dX5_sound_134 ?_
          refine lv_iconst (v := iI (1)) hx hb dX5_sound_137 rfl ?_
          refine w_iald S hE hP 1 rfl (1) (by omega) (by omega) (by omega) dX5_sound_138 ?_
          refine w_tz (z := tA) rfl ?_
          refine w_isub S dX5_sound_139 ?_
          refine lv_iload hx hb dX5_sound_140 (lv_at hl 1 rfl) ?_
          refine w_iadd S dX5_sound_142 ?_
          refine lv_iload_n hx hb dX5_sound_143 rfl (lv_at hl 6 rfl) ?_
          refine lv_iload_n hx hb dX5_sound_144 rfl (lv_at hl 5 rfl) ?_
          refine w_isub S dX5_sound_145 ?_
          refine w_isub S dX5_sound_146 ?_
          refine w_tz (z := (((thN nb tA f (g - f)) + ck g) - (tA + ck f)) - (((g : Nat) : Int) - ((f : Nat) : Int))) (by omega) ?_
          refine lv_istore (lv' := [(7, .int (iI ((((thN nb tA f (g - f)) + ck g) - (tA + ck f)) - (((g : Nat) : Int) - ((f : Nat) : Int))))), (6, .int (iI (((f * 5 + g : Nat) : Int)))), (5, .int (iI ((ck g) - (ck f)))), (4, .int (iI (thN nb tA f (g - f)))), (3, .int (iI ((bkN nb (thN nb tA f (g - f)) g (g - f))))), (0, .ref q), (1, .int (iI (((f : Nat) : Int)))), (2, .int (iI (((g : Nat) : Int))))]) hx hb dX5_sound_147 hl (by decide) rfl (fun ls hl => ?_)
          refine lv_iload hx hb dX5_sound_149 (lv_at hl 3 rfl) ?_
          refine lv_iload_n hx hb dX5_sound_151 rfl (lv_at hl 4 rfl) ?_
          refine w_isub S dX5_sound_152 ?_
          refine lv_iload hx hb dX5_sound_153 (lv_at hl 2 rfl) ?_
          refine w_iadd S dX5_sound_155 ?_
          refine lv_iload_n hx hb dX5_sound_156 rfl (lv_at hl 7 rfl) ?_
          refine lv_iload_n hx hb dX5_sound_157 rfl (lv_at hl 6 rfl) ?_
          refine w_isub S dX5_sound_158 ?_
          refine w_iadd S dX5_sound_159 ?_
          refine w_tz (z := (((thN nb tA f (g - f)) + ck g) - ((bkN nb (thN nb tA f (g - f)) g (g - f)) + ck f)) + (((g : Nat) : Int) - ((f : Nat) : Int))) (by omega) ?_
          refine lv_istore (lv' := [(8, .int (iI ((((thN nb tA f (g - f)) + ck g) - ((bkN nb (thN nb tA f (g - f)) g (g - f)) + ck f)) + (((g : Nat) : Int) - ((f : Nat) : Int))))), (7, .int (iI ((((thN nb tA f (g - f)) + ck g) - (tA + ck f)) - (((g : Nat) : Int) - ((f : Nat) : Int))))), (6, .int (iI (((f * 5 + g : Nat) : Int)))), (5, .int (iI ((ck g) - (ck f)))), (4, .int (iI (thN nb tA f (g - f)))), (3, .int (iI ((bkN nb (thN nb tA f (g - f)) g (g - f))))), (0, .ref q), (1, .int (iI (((f : Nat) : Int)))), (2, .int (iI (((g : Nat) : Int))))]) hx hb dX5_sound_160 hl (by decide) rfl (fun ls hl => ?_)
          by_cases hh : ha (f * 5 + g) = 1
          · refine lv_aload_n hx hb dX5_sound_162 rfl (lv_at hl 6 rfl) ?_
            refine w_get (C := RX5) (T := TX5) (Nf := 4) (ci := 5) (v := .ref qs) S (fun _ h => List.mem_cons_of_mem _ (List.mem_append_right _ h)) hE hP 0 rfl rfl 0 (by decide) (List.mem_of_getElem? (i := 1) rfl) rfl dX5_sound_163 ?_
            refine lv_bipush (v := iI (83)) hx hb dX5_sound_166 (by decide) ?_
            refine lv_iload hx hb dX5_sound_168 (lv_at hl 2 rfl) ?_
            refine w_iadd S dX5_sound_170 ?_
            refine w_iald S hE hP 1 rfl (83 + (f * 5 + g)) (by omega) (by omega) (by omega) dX5_sound_171 ?_
            refine w_tz (z := ha (f * 5 + g)) (st_ha (by omega) (by omega)) ?_
            refine lv_iconst (v := iI (1)) hx hb dX5_sound_172 rfl ?_
            refine c_neF (tgt := 180) S dX5_sound_173 (by decide) (by omega) ?_
            refine lv_iconst (v := iI (1)) hx hb dX5_sound_176 rfl ?_
            refine lv_goto (tgt := 181) hx hb dX5_sound_177 (by decide) ?_
            refine lv_istore (lv' := [(9, .int (iI (1))), (8, .int (iI ((((thN nb tA f (g - f)) + ck g) - ((bkN nb (thN nb tA f (g - f)) g (g - f)) + ck f)) + (((g : Nat) : Int) - ((f : Nat) : Int))))), (7, .int (iI ((((thN nb tA f (g - f)) + ck g) - (tA + ck f)) - (((g : Nat) : Int) - ((f : Nat) : Int))))), (6, .int (iI (((f * 5 + g : Nat) : Int)))), (5, .int (iI ((ck g) - (ck f)))), (4, .int (iI (thN nb tA f (g - f)))), (3, .int (iI ((bkN nb (thN nb tA f (g - f)) g (g - f))))), (0, .ref q), (1, .int (iI (((f : Nat) : Int)))), (2, .int (iI (((g : Nat) : Int))))]) hx hb dX5_sound_181 hl (by decide) rfl (fun ls hl => ?_)
            by_cases h7 : hi (f * 5 + g) < (((thN nb tA f (g - f)) + ck g) - (tA + ck f)) - (((g : Nat) : Int) - ((f : Nat) : Int))
            · refine lv_aload_n hx hb dX5_sound_183 rfl (lv_at hl 7 rfl) ?_
              refine w_get (C := RX5) (T := TX5) (Nf := 4) (ci := 5) (v := .ref qs) S (fun _ h => List.mem_cons_of_mem _ (List.mem_append_right _ h)) hE hP 0 rfl rfl 0 (by decide) (List.mem_of_getElem? (i := 1) rfl) rfl dX5_sound_184 ?_
              refine lv_bipush (v := iI (33)) hx hb dX5_sound_187 (by decide) ?_
              refine lv_iload hx hb dX5_sound_189 (lv_at hl 3 rfl) ?_
              refine w_iadd S dX5_sound_191 ?_
              refine lv_iload hx hb dX5_sound_192 (lv_at hl 0 rfl) ?_
              refine b_eqF (tgt := 225) S dX5_sound_194 (by decide) (by decide) (by decide) ?_
              refine lv_aload_n hx hb dX5_sound_197 rfl (lv_at hl 7 rfl) ?_
              refine w_get (C := RX5) (T := TX5) (Nf := 4) (ci := 5) (v := .ref qs) S (fun _ h => List.mem_cons_of_mem _ (List.mem_append_right _ h)) hE hP 0 rfl rfl 0 (by decide) (List.mem_of_getElem? (i := 1) rfl) rfl dX5_sound_198 ?_
              refine lv_bipush (v := iI (33)) hx hb dX5_sound_201 (by decide) ?_
              refine lv_iload hx hb dX5_sound_203 (lv_at hl 3 rfl) ?_
              refine w_iadd S dX5_sound_205 ?_
              refine w_iald S hE hP 1 rfl (33 + (f * 5 + g)) (by omega) (by omega) (by omega) dX5_sound_206 ?_
              refine w_tz (z := hi (f * 5 + g)) (st_hi (by omega) (by omega)) ?_
              refine lv_iload hx hb dX5_sound_207 (lv_at hl 2 rfl) ?_
              refine c_geF (tgt := 225) S dX5_sound_209 (by decide) (by omega) (by omega) (by omega) ?_
              refine lv_aload_n hx hb dX5_sound_212 rfl (lv_at hl 7 rfl) ?_
              refine w_get (C := RX5) (T := TX5) (Nf := 4) (ci := 5) (v := .ref qs) S (fun _ h => List.mem_cons_of_mem _ (List.mem_append_right _ h)) hE hP 0 rfl rfl 0 (by decide) (List.mem_of_getElem? (i := 1) rfl) rfl dX5_sound_213 ?_
              refine lv_bipush (v := iI (33)) hx hb dX5_sound_216 (by decide) ?_
              refine lv_iload hx hb dX5_sound_218 (lv_at hl 3 rfl) ?_
              refine w_iadd S dX5_sound_220 ?_
              refine w_iald S hE hP 1 rfl (33 + (f * 5 + g)) (by omega) (by omega) (by omega) dX5_sound_221 ?_
              refine w_tz (z := hi (f * 5 + g)) (st_hi (by omega) (by omega)) ?_
              refine lv_goto (tgt := 227) hx hb dX5_sound_222 (by decide) ?_
              refine w_tz (z := hiN ha hi (f * 5 + g) ((((thN nb tA f (g - f)) + ck g) - (tA + ck f)) - (((g : Nat) : Int) - ((f : Nat) : Int)))) (by unfold hiN; rw [if_pos ⟨hh, h7⟩]) ?_
              refine w_iast S hE hP hD hS 1 rfl (33 + (f * 5 + g)) (by omega) (by omega) (by omega) dX5_sound_227 (fun H locs hP hD hS => ?_)
              rw [List.set_cons_succ, List.set_cons_zero, su_hi (j := f * 5 + g) (by omega) (by omega)] at hP hD
              have hP : va_P D vwCl [(q, .inr (5, [.ref qs, .ref qi, .ref qk, .ref ql])), (qs, .inl (cI, 2108, .inl (vI (stF ((mn : Nat) : Int) tA sA kA nb ck (updI hi (f * 5 + g) (hiN ha hi (f * 5 + g) ((((thN nb tA f (g - f)) + ck g) - (tA + ck f)) - (((g : Nat) : Int) - ((f : Nat) : Int))))) lo ha cn sm)))), (qi, .inl (cI, 4216, .inl (vI im))), (qk, .inl (cZ, 2, .inl (vI kp))), (ql, .inl (cI, 25, .inl (vI le)))] H := hP
              have hD : va_D A [(q, .inr (5, [.ref qs, .ref qi, .ref qk, .ref ql])), (qs, .inl (cI, 2108, .inl (vI (stF ((mn : Nat) : Int) tA sA kA nb ck (updI hi (f * 5 + g) (hiN ha hi (f * 5 + g) ((((thN nb tA f (g - f)) + ck g) - (tA + ck f)) - (((g : Nat) : Int) - ((f : Nat) : Int))))) lo ha cn sm)))), (qi, .inl (cI, 4216, .inl (vI im))), (qk, .inl (cZ, 2, .inl (vI kp))), (ql, .inl (cI, 25, .inl (vI le)))] := hD
              refine lv_aload_n hx hb dX5_sound_228 rfl (lv_at hl 7 rfl) ?_
              refine w_get (C := RX5) (T := TX5) (Nf := 4) (ci := 5) (v := .ref qs) S (fun _ h => List.mem_cons_of_mem _ (List.mem_append_right _ h)) hE hP 0 rfl rfl 0 (by decide) (List.mem_of_getElem? (i := 1) rfl) rfl dX5_sound_229 ?_
              refine lv_bipush (v := iI (58)) hx hb dX5_sound_232 (by decide) ?_
              refine lv_iload hx hb dX5_sound_234 (lv_at hl 3 rfl) ?_
              refine w_iadd S dX5_sound_236 ?_
              by_cases h8 : (((thN nb tA f (g - f)) + ck g) - ((bkN nb (thN nb tA f (g - f)) g (g - f)) + ck f)) + (((g : Nat) : Int) - ((f : Nat) : Int)) < lo (f * 5 + g)
              · refine lv_iload hx hb dX5_sound_237 (lv_at hl 0 rfl) ?_
                refine b_eqF (tgt := 270) S dX5_sound_239 (by decide) (by decide) (by decide) ?_
                refine lv_aload_n hx hb dX5_sound_242 rfl (lv_at hl 7 rfl) ?_
                refine w_get (C := RX5) (T := TX5) (Nf := 4) (ci := 5) (v := .ref qs) S (fun _ h => List.mem_cons_of_mem _ (List.mem_append_right _ h)) hE hP 0 rfl rfl 0 (by decide) (List.mem_of_getElem? (i := 1) rfl) rfl dX5_sound_243 ?_
                refine lv_bipush (v := iI (58)) hx hb dX5_sound_246 (by decide) ?_
                refine lv_iload hx hb dX5_sound_248 (lv_at hl 3 rfl) ?_
                refine w_iadd S dX5_sound_250 ?_
                refine w_iald S hE hP 1 rfl (58 + (f * 5 + g)) (by omega) (by omega) (by omega) dX5_sound_251 ?_
                refine w_tz (z := lo (f * 5 + g)) (st_lo (by omega) (by omega)) ?_
                refine lv_iload hx hb dX5_sound_252 (lv_at hl 1 rfl) ?_
                refine c_leF (tgt := 270) S dX5_sound_254 (by decide) (by omega) (by omega) (by omega) ?_
                refine lv_aload_n hx hb dX5_sound_257 rfl (lv_at hl 7 rfl) ?_
                refine w_get (C := RX5) (T := TX5) (Nf := 4) (ci := 5) (v := .ref qs) S (fun _ h => List.mem_cons_of_mem _ (List.mem_append_right _ h)) hE hP 0 rfl rfl 0 (by decide) (List.mem_of_getElem? (i := 1) rfl) rfl dX5_sound_258 ?_
                refine lv_bipush (v := iI (58)) hx hb dX5_sound_261 (by decide) ?_
                refine lv_iload hx hb dX5_sound_263 (lv_at hl 3 rfl) ?_
                refine w_iadd S dX5_sound_265 ?_
                refine w_iald S hE hP 1 rfl (58 + (f * 5 + g)) (by omega) (by omega) (by omega) dX5_sound_266 ?_
                refine w_tz (z := lo (f * 5 + g)) (st_lo (by omega) (by omega)) ?_
                refine lv_goto (tgt := 272) hx hb dX5_sound_267 (by decide) ?_
                refine w_tz (z := loN ha lo (f * 5 + g) ((((thN nb tA f (g - f)) + ck g) - ((bkN nb (thN nb tA f (g - f)) g (g - f)) + ck f)) + (((g : Nat) : Int) - ((f : Nat) : Int)))) (by unfold loN; rw [if_pos ⟨hh, h8⟩]) ?_
                refine w_iast S hE hP hD hS 1 rfl (58 + (f * 5 + g)) (by omega) (by omega) (by omega) dX5_sound_272 (fun H locs hP hD hS => ?_)
                rw [List.set_cons_succ, List.set_cons_zero, su_lo (j := f * 5 + g) (by omega) (by omega)] at hP hD
                have hP : va_P D vwCl [(q, .inr (5, [.ref qs, .ref qi, .ref qk, .ref ql])), (qs, .inl (cI, 2108, .inl (vI (stF ((mn : Nat) : Int) tA sA kA nb ck (updI hi (f * 5 + g) (hiN ha hi (f * 5 + g) ((((thN nb tA f (g - f)) + ck g) - (tA + ck f)) - (((g : Nat) : Int) - ((f : Nat) : Int))))) (updI lo (f * 5 + g) (loN ha lo (f * 5 + g) ((((thN nb tA f (g - f)) + ck g) - ((bkN nb (thN nb tA f (g - f)) g (g - f)) + ck f)) + (((g : Nat) : Int) - ((f : Nat) : Int))))) ha cn sm)))), (qi, .inl (cI, 4216, .inl (vI im))), (qk, .inl (cZ, 2, .inl (vI kp))), (ql, .inl (cI, 25, .inl (vI le)))] H := hP
                have hD : va_D A [(q, .inr (5, [.ref qs, .ref qi, .ref qk, .ref ql])), (qs, .inl (cI, 2108, .inl (vI (stF ((mn : Nat) : Int) tA sA kA nb ck (updI hi (f * 5 + g) (hiN ha hi (f * 5 + g) ((((thN nb tA f (g - f)) + ck g) - (tA + ck f)) - (((g : Nat) : Int) - ((f : Nat) : Int))))) (updI lo (f * 5 + g) (loN ha lo (f * 5 + g) ((((thN nb tA f (g - f)) + ck g) - ((bkN nb (thN nb tA f (g - f)) g (g - f)) + ck f)) + (((g : Nat) : Int) - ((f : Nat) : Int))))) ha cn sm)))), (qi, .inl (cI, 4216, .inl (vI im))), (qk, .inl (cZ, 2, .inl (vI kp))), (ql, .inl (cI, 25, .inl (vI le)))] := hD
                refine lv_aload_n hx hb dX5_sound_273 rfl (lv_at hl 7 rfl) ?_
                refine w_get (C := RX5) (T := TX5) (Nf := 4) (ci := 5) (v := .ref qs) S (fun _ h => List.mem_cons_of_mem _ (List.mem_append_right _ h)) hE hP 0 rfl rfl 0 (by decide) (List.mem_of_getElem? (i := 1) rfl) rfl dX5_sound_274 ?_
                refine lv_bipush (v := iI (83)) hx hb dX5_sound_277 (by decide) ?_
                refine lv_iload hx hb dX5_sound_279 (lv_at hl 3 rfl) ?_
                refine w_iadd S dX5_sound_281 ?_
                refine lv_iconst (v := iI (1)) hx hb dX5_sound_282 rfl ?_
                refine w_iast S hE hP hD hS 1 rfl (83 + (f * 5 + g)) (by omega) (by omega) (by omega) dX5_sound_283 (fun H locs hP hD hS => ?_)
                rw [List.set_cons_succ, List.set_cons_zero, su_ha (j := f * 5 + g) (by omega) (by omega)] at hP hD
                have hP : va_P D vwCl [(q, .inr (5, [.ref qs, .ref qi, .ref qk, .ref ql])), (qs, .inl (cI, 2108, .inl (vI (stF ((mn : Nat) : Int) tA sA kA nb ck (updI hi (f * 5 + g) (hiN ha hi (f * 5 + g) ((((thN nb tA f (g - f)) + ck g) - (tA + ck f)) - (((g : Nat) : Int) - ((f : Nat) : Int))))) (updI lo (f * 5 + g) (loN ha lo (f * 5 + g) ((((thN nb tA f (g - f)) + ck g) - ((bkN nb (thN nb tA f (g - f)) g (g - f)) + ck f)) + (((g : Nat) : Int) - ((f : Nat) : Int))))) (updI ha (f * 5 + g) 1) cn sm)))), (qi, .inl (cI, 4216, .inl (vI im))), (qk, .inl (cZ, 2, .inl (vI kp))), (ql, .inl (cI, 25, .inl (vI le)))] H := hP
                have hD : va_D A [(q, .inr (5, [.ref qs, .ref qi, .ref qk, .ref ql])), (qs, .inl (cI, 2108, .inl (vI (stF ((mn : Nat) : Int) tA sA kA nb ck (updI hi (f * 5 + g) (hiN ha hi (f * 5 + g) ((((thN nb tA f (g - f)) + ck g) - (tA + ck f)) - (((g : Nat) : Int) - ((f : Nat) : Int))))) (updI lo (f * 5 + g) (loN ha lo (f * 5 + g) ((((thN nb tA f (g - f)) + ck g) - ((bkN nb (thN nb tA f (g - f)) g (g - f)) + ck f)) + (((g : Nat) : Int) - ((f : Nat) : Int))))) (updI ha (f * 5 + g) 1) cn sm)))), (qi, .inl (cI, 4216, .inl (vI im))), (qk, .inl (cZ, 2, .inl (vI kp))), (ql, .inl (cI, 25, .inl (vI le)))] := hD
                refine lv_iload_n hx hb dX5_sound_284 rfl (lv_at hl 6 rfl) ?_
                refine lv_aload_n hx hb dX5_sound_285 rfl (lv_at hl 7 rfl) ?_
                refine w_get (C := RX5) (T := TX5) (Nf := 4) (ci := 5) (v := .ref qs) S (fun _ h => List.mem_cons_of_mem _ (List.mem_append_right _ h)) hE hP 0 rfl rfl 0 (by decide) (List.mem_of_getElem? (i := 1) rfl) rfl dX5_sound_286 ?_
                refine lv_iconst (v := iI (1)) hx hb dX5_sound_289 rfl ?_
                refine w_iald S hE hP 1 rfl (1) (by omega) (by omega) (by omega) dX5_sound_290 ?_
                refine w_tz (z := tA) rfl ?_
                refine w_isub S dX5_sound_291 ?_
                refine lv_istore (lv' := [(10, .int (iI ((bkN nb (thN nb tA f (g - f)) g (g - f)) - tA))), (9, .int (iI (1))), (8, .int (iI ((((thN nb tA f (g - f)) + ck g) - ((bkN nb (thN nb tA f (g - f)) g (g - f)) + ck f)) + (((g : Nat) : Int) - ((f : Nat) : Int))))), (7, .int (iI ((((thN nb tA f (g - f)) + ck g) - (tA + ck f)) - (((g : Nat) : Int) - ((f : Nat) : Int))))), (6, .int (iI (((f * 5 + g : Nat) : Int)))), (5, .int (iI ((ck g) - (ck f)))), (4, .int (iI (thN nb tA f (g - f)))), (3, .int (iI ((bkN nb (thN nb tA f (g - f)) g (g - f))))), (0, .ref q), (1, .int (iI (((f : Nat) : Int)))), (2, .int (iI (((g : Nat) : Int))))]) hx hb dX5_sound_292 hl (by decide) rfl (fun ls hl => ?_)
                refine lv_aload_n hx hb dX5_sound_294 rfl (lv_at hl 8 rfl) ?_
                refine w_get (C := RX5) (T := TX5) (Nf := 4) (ci := 5) (v := .ref qs) S (fun _ h => List.mem_cons_of_mem _ (List.mem_append_right _ h)) hE hP 0 rfl rfl 0 (by decide) (List.mem_of_getElem? (i := 1) rfl) rfl dX5_sound_295 ?_
                refine lv_iconst (v := iI (1)) hx hb dX5_sound_298 rfl ?_
                refine lv_dup2_11 hx hb dX5_sound_299 rfl rfl ?_
                refine w_iald S hE hP 1 rfl (1) (by omega) (by omega) (by omega) dX5_sound_300 ?_
                refine w_tz (z := tA) rfl ?_
                refine lv_iconst (v := iI (1)) hx hb dX5_sound_301 rfl ?_
                refine w_iadd S dX5_sound_302 ?_
                refine w_iast S hE hP hD hS 1 rfl (1) (by omega) (by omega) (by omega) dX5_sound_303 (fun H locs hP hD hS => ?_)
                rw [List.set_cons_succ, List.set_cons_zero, su_tA] at hP hD
                have hP : va_P D vwCl [(q, .inr (5, [.ref qs, .ref qi, .ref qk, .ref ql])), (qs, .inl (cI, 2108, .inl (vI (stF ((mn : Nat) : Int) (tA + 1) sA kA nb ck (updI hi (f * 5 + g) (hiN ha hi (f * 5 + g) ((((thN nb tA f (g - f)) + ck g) - (tA + ck f)) - (((g : Nat) : Int) - ((f : Nat) : Int))))) (updI lo (f * 5 + g) (loN ha lo (f * 5 + g) ((((thN nb tA f (g - f)) + ck g) - ((bkN nb (thN nb tA f (g - f)) g (g - f)) + ck f)) + (((g : Nat) : Int) - ((f : Nat) : Int))))) (updI ha (f * 5 + g) 1) cn sm)))), (qi, .inl (cI, 4216, .inl (vI im))), (qk, .inl (cZ, 2, .inl (vI kp))), (ql, .inl (cI, 25, .inl (vI le)))] H := hP
                have hD : va_D A [(q, .inr (5, [.ref qs, .ref qi, .ref qk, .ref ql])), (qs, .inl (cI, 2108, .inl (vI (stF ((mn : Nat) : Int) (tA + 1) sA kA nb ck (updI hi (f * 5 + g) (hiN ha hi (f * 5 + g) ((((thN nb tA f (g - f)) + ck g) - (tA + ck f)) - (((g : Nat) : Int) - ((f : Nat) : Int))))) (updI lo (f * 5 + g) (loN ha lo (f * 5 + g) ((((thN nb tA f (g - f)) + ck g) - ((bkN nb (thN nb tA f (g - f)) g (g - f)) + ck f)) + (((g : Nat) : Int) - ((f : Nat) : Int))))) (updI ha (f * 5 + g) 1) cn sm)))), (qi, .inl (cI, 4216, .inl (vI im))), (qk, .inl (cZ, 2, .inl (vI kp))), (ql, .inl (cI, 25, .inl (vI le)))] := hD
                refine lv_iload hx hb dX5_sound_304 (lv_at hl 0 rfl) ?_
                exact hret _ _ _ _ _ dX5_sound_306 rfl hP hS
              · refine lv_iload hx hb dX5_sound_237 (lv_at hl 0 rfl) ?_
                refine b_eqF (tgt := 270) S dX5_sound_239 (by decide) (by decide) (by decide) ?_
                refine lv_aload_n hx hb dX5_sound_242 rfl (lv_at hl 7 rfl) ?_
                refine w_get (C := RX5) (T := TX5) (Nf := 4) (ci := 5) (v := .ref qs) S (fun _ h => List.mem_cons_of_mem _ (List.mem_append_right _ h)) hE hP 0 rfl rfl 0 (by decide) (List.mem_of_getElem? (i := 1) rfl) rfl dX5_sound_243 ?_
                refine lv_bipush (v := iI (58)) hx hb dX5_sound_246 (by decide) ?_
                refine lv_iload hx hb dX5_sound_248 (lv_at hl 3 rfl) ?_
                refine w_iadd S dX5_sound_250 ?_
                refine w_iald S hE hP 1 rfl (58 + (f * 5 + g)) (by omega) (by omega) (by omega) dX5_sound_251 ?_
                refine w_tz (z := lo (f * 5 + g)) (st_lo (by omega) (by omega)) ?_
                refine lv_iload hx hb dX5_sound_252 (lv_at hl 1 rfl) ?_
                refine c_leT (tgt := 270) S dX5_sound_254 (by decide) (by omega) (by omega) (by omega) ?_
                refine lv_iload hx hb dX5_sound_270 (lv_at hl 1 rfl) ?_
                refine w_tz (z := loN ha lo (f * 5 + g) ((((thN nb tA f (g - f)) + ck g) - ((bkN nb (thN nb tA f (g - f)) g (g - f)) + ck f)) + (((g : Nat) : Int) - ((f : Nat) : Int)))) (by unfold loN; rw [if_neg (fun q => h8 q.2)]) ?_
                refine w_iast S hE hP hD hS 1 rfl (58 + (f * 5 + g)) (by omega) (by omega) (by omega) dX5_sound_272 (fun H locs hP hD hS => ?_)
                rw [List.set_cons_succ, List.set_cons_zero, su_lo (j := f * 5 + g) (by omega) (by omega)] at hP hD
                have hP : va_P D vwCl [(q, .inr (5, [.ref qs, .ref qi, .ref qk, .ref ql])), (qs, .inl (cI, 2108, .inl (vI (stF ((mn : Nat) : Int) tA sA kA nb ck (updI hi (f * 5 + g) (hiN ha hi (f * 5 + g) ((((thN nb tA f (g - f)) + ck g) - (tA + ck f)) - (((g : Nat) : Int) - ((f : Nat) : Int))))) (updI lo (f * 5 + g) (loN ha lo (f * 5 + g) ((((thN nb tA f (g - f)) + ck g) - ((bkN nb (thN nb tA f (g - f)) g (g - f)) + ck f)) + (((g : Nat) : Int) - ((f : Nat) : Int))))) ha cn sm)))), (qi, .inl (cI, 4216, .inl (vI im))), (qk, .inl (cZ, 2, .inl (vI kp))), (ql, .inl (cI, 25, .inl (vI le)))] H := hP
                have hD : va_D A [(q, .inr (5, [.ref qs, .ref qi, .ref qk, .ref ql])), (qs, .inl (cI, 2108, .inl (vI (stF ((mn : Nat) : Int) tA sA kA nb ck (updI hi (f * 5 + g) (hiN ha hi (f * 5 + g) ((((thN nb tA f (g - f)) + ck g) - (tA + ck f)) - (((g : Nat) : Int) - ((f : Nat) : Int))))) (updI lo (f * 5 + g) (loN ha lo (f * 5 + g) ((((thN nb tA f (g - f)) + ck g) - ((bkN nb (thN nb tA f (g - f)) g (g - f)) + ck f)) + (((g : Nat) : Int) - ((f : Nat) : Int))))) ha cn sm)))), (qi, .inl (cI, 4216, .inl (vI im))), (qk, .inl (cZ, 2, .inl (vI kp))), (ql, .inl (cI, 25, .inl (vI le)))] := hD
                refine lv_aload_n hx hb dX5_sound_273 rfl (lv_at hl 7 rfl) ?_
                refine w_get (C := RX5) (T := TX5) (Nf := 4) (ci := 5) (v := .ref qs) S (fun _ h => List.mem_cons_of_mem _ (List.mem_append_right _ h)) hE hP 0 rfl rfl 0 (by decide) (List.mem_of_getElem? (i := 1) rfl) rfl dX5_sound_274 ?_
                refine lv_bipush (v := iI (83)) hx hb dX5_sound_277 (by decide) ?_
                refine lv_iload hx hb dX5_sound_279 (lv_at hl 3 rfl) ?_
                refine w_iadd S dX5_sound_281 ?_
                refine lv_iconst (v := iI (1)) hx hb dX5_sound_282 rfl ?_
                refine w_iast S hE hP hD hS 1 rfl (83 + (f * 5 + g)) (by omega) (by omega) (by omega) dX5_sound_283 (fun H locs hP hD hS => ?_)
                rw [List.set_cons_succ, List.set_cons_zero, su_ha (j := f * 5 + g) (by omega) (by omega)] at hP hD
                have hP : va_P D vwCl [(q, .inr (5, [.ref qs, .ref qi, .ref qk, .ref ql])), (qs, .inl (cI, 2108, .inl (vI (stF ((mn : Nat) : Int) tA sA kA nb ck (updI hi (f * 5 + g) (hiN ha hi (f * 5 + g) ((((thN nb tA f (g - f)) + ck g) - (tA + ck f)) - (((g : Nat) : Int) - ((f : Nat) : Int))))) (updI lo (f * 5 + g) (loN ha lo (f * 5 + g) ((((thN nb tA f (g - f)) + ck g) - ((bkN nb (thN nb tA f (g - f)) g (g - f)) + ck f)) + (((g : Nat) : Int) - ((f : Nat) : Int))))) (updI ha (f * 5 + g) 1) cn sm)))), (qi, .inl (cI, 4216, .inl (vI im))), (qk, .inl (cZ, 2, .inl (vI kp))), (ql, .inl (cI, 25, .inl (vI le)))] H := hP
                have hD : va_D A [(q, .inr (5, [.ref qs, .ref qi, .ref qk, .ref ql])), (qs, .inl (cI, 2108, .inl (vI (stF ((mn : Nat) : Int) tA sA kA nb ck (updI hi (f * 5 + g) (hiN ha hi (f * 5 + g) ((((thN nb tA f (g - f)) + ck g) - (tA + ck f)) - (((g : Nat) : Int) - ((f : Nat) : Int))))) (updI lo (f * 5 + g) (loN ha lo (f * 5 + g) ((((thN nb tA f (g - f)) + ck g) - ((bkN nb (thN nb tA f (g - f)) g (g - f)) + ck f)) + (((g : Nat) : Int) - ((f : Nat) : Int))))) (updI ha (f * 5 + g) 1) cn sm)))), (qi, .inl (cI, 4216, .inl (vI im))), (qk, .inl (cZ, 2, .inl (vI kp))), (ql, .inl (cI, 25, .inl (vI le)))] := hD
                refine lv_iload_n hx hb dX5_sound_284 rfl (lv_at hl 6 rfl) ?_
                refine lv_aload_n hx hb dX5_sound_285 rfl (lv_at hl 7 rfl) ?_
                refine w_get (C := RX5) (T := TX5) (Nf := 4) (ci := 5) (v := .ref qs) S (fun _ h => List.mem_cons_of_mem _ (List.mem_append_right _ h)) hE hP 0 rfl rfl 0 (by decide) (List.mem_of_getElem? (i := 1) rfl) rfl dX5_sound_286 ?_
                refine lv_iconst (v := iI (1)) hx hb dX5_sound_289 rfl ?_
                refine w_iald S hE hP 1 rfl (1) (by omega) (by omega) (by omega) dX5_sound_290 ?_
                refine w_tz (z := tA) rfl ?_
                refine w_isub S dX5_sound_291 ?_
                refine lv_istore (lv' := [(10, .int (iI ((bkN nb (thN nb tA f (g - f)) g (g - f)) - tA))), (9, .int (iI (1))), (8, .int (iI ((((thN nb tA f (g - f)) + ck g) - ((bkN nb (thN nb tA f (g - f)) g (g - f)) + ck f)) + (((g : Nat) : Int) - ((f : Nat) : Int))))), (7, .int (iI ((((thN nb tA f (g - f)) + ck g) - (tA + ck f)) - (((g : Nat) : Int) - ((f : Nat) : Int))))), (6, .int (iI (((f * 5 + g : Nat) : Int)))), (5, .int (iI ((ck g) - (ck f)))), (4, .int (iI (thN nb tA f (g - f)))), (3, .int (iI ((bkN nb (thN nb tA f (g - f)) g (g - f))))), (0, .ref q), (1, .int (iI (((f : Nat) : Int)))), (2, .int (iI (((g : Nat) : Int))))]) hx hb dX5_sound_292 hl (by decide) rfl (fun ls hl => ?_)
                refine lv_aload_n hx hb dX5_sound_294 rfl (lv_at hl 8 rfl) ?_
                refine w_get (C := RX5) (T := TX5) (Nf := 4) (ci := 5) (v := .ref qs) S (fun _ h => List.mem_cons_of_mem _ (List.mem_append_right _ h)) hE hP 0 rfl rfl 0 (by decide) (List.mem_of_getElem? (i := 1) rfl) rfl dX5_sound_295 ?_
                refine lv_iconst (v := iI (1)) hx hb dX5_sound_298 rfl ?_
                refine lv_dup2_11 hx hb dX5_sound_299 rfl rfl ?_
                refine w_iald S hE hP 1 rfl (1) (by omega) (by omega) (by omega) dX5_sound_300 ?_
                refine w_tz (z := tA) rfl ?_
                refine lv_iconst (v := iI (1)) hx hb dX5_sound_301 rfl ?_
                refine w_iadd S dX5_sound_302 ?_
                refine w_iast S hE hP hD hS 1 rfl (1) (by omega) (by omega) (by omega) dX5_sound_303 (fun H locs hP hD hS => ?_)
                rw [List.set_cons_succ, List.set_cons_zero, su_tA] at hP hD
                have hP : va_P D vwCl [(q, .inr (5, [.ref qs, .ref qi, .ref qk, .ref ql])), (qs, .inl (cI, 2108, .inl (vI (stF ((mn : Nat) : Int) (tA + 1) sA kA nb ck (updI hi (f * 5 + g) (hiN ha hi (f * 5 + g) ((((thN nb tA f (g - f)) + ck g) - (tA + ck f)) - (((g : Nat) : Int) - ((f : Nat) : Int))))) (updI lo (f * 5 + g) (loN ha lo (f * 5 + g) ((((thN nb tA f (g - f)) + ck g) - ((bkN nb (thN nb tA f (g - f)) g (g - f)) + ck f)) + (((g : Nat) : Int) - ((f : Nat) : Int))))) (updI ha (f * 5 + g) 1) cn sm)))), (qi, .inl (cI, 4216, .inl (vI im))), (qk, .inl (cZ, 2, .inl (vI kp))), (ql, .inl (cI, 25, .inl (vI le)))] H := hP
                have hD : va_D A [(q, .inr (5, [.ref qs, .ref qi, .ref qk, .ref ql])), (qs, .inl (cI, 2108, .inl (vI (stF ((mn : Nat) : Int) (tA + 1) sA kA nb ck (updI hi (f * 5 + g) (hiN ha hi (f * 5 + g) ((((thN nb tA f (g - f)) + ck g) - (tA + ck f)) - (((g : Nat) : Int) - ((f : Nat) : Int))))) (updI lo (f * 5 + g) (loN ha lo (f * 5 + g) ((((thN nb tA f (g - f)) + ck g) - ((bkN nb (thN nb tA f (g - f)) g (g - f)) + ck f)) + (((g : Nat) : Int) - ((f : Nat) : Int))))) (updI ha (f * 5 + g) 1) cn sm)))), (qi, .inl (cI, 4216, .inl (vI im))), (qk, .inl (cZ, 2, .inl (vI kp))), (ql, .inl (cI, 25, .inl (vI le)))] := hD
                refine lv_iload hx hb dX5_sound_304 (lv_at hl 0 rfl) ?_
                exact hret _ _ _ _ _ dX5_sound_306 rfl hP hS
            · refine lv_aload_n hx hb dX5_sound_183 rfl (lv_at hl 7 rfl) ?_
              refine w_get (C := RX5) (T := TX5) (Nf := 4) (ci := 5) (v := .ref qs) S (fun _ h => List.mem_cons_of_mem _ (List.mem_append_right _ h)) hE hP 0 rfl rfl 0 (by decide) (List.mem_of_getElem? (i := 1) rfl) rfl dX5_sound_184 ?_
              refine lv_bipush (v := iI (33)) hx hb dX5_sound_187 (by decide) ?_
              refine lv_iload hx hb dX5_sound_189 (lv_at hl 3 rfl) ?_
              refine w_iadd S dX5_sound_191 ?_
              refine lv_iload hx hb dX5_sound_192 (lv_at hl 0 rfl) ?_
              refine b_eqF (tgt := 225) S dX5_sound_194 (by decide) (by decide) (by decide) ?_
              refine lv_aload_n hx hb dX5_sound_197 rfl (lv_at hl 7 rfl) ?_
              refine w_get (C := RX5) (T := TX5) (Nf := 4) (ci := 5) (v := .ref qs) S (fun _ h => List.mem_cons_of_mem _ (List.mem_append_right _ h)) hE hP 0 rfl rfl 0 (by decide) (List.mem_of_getElem? (i := 1) rfl) rfl dX5_sound_198 ?_
              refine lv_bipush (v := iI (33)) hx hb dX5_sound_201 (by decide) ?_
              refine lv_iload hx hb dX5_sound_203 (lv_at hl 3 rfl) ?_
              refine w_iadd S dX5_sound_205 ?_
              refine w_iald S hE hP 1 rfl (33 + (f * 5 + g)) (by omega) (by omega) (by omega) dX5_sound_206 ?_
              refine w_tz (z := hi (f * 5 + g)) (st_hi (by omega) (by omega)) ?_
              refine lv_iload hx hb dX5_sound_207 (lv_at hl 2 rfl) ?_
              refine c_geT (tgt := 225) S dX5_sound_209 (by decide) (by omega) (by omega) (by omega) ?_
              refine lv_iload hx hb dX5_sound_225 (lv_at hl 2 rfl) ?_
              refine w_tz (z := hiN ha hi (f * 5 + g) ((((thN nb tA f (g - f)) + ck g) - (tA + ck f)) - (((g : Nat) : Int) - ((f : Nat) : Int)))) (by unfold hiN; rw [if_neg (fun q => h7 q.2)]) ?_
              refine w_iast S hE hP hD hS 1 rfl (33 + (f * 5 + g)) (by omega) (by omega) (by omega) dX5_sound_227 (fun H locs hP hD hS => ?_)
              rw [List.set_cons_succ, List.set_cons_zero, su_hi (j := f * 5 + g) (by omega) (by omega)] at hP hD
              have hP : va_P D vwCl [(q, .inr (5, [.ref qs, .ref qi, .ref qk, .ref ql])), (qs, .inl (cI, 2108, .inl (vI (stF ((mn : Nat) : Int) tA sA kA nb ck (updI hi (f * 5 + g) (hiN ha hi (f * 5 + g) ((((thN nb tA f (g - f)) + ck g) - (tA + ck f)) - (((g : Nat) : Int) - ((f : Nat) : Int))))) lo ha cn sm)))), (qi, .inl (cI, 4216, .inl (vI im))), (qk, .inl (cZ, 2, .inl (vI kp))), (ql, .inl (cI, 25, .inl (vI le)))] H := hP
              have hD : va_D A [(q, .inr (5, [.ref qs, .ref qi, .ref qk, .ref ql])), (qs, .inl (cI, 2108, .inl (vI (stF ((mn : Nat) : Int) tA sA kA nb ck (updI hi (f * 5 + g) (hiN ha hi (f * 5 + g) ((((thN nb tA f (g - f)) + ck g) - (tA + ck f)) - (((g : Nat) : Int) - ((f : Nat) : Int))))) lo ha cn sm)))), (qi, .inl (cI, 4216, .inl (vI im))), (qk, .inl (cZ, 2, .inl (vI kp))), (ql, .inl (cI, 25, .inl (vI le)))] := hD
              refine lv_aload_n hx hb dX5_sound_228 rfl (lv_at hl 7 rfl) ?_
              refine w_get (C := RX5) (T := TX5) (Nf := 4) (ci := 5) (v := .ref qs) S (fun _ h => List.mem_cons_of_mem _ (List.mem_append_right _ h)) hE hP 0 rfl rfl 0 (by decide) (List.mem_of_getElem? (i := 1) rfl) rfl dX5_sound_229 ?_
              refine lv_bipush (v := iI (58)) hx hb dX5_sound_232 (by decide) ?_
              refine lv_iload hx hb dX5_sound_234 (lv_at hl 3 rfl) ?_
              refine w_iadd S dX5_sound_236 ?_
              by_cases h8 : (((thN nb tA f (g - f)) + ck g) - ((bkN nb (thN nb tA f (g - f)) g (g - f)) + ck f)) + (((g : Nat) : Int) - ((f : Nat) : Int)) < lo (f * 5 + g)
              · refine lv_iload hx hb dX5_sound_237 (lv_at hl 0 rfl) ?_
                refine b_eqF (tgt := 270) S dX5_sound_239 (by decide) (by decide) (by decide) ?_
                refine lv_aload_n hx hb dX5_sound_242 rfl (lv_at hl 7 rfl) ?_
                refine w_get (C := RX5) (T := TX5) (Nf := 4) (ci := 5) (v := .ref qs) S (fun _ h => List.mem_cons_of_mem _ (List.mem_append_right _ h)) hE hP 0 rfl rfl 0 (by decide) (List.mem_of_getElem? (i := 1) rfl) rfl dX5_sound_243 ?_
                refine lv_bipush (v := iI (58)) hx hb dX5_sound_246 (by decide) ?_
                refine lv_iload hx hb dX5_sound_248 (lv_at hl 3 rfl) ?_
                refine w_iadd S dX5_sound_250 ?_
                refine w_iald S hE hP 1 rfl (58 + (f * 5 + g)) (by omega) (by omega) (by omega) dX5_sound_251 ?_
                refine w_tz (z := lo (f * 5 + g)) (st_lo (by omega) (by omega)) ?_
                refine lv_iload hx hb dX5_sound_252 (lv_at hl 1 rfl) ?_
                refine c_leF (tgt := 270) S dX5_sound_254 (by decide) (by omega) (by omega) (by omega) ?_
                refine lv_aload_n hx hb dX5_sound_257 rfl (lv_at hl 7 rfl) ?_
                refine w_get (C := RX5) (T := TX5) (Nf := 4) (ci := 5) (v := .ref qs) S (fun _ h => List.mem_cons_of_mem _ (List.mem_append_right _ h)) hE hP 0 rfl rfl 0 (by decide) (List.mem_of_getElem? (i := 1) rfl) rfl dX5_sound_258 ?_
                refine lv_bipush (v := iI (58)) hx hb dX5_sound_261 (by decide) ?_
                refine lv_iload hx hb dX5_sound_263 (lv_at hl 3 rfl) ?_
                refine w_iadd S dX5_sound_265 ?_
                refine w_iald S hE hP 1 rfl (58 + (f * 5 + g)) (by omega) (by omega) (by omega) dX5_sound_266 ?_
                refine w_tz (z := lo (f * 5 + g)) (st_lo (by omega) (by omega)) ?_
                refine lv_goto (tgt := 272) hx hb dX5_sound_267 (by decide) ?_
                refine w_tz (z := loN ha lo (f * 5 + g) ((((thN nb tA f (g - f)) + ck g) - ((bkN nb (thN nb tA f (g - f)) g (g - f)) + ck f)) + (((g : Nat) : Int) - ((f : Nat) : Int)))) (by unfold loN; rw [if_pos ⟨hh, h8⟩]) ?_
                refine w_iast S hE hP hD hS 1 rfl (58 + (f * 5 + g)) (by omega) (by omega) (by omega) dX5_sound_272 (fun H locs hP hD hS => ?_)
                rw [List.set_cons_succ, List.set_cons_zero, su_lo (j := f * 5 + g) (by omega) (by omega)] at hP hD
                have hP : va_P D vwCl [(q, .inr (5, [.ref qs, .ref qi, .ref qk, .ref ql])), (qs, .inl (cI, 2108, .inl (vI (stF ((mn : Nat) : Int) tA sA kA nb ck (updI hi (f * 5 + g) (hiN ha hi (f * 5 + g) ((((thN nb tA f (g - f)) + ck g) - (tA + ck f)) - (((g : Nat) : Int) - ((f : Nat) : Int))))) (updI lo (f * 5 + g) (loN ha lo (f * 5 + g) ((((thN nb tA f (g - f)) + ck g) - ((bkN nb (thN nb tA f (g - f)) g (g - f)) + ck f)) + (((g : Nat) : Int) - ((f : Nat) : Int))))) ha cn sm)))), (qi, .inl (cI, 4216, .inl (vI im))), (qk, .inl (cZ, 2, .inl (vI kp))), (ql, .inl (cI, 25, .inl (vI le)))] H := hP
                have hD : va_D A [(q, .inr (5, [.ref qs, .ref qi, .ref qk, .ref ql])), (qs, .inl (cI, 2108, .inl (vI (stF ((mn : Nat) : Int) tA sA kA nb ck (updI hi (f * 5 + g) (hiN ha hi (f * 5 + g) ((((thN nb tA f (g - f)) + ck g) - (tA + ck f)) - (((g : Nat) : Int) - ((f : Nat) : Int))))) (updI lo (f * 5 + g) (loN ha lo (f * 5 + g) ((((thN nb tA f (g - f)) + ck g) - ((bkN nb (thN nb tA f (g - f)) g (g - f)) + ck f)) + (((g : Nat) : Int) - ((f : Nat) : Int))))) ha cn sm)))), (qi, .inl (cI, 4216, .inl (vI im))), (qk, .inl (cZ, 2, .inl (vI kp))), (ql, .inl (cI, 25, .inl (vI le)))] := hD
                refine lv_aload_n hx hb dX5_sound_273 rfl (lv_at hl 7 rfl) ?_
                refine w_get (C := RX5) (T := TX5) (Nf := 4) (ci := 5) (v := .ref qs) S (fun _ h => List.mem_cons_of_mem _ (List.mem_append_right _ h)) hE hP 0 rfl rfl 0 (by decide) (List.mem_of_getElem? (i := 1) rfl) rfl dX5_sound_274 ?_
                refine lv_bipush (v := iI (83)) hx hb dX5_sound_277 (by decide) ?_
                refine lv_iload hx hb dX5_sound_279 (lv_at hl 3 rfl) ?_
                refine w_iadd S dX5_sound_281 ?_
                refine lv_iconst (v := iI (1)) hx hb dX5_sound_282 rfl ?_
                refine w_iast S hE hP hD hS 1 rfl (83 + (f * 5 + g)) (by omega) (by omega) (by omega) dX5_sound_283 (fun H locs hP hD hS => ?_)
                rw [List.set_cons_succ, List.set_cons_zero, su_ha (j := f * 5 + g) (by omega) (by omega)] at hP hD
                have hP : va_P D vwCl [(q, .inr (5, [.ref qs, .ref qi, .ref qk, .ref ql])), (qs, .inl (cI, 2108, .inl (vI (stF ((mn : Nat) : Int) tA sA kA nb ck (updI hi (f * 5 + g) (hiN ha hi (f * 5 + g) ((((thN nb tA f (g - f)) + ck g) - (tA + ck f)) - (((g : Nat) : Int) - ((f : Nat) : Int))))) (updI lo (f * 5 + g) (loN ha lo (f * 5 + g) ((((thN nb tA f (g - f)) + ck g) - ((bkN nb (thN nb tA f (g - f)) g (g - f)) + ck f)) + (((g : Nat) : Int) - ((f : Nat) : Int))))) (updI ha (f * 5 + g) 1) cn sm)))), (qi, .inl (cI, 4216, .inl (vI im))), (qk, .inl (cZ, 2, .inl (vI kp))), (ql, .inl (cI, 25, .inl (vI le)))] H := hP
                have hD : va_D A [(q, .inr (5, [.ref qs, .ref qi, .ref qk, .ref ql])), (qs, .inl (cI, 2108, .inl (vI (stF ((mn : Nat) : Int) tA sA kA nb ck (updI hi (f * 5 + g) (hiN ha hi (f * 5 + g) ((((thN nb tA f (g - f)) + ck g) - (tA + ck f)) - (((g : Nat) : Int) - ((f : Nat) : Int))))) (updI lo (f * 5 + g) (loN ha lo (f * 5 + g) ((((thN nb tA f (g - f)) + ck g) - ((bkN nb (thN nb tA f (g - f)) g (g - f)) + ck f)) + (((g : Nat) : Int) - ((f : Nat) : Int))))) (updI ha (f * 5 + g) 1) cn sm)))), (qi, .inl (cI, 4216, .inl (vI im))), (qk, .inl (cZ, 2, .inl (vI kp))), (ql, .inl (cI, 25, .inl (vI le)))] := hD
                refine lv_iload_n hx hb dX5_sound_284 rfl (lv_at hl 6 rfl) ?_
                refine lv_aload_n hx hb dX5_sound_285 rfl (lv_at hl 7 rfl) ?_
                refine w_get (C := RX5) (T := TX5) (Nf := 4) (ci := 5) (v := .ref qs) S (fun _ h => List.mem_cons_of_mem _ (List.mem_append_right _ h)) hE hP 0 rfl rfl 0 (by decide) (List.mem_of_getElem? (i := 1) rfl) rfl dX5_sound_286 ?_
                refine lv_iconst (v := iI (1)) hx hb dX5_sound_289 rfl ?_
                refine w_iald S hE hP 1 rfl (1) (by omega) (by omega) (by omega) dX5_sound_290 ?_
                refine w_tz (z := tA) rfl ?_
                refine w_isub S dX5_sound_291 ?_
                refine lv_istore (lv' := [(10, .int (iI ((bkN nb (thN nb tA f (g - f)) g (g - f)) - tA))), (9, .int (iI (1))), (8, .int (iI ((((thN nb tA f (g - f)) + ck g) - ((bkN nb (thN nb tA f (g - f)) g (g - f)) + ck f)) + (((g : Nat) : Int) - ((f : Nat) : Int))))), (7, .int (iI ((((thN nb tA f (g - f)) + ck g) - (tA + ck f)) - (((g : Nat) : Int) - ((f : Nat) : Int))))), (6, .int (iI (((f * 5 + g : Nat) : Int)))), (5, .int (iI ((ck g) - (ck f)))), (4, .int (iI (thN nb tA f (g - f)))), (3, .int (iI ((bkN nb (thN nb tA f (g - f)) g (g - f))))), (0, .ref q), (1, .int (iI (((f : Nat) : Int)))), (2, .int (iI (((g : Nat) : Int))))]) hx hb dX5_sound_292 hl (by decide) rfl (fun ls hl => ?_)
                refine lv_aload_n hx hb dX5_sound_294 rfl (lv_at hl 8 rfl) ?_
                refine w_get (C := RX5) (T := TX5) (Nf := 4) (ci := 5) (v := .ref qs) S (fun _ h => List.mem_cons_of_mem _ (List.mem_append_right _ h)) hE hP 0 rfl rfl 0 (by decide) (List.mem_of_getElem? (i := 1) rfl) rfl dX5_sound_295 ?_
                refine lv_iconst (v := iI (1)) hx hb dX5_sound_298 rfl ?_
                refine lv_dup2_11 hx hb dX5_sound_299 rfl rfl ?_
                refine w_iald S hE hP 1 rfl (1) (by omega) (by omega) (by omega) dX5_sound_300 ?_
                refine w_tz (z := tA) rfl ?_
                refine lv_iconst (v := iI (1)) hx hb dX5_sound_301 rfl ?_
                refine w_iadd S dX5_sound_302 ?_
                refine w_iast S hE hP hD hS 1 rfl (1) (by omega) (by omega) (by omega) dX5_sound_303 (fun H locs hP hD hS => ?_)
                rw [List.set_cons_succ, List.set_cons_zero, su_tA] at hP hD
                have hP : va_P D vwCl [(q, .inr (5, [.ref qs, .ref qi, .ref qk, .ref ql])), (qs, .inl (cI, 2108, .inl (vI (stF ((mn : Nat) : Int) (tA + 1) sA kA nb ck (updI hi (f * 5 + g) (hiN ha hi (f * 5 + g) ((((thN nb tA f (g - f)) + ck g) - (tA + ck f)) - (((g : Nat) : Int) - ((f : Nat) : Int))))) (updI lo (f * 5 + g) (loN ha lo (f * 5 + g) ((((thN nb tA f (g - f)) + ck g) - ((bkN nb (thN nb tA f (g - f)) g (g - f)) + ck f)) + (((g : Nat) : Int) - ((f : Nat) : Int))))) (updI ha (f * 5 + g) 1) cn sm)))), (qi, .inl (cI, 4216, .inl (vI im))), (qk, .inl (cZ, 2, .inl (vI kp))), (ql, .inl (cI, 25, .inl (vI le)))] H := hP
                have hD : va_D A [(q, .inr (5, [.ref qs, .ref qi, .ref qk, .ref ql])), (qs, .inl (cI, 2108, .inl (vI (stF ((mn : Nat) : Int) (tA + 1) sA kA nb ck (updI hi (f * 5 + g) (hiN ha hi (f * 5 + g) ((((thN nb tA f (g - f)) + ck g) - (tA + ck f)) - (((g : Nat) : Int) - ((f : Nat) : Int))))) (updI lo (f * 5 + g) (loN ha lo (f * 5 + g) ((((thN nb tA f (g - f)) + ck g) - ((bkN nb (thN nb tA f (g - f)) g (g - f)) + ck f)) + (((g : Nat) : Int) - ((f : Nat) : Int))))) (updI ha (f * 5 + g) 1) cn sm)))), (qi, .inl (cI, 4216, .inl (vI im))), (qk, .inl (cZ, 2, .inl (vI kp))), (ql, .inl (cI, 25, .inl (vI le)))] := hD
                refine lv_iload hx hb dX5_sound_304 (lv_at hl 0 rfl) ?_
                exact hret _ _ _ _ _ dX5_sound_306 rfl hP hS
              · refine lv_iload hx hb dX5_sound_237 (lv_at hl 0 rfl) ?_
                refine b_eqF (tgt := 270) S dX5_sound_239 (by decide) (by decide) (by decide) ?_
                refine lv_aload_n hx hb dX5_sound_242 rfl (lv_at hl 7 rfl) ?_
                refine w_get (C := RX5) (T := TX5) (Nf := 4) (ci := 5) (v := .ref qs) S (fun _ h => List.mem_cons_of_mem _ (List.mem_append_right _ h)) hE hP 0 rfl rfl 0 (by decide) (List.mem_of_getElem? (i := 1) rfl) rfl dX5_sound_243 ?_
                refine lv_bipush (v := iI (58)) hx hb dX5_sound_246 (by decide) ?_
                refine lv_iload hx hb dX5_sound_248 (lv_at hl 3 rfl) ?_
                refine w_iadd S dX5_sound_250 ?_
                refine w_iald S hE hP 1 rfl (58 + (f * 5 + g)) (by omega) (by omega) (by omega) dX5_sound_251 ?_
                refine w_tz (z := lo (f * 5 + g)) (st_lo (by omega) (by omega)) ?_
                refine lv_iload hx hb dX5_sound_252 (lv_at hl 1 rfl) ?_
                refine c_leT (tgt := 270) S dX5_sound_254 (by decide) (by omega) (by omega) (by omega) ?_
                refine lv_iload hx hb dX5_sound_270 (lv_at hl 1 rfl) ?_
                refine w_tz (z := loN ha lo (f * 5 + g) ((((thN nb tA f (g - f)) + ck g) - ((bkN nb (thN nb tA f (g - f)) g (g - f)) + ck f)) + (((g : Nat) : Int) - ((f : Nat) : Int)))) (by unfold loN; rw [if_neg (fun q => h8 q.2)]) ?_
                refine w_iast S hE hP hD hS 1 rfl (58 + (f * 5 + g)) (by omega) (by omega) (by omega) dX5_sound_272 (fun H locs hP hD hS => ?_)
                rw [List.set_cons_succ, List.set_cons_zero, su_lo (j := f * 5 + g) (by omega) (by omega)] at hP hD
                have hP : va_P D vwCl [(q, .inr (5, [.ref qs, .ref qi, .ref qk, .ref ql])), (qs, .inl (cI, 2108, .inl (vI (stF ((mn : Nat) : Int) tA sA kA nb ck (updI hi (f * 5 + g) (hiN ha hi (f * 5 + g) ((((thN nb tA f (g - f)) + ck g) - (tA + ck f)) - (((g : Nat) : Int) - ((f : Nat) : Int))))) (updI lo (f * 5 + g) (loN ha lo (f * 5 + g) ((((thN nb tA f (g - f)) + ck g) - ((bkN nb (thN nb tA f (g - f)) g (g - f)) + ck f)) + (((g : Nat) : Int) - ((f : Nat) : Int))))) ha cn sm)))), (qi, .inl (cI, 4216, .inl (vI im))), (qk, .inl (cZ, 2, .inl (vI kp))), (ql, .inl (cI, 25, .inl (vI le)))] H := hP
                have hD : va_D A [(q, .inr (5, [.ref qs, .ref qi, .ref qk, .ref ql])), (qs, .inl (cI, 2108, .inl (vI (stF ((mn : Nat) : Int) tA sA kA nb ck (updI hi (f * 5 + g) (hiN ha hi (f * 5 + g) ((((thN nb tA f (g - f)) + ck g) - (tA + ck f)) - (((g : Nat) : Int) - ((f : Nat) : Int))))) (updI lo (f * 5 + g) (loN ha lo (f * 5 + g) ((((thN nb tA f (g - f)) + ck g) - ((bkN nb (thN nb tA f (g - f)) g (g - f)) + ck f)) + (((g : Nat) : Int) - ((f : Nat) : Int))))) ha cn sm)))), (qi, .inl (cI, 4216, .inl (vI im))), (qk, .inl (cZ, 2, .inl (vI kp))), (ql, .inl (cI, 25, .inl (vI le)))] := hD
                refine lv_aload_n hx hb dX5_sound_273 rfl (lv_at hl 7 rfl) ?_
                refine w_get (C := RX5) (T := TX5) (Nf := 4) (ci := 5) (v := .ref qs) S (fun _ h => List.mem_cons_of_mem _ (List.mem_append_right _ h)) hE hP 0 rfl rfl 0 (by decide) (List.mem_of_getElem? (i := 1) rfl) rfl dX5_sound_274 ?_
                refine lv_bipush (v := iI (83)) hx hb dX5_sound_277 (by decide) ?_
                refine lv_iload hx hb dX5_sound_279 (lv_at hl 3 rfl) ?_
                refine w_iadd S dX5_sound_281 ?_
                refine lv_iconst (v := iI (1)) hx hb dX5_sound_282 rfl ?_
                refine w_iast S hE hP hD hS 1 rfl (83 + (f * 5 + g)) (by omega) (by omega) (by omega) dX5_sound_283 (fun H locs hP hD hS => ?_)
                rw [List.set_cons_succ, List.set_cons_zero, su_ha (j := f * 5 + g) (by omega) (by omega)] at hP hD
                have hP : va_P D vwCl [(q, .inr (5, [.ref qs, .ref qi, .ref qk, .ref ql])), (qs, .inl (cI, 2108, .inl (vI (stF ((mn : Nat) : Int) tA sA kA nb ck (updI hi (f * 5 + g) (hiN ha hi (f * 5 + g) ((((thN nb tA f (g - f)) + ck g) - (tA + ck f)) - (((g : Nat) : Int) - ((f : Nat) : Int))))) (updI lo (f * 5 + g) (loN ha lo (f * 5 + g) ((((thN nb tA f (g - f)) + ck g) - ((bkN nb (thN nb tA f (g - f)) g (g - f)) + ck f)) + (((g : Nat) : Int) - ((f : Nat) : Int))))) (updI ha (f * 5 + g) 1) cn sm)))), (qi, .inl (cI, 4216, .inl (vI im))), (qk, .inl (cZ, 2, .inl (vI kp))), (ql, .inl (cI, 25, .inl (vI le)))] H := hP
                have hD : va_D A [(q, .inr (5, [.ref qs, .ref qi, .ref qk, .ref ql])), (qs, .inl (cI, 2108, .inl (vI (stF ((mn : Nat) : Int) tA sA kA nb ck (updI hi (f * 5 + g) (hiN ha hi (f * 5 + g) ((((thN nb tA f (g - f)) + ck g) - (tA + ck f)) - (((g : Nat) : Int) - ((f : Nat) : Int))))) (updI lo (f * 5 + g) (loN ha lo (f * 5 + g) ((((thN nb tA f (g - f)) + ck g) - ((bkN nb (thN nb tA f (g - f)) g (g - f)) + ck f)) + (((g : Nat) : Int) - ((f : Nat) : Int))))) (updI ha (f * 5 + g) 1) cn sm)))), (qi, .inl (cI, 4216, .inl (vI im))), (qk, .inl (cZ, 2, .inl (vI kp))), (ql, .inl (cI, 25, .inl (vI le)))] := hD
                refine lv_iload_n hx hb dX5_sound_284 rfl (lv_at hl 6 rfl) ?_
                refine lv_aload_n hx hb dX5_sound_285 rfl (lv_at hl 7 rfl) ?_
                refine w_get (C := RX5) (T := TX5) (Nf := 4) (ci := 5) (v := .ref qs) S (fun _ h => List.mem_cons_of_mem _ (List.mem_append_right _ h)) hE hP 0 rfl rfl 0 (by decide) (List.mem_of_getElem? (i := 1) rfl) rfl dX5_sound_286 ?_
                refine lv_iconst (v := iI (1)) hx hb dX5_sound_289 rfl ?_
                refine w_iald S hE hP 1 rfl (1) (by omega) (by omega) (by omega) dX5_sound_290 ?_
                refine w_tz (z := tA) rfl ?_
                refine w_isub S dX5_sound_291 ?_
                refine lv_istore (lv' := [(10, .int (iI ((bkN nb (thN nb tA f (g - f)) g (g - f)) - tA))), (9, .int (iI (1))), (8, .int (iI ((((thN nb tA f (g - f)) + ck g) - ((bkN nb (thN nb tA f (g - f)) g (g - f)) + ck f)) + (((g : Nat) : Int) - ((f : Nat) : Int))))), (7, .int (iI ((((thN nb tA f (g - f)) + ck g) - (tA + ck f)) - (((g : Nat) : Int) - ((f : Nat) : Int))))), (6, .int (iI (((f * 5 + g : Nat) : Int)))), (5, .int (iI ((ck g) - (ck f)))), (4, .int (iI (thN nb tA f (g - f)))), (3, .int (iI ((bkN nb (thN nb tA f (g - f)) g (g - f))))), (0, .ref q), (1, .int (iI (((f : Nat) : Int)))), (2, .int (iI (((g : Nat) : Int))))]) hx hb dX5_sound_292 hl (by decide) rfl (fun ls hl => ?_)
                refine lv_aload_n hx hb dX5_sound_294 rfl (lv_at hl 8 rfl) ?_
                refine w_get (C := RX5) (T := TX5) (Nf := 4) (ci := 5) (v := .ref qs) S (fun _ h => List.mem_cons_of_mem _ (List.mem_append_right _ h)) hE hP 0 rfl rfl 0 (by decide) (List.mem_of_getElem? (i := 1) rfl) rfl dX5_sound_295 ?_
                refine lv_iconst (v := iI (1)) hx hb dX5_sound_298 rfl ?_
                refine lv_dup2_11 hx hb dX5_sound_299 rfl rfl ?_
                refine w_iald S hE hP 1 rfl (1) (by omega) (by omega) (by omega) dX5_sound_300 ?_
                refine w_tz (z := tA) rfl ?_
                refine lv_iconst (v := iI (1)) hx hb dX5_sound_301 rfl ?_
                refine w_iadd S dX5_sound_302 ?_
                refine w_iast S hE hP hD hS 1 rfl (1) (by omega) (by omega) (by omega) dX5_sound_303 (fun H locs hP hD hS => ?_)
                rw [List.set_cons_succ, List.set_cons_zero, su_tA] at hP hD
                have hP : va_P D vwCl [(q, .inr (5, [.ref qs, .ref qi, .ref qk, .ref ql])), (qs, .inl (cI, 2108, .inl (vI (stF ((mn : Nat) : Int) (tA + 1) sA kA nb ck (updI hi (f * 5 + g) (hiN ha hi (f * 5 + g) ((((thN nb tA f (g - f)) + ck g) - (tA + ck f)) - (((g : Nat) : Int) - ((f : Nat) : Int))))) (updI lo (f * 5 + g) (loN ha lo (f * 5 + g) ((((thN nb tA f (g - f)) + ck g) - ((bkN nb (thN nb tA f (g - f)) g (g - f)) + ck f)) + (((g : Nat) : Int) - ((f : Nat) : Int))))) (updI ha (f * 5 + g) 1) cn sm)))), (qi, .inl (cI, 4216, .inl (vI im))), (qk, .inl (cZ, 2, .inl (vI kp))), (ql, .inl (cI, 25, .inl (vI le)))] H := hP
                have hD : va_D A [(q, .inr (5, [.ref qs, .ref qi, .ref qk, .ref ql])), (qs, .inl (cI, 2108, .inl (vI (stF ((mn : Nat) : Int) (tA + 1) sA kA nb ck (updI hi (f * 5 + g) (hiN ha hi (f * 5 + g) ((((thN nb tA f (g - f)) + ck g) - (tA + ck f)) - (((g : Nat) : Int) - ((f : Nat) : Int))))) (updI lo (f * 5 + g) (loN ha lo (f * 5 + g) ((((thN nb tA f (g - f)) + ck g) - ((bkN nb (thN nb tA f (g - f)) g (g - f)) + ck f)) + (((g : Nat) : Int) - ((f : Nat) : Int))))) (updI ha (f * 5 + g) 1) cn sm)))), (qi, .inl (cI, 4216, .inl (vI im))), (qk, .inl (cZ, 2, .inl (vI kp))), (ql, .inl (cI, 25, .inl (vI le)))] := hD
                refine lv_iload hx hb dX5_sound_304 (lv_at hl 0 rfl) ?_
                exact hret _ _ _ _ _ dX5_sound_306 rfl hP hS
          · refine lv_aload_n hx hb dX5_sound_162 rfl (lv_at hl 6 rfl) ?_
            refine w_get (C := RX5) (T := TX5) (Nf := 4) (ci := 5) (v := .ref qs) S (fun _ h => List.mem_cons_of_mem _ (List.mem_append_right _ h)) hE hP 0 rfl rfl 0 (by decide) (List.mem_of_getElem? (i := 1) rfl) rfl dX5_sound_163 ?_
            refine lv_bipush (v := iI (83)) hx hb dX5_sound_166 (by decide) ?_
            refine lv_iload hx hb dX5_sound_168 (lv_at hl 2 rfl) ?_
            refine w_iadd S dX5_sound_170 ?_
            refine w_iald S hE hP 1 rfl (83 + (f * 5 + g)) (by omega) (by omega) (by omega) dX5_sound_171 ?_
            refine w_tz (z := ha (f * 5 + g)) (st_ha (by omega) (by omega)) ?_
            refine lv_iconst (v := iI (1)) hx hb dX5_sound_172 rfl ?_
            refine c_neT (tgt := 180) S dX5_sound_173 (by decide) (by omega) (by omega) (by omega) ?_
            refine lv_iconst (v := iI (0)) hx hb dX5_sound_180 rfl ?_
            refine lv_istore (lv' := [(9, .int (iI (0))), (8, .int (iI ((((thN nb tA f (g - f)) + ck g) - ((bkN nb (thN nb tA f (g - f)) g (g - f)) + ck f)) + (((g : Nat) : Int) - ((f : Nat) : Int))))), (7, .int (iI ((((thN nb tA f (g - f)) + ck g) - (tA + ck f)) - (((g : Nat) : Int) - ((f : Nat) : Int))))), (6, .int (iI (((f * 5 + g : Nat) : Int)))), (5, .int (iI ((ck g) - (ck f)))), (4, .int (iI (thN nb tA f (g - f)))), (3, .int (iI ((bkN nb (thN nb tA f (g - f)) g (g - f))))), (0, .ref q), (1, .int (iI (((f : Nat) : Int)))), (2, .int (iI (((g : Nat) : Int))))]) hx hb dX5_sound_181 hl (by decide) rfl (fun ls hl => ?_)
            refine lv_aload_n hx hb dX5_sound_183 rfl (lv_at hl 7 rfl) ?_
            refine w_get (C := RX5) (T := TX5) (Nf := 4) (ci := 5) (v := .ref qs) S (fun _ h => List.mem_cons_of_mem _ (List.mem_append_right _ h)) hE hP 0 rfl rfl 0 (by decide) (List.mem_of_getElem? (i := 1) rfl) rfl dX5_sound_184 ?_
            refine lv_bipush (v := iI (33)) hx hb dX5_sound_187 (by decide) ?_
            refine lv_iload hx hb dX5_sound_189 (lv_at hl 3 rfl) ?_
            refine w_iadd S dX5_sound_191 ?_
            refine lv_iload hx hb dX5_sound_192 (lv_at hl 0 rfl) ?_
            refine b_eqT (tgt := 225) S dX5_sound_194 (by decide) (by decide) ?_
            refine lv_iload hx hb dX5_sound_225 (lv_at hl 2 rfl) ?_
            refine w_tz (z := hiN ha hi (f * 5 + g) ((((thN nb tA f (g - f)) + ck g) - (tA + ck f)) - (((g : Nat) : Int) - ((f : Nat) : Int)))) (by unfold hiN; rw [if_neg (fun q => hh q.1)]) ?_
            refine w_iast S hE hP hD hS 1 rfl (33 + (f * 5 + g)) (by omega) (by omega) (by omega) dX5_sound_227 (fun H locs hP hD hS => ?_)
            rw [List.set_cons_succ, List.set_cons_zero, su_hi (j := f * 5 + g) (by omega) (by omega)] at hP hD
            have hP : va_P D vwCl [(q, .inr (5, [.ref qs, .ref qi, .ref qk, .ref ql])), (qs, .inl (cI, 2108, .inl (vI (stF ((mn : Nat) : Int) tA sA kA nb ck (updI hi (f * 5 + g) (hiN ha hi (f * 5 + g) ((((thN nb tA f (g - f)) + ck g) - (tA + ck f)) - (((g : Nat) : Int) - ((f : Nat) : Int))))) lo ha cn sm)))), (qi, .inl (cI, 4216, .inl (vI im))), (qk, .inl (cZ, 2, .inl (vI kp))), (ql, .inl (cI, 25, .inl (vI le)))] H := hP
            have hD : va_D A [(q, .inr (5, [.ref qs, .ref qi, .ref qk, .ref ql])), (qs, .inl (cI, 2108, .inl (vI (stF ((mn : Nat) : Int) tA sA kA nb ck (updI hi (f * 5 + g) (hiN ha hi (f * 5 + g) ((((thN nb tA f (g - f)) + ck g) - (tA + ck f)) - (((g : Nat) : Int) - ((f : Nat) : Int))))) lo ha cn sm)))), (qi, .inl (cI, 4216, .inl (vI im))), (qk, .inl (cZ, 2, .inl (vI kp))), (ql, .inl (cI, 25, .inl (vI le)))] := hD
            refine lv_aload_n hx hb dX5_sound_228 rfl (lv_at hl 7 rfl) ?_
            refine w_get (C := RX5) (T := TX5) (Nf := 4) (ci := 5) (v := .ref qs) S (fun _ h => List.mem_cons_of_mem _ (List.mem_append_right _ h)) hE hP 0 rfl rfl 0 (by decide) (List.mem_of_getElem? (i := 1) rfl) rfl dX5_sound_229 ?_
            refine lv_bipush (v := iI (58)) hx hb dX5_sound_232 (by decide) ?_
            refine lv_iload hx hb dX5_sound_234 (lv_at hl 3 rfl) ?_
            refine w_iadd S dX5_sound_236 ?_
            refine lv_iload hx hb dX5_sound_237 (lv_at hl 0 rfl) ?_
            refine b_eqT (tgt := 270) S dX5_sound_239 (by decide) (by decide) ?_
            refine lv_iload hx hb dX5_sound_270 (lv_at hl 1 rfl) ?_
            refine w_tz (z := loN ha lo (f * 5 + g) ((((thN nb tA f (g - f)) + ck g) - ((bkN nb (thN nb tA f (g - f)) g (g - f)) + ck f)) + (((g : Nat) : Int) - ((f : Nat) : Int)))) (by unfold loN; rw [if_neg (fun q => hh q.1)]) ?_
            refine w_iast S hE hP hD hS 1 rfl (58 + (f * 5 + g)) (by omega) (by omega) (by omega) dX5_sound_272 (fun H locs hP hD hS => ?_)
            rw [List.set_cons_succ, List.set_cons_zero, su_lo (j := f * 5 + g) (by omega) (by omega)] at hP hD
            have hP : va_P D vwCl [(q, .inr (5, [.ref qs, .ref qi, .ref qk, .ref ql])), (qs, .inl (cI, 2108, .inl (vI (stF ((mn : Nat) : Int) tA sA kA nb ck (updI hi (f * 5 + g) (hiN ha hi (f * 5 + g) ((((thN nb tA f (g - f)) + ck g) - (tA + ck f)) - (((g : Nat) : Int) - ((f : Nat) : Int))))) (updI lo (f * 5 + g) (loN ha lo (f * 5 + g) ((((thN nb tA f (g - f)) + ck g) - ((bkN nb (thN nb tA f (g - f)) g (g - f)) + ck f)) + (((g : Nat) : Int) - ((f : Nat) : Int))))) ha cn sm)))), (qi, .inl (cI, 4216, .inl (vI im))), (qk, .inl (cZ, 2, .inl (vI kp))), (ql, .inl (cI, 25, .inl (vI le)))] H := hP
            have hD : va_D A [(q, .inr (5, [.ref qs, .ref qi, .ref qk, .ref ql])), (qs, .inl (cI, 2108, .inl (vI (stF ((mn : Nat) : Int) tA sA kA nb ck (updI hi (f * 5 + g) (hiN ha hi (f * 5 + g) ((((thN nb tA f (g - f)) + ck g) - (tA + ck f)) - (((g : Nat) : Int) - ((f : Nat) : Int))))) (updI lo (f * 5 + g) (loN ha lo (f * 5 + g) ((((thN nb tA f (g - f)) + ck g) - ((bkN nb (thN nb tA f (g - f)) g (g - f)) + ck f)) + (((g : Nat) : Int) - ((f : Nat) : Int))))) ha cn sm)))), (qi, .inl (cI, 4216, .inl (vI im))), (qk, .inl (cZ, 2, .inl (vI kp))), (ql, .inl (cI, 25, .inl (vI le)))] := hD
            refine lv_aload_n hx hb dX5_sound_273 rfl (lv_at hl 7 rfl) ?_
            refine w_get (C := RX5) (T := TX5) (Nf := 4) (ci := 5) (v := .ref qs) S (fun _ h => List.mem_cons_of_mem _ (List.mem_append_right _ h)) hE hP 0 rfl rfl 0 (by decide) (List.mem_of_getElem? (i := 1) rfl) rfl dX5_sound_274 ?_
            refine lv_bipush (v := iI (83)) hx hb dX5_sound_277 (by decide) ?_
            refine lv_iload hx hb dX5_sound_279 (lv_at hl 3 rfl) ?_
            refine w_iadd S dX5_sound_281 ?_
            refine lv_iconst (v := iI (1)) hx hb dX5_sound_282 rfl ?_
            refine w_iast S hE hP hD hS 1 rfl (83 + (f * 5 + g)) (by omega) (by omega) (by omega) dX5_sound_283 (fun H locs hP hD hS => ?_)
            rw [List.set_cons_succ, List.set_cons_zero, su_ha (j := f * 5 + g) (by omega) (by omega)] at hP hD
            have hP : va_P D vwCl [(q, .inr (5, [.ref qs, .ref qi, .ref qk, .ref ql])), (qs, .inl (cI, 2108, .inl (vI (stF ((mn : Nat) : Int) tA sA kA nb ck (updI hi (f * 5 + g) (hiN ha hi (f * 5 + g) ((((thN nb tA f (g - f)) + ck g) - (tA + ck f)) - (((g : Nat) : Int) - ((f : Nat) : Int))))) (updI lo (f * 5 + g) (loN ha lo (f * 5 + g) ((((thN nb tA f (g - f)) + ck g) - ((bkN nb (thN nb tA f (g - f)) g (g - f)) + ck f)) + (((g : Nat) : Int) - ((f : Nat) : Int))))) (updI ha (f * 5 + g) 1) cn sm)))), (qi, .inl (cI, 4216, .inl (vI im))), (qk, .inl (cZ, 2, .inl (vI kp))), (ql, .inl (cI, 25, .inl (vI le)))] H := hP
            have hD : va_D A [(q, .inr (5, [.ref qs, .ref qi, .ref qk, .ref ql])), (qs, .inl (cI, 2108, .inl (vI (stF ((mn : Nat) : Int) tA sA kA nb ck (updI hi (f * 5 + g) (hiN ha hi (f * 5 + g) ((((thN nb tA f (g - f)) + ck g) - (tA + ck f)) - (((g : Nat) : Int) - ((f : Nat) : Int))))) (updI lo (f * 5 + g) (loN ha lo (f * 5 + g) ((((thN nb tA f (g - f)) + ck g) - ((bkN nb (thN nb tA f (g - f)) g (g - f)) + ck f)) + (((g : Nat) : Int) - ((f : Nat) : Int))))) (updI ha (f * 5 + g) 1) cn sm)))), (qi, .inl (cI, 4216, .inl (vI im))), (qk, .inl (cZ, 2, .inl (vI kp))), (ql, .inl (cI, 25, .inl (vI le)))] := hD
            refine lv_iload_n hx hb dX5_sound_284 rfl (lv_at hl 6 rfl) ?_
            refine lv_aload_n hx hb dX5_sound_285 rfl (lv_at hl 7 rfl) ?_
            refine w_get (C := RX5) (T := TX5) (Nf := 4) (ci := 5) (v := .ref qs) S (fun _ h => List.mem_cons_of_mem _ (List.mem_append_right _ h)) hE hP 0 rfl rfl 0 (by decide) (List.mem_of_getElem? (i := 1) rfl) rfl dX5_sound_286 ?_
            refine lv_iconst (v := iI (1)) hx hb dX5_sound_289 rfl ?_
            refine w_iald S hE hP 1 rfl (1) (by omega) (by omega) (by omega) dX5_sound_290 ?_
            refine w_tz (z := tA) rfl ?_
            refine w_isub S dX5_sound_291 ?_
            refine lv_istore (lv' := [(10, .int (iI ((bkN nb (thN nb tA f (g - f)) g (g - f)) - tA))), (9, .int (iI (0))), (8, .int (iI ((((thN nb tA f (g - f)) + ck g) - ((bkN nb (thN nb tA f (g - f)) g (g - f)) + ck f)) + (((g : Nat) : Int) - ((f : Nat) : Int))))), (7, .int (iI ((((thN nb tA f (g - f)) + ck g) - (tA + ck f)) - (((g : Nat) : Int) - ((f : Nat) : Int))))), (6, .int (iI (((f * 5 + g : Nat) : Int)))), (5, .int (iI ((ck g) - (ck f)))), (4, .int (iI (thN nb tA f (g - f)))), (3, .int (iI ((bkN nb (thN nb tA f (g - f)) g (g - f))))), (0, .ref q), (1, .int (iI (((f : Nat) : Int)))), (2, .int (iI (((g : Nat) : Int))))]) hx hb dX5_sound_292 hl (by decide) rfl (fun ls hl => ?_)
            refine lv_aload_n hx hb dX5_sound_294 rfl (lv_at hl 8 rfl) ?_
            refine w_get (C := RX5) (T := TX5) (Nf := 4) (ci := 5) (v := .ref qs) S (fun _ h => List.mem_cons_of_mem _ (List.mem_append_right _ h)) hE hP 0 rfl rfl 0 (by decide) (List.mem_of_getElem? (i := 1) rfl) rfl dX5_sound_295 ?_
            refine lv_iconst (v := iI (1)) hx hb dX5_sound_298 rfl ?_
            refine lv_dup2_11 hx hb dX5_sound_299 rfl rfl ?_
            refine w_iald S hE hP 1 rfl (1) (by omega) (by omega) (by omega) dX5_sound_300 ?_
            refine w_tz (z := tA) rfl ?_
            refine lv_iconst (v := iI (1)) hx hb dX5_sound_301 rfl ?_
            refine w_iadd S dX5_sound_302 ?_
            refine w_iast S hE hP hD hS 1 rfl (1) (by omega) (by omega) (by omega) dX5_sound_303 (fun H locs hP hD hS => ?_)
            rw [List.set_cons_succ, List.set_cons_zero, su_tA] at hP hD
            have hP : va_P D vwCl [(q, .inr (5, [.ref qs, .ref qi, .ref qk, .ref ql])), (qs, .inl (cI, 2108, .inl (vI (stF ((mn : Nat) : Int) (tA + 1) sA kA nb ck (updI hi (f * 5 + g) (hiN ha hi (f * 5 + g) ((((thN nb tA f (g - f)) + ck g) - (tA + ck f)) - (((g : Nat) : Int) - ((f : Nat) : Int))))) (updI lo (f * 5 + g) (loN ha lo (f * 5 + g) ((((thN nb tA f (g - f)) + ck g) - ((bkN nb (thN nb tA f (g - f)) g (g - f)) + ck f)) + (((g : Nat) : Int) - ((f : Nat) : Int))))) (updI ha (f * 5 + g) 1) cn sm)))), (qi, .inl (cI, 4216, .inl (vI im))), (qk, .inl (cZ, 2, .inl (vI kp))), (ql, .inl (cI, 25, .inl (vI le)))] H := hP
            have hD : va_D A [(q, .inr (5, [.ref qs, .ref qi, .ref qk, .ref ql])), (qs, .inl (cI, 2108, .inl (vI (stF ((mn : Nat) : Int) (tA + 1) sA kA nb ck (updI hi (f * 5 + g) (hiN ha hi (f * 5 + g) ((((thN nb tA f (g - f)) + ck g) - (tA + ck f)) - (((g : Nat) : Int) - ((f : Nat) : Int))))) (updI lo (f * 5 + g) (loN ha lo (f * 5 + g) ((((thN nb tA f (g - f)) + ck g) - ((bkN nb (thN nb tA f (g - f)) g (g - f)) + ck f)) + (((g : Nat) : Int) - ((f : Nat) : Int))))) (updI ha (f * 5 + g) 1) cn sm)))), (qi, .inl (cI, 4216, .inl (vI im))), (qk, .inl (cZ, 2, .inl (vI kp))), (ql, .inl (cI, 25, .inl (vI le)))] := hD
            refine lv_iload hx hb dX5_sound_304 (lv_at hl 0 rfl) ?_
            exact hret _ _ _ _ _ dX5_sound_306 rfl hP hS
        | succ u ih13 =>
          intro j  hm  H locs ls hP hD hS hl
          refine lv_iload hx hb dX5_sound_82 (lv_at hl 0 rfl) ?_
          refine lv_iload_n hx hb dX5_sound_84 rfl (lv_at hl 4 rfl) ?_
          refine c_ltF (tgt := 103) S dX5_sound_85 (by decide) (by omega) (by omega) (by omega) ?_
          have h5 : ((g : Nat) : Int) - 1 - ((j : Nat) : Int) = ((g - 1 - j : Nat) : Int) := by omega
          rw [h5] at hl
          have g3 := thN_rng (f := f) hta.1 hnb (g - f) (by omega)
          have g1 := bkN_rng (g := g) (by omega) g3.1 hnb j (by omega)
          have g2 := tkB_rng (l := g - 1 - j) (by omega) g1.1 hnb
          refine lv_aload_n hx hb dX5_sound_88 rfl (lv_at hl 3 rfl) ?_
          refine lv_iload hx hb dX5_sound_89 (lv_at hl 0 rfl) ?_
          refine lv_iconst (v := iI (1)) hx hb dX5_sound_91 rfl ?_
          refine lv_iload_n hx hb dX5_sound_92 rfl (lv_at hl 2 rfl) ?_
          refine kV_R (n := 3) (ci := 5) (q := (RX5, TX5, 4)) S (m_over_1 lc D cI cZ N q qs qi qk ql mn tA sA kA nb ck hi lo ha cn sm im kp le (g - 1 - j) (bkN nb (thN nb tA f (g - f)) g j) (by omega) (by omega) (by omega)) gX5_sound_X5_over rfl rfl (by decide +kernel) rfl rfl ⟨Nat.le_trans (Nat.le_of_ble_eq_true rfl) hfr, Nat.le_trans (Nat.le_of_ble_eq_true rfl) hlo⟩ hE hAN hP hD hS [0, 1, 2, 3, 4] rfl (by decide) rfl rfl rfl rfl hl.1 [] rfl (Nat.le_of_ble_eq_true rfl) dX5_sound_93 ⟨Nat.zero_le _, Nat.zero_le _⟩ ?_
          refine W.eq (g2 := F0 m 96 ls [.int (iI ((bkN nb (thN nb tA f (g - f)) g j) + tkB nb (g - 1 - j) (bkN nb (thN nb tA f (g - f)) g j)))]) rfl ?_
          refine lv_istore_n (lv' := [(3, .int (iI ((bkN nb (thN nb tA f (g - f)) g j) + tkB nb (g - 1 - j) (bkN nb (thN nb tA f (g - f)) g j)))), (5, .int (iI (((g - 1 - j : Nat) : Int)))), (4, .int (iI (thN nb tA f (g - f)))), (0, .ref q), (1, .int (iI (((f : Nat) : Int)))), (2, .int (iI (((g : Nat) : Int))))]) hx hb dX5_sound_96 rfl hl (by decide) rfl (fun ls hl => ?_)
          refine w_iinc (v := ((g - 1 - j : Nat) : Int) + (-1)) (lv' := [(5, .int (iI (((g - 1 - j : Nat) : Int) + (-1)))), (3, .int (iI ((bkN nb (thN nb tA f (g - f)) g j) + tkB nb (g - 1 - j) (bkN nb (thN nb tA f (g - f)) g j)))), (4, .int (iI (thN nb tA f (g - f)))), (0, .ref q), (1, .int (iI (((f : Nat) : Int)))), (2, .int (iI (((g : Nat) : Int))))]) S dX5_sound_97 hl (k := 1) rfl (by omega) (by decide) rfl (fun ls hl => ?_)
          refine lv_goto (tgt := 82) hx hb dX5_sound_100 (by decide) ?_
          have hloc : (((g - 1 - j : Nat) : Int) + (-1) : Int) = ((g : Nat) : Int) - 1 - ((j + 1 : Nat) : Int) := (by omega)
          rw [hloc] at hl
          have hloc : ((bkN nb (thN nb tA f (g - f)) g j) + tkB nb (g - 1 - j) (bkN nb (thN nb tA f (g - f)) g j) : Int) = bkN nb (thN nb tA f (g - f)) g (j + 1) := rfl
          rw [hloc] at hl
          exact ih13 (j + 1)  (by omega)  _ _ _ hP hD hS (lv_sub hl [0, 2, 1, 3, 4, 5] rfl)
      have hloc : (((g : Nat) : Int) - 1 : Int) = ((g : Nat) : Int) - 1 - ((0 : Nat) : Int) := (by omega)
      rw [hloc] at hl
      have hloc : (thN nb tA f (g - f) : Int) = bkN nb (thN nb tA f (g - f)) g 0 := rfl
      rw [hloc] at hl
      exact loop13 (g - f) 0  (by omega)  _ _ _ hP hD hS (lv_sub hl [0, 1, 2, 3, 4, 5] rfl)
    | succ u ih12 =>
      intro j  hm  H locs ls hP hD hS hl
      refine lv_iload hx hb dX5_sound_53 (lv_at hl 0 rfl) ?_
      refine lv_iload_n hx hb dX5_sound_55 rfl (lv_at hl 4 rfl) ?_
      refine c_geF (tgt := 74) S dX5_sound_56 (by decide) (by omega) (by omega) (by omega) ?_
      have g1 := thN_rng (f := f) hta.1 hnb j (by omega)
      have g2 := tkT_rng (l := f + j) (by omega) g1.1 hnb
      refine lv_aload_n hx hb dX5_sound_59 rfl (lv_at hl 2 rfl) ?_
      refine lv_iload hx hb dX5_sound_60 (lv_at hl 0 rfl) ?_
      refine lv_iconst (v := iI (0)) hx hb dX5_sound_62 rfl ?_
      refine lv_iload_n hx hb dX5_sound_63 rfl (lv_at hl 1 rfl) ?_
      refine kV_R (n := 3) (ci := 5) (q := (RX5, TX5, 4)) S (m_over_0 lc D cI cZ N q qs qi qk ql mn tA sA kA nb ck hi lo ha cn sm im kp le (f + j) (thN nb tA f j) (by omega) (by omega) (by omega)) gX5_sound_X5_over rfl rfl (by decide +kernel) rfl rfl ⟨Nat.le_trans (Nat.le_of_ble_eq_true rfl) hfr, Nat.le_trans (Nat.le_of_ble_eq_true rfl) hlo⟩ hE hAN hP hD hS [0, 1, 2, 3, 4] rfl (by decide) rfl rfl rfl rfl hl.1 [] rfl (Nat.le_of_ble_eq_true rfl) dX5_sound_64 ⟨Nat.zero_le _, Nat.zero_le _⟩ ?_
      refine W.eq (g2 := F0 m 67 ls [.int (iI ((thN nb tA f j) + tkT nb (f + j) (thN nb tA f j)))]) rfl ?_
      refine lv_istore_n (lv' := [(3, .int (iI ((thN nb tA f j) + tkT nb (f + j) (thN nb tA f j)))), (4, .int (iI (((f + j : Nat) : Int)))), (0, .ref q), (1, .int (iI (((f : Nat) : Int)))), (2, .int (iI (((g : Nat) : Int))))]) hx hb dX5_sound_67 rfl hl (by decide) rfl (fun ls hl => ?_)
      refine w_iinc (v := (((f + j) + 1 : Nat) : Int)) (lv' := [(4, .int (iI ((((f + j) + 1 : Nat) : Int)))), (3, .int (iI ((thN nb tA f j) + tkT nb (f + j) (thN nb tA f j)))), (0, .ref q), (1, .int (iI (((f : Nat) : Int)))), (2, .int (iI (((g : Nat) : Int))))]) S dX5_sound_68 hl (k := 1) rfl (by omega) (by decide) rfl (fun ls hl => ?_)
      refine lv_goto (tgt := 53) hx hb dX5_sound_71 (by decide) ?_
      have hloc : ((((f + j) + 1 : Nat) : Int) : Int) = ((f + (j + 1) : Nat) : Int) := (by omega)
      rw [hloc] at hl
      have hloc : ((thN nb tA f j) + tkT nb (f + j) (thN nb tA f j) : Int) = thN nb tA f (j + 1) := rfl
      rw [hloc] at hl
      exact ih12 (j + 1)  (by omega)  _ _ _ hP hD hS (lv_sub hl [0, 1, 2, 3, 4] rfl)
  have hloc : (((f : Nat) : Int) : Int) = ((f + 0 : Nat) : Int) := (by omega)
  rw [hloc] at hl
  have hloc : (tA : Int) = thN nb tA f 0 := rfl
  rw [hloc] at hl
  exact loop12 (g - f) 0  (by omega)  _ _ _ hP hD hS (lv_sub hl [0, 1, 2, 3, 4] rfl)
set_option maxHeartbeats 4000000 in
set_option maxRecDepth 100000 in
theorem m_apart_U (lc : Launch) (D : va_G) (cI cZ : ClassId) (N : Nat) (q : Nat) (qs : Nat) (qi : Nat) (qk : Nat) (ql : Nat) (mn : Nat) (tA : Int) (sA : Int) (kA : Int) (nb : Nat → Int) (ck : Nat → Int) (hi : Nat → Int) (lo : Nat → Int) (ha : Nat → Int) (cn : Nat → Int) (sm : Nat → Int) (im : Nat → Int) (kp : Nat → Int) (le : Nat → Int) (x : Int) (y : Int) (z : Int) (hmn : 2 ≤ mn ∧ mn ≤ 5) (r_x : -2147483648 ≤ x ∧ x ≤ 2147483647) (r_y : -2147483648 ≤ y ∧ y ≤ 2147483647) (h : ¬ ((0 ≤ x ∧ x ≤ (mn : Int) - 1) ∧ (0 ≤ y ∧ y ≤ (mn : Int) - 1))) : CR lc D cI cZ N yX5_apart wsX5_apart (rmK 2 43) [.ref q, .int (iI (x)), .int (iI (y)), .int (iI (z))] [(q, .inr (5, [.ref qs, .ref qi, .ref qk, .ref ql])), (qs, .inl (cI, 2108, .inl (vI (stF ((mn : Nat) : Int) tA sA kA nb ck hi lo ha cn sm)))), (qi, .inl (cI, 4216, .inl (vI im))), (qk, .inl (cZ, 2, .inl (vI kp))), (ql, .inl (cI, 25, .inl (vI le)))] (some (.int (iI (-1000000001)))) := by
  refine CR.I (cc := cX5_apart) (maxL := 5) (by decide) rfl (Nat.le_of_ble_eq_true rfl) ?_
  intro p e s m args below meth c R Q S hE A hAN hfr hlo hP hD hS hret ls hl
  have S : CallFix p m c cX5_apart 5 s args wsX5_apart RX5 := S
  have hx := S.1
  have hb := S.2.1
  have hl : lv_has ls 5 [(0, .ref q), (1, .int (iI (x))), (2, .int (iI (y))), (3, .int (iI (z)))] := hl
  by_cases h3 : (0 ≤ x ∧ x ≤ (mn : Int) - 1)
  · refine lv_aload_n hx hb dX5_apart_0 rfl (lv_at hl 0 rfl) ?_
    refine lv_iload_n hx hb dX5_apart_1 rfl (lv_at hl 1 rfl) ?_
    refine kV_R (n := 1) (ci := 5) (q := (RX5, TX5, 4)) S (m_isNode_T lc D cI cZ N q qs qi qk ql mn tA sA kA nb ck hi lo ha cn sm im kp le x (by omega) (by omega) (by omega)) gX5_apart_X5_isNode rfl rfl (by decide +kernel) rfl rfl ⟨Nat.le_trans (Nat.le_of_ble_eq_true rfl) hfr, Nat.le_trans (Nat.le_of_ble_eq_true rfl) hlo⟩ hE hAN hP hD hS [0, 1, 2, 3, 4] rfl (by decide) rfl rfl rfl rfl hl.1 [] rfl (Nat.le_of_ble_eq_true rfl) dX5_apart_2 ⟨Nat.zero_le _, Nat.zero_le _⟩ ?_
    refine W.eq (g2 := F0 m 5 ls [.int (iI (1))]) rfl ?_
    refine b_eqF (tgt := 16) S dX5_apart_5 (by decide) (by decide) (by decide) ?_
    refine lv_aload_n hx hb dX5_apart_8 rfl (lv_at hl 0 rfl) ?_
    refine lv_iload_n hx hb dX5_apart_9 rfl (lv_at hl 2 rfl) ?_
    refine kV_R (n := 1) (ci := 5) (q := (RX5, TX5, 4)) S (m_isNode_F lc D cI cZ N q qs qi qk ql mn tA sA kA nb ck hi lo ha cn sm im kp le y (by omega) (by omega) (by omega)) gX5_apart_X5_isNode rfl rfl (by decide +kernel) rfl rfl ⟨Nat.le_trans (Nat.le_of_ble_eq_true rfl) hfr, Nat.le_trans (Nat.le_of_ble_eq_true rfl) hlo⟩ hE hAN hP hD hS [0, 1, 2, 3, 4] rfl (by decide) rfl rfl rfl rfl hl.1 [] rfl (Nat.le_of_ble_eq_true rfl) dX5_apart_10 ⟨Nat.zero_le _, Nat.zero_le _⟩ ?_
    refine W.eq (g2 := F0 m 13 ls [.int (iI (0))]) rfl ?_
    refine b_neF (tgt := 19) S dX5_apart_13 (by decide) (by decide) ?_
    refine w_ldc (z := (-1000000001)) S (List.mem_of_getElem? (i := 1) rfl) (by decide) dX5_apart_16 ?_
    exact hret _ _ _ dX5_apart_18 (congrArg iI (by omega))
  · refine lv_aload_n hx hb dX5_apart_0 rfl (lv_at hl 0 rfl) ?_
    refine lv_iload_n hx hb dX5_apart_1 rfl (lv_at hl 1 rfl) ?_
    refine kV_R (n := 1) (ci := 5) (q := (RX5, TX5, 4)) S (m_isNode_F lc D cI cZ N q qs qi qk ql mn tA sA kA nb ck hi lo ha cn sm im kp le x (by omega) (by omega) (by omega)) gX5_apart_X5_isNode rfl rfl (by decide +kernel) rfl rfl ⟨Nat.le_trans (Nat.le_of_ble_eq_true rfl) hfr, Nat.le_trans (Nat.le_of_ble_eq_true rfl) hlo⟩ hE hAN hP hD hS [0, 1, 2, 3, 4] rfl (by decide) rfl rfl rfl rfl hl.1 [] rfl (Nat.le_of_ble_eq_true rfl) dX5_apart_2 ⟨Nat.zero_le _, Nat.zero_le _⟩ ?_
    refine W.eq (g2 := F0 m 5 ls [.int (iI (0))]) rfl ?_
    refine b_eqT (tgt := 16) S dX5_apart_5 (by decide) (by decide) ?_
    refine w_ldc (z := (-1000000001)) S (List.mem_of_getElem? (i := 1) rfl) (by decide) dX5_apart_16 ?_
    exact hret _ _ _ dX5_apart_18 (congrArg iI (by omega))
set_option maxHeartbeats 4000000 in
set_option maxRecDepth 100000 in
theorem m_apart_O (lc : Launch) (D : va_G) (cI cZ : ClassId) (N : Nat) (q : Nat) (qs : Nat) (qi : Nat) (qk : Nat) (ql : Nat) (mn : Nat) (tA : Int) (sA : Int) (kA : Int) (nb : Nat → Int) (ck : Nat → Int) (hi : Nat → Int) (lo : Nat → Int) (ha : Nat → Int) (cn : Nat → Int) (sm : Nat → Int) (im : Nat → Int) (kp : Nat → Int) (le : Nat → Int) (x : Int) (y : Int) (z : Int) (hmn : 2 ≤ mn ∧ mn ≤ 5) (r_x : -2147483648 ≤ x ∧ x ≤ 2147483647) (r_y : -2147483648 ≤ y ∧ y ≤ 2147483647) (r_z : -2147483648 ≤ z ∧ z ≤ 2147483647) (h1 : (0 ≤ x ∧ x ≤ (mn : Int) - 1)) (h2 : (0 ≤ y ∧ y ≤ (mn : Int) - 1)) (h : ¬ (x < y ∧ (0 ≤ z ∧ z ≤ 1))) : CR lc D cI cZ N yX5_apart wsX5_apart (rmK 2 43) [.ref q, .int (iI (x)), .int (iI (y)), .int (iI (z))] [(q, .inr (5, [.ref qs, .ref qi, .ref qk, .ref ql])), (qs, .inl (cI, 2108, .inl (vI (stF ((mn : Nat) : Int) tA sA kA nb ck hi lo ha cn sm)))), (qi, .inl (cI, 4216, .inl (vI im))), (qk, .inl (cZ, 2, .inl (vI kp))), (ql, .inl (cI, 25, .inl (vI le)))] (some (.int (iI (-1000000002)))) := by
  refine CR.I (cc := cX5_apart) (maxL := 5) (by decide) rfl (Nat.le_of_ble_eq_true rfl) ?_
  intro p e s m args below meth c R Q S hE A hAN hfr hlo hP hD hS hret ls hl
  have S : CallFix p m c cX5_apart 5 s args wsX5_apart RX5 := S
  have hx := S.1
  have hb := S.2.1
  have hl : lv_has ls 5 [(0, .ref q), (1, .int (iI (x))), (2, .int (iI (y))), (3, .int (iI (z)))] := hl
  refine lv_aload_n hx hb dX5_apart_0 rfl (lv_at hl 0 rfl) ?_
  refine lv_iload_n hx hb dX5_apart_1 rfl (lv_at hl 1 rfl) ?_
  refine kV_R (n := 1) (ci := 5) (q := (RX5, TX5, 4)) S (m_isNode_T lc D cI cZ N q qs qi qk ql mn tA sA kA nb ck hi lo ha cn sm im kp le x (by omega) (by omega) (by omega)) gX5_apart_X5_isNode rfl rfl (by decide +kernel) rfl rfl ⟨Nat.le_trans (Nat.le_of_ble_eq_true rfl) hfr, Nat.le_trans (Nat.le_of_ble_eq_true rfl) hlo⟩ hE hAN hP hD hS [0, 1, 2, 3, 4] rfl (by decide) rfl rfl rfl rfl hl.1 [] rfl (Nat.le_of_ble_eq_true rfl) dX5_apart_2 ⟨Nat.zero_le _, Nat.zero_le _⟩ ?_
  refine W.eq (g2 := F0 m 5 ls [.int (iI (1))]) rfl ?_
  refine b_eqF (tgt := 16) S dX5_apart_5 (by decide) (by decide) (by decide) ?_
  refine lv_aload_n hx hb dX5_apart_8 rfl (lv_at hl 0 rfl) ?_
  refine lv_iload_n hx hb dX5_apart_9 rfl (lv_at hl 2 rfl) ?_
  refine kV_R (n := 1) (ci := 5) (q := (RX5, TX5, 4)) S (m_isNode_T lc D cI cZ N q qs qi qk ql mn tA sA kA nb ck hi lo ha cn sm im kp le y (by omega) (by omega) (by omega)) gX5_apart_X5_isNode rfl rfl (by decide +kernel) rfl rfl ⟨Nat.le_trans (Nat.le_of_ble_eq_true rfl) hfr, Nat.le_trans (Nat.le_of_ble_eq_true rfl) hlo⟩ hE hAN hP hD hS [0, 1, 2, 3, 4] rfl (by decide) rfl rfl rfl rfl hl.1 [] rfl (Nat.le_of_ble_eq_true rfl) dX5_apart_10 ⟨Nat.zero_le _, Nat.zero_le _⟩ ?_
  refine W.eq (g2 := F0 m 13 ls [.int (iI (1))]) rfl ?_
  refine b_neT (tgt := 19) S dX5_apart_13 (by decide) (by decide) (by decide) ?_
  by_cases h3 : x < y
  · refine lv_iload_n hx hb dX5_apart_19 rfl (lv_at hl 2 rfl) ?_
    refine lv_iload_n hx hb dX5_apart_20 rfl (lv_at hl 1 rfl) ?_
    refine c_leF (tgt := 33) S dX5_apart_21 (by decide) (by omega) (by omega) (by omega) ?_
    refine lv_iload_n hx hb dX5_apart_24 rfl (lv_at hl 3 rfl) ?_
    refine lv_iconst (v := iI (0)) hx hb dX5_apart_25 rfl ?_
    refine lv_iconst (v := iI (1)) hx hb dX5_apart_26 rfl ?_
    refine kS_R (n := 3) S (m_in_F lc D cI cZ N z 0 1 (by omega) (by omega) (by omega) (by omega)) gX5_apart_X5_in rfl (by decide +kernel) rfl rfl ⟨Nat.le_trans (Nat.le_of_ble_eq_true rfl) hfr, Nat.le_trans (Nat.le_of_ble_eq_true rfl) hlo⟩ hE hAN hP hD hS [] rfl (by decide) rfl hl.1 [] rfl (Nat.le_of_ble_eq_true rfl) dX5_apart_27 ⟨Nat.zero_le _, Nat.zero_le _⟩ ?_
    refine W.eq (g2 := F0 m 30 ls [.int (iI (0))]) rfl ?_
    refine b_neF (tgt := 36) S dX5_apart_30 (by decide) (by decide) ?_
    refine w_ldc (z := (-1000000002)) S (List.mem_of_getElem? (i := 2) rfl) (by decide) dX5_apart_33 ?_
    exact hret _ _ _ dX5_apart_35 (congrArg iI (by omega))
  · refine lv_iload_n hx hb dX5_apart_19 rfl (lv_at hl 2 rfl) ?_
    refine lv_iload_n hx hb dX5_apart_20 rfl (lv_at hl 1 rfl) ?_
    refine c_leT (tgt := 33) S dX5_apart_21 (by decide) (by omega) (by omega) (by omega) ?_
    refine w_ldc (z := (-1000000002)) S (List.mem_of_getElem? (i := 2) rfl) (by decide) dX5_apart_33 ?_
    exact hret _ _ _ dX5_apart_35 (congrArg iI (by omega))
set_option maxHeartbeats 4000000 in
set_option maxRecDepth 100000 in
theorem m_apart_N (lc : Launch) (D : va_G) (cI cZ : ClassId) (N : Nat) (q : Nat) (qs : Nat) (qi : Nat) (qk : Nat) (ql : Nat) (mn : Nat) (tA : Int) (sA : Int) (kA : Int) (nb : Nat → Int) (ck : Nat → Int) (hi : Nat → Int) (lo : Nat → Int) (ha : Nat → Int) (cn : Nat → Int) (sm : Nat → Int) (im : Nat → Int) (kp : Nat → Int) (le : Nat → Int) (f : Nat) (g : Nat) (z : Int) (hmn : 2 ≤ mn ∧ mn ≤ 5) (hfg : f < g) (hgm : g < mn) (r_z : -2147483648 ≤ z ∧ z ≤ 2147483647) (h : (0 ≤ z ∧ z ≤ 1)) (h2 : ha (f * 5 + g) = 0) : CR lc D cI cZ N yX5_apart wsX5_apart (rmK 2 43) [.ref q, .int (iI (((f : Nat) : Int))), .int (iI (((g : Nat) : Int))), .int (iI (z))] [(q, .inr (5, [.ref qs, .ref qi, .ref qk, .ref ql])), (qs, .inl (cI, 2108, .inl (vI (stF ((mn : Nat) : Int) tA sA kA nb ck hi lo ha cn sm)))), (qi, .inl (cI, 4216, .inl (vI im))), (qk, .inl (cZ, 2, .inl (vI kp))), (ql, .inl (cI, 25, .inl (vI le)))] (some (.int (iI (-1000000006)))) := by
  refine CR.I (cc := cX5_apart) (maxL := 5) (by decide) rfl (Nat.le_of_ble_eq_true rfl) ?_
  intro p e s m args below meth c R Q S hE A hAN hfr hlo hP hD hS hret ls hl
  have S : CallFix p m c cX5_apart 5 s args wsX5_apart RX5 := S
  have hx := S.1
  have hb := S.2.1
  have hl : lv_has ls 5 [(0, .ref q), (1, .int (iI (((f : Nat) : Int)))), (2, .int (iI (((g : Nat) : Int)))), (3, .int (iI (z)))] := hl
  refine lv_aload_n hx hb dX5_apart_0 rfl (lv_at hl 0 rfl) ?_
  refine lv_iload_n hx hb dX5_apart_1 rfl (lv_at hl 1 rfl) ?_
  refine kV_R (n := 1) (ci := 5) (q := (RX5, TX5, 4)) S (m_isNode_T lc D cI cZ N q qs qi qk ql mn tA sA kA nb ck hi lo ha cn sm im kp le ((f : Nat) : Int) (by omega) (by omega) (by omega)) gX5_apart_X5_isNode rfl rfl (by decide +kernel) rfl rfl ⟨Nat.le_trans (Nat.le_of_ble_eq_true rfl) hfr, Nat.le_trans (Nat.le_of_ble_eq_true rfl) hlo⟩ hE hAN hP hD hS [0, 1, 2, 3, 4] rfl (by decide) rfl rfl rfl rfl hl.1 [] rfl (Nat.le_of_ble_eq_true rfl) dX5_apart_2 ⟨Nat.zero_le _, Nat.zero_le _⟩ ?_
  refine W.eq (g2 := F0 m 5 ls [.int (iI (1))]) rfl ?_
  refine b_eqF (tgt := 16) S dX5_apart_5 (by decide) (by decide) (by decide) ?_
  refine lv_aload_n hx hb dX5_apart_8 rfl (lv_at hl 0 rfl) ?_
  refine lv_iload_n hx hb dX5_apart_9 rfl (lv_at hl 2 rfl) ?_
  refine kV_R (n := 1) (ci := 5) (q := (RX5, TX5, 4)) S (m_isNode_T lc D cI cZ N q qs qi qk ql mn tA sA kA nb ck hi lo ha cn sm im kp le ((g : Nat) : Int) (by omega) (by omega) (by omega)) gX5_apart_X5_isNode rfl rfl (by decide +kernel) rfl rfl ⟨Nat.le_trans (Nat.le_of_ble_eq_true rfl) hfr, Nat.le_trans (Nat.le_of_ble_eq_true rfl) hlo⟩ hE hAN hP hD hS [0, 1, 2, 3, 4] rfl (by decide) rfl rfl rfl rfl hl.1 [] rfl (Nat.le_of_ble_eq_true rfl) dX5_apart_10 ⟨Nat.zero_le _, Nat.zero_le _⟩ ?_
  refine W.eq (g2 := F0 m 13 ls [.int (iI (1))]) rfl ?_
  refine b_neT (tgt := 19) S dX5_apart_13 (by decide) (by decide) (by decide) ?_
  refine lv_iload_n hx hb dX5_apart_19 rfl (lv_at hl 2 rfl) ?_
  refine lv_iload_n hx hb dX5_apart_20 rfl (lv_at hl 1 rfl) ?_
  refine c_leF (tgt := 33) S dX5_apart_21 (by decide) (by omega) (by omega) (by omega) ?_
  refine lv_iload_n hx hb dX5_apart_24 rfl (lv_at hl 3 rfl) ?_
  refine lv_iconst (v := iI (0)) hx hb dX5_apart_25 rfl ?_
  refine lv_iconst (v := iI (1)) hx hb dX5_apart_26 rfl ?_
  refine kS_R (n := 3) S (m_in_T lc D cI cZ N z 0 1 (by omega) (by omega) (by omega) (by omega)) gX5_apart_X5_in rfl (by decide +kernel) rfl rfl ⟨Nat.le_trans (Nat.le_of_ble_eq_true rfl) hfr, Nat.le_trans (Nat.le_of_ble_eq_true rfl) hlo⟩ hE hAN hP hD hS [] rfl (by decide) rfl hl.1 [] rfl (Nat.le_of_ble_eq_true rfl) dX5_apart_27 ⟨Nat.zero_le _, Nat.zero_le _⟩ ?_
  refine W.eq (g2 := F0 m 30 ls [.int (iI (1))]) rfl ?_
  refine b_neT (tgt := 36) S dX5_apart_30 (by decide) (by decide) (by decide) ?_
  refine lv_iconst (v := iI (5)) hx hb dX5_apart_36 rfl ?_
  refine lv_iload_n hx hb dX5_apart_37 rfl (lv_at hl 1 rfl) ?_
  refine w_imul S dX5_apart_38 ?_
  refine lv_iload_n hx hb dX5_apart_39 rfl (lv_at hl 2 rfl) ?_
  refine w_iadd S dX5_apart_40 ?_
  refine w_tz (z := ((f * 5 + g : Nat) : Int)) (by omega) ?_
  refine lv_istore (lv' := [(4, .int (iI (((f * 5 + g : Nat) : Int)))), (0, .ref q), (1, .int (iI (((f : Nat) : Int)))), (2, .int (iI (((g : Nat) : Int)))), (3, .int (iI (z)))]) hx hb dX5_apart_41 hl (by decide) rfl (fun ls hl => ?_)
  refine lv_aload_n hx hb dX5_apart_43 rfl (lv_at hl 1 rfl) ?_
  refine w_get (C := RX5) (T := TX5) (Nf := 4) (ci := 5) (v := .ref qs) S (fun _ h => List.mem_cons_of_mem _ (List.mem_append_right _ h)) hE hP 0 rfl rfl 0 (by decide) (List.mem_of_getElem? (i := 3) rfl) rfl dX5_apart_44 ?_
  refine lv_bipush (v := iI (83)) hx hb dX5_apart_47 (by decide) ?_
  refine lv_iload hx hb dX5_apart_49 (lv_at hl 0 rfl) ?_
  refine w_iadd S dX5_apart_51 ?_
  refine w_iald S hE hP 1 rfl (83 + (f * 5 + g)) (by omega) (by omega) (by omega) dX5_apart_52 ?_
  refine w_tz (z := ha (f * 5 + g)) (st_ha (by omega) (by omega)) ?_
  refine b_neF (tgt := 61) S dX5_apart_53 (by decide) (by omega) ?_
  refine w_ldc (z := (-1000000006)) S (List.mem_of_getElem? (i := 4) rfl) (by decide) dX5_apart_56 ?_
  refine lv_goto (tgt := 80) hx hb dX5_apart_58 (by decide) ?_
  exact hret _ _ _ dX5_apart_80 (congrArg iI (by omega))
set_option maxHeartbeats 4000000 in
set_option maxRecDepth 100000 in
theorem m_apart_0 (lc : Launch) (D : va_G) (cI cZ : ClassId) (N : Nat) (q : Nat) (qs : Nat) (qi : Nat) (qk : Nat) (ql : Nat) (mn : Nat) (tA : Int) (sA : Int) (kA : Int) (nb : Nat → Int) (ck : Nat → Int) (hi : Nat → Int) (lo : Nat → Int) (ha : Nat → Int) (cn : Nat → Int) (sm : Nat → Int) (im : Nat → Int) (kp : Nat → Int) (le : Nat → Int) (f : Nat) (g : Nat) (hmn : 2 ≤ mn ∧ mn ≤ 5) (hfg : f < g) (hgm : g < mn) (h2 : ha (f * 5 + g) = 1) : CR lc D cI cZ N yX5_apart wsX5_apart (rmK 2 43) [.ref q, .int (iI (((f : Nat) : Int))), .int (iI (((g : Nat) : Int))), .int (iI (0))] [(q, .inr (5, [.ref qs, .ref qi, .ref qk, .ref ql])), (qs, .inl (cI, 2108, .inl (vI (stF ((mn : Nat) : Int) tA sA kA nb ck hi lo ha cn sm)))), (qi, .inl (cI, 4216, .inl (vI im))), (qk, .inl (cZ, 2, .inl (vI kp))), (ql, .inl (cI, 25, .inl (vI le)))] (some (.int (iI (lo (f * 5 + g))))) := by
  refine CR.I (cc := cX5_apart) (maxL := 5) (by decide) rfl (Nat.le_of_ble_eq_true rfl) ?_
  intro p e s m args below meth c R Q S hE A hAN hfr hlo hP hD hS hret ls hl
  have S : CallFix p m c cX5_apart 5 s args wsX5_apart RX5 := S
  have hx := S.1
  have hb := S.2.1
  have hl : lv_has ls 5 [(0, .ref q), (1, .int (iI (((f : Nat) : Int)))), (2, .int (iI (((g : Nat) : Int)))), (3, .int (iI (0)))] := hl
  refine lv_aload_n hx hb dX5_apart_0 rfl (lv_at hl 0 rfl) ?_
  refine lv_iload_n hx hb dX5_apart_1 rfl (lv_at hl 1 rfl) ?_
  refine kV_R (n := 1) (ci := 5) (q := (RX5, TX5, 4)) S (m_isNode_T lc D cI cZ N q qs qi qk ql mn tA sA kA nb ck hi lo ha cn sm im kp le ((f : Nat) : Int) (by omega) (by omega) (by omega)) gX5_apart_X5_isNode rfl rfl (by decide +kernel) rfl rfl ⟨Nat.le_trans (Nat.le_of_ble_eq_true rfl) hfr, Nat.le_trans (Nat.le_of_ble_eq_true rfl) hlo⟩ hE hAN hP hD hS [0, 1, 2, 3, 4] rfl (by decide) rfl rfl rfl rfl hl.1 [] rfl (Nat.le_of_ble_eq_true rfl) dX5_apart_2 ⟨Nat.zero_le _, Nat.zero_le _⟩ ?_
  refine W.eq (g2 := F0 m 5 ls [.int (iI (1))]) rfl ?_
  refine b_eqF (tgt := 16) S dX5_apart_5 (by decide) (by decide) (by decide) ?_
  refine lv_aload_n hx hb dX5_apart_8 rfl (lv_at hl 0 rfl) ?_
  refine lv_iload_n hx hb dX5_apart_9 rfl (lv_at hl 2 rfl) ?_
  refine kV_R (n := 1) (ci := 5) (q := (RX5, TX5, 4)) S (m_isNode_T lc D cI cZ N q qs qi qk ql mn tA sA kA nb ck hi lo ha cn sm im kp le ((g : Nat) : Int) (by omega) (by omega) (by omega)) gX5_apart_X5_isNode rfl rfl (by decide +kernel) rfl rfl ⟨Nat.le_trans (Nat.le_of_ble_eq_true rfl) hfr, Nat.le_trans (Nat.le_of_ble_eq_true rfl) hlo⟩ hE hAN hP hD hS [0, 1, 2, 3, 4] rfl (by decide) rfl rfl rfl rfl hl.1 [] rfl (Nat.le_of_ble_eq_true rfl) dX5_apart_10 ⟨Nat.zero_le _, Nat.zero_le _⟩ ?_
  refine W.eq (g2 := F0 m 13 ls [.int (iI (1))]) rfl ?_
  refine b_neT (tgt := 19) S dX5_apart_13 (by decide) (by decide) (by decide) ?_
  refine lv_iload_n hx hb dX5_apart_19 rfl (lv_at hl 2 rfl) ?_
  refine lv_iload_n hx hb dX5_apart_20 rfl (lv_at hl 1 rfl) ?_
  refine c_leF (tgt := 33) S dX5_apart_21 (by decide) (by omega) (by omega) (by omega) ?_
  refine lv_iload_n hx hb dX5_apart_24 rfl (lv_at hl 3 rfl) ?_
  refine lv_iconst (v := iI (0)) hx hb dX5_apart_25 rfl ?_
  refine lv_iconst (v := iI (1)) hx hb dX5_apart_26 rfl ?_
  refine kS_R (n := 3) S (m_in_T lc D cI cZ N 0 0 1 (by omega) (by omega) (by omega) (by omega)) gX5_apart_X5_in rfl (by decide +kernel) rfl rfl ⟨Nat.le_trans (Nat.le_of_ble_eq_true rfl) hfr, Nat.le_trans (Nat.le_of_ble_eq_true rfl) hlo⟩ hE hAN hP hD hS [] rfl (by decide) rfl hl.1 [] rfl (Nat.le_of_ble_eq_true rfl) dX5_apart_27 ⟨Nat.zero_le _, Nat.zero_le _⟩ ?_
  refine W.eq (g2 := F0 m 30 ls [.int (iI (1))]) rfl ?_
  refine b_neT (tgt := 36) S dX5_apart_30 (by decide) (by decide) (by decide) ?_
  refine lv_iconst (v := iI (5)) hx hb dX5_apart_36 rfl ?_
  refine lv_iload_n hx hb dX5_apart_37 rfl (lv_at hl 1 rfl) ?_
  refine w_imul S dX5_apart_38 ?_
  refine lv_iload_n hx hb dX5_apart_39 rfl (lv_at hl 2 rfl) ?_
  refine w_iadd S dX5_apart_40 ?_
  refine w_tz (z := ((f * 5 + g : Nat) : Int)) (by omega) ?_
  refine lv_istore (lv' := [(4, .int (iI (((f * 5 + g : Nat) : Int)))), (0, .ref q), (1, .int (iI (((f : Nat) : Int)))), (2, .int (iI (((g : Nat) : Int)))), (3, .int (iI (0)))]) hx hb dX5_apart_41 hl (by decide) rfl (fun ls hl => ?_)
  refine lv_aload_n hx hb dX5_apart_43 rfl (lv_at hl 1 rfl) ?_
  refine w_get (C := RX5) (T := TX5) (Nf := 4) (ci := 5) (v := .ref qs) S (fun _ h => List.mem_cons_of_mem _ (List.mem_append_right _ h)) hE hP 0 rfl rfl 0 (by decide) (List.mem_of_getElem? (i := 3) rfl) rfl dX5_apart_44 ?_
  refine lv_bipush (v := iI (83)) hx hb dX5_apart_47 (by decide) ?_
  refine lv_iload hx hb dX5_apart_49 (lv_at hl 0 rfl) ?_
  refine w_iadd S dX5_apart_51 ?_
  refine w_iald S hE hP 1 rfl (83 + (f * 5 + g)) (by omega) (by omega) (by omega) dX5_apart_52 ?_
  refine w_tz (z := ha (f * 5 + g)) (st_ha (by omega) (by omega)) ?_
  refine b_neT (tgt := 61) S dX5_apart_53 (by decide) (by omega) (by omega) ?_
  refine lv_aload_n hx hb dX5_apart_61 rfl (lv_at hl 1 rfl) ?_
  refine w_get (C := RX5) (T := TX5) (Nf := 4) (ci := 5) (v := .ref qs) S (fun _ h => List.mem_cons_of_mem _ (List.mem_append_right _ h)) hE hP 0 rfl rfl 0 (by decide) (List.mem_of_getElem? (i := 3) rfl) rfl dX5_apart_62 ?_
  refine lv_iload_n hx hb dX5_apart_65 rfl (lv_at hl 4 rfl) ?_
  refine b_neF (tgt := 74) S dX5_apart_66 (by decide) (by decide) ?_
  refine lv_bipush (v := iI (58)) hx hb dX5_apart_69 (by decide) ?_
  refine lv_goto (tgt := 76) hx hb dX5_apart_71 (by decide) ?_
  refine lv_iload hx hb dX5_apart_76 (lv_at hl 0 rfl) ?_
  refine w_iadd S dX5_apart_78 ?_
  refine w_iald S hE hP 1 rfl (58 + (f * 5 + g)) (by omega) (by omega) (by omega) dX5_apart_79 ?_
  refine w_tz (z := lo (f * 5 + g)) (st_lo (by omega) (by omega)) ?_
  exact hret _ _ _ dX5_apart_80 rfl
set_option maxHeartbeats 4000000 in
set_option maxRecDepth 100000 in
theorem m_apart_1 (lc : Launch) (D : va_G) (cI cZ : ClassId) (N : Nat) (q : Nat) (qs : Nat) (qi : Nat) (qk : Nat) (ql : Nat) (mn : Nat) (tA : Int) (sA : Int) (kA : Int) (nb : Nat → Int) (ck : Nat → Int) (hi : Nat → Int) (lo : Nat → Int) (ha : Nat → Int) (cn : Nat → Int) (sm : Nat → Int) (im : Nat → Int) (kp : Nat → Int) (le : Nat → Int) (f : Nat) (g : Nat) (hmn : 2 ≤ mn ∧ mn ≤ 5) (hfg : f < g) (hgm : g < mn) (h2 : ha (f * 5 + g) = 1) : CR lc D cI cZ N yX5_apart wsX5_apart (rmK 2 43) [.ref q, .int (iI (((f : Nat) : Int))), .int (iI (((g : Nat) : Int))), .int (iI (1))] [(q, .inr (5, [.ref qs, .ref qi, .ref qk, .ref ql])), (qs, .inl (cI, 2108, .inl (vI (stF ((mn : Nat) : Int) tA sA kA nb ck hi lo ha cn sm)))), (qi, .inl (cI, 4216, .inl (vI im))), (qk, .inl (cZ, 2, .inl (vI kp))), (ql, .inl (cI, 25, .inl (vI le)))] (some (.int (iI (hi (f * 5 + g))))) := by
  refine CR.I (cc := cX5_apart) (maxL := 5) (by decide) rfl (Nat.le_of_ble_eq_true rfl) ?_
  intro p e s m args below meth c R Q S hE A hAN hfr hlo hP hD hS hret ls hl
  have S : CallFix p m c cX5_apart 5 s args wsX5_apart RX5 := S
  have hx := S.1
  have hb := S.2.1
  have hl : lv_has ls 5 [(0, .ref q), (1, .int (iI (((f : Nat) : Int)))), (2, .int (iI (((g : Nat) : Int)))), (3, .int (iI (1)))] := hl
  refine lv_aload_n hx hb dX5_apart_0 rfl (lv_at hl 0 rfl) ?_
  refine lv_iload_n hx hb dX5_apart_1 rfl (lv_at hl 1 rfl) ?_
  refine kV_R (n := 1) (ci := 5) (q := (RX5, TX5, 4)) S (m_isNode_T lc D cI cZ N q qs qi qk ql mn tA sA kA nb ck hi lo ha cn sm im kp le ((f : Nat) : Int) (by omega) (by omega) (by omega)) gX5_apart_X5_isNode rfl rfl (by decide +kernel) rfl rfl ⟨Nat.le_trans (Nat.le_of_ble_eq_true rfl) hfr, Nat.le_trans (Nat.le_of_ble_eq_true rfl) hlo⟩ hE hAN hP hD hS [0, 1, 2, 3, 4] rfl (by decide) rfl rfl rfl rfl hl.1 [] rfl (Nat.le_of_ble_eq_true rfl) dX5_apart_2 ⟨Nat.zero_le _, Nat.zero_le _⟩ ?_
  refine W.eq (g2 := F0 m 5 ls [.int (iI (1))]) rfl ?_
  refine b_eqF (tgt := 16) S dX5_apart_5 (by decide) (by decide) (by decide) ?_
  refine lv_aload_n hx hb dX5_apart_8 rfl (lv_at hl 0 rfl) ?_
  refine lv_iload_n hx hb dX5_apart_9 rfl (lv_at hl 2 rfl) ?_
  refine kV_R (n := 1) (ci := 5) (q := (RX5, TX5, 4)) S (m_isNode_T lc D cI cZ N q qs qi qk ql mn tA sA kA nb ck hi lo ha cn sm im kp le ((g : Nat) : Int) (by omega) (by omega) (by omega)) gX5_apart_X5_isNode rfl rfl (by decide +kernel) rfl rfl ⟨Nat.le_trans (Nat.le_of_ble_eq_true rfl) hfr, Nat.le_trans (Nat.le_of_ble_eq_true rfl) hlo⟩ hE hAN hP hD hS [0, 1, 2, 3, 4] rfl (by decide) rfl rfl rfl rfl hl.1 [] rfl (Nat.le_of_ble_eq_true rfl) dX5_apart_10 ⟨Nat.zero_le _, Nat.zero_le _⟩ ?_
  refine W.eq (g2 := F0 m 13 ls [.int (iI (1))]) rfl ?_
  refine b_neT (tgt := 19) S dX5_apart_13 (by decide) (by decide) (by decide) ?_
  refine lv_iload_n hx hb dX5_apart_19 rfl (lv_at hl 2 rfl) ?_
  refine lv_iload_n hx hb dX5_apart_20 rfl (lv_at hl 1 rfl) ?_
  refine c_leF (tgt := 33) S dX5_apart_21 (by decide) (by omega) (by omega) (by omega) ?_
  refine lv_iload_n hx hb dX5_apart_24 rfl (lv_at hl 3 rfl) ?_
  refine lv_iconst (v := iI (0)) hx hb dX5_apart_25 rfl ?_
  refine lv_iconst (v := iI (1)) hx hb dX5_apart_26 rfl ?_
  refine kS_R (n := 3) S (m_in_T lc D cI cZ N 1 0 1 (by omega) (by omega) (by omega) (by omega)) gX5_apart_X5_in rfl (by decide +kernel) rfl rfl ⟨Nat.le_trans (Nat.le_of_ble_eq_true rfl) hfr, Nat.le_trans (Nat.le_of_ble_eq_true rfl) hlo⟩ hE hAN hP hD hS [] rfl (by decide) rfl hl.1 [] rfl (Nat.le_of_ble_eq_true rfl) dX5_apart_27 ⟨Nat.zero_le _, Nat.zero_le _⟩ ?_
  refine W.eq (g2 := F0 m 30 ls [.int (iI (1))]) rfl ?_
  refine b_neT (tgt := 36) S dX5_apart_30 (by decide) (by decide) (by decide) ?_
  refine lv_iconst (v := iI (5)) hx hb dX5_apart_36 rfl ?_
  refine lv_iload_n hx hb dX5_apart_37 rfl (lv_at hl 1 rfl) ?_
  refine w_imul S dX5_apart_38 ?_
  refine lv_iload_n hx hb dX5_apart_39 rfl (lv_at hl 2 rfl) ?_
  refine w_iadd S dX5_apart_40 ?_
  refine w_tz (z := ((f * 5 + g : Nat) : Int)) (by omega) ?_
  refine lv_istore (lv' := [(4, .int (iI (((f * 5 + g : Nat) : Int)))), (0, .ref q), (1, .int (iI (((f : Nat) : Int)))), (2, .int (iI (((g : Nat) : Int)))), (3, .int (iI (1)))]) hx hb dX5_apart_41 hl (by decide) rfl (fun ls hl => ?_)
  refine lv_aload_n hx hb dX5_apart_43 rfl (lv_at hl 1 rfl) ?_
  refine w_get (C := RX5) (T := TX5) (Nf := 4) (ci := 5) (v := .ref qs) S (fun _ h => List.mem_cons_of_mem _ (List.mem_append_right _ h)) hE hP 0 rfl rfl 0 (by decide) (List.mem_of_getElem? (i := 3) rfl) rfl dX5_apart_44 ?_
  refine lv_bipush (v := iI (83)) hx hb dX5_apart_47 (by decide) ?_
  refine lv_iload hx hb dX5_apart_49 (lv_at hl 0 rfl) ?_
  refine w_iadd S dX5_apart_51 ?_
  refine w_iald S hE hP 1 rfl (83 + (f * 5 + g)) (by omega) (by omega) (by omega) dX5_apart_52 ?_
  refine w_tz (z := ha (f * 5 + g)) (st_ha (by omega) (by omega)) ?_
  refine b_neT (tgt := 61) S dX5_apart_53 (by decide) (by omega) (by omega) ?_
  refine lv_aload_n hx hb dX5_apart_61 rfl (lv_at hl 1 rfl) ?_
  refine w_get (C := RX5) (T := TX5) (Nf := 4) (ci := 5) (v := .ref qs) S (fun _ h => List.mem_cons_of_mem _ (List.mem_append_right _ h)) hE hP 0 rfl rfl 0 (by decide) (List.mem_of_getElem? (i := 3) rfl) rfl dX5_apart_62 ?_
  refine lv_iload_n hx hb dX5_apart_65 rfl (lv_at hl 4 rfl) ?_
  refine b_neT (tgt := 74) S dX5_apart_66 (by decide) (by decide) (by decide) ?_
  refine lv_bipush (v := iI (33)) hx hb dX5_apart_74 (by decide) ?_
  refine lv_iload hx hb dX5_apart_76 (lv_at hl 0 rfl) ?_
  refine w_iadd S dX5_apart_78 ?_
  refine w_iald S hE hP 1 rfl (33 + (f * 5 + g)) (by omega) (by omega) (by omega) dX5_apart_79 ?_
  refine w_tz (z := hi (f * 5 + g)) (st_hi (by omega) (by omega)) ?_
  exact hret _ _ _ dX5_apart_80 rfl
