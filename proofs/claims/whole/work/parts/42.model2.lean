set_option maxHeartbeats 4000000 in
set_option maxRecDepth 100000 in
theorem m_over_0 (lc : Launch) (D : va_G) (cI cZ : ClassId) (N : Nat) (q : Nat) (qs : Nat) (qi : Nat) (qk : Nat) (ql : Nat) (mn : Nat) (tA : Int) (sA : Int) (kA : Int) (nb : Nat → Int) (ck : Nat → Int) (hi : Nat → Int) (lo : Nat → Int) (ha : Nat → Int) (cn : Nat → Int) (sm : Nat → Int) (im : Nat → Int) (kp : Nat → Int) (le : Nat → Int) (lk : Nat) (t : Int) (hnb : ∀ k, k < 24 → 0 ≤ nb k ∧ nb k ≤ 20) (hl4 : lk < 4) (ht : 0 ≤ t ∧ t ≤ 100000000) : CR lc D cI cZ N yX5_over wsX5_over (rmK 1 22) [.ref q, .int (iI (((lk : Nat) : Int))), .int (iI (0)), .int (iI (t))] [(q, .inr (5, [.ref qs, .ref qi, .ref qk, .ref ql])), (qs, .inl (cI, 2108, .inl (vI (stF ((mn : Nat) : Int) tA sA kA nb ck hi lo ha cn sm)))), (qi, .inl (cI, 4216, .inl (vI im))), (qk, .inl (cZ, 2, .inl (vI kp))), (ql, .inl (cI, 25, .inl (vI le)))] (some (.int (iI (t + tkT nb lk t)))) := by
  refine CR.I (cc := cX5_over) (maxL := 4) (by decide) rfl (Nat.le_of_ble_eq_true rfl) ?_
  intro p e s m args below meth c R Q S hE A hAN hfr hlo hP hD hS hret ls hl
  have S : CallFix p m c cX5_over 4 s args wsX5_over RX5 := S
  have hx := S.1
  have hb := S.2.1
  have hl : lv_has ls 4 [(0, .ref q), (1, .int (iI (((lk : Nat) : Int)))), (2, .int (iI (0))), (3, .int (iI (t)))] := hl
  have g1 := hnb (lk * 6 + 1) (by omega)
  refine lv_iload_n hx hb dX5_over_0 rfl (lv_at hl 3 rfl) ?_
  refine lv_aload_n hx hb dX5_over_1 rfl (lv_at hl 0 rfl) ?_
  refine lv_iload_n hx hb dX5_over_2 rfl (lv_at hl 1 rfl) ?_
  refine lv_iconst (v := iI (2)) hx hb dX5_over_3 rfl ?_
  refine lv_iload_n hx hb dX5_over_4 rfl (lv_at hl 2 rfl) ?_
  refine w_imul S dX5_over_5 ?_
  refine w_tz (z := 0) (by decide) ?_
  refine kV_R (n := 2) (ci := 5) (q := (RX5, TX5, 4)) S (m_linkOf lc D cI cZ N q qs qi qk ql mn tA sA kA nb ck hi lo ha cn sm im kp le lk 0 (by omega)) gX5_over_X5_linkOf rfl rfl (by decide +kernel) rfl rfl ⟨Nat.le_trans (Nat.le_of_ble_eq_true rfl) hfr, Nat.le_trans (Nat.le_of_ble_eq_true rfl) hlo⟩ hE hAN hP hD hS [0, 1, 2, 3, 4] rfl (by decide) rfl rfl rfl rfl hl.1 [.int (iI (t))] rfl (Nat.le_of_ble_eq_true rfl) dX5_over_6 ⟨Nat.zero_le _, Nat.zero_le _⟩ ?_
  refine W.eq (g2 := F0 m 9 ls [.int (iI (nb (lk * 6 + 0))), .int (iI (t))]) rfl ?_
  refine w_iadd S dX5_over_9 ?_
  refine lv_iload_n hx hb dX5_over_10 rfl (lv_at hl 3 rfl) ?_
  refine lv_aload_n hx hb dX5_over_11 rfl (lv_at hl 0 rfl) ?_
  refine lv_iload_n hx hb dX5_over_12 rfl (lv_at hl 1 rfl) ?_
  refine lv_iconst (v := iI (2)) hx hb dX5_over_13 rfl ?_
  refine lv_iload_n hx hb dX5_over_14 rfl (lv_at hl 2 rfl) ?_
  refine w_imul S dX5_over_15 ?_
  refine w_tz (z := 0) (by decide) ?_
  refine lv_iconst (v := iI (1)) hx hb dX5_over_16 rfl ?_
  refine w_iadd S dX5_over_17 ?_
  refine w_tz (z := 1) (by decide) ?_
  refine kV_R (n := 2) (ci := 5) (q := (RX5, TX5, 4)) S (m_linkOf lc D cI cZ N q qs qi qk ql mn tA sA kA nb ck hi lo ha cn sm im kp le lk 1 (by omega)) gX5_over_X5_linkOf rfl rfl (by decide +kernel) rfl rfl ⟨Nat.le_trans (Nat.le_of_ble_eq_true rfl) hfr, Nat.le_trans (Nat.le_of_ble_eq_true rfl) hlo⟩ hE hAN hP hD hS [0, 1, 2, 3, 4] rfl (by decide) rfl rfl rfl rfl hl.1 [.int (iI (t)), .int (iI (t + (nb (lk * 6 + 0))))] rfl (Nat.le_of_ble_eq_true rfl) dX5_over_18 ⟨Nat.zero_le _, Nat.zero_le _⟩ ?_
  refine W.eq (g2 := F0 m 21 ls [.int (iI (nb (lk * 6 + 1))), .int (iI (t)), .int (iI (t + (nb (lk * 6 + 0))))]) rfl ?_
  refine lv_iconst (v := iI (1)) hx hb dX5_over_21 rfl ?_
  refine w_iadd S dX5_over_22 ?_
  refine w_irem S (by omega) (by omega) dX5_over_23 ?_
  refine w_iadd S dX5_over_24 ?_
  exact hret _ _ _ dX5_over_25 (congrArg iI (by show (t + nb (lk * 6)) + t.tmod (nb (lk * 6 + 1) + 1) = t + (nb (lk * 6) + t.tmod (nb (lk * 6 + 1) + 1)); omega))
set_option maxHeartbeats 4000000 in
set_option maxRecDepth 100000 in
theorem m_over_1 (lc : Launch) (D : va_G) (cI cZ : ClassId) (N : Nat) (q : Nat) (qs : Nat) (qi : Nat) (qk : Nat) (ql : Nat) (mn : Nat) (tA : Int) (sA : Int) (kA : Int) (nb : Nat → Int) (ck : Nat → Int) (hi : Nat → Int) (lo : Nat → Int) (ha : Nat → Int) (cn : Nat → Int) (sm : Nat → Int) (im : Nat → Int) (kp : Nat → Int) (le : Nat → Int) (lk : Nat) (t : Int) (hnb : ∀ k, k < 24 → 0 ≤ nb k ∧ nb k ≤ 20) (hl4 : lk < 4) (ht : 0 ≤ t ∧ t ≤ 100000000) : CR lc D cI cZ N yX5_over wsX5_over (rmK 1 22) [.ref q, .int (iI (((lk : Nat) : Int))), .int (iI (1)), .int (iI (t))] [(q, .inr (5, [.ref qs, .ref qi, .ref qk, .ref ql])), (qs, .inl (cI, 2108, .inl (vI (stF ((mn : Nat) : Int) tA sA kA nb ck hi lo ha cn sm)))), (qi, .inl (cI, 4216, .inl (vI im))), (qk, .inl (cZ, 2, .inl (vI kp))), (ql, .inl (cI, 25, .inl (vI le)))] (some (.int (iI (t + tkB nb lk t)))) := by
  refine CR.I (cc := cX5_over) (maxL := 4) (by decide) rfl (Nat.le_of_ble_eq_true rfl) ?_
  intro p e s m args below meth c R Q S hE A hAN hfr hlo hP hD hS hret ls hl
  have S : CallFix p m c cX5_over 4 s args wsX5_over RX5 := S
  have hx := S.1
  have hb := S.2.1
  have hl : lv_has ls 4 [(0, .ref q), (1, .int (iI (((lk : Nat) : Int)))), (2, .int (iI (1))), (3, .int (iI (t)))] := hl
  have g1 := hnb (lk * 6 + 3) (by omega)
  refine lv_iload_n hx hb dX5_over_0 rfl (lv_at hl 3 rfl) ?_
  refine lv_aload_n hx hb dX5_over_1 rfl (lv_at hl 0 rfl) ?_
  refine lv_iload_n hx hb dX5_over_2 rfl (lv_at hl 1 rfl) ?_
  refine lv_iconst (v := iI (2)) hx hb dX5_over_3 rfl ?_
  refine lv_iload_n hx hb dX5_over_4 rfl (lv_at hl 2 rfl) ?_
  refine w_imul S dX5_over_5 ?_
  refine w_tz (z := 2) (by decide) ?_
  refine kV_R (n := 2) (ci := 5) (q := (RX5, TX5, 4)) S (m_linkOf lc D cI cZ N q qs qi qk ql mn tA sA kA nb ck hi lo ha cn sm im kp le lk 2 (by omega)) gX5_over_X5_linkOf rfl rfl (by decide +kernel) rfl rfl ⟨Nat.le_trans (Nat.le_of_ble_eq_true rfl) hfr, Nat.le_trans (Nat.le_of_ble_eq_true rfl) hlo⟩ hE hAN hP hD hS [0, 1, 2, 3, 4] rfl (by decide) rfl rfl rfl rfl hl.1 [.int (iI (t))] rfl (Nat.le_of_ble_eq_true rfl) dX5_over_6 ⟨Nat.zero_le _, Nat.zero_le _⟩ ?_
  refine W.eq (g2 := F0 m 9 ls [.int (iI (nb (lk * 6 + 2))), .int (iI (t))]) rfl ?_
  refine w_iadd S dX5_over_9 ?_
  refine lv_iload_n hx hb dX5_over_10 rfl (lv_at hl 3 rfl) ?_
  refine lv_aload_n hx hb dX5_over_11 rfl (lv_at hl 0 rfl) ?_
  refine lv_iload_n hx hb dX5_over_12 rfl (lv_at hl 1 rfl) ?_
  refine lv_iconst (v := iI (2)) hx hb dX5_over_13 rfl ?_
  refine lv_iload_n hx hb dX5_over_14 rfl (lv_at hl 2 rfl) ?_
  refine w_imul S dX5_over_15 ?_
  refine w_tz (z := 2) (by decide) ?_
  refine lv_iconst (v := iI (1)) hx hb dX5_over_16 rfl ?_
  refine w_iadd S dX5_over_17 ?_
  refine w_tz (z := 3) (by decide) ?_
  refine kV_R (n := 2) (ci := 5) (q := (RX5, TX5, 4)) S (m_linkOf lc D cI cZ N q qs qi qk ql mn tA sA kA nb ck hi lo ha cn sm im kp le lk 3 (by omega)) gX5_over_X5_linkOf rfl rfl (by decide +kernel) rfl rfl ⟨Nat.le_trans (Nat.le_of_ble_eq_true rfl) hfr, Nat.le_trans (Nat.le_of_ble_eq_true rfl) hlo⟩ hE hAN hP hD hS [0, 1, 2, 3, 4] rfl (by decide) rfl rfl rfl rfl hl.1 [.int (iI (t)), .int (iI (t + (nb (lk * 6 + 2))))] rfl (Nat.le_of_ble_eq_true rfl) dX5_over_18 ⟨Nat.zero_le _, Nat.zero_le _⟩ ?_
  refine W.eq (g2 := F0 m 21 ls [.int (iI (nb (lk * 6 + 3))), .int (iI (t)), .int (iI (t + (nb (lk * 6 + 2))))]) rfl ?_
  refine lv_iconst (v := iI (1)) hx hb dX5_over_21 rfl ?_
  refine w_iadd S dX5_over_22 ?_
  refine w_irem S (by omega) (by omega) dX5_over_23 ?_
  refine w_iadd S dX5_over_24 ?_
  exact hret _ _ _ dX5_over_25 (congrArg iI (by show (t + nb (lk * 6 + 2)) + t.tmod (nb (lk * 6 + 3) + 1) = t + (nb (lk * 6 + 2) + t.tmod (nb (lk * 6 + 3) + 1)); omega))
set_option maxHeartbeats 4000000 in
set_option maxRecDepth 100000 in
theorem m_isDropped_T (lc : Launch) (D : va_G) (cI cZ : ClassId) (N : Nat) (q : Nat) (qs : Nat) (qi : Nat) (qk : Nat) (ql : Nat) (mn : Nat) (tA : Int) (sA : Int) (kA : Int) (nb : Nat → Int) (ck : Nat → Int) (hi : Nat → Int) (lo : Nat → Int) (ha : Nat → Int) (cn : Nat → Int) (sm : Nat → Int) (im : Nat → Int) (kp : Nat → Int) (le : Nat → Int) (lk : Nat) (x : Int) (hnb : ∀ k, k < 24 → 0 ≤ nb k ∧ nb k ≤ 20) (hl4 : lk < 4) (hx0 : -100000000 ≤ x ∧ x ≤ 100000000) (h : drp nb lk x) : CR lc D cI cZ N yX5_isDropped wsX5_isDropped (rmK 1 22) [.ref q, .int (iI (((lk : Nat) : Int))), .int (iI (x))] [(q, .inr (5, [.ref qs, .ref qi, .ref qk, .ref ql])), (qs, .inl (cI, 2108, .inl (vI (stF ((mn : Nat) : Int) tA sA kA nb ck hi lo ha cn sm)))), (qi, .inl (cI, 4216, .inl (vI im))), (qk, .inl (cZ, 2, .inl (vI kp))), (ql, .inl (cI, 25, .inl (vI le)))] (some (.int (iI (1)))) := by
  refine CR.Z (cc := cX5_isDropped) (maxL := 3) (by decide) rfl (Nat.le_of_ble_eq_true rfl) ?_
  intro p e s m args below meth c R Q S hE A hAN hfr hlo hP hD hS hret ls hl
  have S : CallFix p m c cX5_isDropped 3 s args wsX5_isDropped RX5 := S
  have hx := S.1
  have hb := S.2.1
  have hl : lv_has ls 3 [(0, .ref q), (1, .int (iI (((lk : Nat) : Int)))), (2, .int (iI (x)))] := hl
  have h4 := hnb (lk * 6 + 4) (by omega)
  have h5 := hnb (lk * 6 + 5) (by omega)
  have h6 := h.1
  refine lv_aload_n hx hb dX5_isDropped_0 rfl (lv_at hl 0 rfl) ?_
  refine lv_iload_n hx hb dX5_isDropped_1 rfl (lv_at hl 1 rfl) ?_
  refine lv_iconst (v := iI (4)) hx hb dX5_isDropped_2 rfl ?_
  refine kV_R (n := 2) (ci := 5) (q := (RX5, TX5, 4)) S (m_linkOf lc D cI cZ N q qs qi qk ql mn tA sA kA nb ck hi lo ha cn sm im kp le lk 4 (by omega)) gX5_isDropped_X5_linkOf rfl rfl (by decide +kernel) rfl rfl ⟨Nat.le_trans (Nat.le_of_ble_eq_true rfl) hfr, Nat.le_trans (Nat.le_of_ble_eq_true rfl) hlo⟩ hE hAN hP hD hS [0, 1, 2, 3, 4] rfl (by decide) rfl rfl rfl rfl hl.1 [] rfl (Nat.le_of_ble_eq_true rfl) dX5_isDropped_3 ⟨Nat.zero_le _, Nat.zero_le _⟩ ?_
  refine W.eq (g2 := F0 m 6 ls [.int (iI (nb (lk * 6 + 4)))]) rfl ?_
  refine b_leF (tgt := 30) S dX5_isDropped_6 (by decide) (by omega) (by omega) ?_
  refine lv_iload_n hx hb dX5_isDropped_9 rfl (lv_at hl 2 rfl) ?_
  refine lv_aload_n hx hb dX5_isDropped_10 rfl (lv_at hl 0 rfl) ?_
  refine lv_iload_n hx hb dX5_isDropped_11 rfl (lv_at hl 1 rfl) ?_
  refine lv_iconst (v := iI (4)) hx hb dX5_isDropped_12 rfl ?_
  refine kV_R (n := 2) (ci := 5) (q := (RX5, TX5, 4)) S (m_linkOf lc D cI cZ N q qs qi qk ql mn tA sA kA nb ck hi lo ha cn sm im kp le lk 4 (by omega)) gX5_isDropped_X5_linkOf rfl rfl (by decide +kernel) rfl rfl ⟨Nat.le_trans (Nat.le_of_ble_eq_true rfl) hfr, Nat.le_trans (Nat.le_of_ble_eq_true rfl) hlo⟩ hE hAN hP hD hS [0, 1, 2, 3, 4] rfl (by decide) rfl rfl rfl rfl hl.1 [.int (iI (x))] rfl (Nat.le_of_ble_eq_true rfl) dX5_isDropped_13 ⟨Nat.zero_le _, Nat.zero_le _⟩ ?_
  refine W.eq (g2 := F0 m 16 ls [.int (iI (nb (lk * 6 + 4))), .int (iI (x))]) rfl ?_
  refine w_irem S (by omega) (by omega) dX5_isDropped_16 ?_
  refine lv_aload_n hx hb dX5_isDropped_17 rfl (lv_at hl 0 rfl) ?_
  refine lv_iload_n hx hb dX5_isDropped_18 rfl (lv_at hl 1 rfl) ?_
  refine lv_iconst (v := iI (5)) hx hb dX5_isDropped_19 rfl ?_
  refine kV_R (n := 2) (ci := 5) (q := (RX5, TX5, 4)) S (m_linkOf lc D cI cZ N q qs qi qk ql mn tA sA kA nb ck hi lo ha cn sm im kp le lk 5 (by omega)) gX5_isDropped_X5_linkOf rfl rfl (by decide +kernel) rfl rfl ⟨Nat.le_trans (Nat.le_of_ble_eq_true rfl) hfr, Nat.le_trans (Nat.le_of_ble_eq_true rfl) hlo⟩ hE hAN hP hD hS [0, 1, 2, 3, 4] rfl (by decide) rfl rfl rfl rfl hl.1 [.int (iI (x.tmod (nb (lk * 6 + 4))))] rfl (Nat.le_of_ble_eq_true rfl) dX5_isDropped_20 ⟨Nat.zero_le _, Nat.zero_le _⟩ ?_
  refine W.eq (g2 := F0 m 23 ls [.int (iI (nb (lk * 6 + 5))), .int (iI (x.tmod (nb (lk * 6 + 4))))]) rfl ?_
  refine c_neF (tgt := 30) S dX5_isDropped_23 (by decide) h.2 ?_
  refine lv_iconst (v := iI (1)) hx hb dX5_isDropped_26 rfl ?_
  refine lv_goto (tgt := 31) hx hb dX5_isDropped_27 (by decide) ?_
  exact hret _ _ _ dX5_isDropped_31 rfl (Or.inr rfl)
set_option maxHeartbeats 4000000 in
set_option maxRecDepth 100000 in
theorem m_isDropped_F (lc : Launch) (D : va_G) (cI cZ : ClassId) (N : Nat) (q : Nat) (qs : Nat) (qi : Nat) (qk : Nat) (ql : Nat) (mn : Nat) (tA : Int) (sA : Int) (kA : Int) (nb : Nat → Int) (ck : Nat → Int) (hi : Nat → Int) (lo : Nat → Int) (ha : Nat → Int) (cn : Nat → Int) (sm : Nat → Int) (im : Nat → Int) (kp : Nat → Int) (le : Nat → Int) (lk : Nat) (x : Int) (hnb : ∀ k, k < 24 → 0 ≤ nb k ∧ nb k ≤ 20) (hl4 : lk < 4) (hx0 : -100000000 ≤ x ∧ x ≤ 100000000) (h : ¬ drp nb lk x) : CR lc D cI cZ N yX5_isDropped wsX5_isDropped (rmK 1 22) [.ref q, .int (iI (((lk : Nat) : Int))), .int (iI (x))] [(q, .inr (5, [.ref qs, .ref qi, .ref qk, .ref ql])), (qs, .inl (cI, 2108, .inl (vI (stF ((mn : Nat) : Int) tA sA kA nb ck hi lo ha cn sm)))), (qi, .inl (cI, 4216, .inl (vI im))), (qk, .inl (cZ, 2, .inl (vI kp))), (ql, .inl (cI, 25, .inl (vI le)))] (some (.int (iI (0)))) := by
  refine CR.Z (cc := cX5_isDropped) (maxL := 3) (by decide) rfl (Nat.le_of_ble_eq_true rfl) ?_
  intro p e s m args below meth c R Q S hE A hAN hfr hlo hP hD hS hret ls hl
  have S : CallFix p m c cX5_isDropped 3 s args wsX5_isDropped RX5 := S
  have hx := S.1
  have hb := S.2.1
  have hl : lv_has ls 3 [(0, .ref q), (1, .int (iI (((lk : Nat) : Int)))), (2, .int (iI (x)))] := hl
  have h4 := hnb (lk * 6 + 4) (by omega)
  have h5 := hnb (lk * 6 + 5) (by omega)
  by_cases h6 : 0 < nb (lk * 6 + 4)
  · refine lv_aload_n hx hb dX5_isDropped_0 rfl (lv_at hl 0 rfl) ?_
    refine lv_iload_n hx hb dX5_isDropped_1 rfl (lv_at hl 1 rfl) ?_
    refine lv_iconst (v := iI (4)) hx hb dX5_isDropped_2 rfl ?_
    refine kV_R (n := 2) (ci := 5) (q := (RX5, TX5, 4)) S (m_linkOf lc D cI cZ N q qs qi qk ql mn tA sA kA nb ck hi lo ha cn sm im kp le lk 4 (by omega)) gX5_isDropped_X5_linkOf rfl rfl (by decide +kernel) rfl rfl ⟨Nat.le_trans (Nat.le_of_ble_eq_true rfl) hfr, Nat.le_trans (Nat.le_of_ble_eq_true rfl) hlo⟩ hE hAN hP hD hS [0, 1, 2, 3, 4] rfl (by decide) rfl rfl rfl rfl hl.1 [] rfl (Nat.le_of_ble_eq_true rfl) dX5_isDropped_3 ⟨Nat.zero_le _, Nat.zero_le _⟩ ?_
    refine W.eq (g2 := F0 m 6 ls [.int (iI (nb (lk * 6 + 4)))]) rfl ?_
    refine b_leF (tgt := 30) S dX5_isDropped_6 (by decide) (by omega) (by omega) ?_
    refine lv_iload_n hx hb dX5_isDropped_9 rfl (lv_at hl 2 rfl) ?_
    refine lv_aload_n hx hb dX5_isDropped_10 rfl (lv_at hl 0 rfl) ?_
    refine lv_iload_n hx hb dX5_isDropped_11 rfl (lv_at hl 1 rfl) ?_
    refine lv_iconst (v := iI (4)) hx hb dX5_isDropped_12 rfl ?_
    refine kV_R (n := 2) (ci := 5) (q := (RX5, TX5, 4)) S (m_linkOf lc D cI cZ N q qs qi qk ql mn tA sA kA nb ck hi lo ha cn sm im kp le lk 4 (by omega)) gX5_isDropped_X5_linkOf rfl rfl (by decide +kernel) rfl rfl ⟨Nat.le_trans (Nat.le_of_ble_eq_true rfl) hfr, Nat.le_trans (Nat.le_of_ble_eq_true rfl) hlo⟩ hE hAN hP hD hS [0, 1, 2, 3, 4] rfl (by decide) rfl rfl rfl rfl hl.1 [.int (iI (x))] rfl (Nat.le_of_ble_eq_true rfl) dX5_isDropped_13 ⟨Nat.zero_le _, Nat.zero_le _⟩ ?_
    refine W.eq (g2 := F0 m 16 ls [.int (iI (nb (lk * 6 + 4))), .int (iI (x))]) rfl ?_
    refine w_irem S (by omega) (by omega) dX5_isDropped_16 ?_
    have h7 := tmod_rngZ (t := x) h6
    refine lv_aload_n hx hb dX5_isDropped_17 rfl (lv_at hl 0 rfl) ?_
    refine lv_iload_n hx hb dX5_isDropped_18 rfl (lv_at hl 1 rfl) ?_
    refine lv_iconst (v := iI (5)) hx hb dX5_isDropped_19 rfl ?_
    refine kV_R (n := 2) (ci := 5) (q := (RX5, TX5, 4)) S (m_linkOf lc D cI cZ N q qs qi qk ql mn tA sA kA nb ck hi lo ha cn sm im kp le lk 5 (by omega)) gX5_isDropped_X5_linkOf rfl rfl (by decide +kernel) rfl rfl ⟨Nat.le_trans (Nat.le_of_ble_eq_true rfl) hfr, Nat.le_trans (Nat.le_of_ble_eq_true rfl) hlo⟩ hE hAN hP hD hS [0, 1, 2, 3, 4] rfl (by decide) rfl rfl rfl rfl hl.1 [.int (iI (x.tmod (nb (lk * 6 + 4))))] rfl (Nat.le_of_ble_eq_true rfl) dX5_isDropped_20 ⟨Nat.zero_le _, Nat.zero_le _⟩ ?_
    refine W.eq (g2 := F0 m 23 ls [.int (iI (nb (lk * 6 + 5))), .int (iI (x.tmod (nb (lk * 6 + 4))))]) rfl ?_
    refine c_neT (tgt := 30) S dX5_isDropped_23 (by decide) (by omega) (by omega) (fun q => h ⟨h6, q⟩) ?_
    refine lv_iconst (v := iI (0)) hx hb dX5_isDropped_30 rfl ?_
    exact hret _ _ _ dX5_isDropped_31 rfl (Or.inl rfl)
  · refine lv_aload_n hx hb dX5_isDropped_0 rfl (lv_at hl 0 rfl) ?_
    refine lv_iload_n hx hb dX5_isDropped_1 rfl (lv_at hl 1 rfl) ?_
    refine lv_iconst (v := iI (4)) hx hb dX5_isDropped_2 rfl ?_
    refine kV_R (n := 2) (ci := 5) (q := (RX5, TX5, 4)) S (m_linkOf lc D cI cZ N q qs qi qk ql mn tA sA kA nb ck hi lo ha cn sm im kp le lk 4 (by omega)) gX5_isDropped_X5_linkOf rfl rfl (by decide +kernel) rfl rfl ⟨Nat.le_trans (Nat.le_of_ble_eq_true rfl) hfr, Nat.le_trans (Nat.le_of_ble_eq_true rfl) hlo⟩ hE hAN hP hD hS [0, 1, 2, 3, 4] rfl (by decide) rfl rfl rfl rfl hl.1 [] rfl (Nat.le_of_ble_eq_true rfl) dX5_isDropped_3 ⟨Nat.zero_le _, Nat.zero_le _⟩ ?_
    refine W.eq (g2 := F0 m 6 ls [.int (iI (nb (lk * 6 + 4)))]) rfl ?_
    refine b_leT (tgt := 30) S dX5_isDropped_6 (by decide) (by omega) (by omega) ?_
    refine lv_iconst (v := iI (0)) hx hb dX5_isDropped_30 rfl ?_
    exact hret _ _ _ dX5_isDropped_31 rfl (Or.inl rfl)
set_option maxHeartbeats 4000000 in
set_option maxRecDepth 100000 in
theorem m_note (lc : Launch) (D : va_G) (cI cZ : ClassId) (N : Nat) (q : Nat) (qs : Nat) (qi : Nat) (qk : Nat) (ql : Nat) (mn : Nat) (tA : Int) (sA : Int) (kA : Int) (nb : Nat → Int) (ck : Nat → Int) (hi : Nat → Int) (lo : Nat → Int) (ha : Nat → Int) (cn : Nat → Int) (sm : Nat → Int) (im : Nat → Int) (kp : Nat → Int) (le : Nat → Int) (nd : Nat) (bk : Nat) (t : Int) (hn : nd < 5) (hb2 : bk < 200) : CM lc D cI cZ N yX5_note wsX5_note (rmK 0 0) [.ref q, .int (iI (((nd : Nat) : Int))), .int (iI (((bk : Nat) : Int))), .int (iI (t))] [(q, .inr (5, [.ref qs, .ref qi, .ref qk, .ref ql])), (qs, .inl (cI, 2108, .inl (vI (stF ((mn : Nat) : Int) tA sA kA nb ck hi lo ha cn sm)))), (qi, .inl (cI, 4216, .inl (vI im))), (qk, .inl (cZ, 2, .inl (vI kp))), (ql, .inl (cI, 25, .inl (vI le)))] none [(q, .inr (5, [.ref qs, .ref qi, .ref qk, .ref ql])), (qs, .inl (cI, 2108, .inl (vI (stF ((mn : Nat) : Int) tA sA kA nb ck hi lo ha (updI cn (nd * 200 + bk) (cn (nd * 200 + bk) + 1)) (updI sm (nd * 200 + bk) (sm (nd * 200 + bk) + (t + ck nd))))))), (qi, .inl (cI, 4216, .inl (vI im))), (qk, .inl (cZ, 2, .inl (vI kp))), (ql, .inl (cI, 25, .inl (vI le)))] := by
  refine CM.V (cc := cX5_note) (maxL := 4) (by decide) rfl (Nat.le_of_ble_eq_true rfl) ?_
  intro p e s m args below meth c R Q S hE A hAN hfr hlo hP hD hS hret ls hl
  have S : CallFix p m c cX5_note 4 s args wsX5_note RX5 := S
  have hx := S.1
  have hb := S.2.1
  have hl : lv_has ls 4 [(0, .ref q), (1, .int (iI (((nd : Nat) : Int)))), (2, .int (iI (((bk : Nat) : Int)))), (3, .int (iI (t)))] := hl
  refine lv_aload_n hx hb dX5_note_0 rfl (lv_at hl 0 rfl) ?_
  refine w_get (C := RX5) (T := TX5) (Nf := 4) (ci := 5) (v := .ref qs) S (fun _ h => List.mem_cons_of_mem _ (List.mem_append_right _ h)) hE hP 0 rfl rfl 0 (by decide) (List.mem_of_getElem? (i := 1) rfl) rfl dX5_note_1 ?_
  refine lv_bipush (v := iI (108)) hx hb dX5_note_4 (by decide) ?_
  refine lv_sipush (v := iI (200)) hx hb dX5_note_6 (by decide) ?_
  refine lv_iload_n hx hb dX5_note_9 rfl (lv_at hl 1 rfl) ?_
  refine w_imul S dX5_note_10 ?_
  refine w_iadd S dX5_note_11 ?_
  refine lv_iload_n hx hb dX5_note_12 rfl (lv_at hl 2 rfl) ?_
  refine w_iadd S dX5_note_13 ?_
  refine lv_dup2_11 hx hb dX5_note_14 rfl rfl ?_
  refine w_iald S hE hP 1 rfl ((108 + (200 * nd)) + bk) (by omega) (by omega) (by omega) dX5_note_15 ?_
  refine w_tz (z := cn (nd * 200 + bk)) (st_cn (by omega) (by omega)) ?_
  refine lv_iconst (v := iI (1)) hx hb dX5_note_16 rfl ?_
  refine w_iadd S dX5_note_17 ?_
  refine w_iast S hE hP hD hS 1 rfl ((108 + (200 * nd)) + bk) (by omega) (by omega) (by omega) dX5_note_18 (fun H locs hP hD hS => ?_)
  rw [List.set_cons_succ, List.set_cons_zero, su_cn (j := nd * 200 + bk) (by omega) (by omega)] at hP hD
  have hP : va_P D vwCl [(q, .inr (5, [.ref qs, .ref qi, .ref qk, .ref ql])), (qs, .inl (cI, 2108, .inl (vI (stF ((mn : Nat) : Int) tA sA kA nb ck hi lo ha (updI cn (nd * 200 + bk) ((cn (nd * 200 + bk)) + 1)) sm)))), (qi, .inl (cI, 4216, .inl (vI im))), (qk, .inl (cZ, 2, .inl (vI kp))), (ql, .inl (cI, 25, .inl (vI le)))] H := hP
  have hD : va_D A [(q, .inr (5, [.ref qs, .ref qi, .ref qk, .ref ql])), (qs, .inl (cI, 2108, .inl (vI (stF ((mn : Nat) : Int) tA sA kA nb ck hi lo ha (updI cn (nd * 200 + bk) ((cn (nd * 200 + bk)) + 1)) sm)))), (qi, .inl (cI, 4216, .inl (vI im))), (qk, .inl (cZ, 2, .inl (vI kp))), (ql, .inl (cI, 25, .inl (vI le)))] := hD
  refine lv_aload_n hx hb dX5_note_19 rfl (lv_at hl 0 rfl) ?_
  refine w_get (C := RX5) (T := TX5) (Nf := 4) (ci := 5) (v := .ref qs) S (fun _ h => List.mem_cons_of_mem _ (List.mem_append_right _ h)) hE hP 0 rfl rfl 0 (by decide) (List.mem_of_getElem? (i := 1) rfl) rfl dX5_note_20 ?_
  refine lv_sipush (v := iI (1108)) hx hb dX5_note_23 (by decide) ?_
  refine lv_sipush (v := iI (200)) hx hb dX5_note_26 (by decide) ?_
  refine lv_iload_n hx hb dX5_note_29 rfl (lv_at hl 1 rfl) ?_
  refine w_imul S dX5_note_30 ?_
  refine w_iadd S dX5_note_31 ?_
  refine lv_iload_n hx hb dX5_note_32 rfl (lv_at hl 2 rfl) ?_
  refine w_iadd S dX5_note_33 ?_
  refine lv_dup2_11 hx hb dX5_note_34 rfl rfl ?_
  refine w_iald S hE hP 1 rfl ((1108 + (200 * nd)) + bk) (by omega) (by omega) (by omega) dX5_note_35 ?_
  refine w_tz (z := sm (nd * 200 + bk)) (st_sm (by omega) (by omega)) ?_
  refine lv_iload_n hx hb dX5_note_36 rfl (lv_at hl 3 rfl) ?_
  refine lv_aload_n hx hb dX5_note_37 rfl (lv_at hl 0 rfl) ?_
  refine w_get (C := RX5) (T := TX5) (Nf := 4) (ci := 5) (v := .ref qs) S (fun _ h => List.mem_cons_of_mem _ (List.mem_append_right _ h)) hE hP 0 rfl rfl 0 (by decide) (List.mem_of_getElem? (i := 1) rfl) rfl dX5_note_38 ?_
  refine lv_bipush (v := iI (28)) hx hb dX5_note_41 (by decide) ?_
  refine lv_iload_n hx hb dX5_note_43 rfl (lv_at hl 1 rfl) ?_
  refine w_iadd S dX5_note_44 ?_
  refine w_iald S hE hP 1 rfl (28 + nd) (by omega) (by omega) (by omega) dX5_note_45 ?_
  refine w_tz (z := ck nd) (st_ck (by omega) (by omega)) ?_
  refine w_iadd S dX5_note_46 ?_
  refine w_iadd S dX5_note_47 ?_
  refine w_iast S hE hP hD hS 1 rfl ((1108 + (200 * nd)) + bk) (by omega) (by omega) (by omega) dX5_note_48 (fun H locs hP hD hS => ?_)
  rw [List.set_cons_succ, List.set_cons_zero, su_sm (j := nd * 200 + bk) (by omega) (by omega)] at hP hD
  have hP : va_P D vwCl [(q, .inr (5, [.ref qs, .ref qi, .ref qk, .ref ql])), (qs, .inl (cI, 2108, .inl (vI (stF ((mn : Nat) : Int) tA sA kA nb ck hi lo ha (updI cn (nd * 200 + bk) ((cn (nd * 200 + bk)) + 1)) (updI sm (nd * 200 + bk) ((sm (nd * 200 + bk)) + (t + (ck nd)))))))), (qi, .inl (cI, 4216, .inl (vI im))), (qk, .inl (cZ, 2, .inl (vI kp))), (ql, .inl (cI, 25, .inl (vI le)))] H := hP
  have hD : va_D A [(q, .inr (5, [.ref qs, .ref qi, .ref qk, .ref ql])), (qs, .inl (cI, 2108, .inl (vI (stF ((mn : Nat) : Int) tA sA kA nb ck hi lo ha (updI cn (nd * 200 + bk) ((cn (nd * 200 + bk)) + 1)) (updI sm (nd * 200 + bk) ((sm (nd * 200 + bk)) + (t + (ck nd)))))))), (qi, .inl (cI, 4216, .inl (vI im))), (qk, .inl (cZ, 2, .inl (vI kp))), (ql, .inl (cI, 25, .inl (vI le)))] := hD
  exact hret _ _ _ _ dX5_note_49 hP hS
set_option maxHeartbeats 4000000 in
set_option maxRecDepth 100000 in
theorem m_sendOne_T (lc : Launch) (D : va_G) (cI cZ : ClassId) (N : Nat) (q : Nat) (qs : Nat) (qi : Nat) (qk : Nat) (ql : Nat) (mn : Nat) (tA : Int) (sA : Int) (kA : Int) (nb : Nat → Int) (ck : Nat → Int) (hi : Nat → Int) (lo : Nat → Int) (ha : Nat → Int) (cn : Nat → Int) (sm : Nat → Int) (im : Nat → Int) (kp : Nat → Int) (le : Nat → Int) (bb : Nat) (hmn : 2 ≤ mn ∧ mn ≤ 5) (hnb : ∀ k, k < 24 → 0 ≤ nb k ∧ nb k ≤ 20) (hta : 0 ≤ tA ∧ tA ≤ 10000) (hsA : 0 ≤ sA ∧ sA ≤ 200) (hkA : 1 ≤ kA ∧ kA ≤ 20) (hbb : sA.tdiv kA = ((bb : Nat) : Int)) (hbb2 : bb < 200) (hd : ∀ i, i < mn - 1 → ¬ drp nb i sA) : CM lc D cI cZ N yX5_sendOne wsX5_sendOne (rmK 2 45) [.ref q] [(q, .inr (5, [.ref qs, .ref qi, .ref qk, .ref ql])), (qs, .inl (cI, 2108, .inl (vI (stF ((mn : Nat) : Int) tA sA kA nb ck hi lo ha cn sm)))), (qi, .inl (cI, 4216, .inl (vI im))), (qk, .inl (cZ, 2, .inl (vI kp))), (ql, .inl (cI, 25, .inl (vI le)))] (some (.int (iI (1)))) [(q, .inr (5, [.ref qs, .ref qi, .ref qk, .ref ql])), (qs, .inl (cI, 2108, .inl (vI (stF ((mn : Nat) : Int) (tA + 1) (sA + 1) kA nb ck hi lo ha (cnA cn bb (mn - 1)) (smA sm ck nb tA bb (mn - 1)))))), (qi, .inl (cI, 4216, .inl (vI im))), (qk, .inl (cZ, 2, .inl (vI kp))), (ql, .inl (cI, 25, .inl (vI le)))] := by
  refine CM.Z (cc := cX5_sendOne) (maxL := 5) (by decide) rfl (Nat.le_of_ble_eq_true rfl) ?_
  intro p e s m args below meth c R Q S hE A hAN hfr hlo hP hD hS hret ls hl
  have S : CallFix p m c cX5_sendOne 5 s args wsX5_sendOne RX5 := S
  have hx := S.1
  have hb := S.2.1
  have hl : lv_has ls 5 [(0, .ref q)] := hl
  refine lv_aload_n hx hb dX5_sendOne_0 rfl (lv_at hl 0 rfl) ?_
  refine w_get (C := RX5) (T := TX5) (Nf := 4) (ci := 5) (v := .ref qs) S (fun _ h => List.mem_cons_of_mem _ (List.mem_append_right _ h)) hE hP 0 rfl rfl 0 (by decide) (List.mem_of_getElem? (i := 1) rfl) rfl dX5_sendOne_1 ?_
  refine lv_iconst (v := iI (2)) hx hb dX5_sendOne_4 rfl ?_
  refine w_iald S hE hP 1 rfl (2) (by omega) (by omega) (by omega) dX5_sendOne_5 ?_
  refine w_tz (z := sA) rfl ?_
  refine lv_istore_n (lv' := [(1, .int (iI (sA))), (0, .ref q)]) hx hb dX5_sendOne_6 rfl hl (by decide) rfl (fun ls hl => ?_)
  refine lv_iload_n hx hb dX5_sendOne_7 rfl (lv_at hl 0 rfl) ?_
  refine lv_aload_n hx hb dX5_sendOne_8 rfl (lv_at hl 1 rfl) ?_
  refine w_get (C := RX5) (T := TX5) (Nf := 4) (ci := 5) (v := .ref qs) S (fun _ h => List.mem_cons_of_mem _ (List.mem_append_right _ h)) hE hP 0 rfl rfl 0 (by decide) (List.mem_of_getElem? (i := 1) rfl) rfl dX5_sendOne_9 ?_
  refine lv_iconst (v := iI (3)) hx hb dX5_sendOne_12 rfl ?_
  refine w_iald S hE hP 1 rfl (3) (by omega) (by omega) (by omega) dX5_sendOne_13 ?_
  refine w_tz (z := kA) rfl ?_
  refine w_idiv S (by omega) (by omega) dX5_sendOne_14 ?_
  refine w_tz (z := ((bb : Nat) : Int)) hbb ?_
  refine lv_istore_n (lv' := [(2, .int (iI (((bb : Nat) : Int)))), (1, .int (iI (sA))), (0, .ref q)]) hx hb dX5_sendOne_15 rfl hl (by decide) rfl (fun ls hl => ?_)
  refine lv_aload_n hx hb dX5_sendOne_16 rfl (lv_at hl 2 rfl) ?_
  refine w_get (C := RX5) (T := TX5) (Nf := 4) (ci := 5) (v := .ref qs) S (fun _ h => List.mem_cons_of_mem _ (List.mem_append_right _ h)) hE hP 0 rfl rfl 0 (by decide) (List.mem_of_getElem? (i := 1) rfl) rfl dX5_sendOne_17 ?_
  refine lv_iconst (v := iI (1)) hx hb dX5_sendOne_20 rfl ?_
  refine w_iald S hE hP 1 rfl (1) (by omega) (by omega) (by omega) dX5_sendOne_21 ?_
  refine w_tz (z := tA) rfl ?_
  refine lv_istore_n (lv' := [(3, .int (iI (tA))), (2, .int (iI (((bb : Nat) : Int)))), (1, .int (iI (sA))), (0, .ref q)]) hx hb dX5_sendOne_22 rfl hl (by decide) rfl (fun ls hl => ?_)
  refine lv_iconst (v := iI (0)) hx hb dX5_sendOne_23 rfl ?_
  refine lv_istore (lv' := [(4, .int (iI (0))), (3, .int (iI (tA))), (2, .int (iI (((bb : Nat) : Int)))), (1, .int (iI (sA))), (0, .ref q)]) hx hb dX5_sendOne_24 hl (by decide) rfl (fun ls hl => ?_)
  refine lv_aload_n hx hb dX5_sendOne_26 rfl (lv_at hl 4 rfl) ?_
  refine lv_iconst (v := iI (0)) hx hb dX5_sendOne_27 rfl ?_
  refine lv_iload_n hx hb dX5_sendOne_28 rfl (lv_at hl 2 rfl) ?_
  refine lv_iload_n hx hb dX5_sendOne_29 rfl (lv_at hl 1 rfl) ?_
  refine kV_M (n := 3) (ci := 5) (q := (RX5, TX5, 4)) S (m_note lc D cI cZ N q qs qi qk ql mn tA sA kA nb ck hi lo ha cn sm im kp le 0 bb tA (by omega) (by omega)) gX5_sendOne_X5_note rfl rfl (by decide +kernel) rfl rfl ⟨Nat.le_trans (Nat.le_of_ble_eq_true rfl) hfr, Nat.le_trans (Nat.le_of_ble_eq_true rfl) hlo⟩ hE hAN hP hD hS [0, 1, 2, 3, 4] rfl (by decide) rfl rfl rfl rfl rfl hl.1 [] rfl (Nat.le_of_ble_eq_true rfl) dX5_sendOne_30 ⟨Nat.zero_le _, Nat.zero_le _⟩ (fun H locs hP hD hS => ?_)
  have hP : va_P D vwCl [(q, .inr (5, [.ref qs, .ref qi, .ref qk, .ref ql])), (qs, .inl (cI, 2108, .inl (vI (stF ((mn : Nat) : Int) tA sA kA nb ck hi lo ha (updI cn (0 * 200 + bb) (cn (0 * 200 + bb) + 1)) (updI sm (0 * 200 + bb) (sm (0 * 200 + bb) + (tA + ck 0))))))), (qi, .inl (cI, 4216, .inl (vI im))), (qk, .inl (cZ, 2, .inl (vI kp))), (ql, .inl (cI, 25, .inl (vI le)))] H := hP
  have hD : va_D A [(q, .inr (5, [.ref qs, .ref qi, .ref qk, .ref ql])), (qs, .inl (cI, 2108, .inl (vI (stF ((mn : Nat) : Int) tA sA kA nb ck hi lo ha (updI cn (0 * 200 + bb) (cn (0 * 200 + bb) + 1)) (updI sm (0 * 200 + bb) (sm (0 * 200 + bb) + (tA + ck 0))))))), (qi, .inl (cI, 4216, .inl (vI im))), (qk, .inl (cZ, 2, .inl (vI kp))), (ql, .inl (cI, 25, .inl (vI le)))] := hD
  refine W.eq (g2 := F0 m 33 ls []) rfl ?_
  have loop1 : ∀ (u i : Nat) , i + u = (mn - 1) → ∀ (H : Heap) (locs : List Loc) (ls : Array Slot), va_P D vwCl [(q, .inr (5, [.ref qs, .ref qi, .ref qk, .ref ql])), (qs, .inl (cI, 2108, .inl (vI (stF ((mn : Nat) : Int) tA sA kA nb ck hi lo ha (cnA cn bb i) (smA sm ck nb tA bb i))))), (qi, .inl (cI, 4216, .inl (vI im))), (qk, .inl (cZ, 2, .inl (vI kp))), (ql, .inl (cI, 25, .inl (vI le)))] H → va_D A [(q, .inr (5, [.ref qs, .ref qi, .ref qk, .ref ql])), (qs, .inl (cI, 2108, .inl (vI (stF ((mn : Nat) : Int) tA sA kA nb ck hi lo ha (cnA cn bb i) (smA sm ck nb tA bb i))))), (qi, .inl (cI, 4216, .inl (vI im))), (qk, .inl (cZ, 2, .inl (vI kp))), (ql, .inl (cI, 25, .inl (vI le)))] → va_S A s.heap H locs → lv_has ls 5 [(4, .int (iI (((i : Nat) : Int)))), (3, .int (iI (atN nb tA i))), (2, .int (iI (((bb : Nat) : Int)))), (1, .int (iI (sA))), (0, .ref q)] → W p lc e R s m args below meth c H locs 0 0 Q (F0 m 33 ls []) := by
    intro u
    induction u with
    | zero =>
      intro i  hm  H locs ls hP hD hS hl
      have hiq : i = mn - 1 := by omega
      refine lv_iload hx hb dX5_sendOne_33 (lv_at hl 0 rfl) ?_
      refine lv_iconst (v := iI (1)) hx hb dX5_sendOne_35 rfl ?_
      refine w_iadd S dX5_sendOne_36 ?_
      refine lv_aload_n hx hb dX5_sendOne_37 rfl (lv_at hl 4 rfl) ?_
      refine w_get (C := RX5) (T := TX5) (Nf := 4) (ci := 5) (v := .ref qs) S (fun _ h => List.mem_cons_of_mem _ (List.mem_append_right _ h)) hE hP 0 rfl rfl 0 (by decide) (List.mem_of_getElem? (i := 1) rfl) rfl dX5_sendOne_38 ?_
      refine lv_iconst (v := iI (0)) hx hb dX5_sendOne_41 rfl ?_
      refine w_iald S hE hP 1 rfl (0) (by omega) (by omega) (by omega) dX5_sendOne_42 ?_
      refine w_tz (z := ((mn : Nat) : Int)) rfl ?_
      refine c_geT (tgt := 79) S dX5_sendOne_43 (by decide) (by omega) (by omega) (by omega) ?_
      refine lv_aload_n hx hb dX5_sendOne_79 rfl (lv_at hl 4 rfl) ?_
      refine w_get (C := RX5) (T := TX5) (Nf := 4) (ci := 5) (v := .ref qs) S (fun _ h => List.mem_cons_of_mem _ (List.mem_append_right _ h)) hE hP 0 rfl rfl 0 (by decide) (List.mem_of_getElem? (i := 1) rfl) rfl dX5_sendOne_80 ?_
      refine lv_iconst (v := iI (2)) hx hb dX5_sendOne_83 rfl ?_
      refine lv_dup2_11 hx hb dX5_sendOne_84 rfl rfl ?_
      refine w_iald S hE hP 1 rfl (2) (by omega) (by omega) (by omega) dX5_sendOne_85 ?_
      refine w_tz (z := sA) rfl ?_
      refine lv_iconst (v := iI (1)) hx hb dX5_sendOne_86 rfl ?_
      refine w_iadd S dX5_sendOne_87 ?_
      refine w_iast S hE hP hD hS 1 rfl (2) (by omega) (by omega) (by omega) dX5_sendOne_88 (fun H locs hP hD hS => ?_)
      rw [List.set_cons_succ, List.set_cons_zero, su_sA] at hP hD
      have hP : va_P D vwCl [(q, .inr (5, [.ref qs, .ref qi, .ref qk, .ref ql])), (qs, .inl (cI, 2108, .inl (vI (stF ((mn : Nat) : Int) tA (sA + 1) kA nb ck hi lo ha (cnA cn bb i) (smA sm ck nb tA bb i))))), (qi, .inl (cI, 4216, .inl (vI im))), (qk, .inl (cZ, 2, .inl (vI kp))), (ql, .inl (cI, 25, .inl (vI le)))] H := hP
      have hD : va_D A [(q, .inr (5, [.ref qs, .ref qi, .ref qk, .ref ql])), (qs, .inl (cI, 2108, .inl (vI (stF ((mn : Nat) : Int) tA (sA + 1) kA nb ck hi lo ha (cnA cn bb i) (smA sm ck nb tA bb i))))), (qi, .inl (cI, 4216, .inl (vI im))), (qk, .inl (cZ, 2, .inl (vI kp))), (ql, .inl (cI, 25, .inl (vI le)))] := hD
      refine lv_aload_n hx hb dX5_sendOne_89 rfl (lv_at hl 4 rfl) ?_
      refine w_get (C := RX5) (T := TX5) (Nf := 4) (ci := 5) (v := .ref qs) S (fun _ h => List.mem_cons_of_mem _ (List.mem_append_right _ h)) hE hP 0 rfl rfl 0 (by decide) (List.mem_of_getElem? (i := 1) rfl) rfl dX5_sendOne_90 ?_
      refine lv_iconst (v := iI (1)) hx hb dX5_sendOne_93 rfl ?_
      refine lv_dup2_11 hx hb dX5_sendOne_94 rfl rfl ?_
      refine w_iald S hE hP 1 rfl (1) (by omega) (by omega) (by omega) dX5_sendOne_95 ?_
      refine w_tz (z := tA) rfl ?_
      refine lv_iconst (v := iI (1)) hx hb dX5_sendOne_96 rfl ?_
      refine w_iadd S dX5_sendOne_97 ?_
      refine w_iast S hE hP hD hS 1 rfl (1) (by omega) (by omega) (by omega) dX5_sendOne_98 (fun H locs hP hD hS => ?_)
      rw [List.set_cons_succ, List.set_cons_zero, su_tA] at hP hD
      have hP : va_P D vwCl [(q, .inr (5, [.ref qs, .ref qi, .ref qk, .ref ql])), (qs, .inl (cI, 2108, .inl (vI (stF ((mn : Nat) : Int) (tA + 1) (sA + 1) kA nb ck hi lo ha (cnA cn bb i) (smA sm ck nb tA bb i))))), (qi, .inl (cI, 4216, .inl (vI im))), (qk, .inl (cZ, 2, .inl (vI kp))), (ql, .inl (cI, 25, .inl (vI le)))] H := hP
      have hD : va_D A [(q, .inr (5, [.ref qs, .ref qi, .ref qk, .ref ql])), (qs, .inl (cI, 2108, .inl (vI (stF ((mn : Nat) : Int) (tA + 1) (sA + 1) kA nb ck hi lo ha (cnA cn bb i) (smA sm ck nb tA bb i))))), (qi, .inl (cI, 4216, .inl (vI im))), (qk, .inl (cZ, 2, .inl (vI kp))), (ql, .inl (cI, 25, .inl (vI le)))] := hD
      refine lv_iload hx hb dX5_sendOne_99 (lv_at hl 0 rfl) ?_
      refine lv_iconst (v := iI (1)) hx hb dX5_sendOne_101 rfl ?_
      refine w_iadd S dX5_sendOne_102 ?_
      refine lv_aload_n hx hb dX5_sendOne_103 rfl (lv_at hl 4 rfl) ?_
      refine w_get (C := RX5) (T := TX5) (Nf := 4) (ci := 5) (v := .ref qs) S (fun _ h => List.mem_cons_of_mem _ (List.mem_append_right _ h)) hE hP 0 rfl rfl 0 (by decide) (List.mem_of_getElem? (i := 1) rfl) rfl dX5_sendOne_104 ?_
      refine lv_iconst (v := iI (0)) hx hb dX5_sendOne_107 rfl ?_
      refine w_iald S hE hP 1 rfl (0) (by omega) (by omega) (by omega) dX5_sendOne_108 ?_
      refine w_tz (z := ((mn : Nat) : Int)) rfl ?_
      refine c_neF (tgt := 116) S dX5_sendOne_109 (by decide) (by omega) ?_
      refine lv_iconst (v := iI (1)) hx hb dX5_sendOne_112 rfl ?_
      refine lv_goto (tgt := 117) hx hb dX5_sendOne_113 (by decide) ?_
      rw [hiq] at hP
      exact hret _ _ _ _ _ dX5_sendOne_117 rfl (Or.inr rfl) hP hS
    | succ u ih1 =>
      intro i  hm  H locs ls hP hD hS hl
      refine lv_iload hx hb dX5_sendOne_33 (lv_at hl 0 rfl) ?_
      refine lv_iconst (v := iI (1)) hx hb dX5_sendOne_35 rfl ?_
      refine w_iadd S dX5_sendOne_36 ?_
      refine lv_aload_n hx hb dX5_sendOne_37 rfl (lv_at hl 4 rfl) ?_
      refine w_get (C := RX5) (T := TX5) (Nf := 4) (ci := 5) (v := .ref qs) S (fun _ h => List.mem_cons_of_mem _ (List.mem_append_right _ h)) hE hP 0 rfl rfl 0 (by decide) (List.mem_of_getElem? (i := 1) rfl) rfl dX5_sendOne_38 ?_
      refine lv_iconst (v := iI (0)) hx hb dX5_sendOne_41 rfl ?_
      refine w_iald S hE hP 1 rfl (0) (by omega) (by omega) (by omega) dX5_sendOne_42 ?_
      refine w_tz (z := ((mn : Nat) : Int)) rfl ?_
      refine c_geF (tgt := 79) S dX5_sendOne_43 (by decide) (by omega) (by omega) (by omega) ?_
      have g1 := atN_rng hta.1 hnb i (by omega)
      have g2 := tkT_rng (l := i) (by omega) g1.1 hnb
      refine lv_aload_n hx hb dX5_sendOne_46 rfl (lv_at hl 4 rfl) ?_
      refine lv_iload hx hb dX5_sendOne_47 (lv_at hl 0 rfl) ?_
      refine lv_iload_n hx hb dX5_sendOne_49 rfl (lv_at hl 3 rfl) ?_
      refine kV_R (n := 2) (ci := 5) (q := (RX5, TX5, 4)) S (m_isDropped_F lc D cI cZ N q qs qi qk ql mn tA sA kA nb ck hi lo ha (cnA cn bb i) (smA sm ck nb tA bb i) im kp le i sA (by omega) (by omega) (by omega) (hd i (by omega))) gX5_sendOne_X5_isDropped rfl rfl (by decide +kernel) rfl rfl ⟨Nat.le_trans (Nat.le_of_ble_eq_true rfl) hfr, Nat.le_trans (Nat.le_of_ble_eq_true rfl) hlo⟩ hE hAN hP hD hS [0, 1, 2, 3, 4] rfl (by decide) rfl rfl rfl rfl hl.1 [] rfl (Nat.le_of_ble_eq_true rfl) dX5_sendOne_50 ⟨Nat.zero_le _, Nat.zero_le _⟩ ?_
      refine W.eq (g2 := F0 m 53 ls [.int (iI (0))]) rfl ?_
      refine b_neF (tgt := 79) S dX5_sendOne_53 (by decide) (by decide) ?_
      refine lv_aload_n hx hb dX5_sendOne_56 rfl (lv_at hl 4 rfl) ?_
      refine lv_iload hx hb dX5_sendOne_57 (lv_at hl 0 rfl) ?_
      refine lv_iconst (v := iI (0)) hx hb dX5_sendOne_59 rfl ?_
      refine lv_iload_n hx hb dX5_sendOne_60 rfl (lv_at hl 1 rfl) ?_
      refine kV_R (n := 3) (ci := 5) (q := (RX5, TX5, 4)) S (m_over_0 lc D cI cZ N q qs qi qk ql mn tA sA kA nb ck hi lo ha (cnA cn bb i) (smA sm ck nb tA bb i) im kp le i (atN nb tA i) (by omega) (by omega) (by omega)) gX5_sendOne_X5_over rfl rfl (by decide +kernel) rfl rfl ⟨Nat.le_trans (Nat.le_of_ble_eq_true rfl) hfr, Nat.le_trans (Nat.le_of_ble_eq_true rfl) hlo⟩ hE hAN hP hD hS [0, 1, 2, 3, 4] rfl (by decide) rfl rfl rfl rfl hl.1 [] rfl (Nat.le_of_ble_eq_true rfl) dX5_sendOne_61 ⟨Nat.zero_le _, Nat.zero_le _⟩ ?_
      refine W.eq (g2 := F0 m 64 ls [.int (iI ((atN nb tA i) + tkT nb i (atN nb tA i)))]) rfl ?_
      refine lv_istore_n (lv' := [(3, .int (iI ((atN nb tA i) + tkT nb i (atN nb tA i)))), (4, .int (iI (((i : Nat) : Int)))), (2, .int (iI (((bb : Nat) : Int)))), (1, .int (iI (sA))), (0, .ref q)]) hx hb dX5_sendOne_64 rfl hl (by decide) rfl (fun ls hl => ?_)
      refine w_iinc (v := ((i + 1 : Nat) : Int)) (lv' := [(4, .int (iI (((i + 1 : Nat) : Int)))), (3, .int (iI ((atN nb tA i) + tkT nb i (atN nb tA i)))), (2, .int (iI (((bb : Nat) : Int)))), (1, .int (iI (sA))), (0, .ref q)]) S dX5_sendOne_65 hl (k := 1) rfl (by omega) (by decide) rfl (fun ls hl => ?_)
      refine lv_aload_n hx hb dX5_sendOne_68 rfl (lv_at hl 4 rfl) ?_
      refine lv_iload hx hb dX5_sendOne_69 (lv_at hl 0 rfl) ?_
      refine lv_iload_n hx hb dX5_sendOne_71 rfl (lv_at hl 2 rfl) ?_
      refine lv_iload_n hx hb dX5_sendOne_72 rfl (lv_at hl 1 rfl) ?_
      refine kV_M (n := 3) (ci := 5) (q := (RX5, TX5, 4)) S (m_note lc D cI cZ N q qs qi qk ql mn tA sA kA nb ck hi lo ha (cnA cn bb i) (smA sm ck nb tA bb i) im kp le (i + 1) bb ((atN nb tA i) + tkT nb i (atN nb tA i)) (by omega) (by omega)) gX5_sendOne_X5_note rfl rfl (by decide +kernel) rfl rfl ⟨Nat.le_trans (Nat.le_of_ble_eq_true rfl) hfr, Nat.le_trans (Nat.le_of_ble_eq_true rfl) hlo⟩ hE hAN hP hD hS [0, 1, 2, 3, 4] rfl (by decide) rfl rfl rfl rfl rfl hl.1 [] rfl (Nat.le_of_ble_eq_true rfl) dX5_sendOne_73 ⟨Nat.zero_le _, Nat.zero_le _⟩ (fun H locs hP hD hS => ?_)
      have hP : va_P D vwCl [(q, .inr (5, [.ref qs, .ref qi, .ref qk, .ref ql])), (qs, .inl (cI, 2108, .inl (vI (stF ((mn : Nat) : Int) tA sA kA nb ck hi lo ha (updI (cnA cn bb i) ((i + 1) * 200 + bb) ((cnA cn bb i) ((i + 1) * 200 + bb) + 1)) (updI (smA sm ck nb tA bb i) ((i + 1) * 200 + bb) ((smA sm ck nb tA bb i) ((i + 1) * 200 + bb) + (((atN nb tA i) + tkT nb i (atN nb tA i)) + ck (i + 1)))))))), (qi, .inl (cI, 4216, .inl (vI im))), (qk, .inl (cZ, 2, .inl (vI kp))), (ql, .inl (cI, 25, .inl (vI le)))] H := hP
      have hD : va_D A [(q, .inr (5, [.ref qs, .ref qi, .ref qk, .ref ql])), (qs, .inl (cI, 2108, .inl (vI (stF ((mn : Nat) : Int) tA sA kA nb ck hi lo ha (updI (cnA cn bb i) ((i + 1) * 200 + bb) ((cnA cn bb i) ((i + 1) * 200 + bb) + 1)) (updI (smA sm ck nb tA bb i) ((i + 1) * 200 + bb) ((smA sm ck nb tA bb i) ((i + 1) * 200 + bb) + (((atN nb tA i) + tkT nb i (atN nb tA i)) + ck (i + 1)))))))), (qi, .inl (cI, 4216, .inl (vI im))), (qk, .inl (cZ, 2, .inl (vI kp))), (ql, .inl (cI, 25, .inl (vI le)))] := hD
      refine W.eq (g2 := F0 m 76 ls []) rfl ?_
      refine lv_goto (tgt := 33) hx hb dX5_sendOne_76 (by decide) ?_
      have hcell : updI (cnA cn bb i) ((i + 1) * 200 + bb) ((cnA cn bb i) ((i + 1) * 200 + bb) + 1) = cnA cn bb (i + 1) := rfl
      rw [hcell] at hP hD
      have hcell : updI (smA sm ck nb tA bb i) ((i + 1) * 200 + bb) ((smA sm ck nb tA bb i) ((i + 1) * 200 + bb) + (((atN nb tA i) + tkT nb i (atN nb tA i)) + ck (i + 1))) = smA sm ck nb tA bb (i + 1) := rfl
      rw [hcell] at hP hD
      have hloc : ((atN nb tA i) + tkT nb i (atN nb tA i) : Int) = atN nb tA (i + 1) := rfl
      rw [hloc] at hl
      exact ih1 (i + 1)  (by omega)  _ _ _ hP hD hS (lv_sub hl [0, 1, 2, 3, 4] rfl)
  have hcell : updI cn (0 * 200 + bb) (cn (0 * 200 + bb) + 1) = cnA cn bb 0 := rfl
  rw [hcell] at hP hD
  have hcell : updI sm (0 * 200 + bb) (sm (0 * 200 + bb) + (tA + ck 0)) = smA sm ck nb tA bb 0 := rfl
  rw [hcell] at hP hD
  have hloc : (tA : Int) = atN nb tA 0 := rfl
  rw [hloc] at hl
  exact loop1 (mn - 1) 0  (by omega)  _ _ _ hP hD hS (lv_sub hl [0, 1, 2, 3, 4] rfl)
set_option maxHeartbeats 4000000 in
set_option maxRecDepth 100000 in
theorem m_sendOne_F (lc : Launch) (D : va_G) (cI cZ : ClassId) (N : Nat) (q : Nat) (qs : Nat) (qi : Nat) (qk : Nat) (ql : Nat) (mn : Nat) (tA : Int) (sA : Int) (kA : Int) (nb : Nat → Int) (ck : Nat → Int) (hi : Nat → Int) (lo : Nat → Int) (ha : Nat → Int) (cn : Nat → Int) (sm : Nat → Int) (im : Nat → Int) (kp : Nat → Int) (le : Nat → Int) (bb : Nat) (J : Nat) (hmn : 2 ≤ mn ∧ mn ≤ 5) (hnb : ∀ k, k < 24 → 0 ≤ nb k ∧ nb k ≤ 20) (hta : 0 ≤ tA ∧ tA ≤ 10000) (hsA : 0 ≤ sA ∧ sA ≤ 200) (hkA : 1 ≤ kA ∧ kA ≤ 20) (hbb : sA.tdiv kA = ((bb : Nat) : Int)) (hbb2 : bb < 200) (hJ : J < mn - 1) (hd : ∀ i, i < J → ¬ drp nb i sA) (hdJ : drp nb J sA) : CM lc D cI cZ N yX5_sendOne wsX5_sendOne (rmK 2 45) [.ref q] [(q, .inr (5, [.ref qs, .ref qi, .ref qk, .ref ql])), (qs, .inl (cI, 2108, .inl (vI (stF ((mn : Nat) : Int) tA sA kA nb ck hi lo ha cn sm)))), (qi, .inl (cI, 4216, .inl (vI im))), (qk, .inl (cZ, 2, .inl (vI kp))), (ql, .inl (cI, 25, .inl (vI le)))] (some (.int (iI (0)))) [(q, .inr (5, [.ref qs, .ref qi, .ref qk, .ref ql])), (qs, .inl (cI, 2108, .inl (vI (stF ((mn : Nat) : Int) (tA + 1) (sA + 1) kA nb ck hi lo ha (cnA cn bb J) (smA sm ck nb tA bb J))))), (qi, .inl (cI, 4216, .inl (vI im))), (qk, .inl (cZ, 2, .inl (vI kp))), (ql, .inl (cI, 25, .inl (vI le)))] := by
  refine CM.Z (cc := cX5_sendOne) (maxL := 5) (by decide) rfl (Nat.le_of_ble_eq_true rfl) ?_
  intro p e s m args below meth c R Q S hE A hAN hfr hlo hP hD hS hret ls hl
  have S : CallFix p m c cX5_sendOne 5 s args wsX5_sendOne RX5 := S
  have hx := S.1
  have hb := S.2.1
  have hl : lv_has ls 5 [(0, .ref q)] := hl
  refine lv_aload_n hx hb dX5_sendOne_0 rfl (lv_at hl 0 rfl) ?_
  refine w_get (C := RX5) (T := TX5) (Nf := 4) (ci := 5) (v := .ref qs) S (fun _ h => List.mem_cons_of_mem _ (List.mem_append_right _ h)) hE hP 0 rfl rfl 0 (by decide) (List.mem_of_getElem? (i := 1) rfl) rfl dX5_sendOne_1 ?_
  refine lv_iconst (v := iI (2)) hx hb dX5_sendOne_4 rfl ?_
  refine w_iald S hE hP 1 rfl (2) (by omega) (by omega) (by omega) dX5_sendOne_5 ?_
  refine w_tz (z := sA) rfl ?_
  refine lv_istore_n (lv' := [(1, .int (iI (sA))), (0, .ref q)]) hx hb dX5_sendOne_6 rfl hl (by decide) rfl (fun ls hl => ?_)
  refine lv_iload_n hx hb dX5_sendOne_7 rfl (lv_at hl 0 rfl) ?_
  refine lv_aload_n hx hb dX5_sendOne_8 rfl (lv_at hl 1 rfl) ?_
  refine w_get (C := RX5) (T := TX5) (Nf := 4) (ci := 5) (v := .ref qs) S (fun _ h => List.mem_cons_of_mem _ (List.mem_append_right _ h)) hE hP 0 rfl rfl 0 (by decide) (List.mem_of_getElem? (i := 1) rfl) rfl dX5_sendOne_9 ?_
  refine lv_iconst (v := iI (3)) hx hb dX5_sendOne_12 rfl ?_
  refine w_iald S hE hP 1 rfl (3) (by omega) (by omega) (by omega) dX5_sendOne_13 ?_
  refine w_tz (z := kA) rfl ?_
  refine w_idiv S (by omega) (by omega) dX5_sendOne_14 ?_
  refine w_tz (z := ((bb : Nat) : Int)) hbb ?_
  refine lv_istore_n (lv' := [(2, .int (iI (((bb : Nat) : Int)))), (1, .int (iI (sA))), (0, .ref q)]) hx hb dX5_sendOne_15 rfl hl (by decide) rfl (fun ls hl => ?_)
  refine lv_aload_n hx hb dX5_sendOne_16 rfl (lv_at hl 2 rfl) ?_
  refine w_get (C := RX5) (T := TX5) (Nf := 4) (ci := 5) (v := .ref qs) S (fun _ h => List.mem_cons_of_mem _ (List.mem_append_right _ h)) hE hP 0 rfl rfl 0 (by decide) (List.mem_of_getElem? (i := 1) rfl) rfl dX5_sendOne_17 ?_
  refine lv_iconst (v := iI (1)) hx hb dX5_sendOne_20 rfl ?_
  refine w_iald S hE hP 1 rfl (1) (by omega) (by omega) (by omega) dX5_sendOne_21 ?_
  refine w_tz (z := tA) rfl ?_
  refine lv_istore_n (lv' := [(3, .int (iI (tA))), (2, .int (iI (((bb : Nat) : Int)))), (1, .int (iI (sA))), (0, .ref q)]) hx hb dX5_sendOne_22 rfl hl (by decide) rfl (fun ls hl => ?_)
  refine lv_iconst (v := iI (0)) hx hb dX5_sendOne_23 rfl ?_
  refine lv_istore (lv' := [(4, .int (iI (0))), (3, .int (iI (tA))), (2, .int (iI (((bb : Nat) : Int)))), (1, .int (iI (sA))), (0, .ref q)]) hx hb dX5_sendOne_24 hl (by decide) rfl (fun ls hl => ?_)
  refine lv_aload_n hx hb dX5_sendOne_26 rfl (lv_at hl 4 rfl) ?_
  refine lv_iconst (v := iI (0)) hx hb dX5_sendOne_27 rfl ?_
  refine lv_iload_n hx hb dX5_sendOne_28 rfl (lv_at hl 2 rfl) ?_
  refine lv_iload_n hx hb dX5_sendOne_29 rfl (lv_at hl 1 rfl) ?_
  refine kV_M (n := 3) (ci := 5) (q := (RX5, TX5, 4)) S (m_note lc D cI cZ N q qs qi qk ql mn tA sA kA nb ck hi lo ha cn sm im kp le 0 bb tA (by omega) (by omega)) gX5_sendOne_X5_note rfl rfl (by decide +kernel) rfl rfl ⟨Nat.le_trans (Nat.le_of_ble_eq_true rfl) hfr, Nat.le_trans (Nat.le_of_ble_eq_true rfl) hlo⟩ hE hAN hP hD hS [0, 1, 2, 3, 4] rfl (by decide) rfl rfl rfl rfl rfl hl.1 [] rfl (Nat.le_of_ble_eq_true rfl) dX5_sendOne_30 ⟨Nat.zero_le _, Nat.zero_le _⟩ (fun H locs hP hD hS => ?_)
  have hP : va_P D vwCl [(q, .inr (5, [.ref qs, .ref qi, .ref qk, .ref ql])), (qs, .inl (cI, 2108, .inl (vI (stF ((mn : Nat) : Int) tA sA kA nb ck hi lo ha (updI cn (0 * 200 + bb) (cn (0 * 200 + bb) + 1)) (updI sm (0 * 200 + bb) (sm (0 * 200 + bb) + (tA + ck 0))))))), (qi, .inl (cI, 4216, .inl (vI im))), (qk, .inl (cZ, 2, .inl (vI kp))), (ql, .inl (cI, 25, .inl (vI le)))] H := hP
  have hD : va_D A [(q, .inr (5, [.ref qs, .ref qi, .ref qk, .ref ql])), (qs, .inl (cI, 2108, .inl (vI (stF ((mn : Nat) : Int) tA sA kA nb ck hi lo ha (updI cn (0 * 200 + bb) (cn (0 * 200 + bb) + 1)) (updI sm (0 * 200 + bb) (sm (0 * 200 + bb) + (tA + ck 0))))))), (qi, .inl (cI, 4216, .inl (vI im))), (qk, .inl (cZ, 2, .inl (vI kp))), (ql, .inl (cI, 25, .inl (vI le)))] := hD
  refine W.eq (g2 := F0 m 33 ls []) rfl ?_
  have loop2 : ∀ (u i : Nat) , i + u = J → ∀ (H : Heap) (locs : List Loc) (ls : Array Slot), va_P D vwCl [(q, .inr (5, [.ref qs, .ref qi, .ref qk, .ref ql])), (qs, .inl (cI, 2108, .inl (vI (stF ((mn : Nat) : Int) tA sA kA nb ck hi lo ha (cnA cn bb i) (smA sm ck nb tA bb i))))), (qi, .inl (cI, 4216, .inl (vI im))), (qk, .inl (cZ, 2, .inl (vI kp))), (ql, .inl (cI, 25, .inl (vI le)))] H → va_D A [(q, .inr (5, [.ref qs, .ref qi, .ref qk, .ref ql])), (qs, .inl (cI, 2108, .inl (vI (stF ((mn : Nat) : Int) tA sA kA nb ck hi lo ha (cnA cn bb i) (smA sm ck nb tA bb i))))), (qi, .inl (cI, 4216, .inl (vI im))), (qk, .inl (cZ, 2, .inl (vI kp))), (ql, .inl (cI, 25, .inl (vI le)))] → va_S A s.heap H locs → lv_has ls 5 [(4, .int (iI (((i : Nat) : Int)))), (3, .int (iI (atN nb tA i))), (2, .int (iI (((bb : Nat) : Int)))), (1, .int (iI (sA))), (0, .ref q)] → W p lc e R s m args below meth c H locs 0 0 Q (F0 m 33 ls []) := by
    intro u
    induction u with
    | zero =>
      intro i  hm  H locs ls hP hD hS hl
      have hiq : i = J := by omega
      subst hiq
      refine lv_iload hx hb dX5_sendOne_33 (lv_at hl 0 rfl) ?_
      refine lv_iconst (v := iI (1)) hx hb dX5_sendOne_35 rfl ?_
      refine w_iadd S dX5_sendOne_36 ?_
      refine lv_aload_n hx hb dX5_sendOne_37 rfl (lv_at hl 4 rfl) ?_
      refine w_get (C := RX5) (T := TX5) (Nf := 4) (ci := 5) (v := .ref qs) S (fun _ h => List.mem_cons_of_mem _ (List.mem_append_right _ h)) hE hP 0 rfl rfl 0 (by decide) (List.mem_of_getElem? (i := 1) rfl) rfl dX5_sendOne_38 ?_
      refine lv_iconst (v := iI (0)) hx hb dX5_sendOne_41 rfl ?_
      refine w_iald S hE hP 1 rfl (0) (by omega) (by omega) (by omega) dX5_sendOne_42 ?_
      refine w_tz (z := ((mn : Nat) : Int)) rfl ?_
      refine c_geF (tgt := 79) S dX5_sendOne_43 (by decide) (by omega) (by omega) (by omega) ?_
      refine lv_aload_n hx hb dX5_sendOne_46 rfl (lv_at hl 4 rfl) ?_
      refine lv_iload hx hb dX5_sendOne_47 (lv_at hl 0 rfl) ?_
      refine lv_iload_n hx hb dX5_sendOne_49 rfl (lv_at hl 3 rfl) ?_
      refine kV_R (n := 2) (ci := 5) (q := (RX5, TX5, 4)) S (m_isDropped_T lc D cI cZ N q qs qi qk ql mn tA sA kA nb ck hi lo ha (cnA cn bb i) (smA sm ck nb tA bb i) im kp le i sA (by omega) (by omega) (by omega) hdJ) gX5_sendOne_X5_isDropped rfl rfl (by decide +kernel) rfl rfl ⟨Nat.le_trans (Nat.le_of_ble_eq_true rfl) hfr, Nat.le_trans (Nat.le_of_ble_eq_true rfl) hlo⟩ hE hAN hP hD hS [0, 1, 2, 3, 4] rfl (by decide) rfl rfl rfl rfl hl.1 [] rfl (Nat.le_of_ble_eq_true rfl) dX5_sendOne_50 ⟨Nat.zero_le _, Nat.zero_le _⟩ ?_
      refine W.eq (g2 := F0 m 53 ls [.int (iI (1))]) rfl ?_
      refine b_neT (tgt := 79) S dX5_sendOne_53 (by decide) (by decide) (by decide) ?_
      refine lv_aload_n hx hb dX5_sendOne_79 rfl (lv_at hl 4 rfl) ?_
      refine w_get (C := RX5) (T := TX5) (Nf := 4) (ci := 5) (v := .ref qs) S (fun _ h => List.mem_cons_of_mem _ (List.mem_append_right _ h)) hE hP 0 rfl rfl 0 (by decide) (List.mem_of_getElem? (i := 1) rfl) rfl dX5_sendOne_80 ?_
      refine lv_iconst (v := iI (2)) hx hb dX5_sendOne_83 rfl ?_
      refine lv_dup2_11 hx hb dX5_sendOne_84 rfl rfl ?_
      refine w_iald S hE hP 1 rfl (2) (by omega) (by omega) (by omega) dX5_sendOne_85 ?_
      refine w_tz (z := sA) rfl ?_
      refine lv_iconst (v := iI (1)) hx hb dX5_sendOne_86 rfl ?_
      refine w_iadd S dX5_sendOne_87 ?_
      refine w_iast S hE hP hD hS 1 rfl (2) (by omega) (by omega) (by omega) dX5_sendOne_88 (fun H locs hP hD hS => ?_)
      rw [List.set_cons_succ, List.set_cons_zero, su_sA] at hP hD
      have hP : va_P D vwCl [(q, .inr (5, [.ref qs, .ref qi, .ref qk, .ref ql])), (qs, .inl (cI, 2108, .inl (vI (stF ((mn : Nat) : Int) tA (sA + 1) kA nb ck hi lo ha (cnA cn bb i) (smA sm ck nb tA bb i))))), (qi, .inl (cI, 4216, .inl (vI im))), (qk, .inl (cZ, 2, .inl (vI kp))), (ql, .inl (cI, 25, .inl (vI le)))] H := hP
      have hD : va_D A [(q, .inr (5, [.ref qs, .ref qi, .ref qk, .ref ql])), (qs, .inl (cI, 2108, .inl (vI (stF ((mn : Nat) : Int) tA (sA + 1) kA nb ck hi lo ha (cnA cn bb i) (smA sm ck nb tA bb i))))), (qi, .inl (cI, 4216, .inl (vI im))), (qk, .inl (cZ, 2, .inl (vI kp))), (ql, .inl (cI, 25, .inl (vI le)))] := hD
      refine lv_aload_n hx hb dX5_sendOne_89 rfl (lv_at hl 4 rfl) ?_
      refine w_get (C := RX5) (T := TX5) (Nf := 4) (ci := 5) (v := .ref qs) S (fun _ h => List.mem_cons_of_mem _ (List.mem_append_right _ h)) hE hP 0 rfl rfl 0 (by decide) (List.mem_of_getElem? (i := 1) rfl) rfl dX5_sendOne_90 ?_
      refine lv_iconst (v := iI (1)) hx hb dX5_sendOne_93 rfl ?_
      refine lv_dup2_11 hx hb dX5_sendOne_94 rfl rfl ?_
      refine w_iald S hE hP 1 rfl (1) (by omega) (by omega) (by omega) dX5_sendOne_95 ?_
      refine w_tz (z := tA) rfl ?_
      refine lv_iconst (v := iI (1)) hx hb dX5_sendOne_96 rfl ?_
      refine w_iadd S dX5_sendOne_97 ?_
      refine w_iast S hE hP hD hS 1 rfl (1) (by omega) (by omega) (by omega) dX5_sendOne_98 (fun H locs hP hD hS => ?_)
      rw [List.set_cons_succ, List.set_cons_zero, su_tA] at hP hD
      have hP : va_P D vwCl [(q, .inr (5, [.ref qs, .ref qi, .ref qk, .ref ql])), (qs, .inl (cI, 2108, .inl (vI (stF ((mn : Nat) : Int) (tA + 1) (sA + 1) kA nb ck hi lo ha (cnA cn bb i) (smA sm ck nb tA bb i))))), (qi, .inl (cI, 4216, .inl (vI im))), (qk, .inl (cZ, 2, .inl (vI kp))), (ql, .inl (cI, 25, .inl (vI le)))] H := hP
      have hD : va_D A [(q, .inr (5, [.ref qs, .ref qi, .ref qk, .ref ql])), (qs, .inl (cI, 2108, .inl (vI (stF ((mn : Nat) : Int) (tA + 1) (sA + 1) kA nb ck hi lo ha (cnA cn bb i) (smA sm ck nb tA bb i))))), (qi, .inl (cI, 4216, .inl (vI im))), (qk, .inl (cZ, 2, .inl (vI kp))), (ql, .inl (cI, 25, .inl (vI le)))] := hD
      refine lv_iload hx hb dX5_sendOne_99 (lv_at hl 0 rfl) ?_
      refine lv_iconst (v := iI (1)) hx hb dX5_sendOne_101 rfl ?_
      refine w_iadd S dX5_sendOne_102 ?_
      refine lv_aload_n hx hb dX5_sendOne_103 rfl (lv_at hl 4 rfl) ?_
      refine w_get (C := RX5) (T := TX5) (Nf := 4) (ci := 5) (v := .ref qs) S (fun _ h => List.mem_cons_of_mem _ (List.mem_append_right _ h)) hE hP 0 rfl rfl 0 (by decide) (List.mem_of_getElem? (i := 1) rfl) rfl dX5_sendOne_104 ?_
      refine lv_iconst (v := iI (0)) hx hb dX5_sendOne_107 rfl ?_
      refine w_iald S hE hP 1 rfl (0) (by omega) (by omega) (by omega) dX5_sendOne_108 ?_
      refine w_tz (z := ((mn : Nat) : Int)) rfl ?_
      refine c_neT (tgt := 116) S dX5_sendOne_109 (by decide) (by omega) (by omega) (by omega) ?_
      refine lv_iconst (v := iI (0)) hx hb dX5_sendOne_116 rfl ?_
      exact hret _ _ _ _ _ dX5_sendOne_117 rfl (Or.inl rfl) hP hS
    | succ u ih2 =>
      intro i  hm  H locs ls hP hD hS hl
      refine lv_iload hx hb dX5_sendOne_33 (lv_at hl 0 rfl) ?_
      refine lv_iconst (v := iI (1)) hx hb dX5_sendOne_35 rfl ?_
      refine w_iadd S dX5_sendOne_36 ?_
      refine lv_aload_n hx hb dX5_sendOne_37 rfl (lv_at hl 4 rfl) ?_
      refine w_get (C := RX5) (T := TX5) (Nf := 4) (ci := 5) (v := .ref qs) S (fun _ h => List.mem_cons_of_mem _ (List.mem_append_right _ h)) hE hP 0 rfl rfl 0 (by decide) (List.mem_of_getElem? (i := 1) rfl) rfl dX5_sendOne_38 ?_
      refine lv_iconst (v := iI (0)) hx hb dX5_sendOne_41 rfl ?_
      refine w_iald S hE hP 1 rfl (0) (by omega) (by omega) (by omega) dX5_sendOne_42 ?_
      refine w_tz (z := ((mn : Nat) : Int)) rfl ?_
      refine c_geF (tgt := 79) S dX5_sendOne_43 (by decide) (by omega) (by omega) (by omega) ?_
      have g1 := atN_rng hta.1 hnb i (by omega)
      have g2 := tkT_rng (l := i) (by omega) g1.1 hnb
      refine lv_aload_n hx hb dX5_sendOne_46 rfl (lv_at hl 4 rfl) ?_
      refine lv_iload hx hb dX5_sendOne_47 (lv_at hl 0 rfl) ?_
      refine lv_iload_n hx hb dX5_sendOne_49 rfl (lv_at hl 3 rfl) ?_
      refine kV_R (n := 2) (ci := 5) (q := (RX5, TX5, 4)) S (m_isDropped_F lc D cI cZ N q qs qi qk ql mn tA sA kA nb ck hi lo ha (cnA cn bb i) (smA sm ck nb tA bb i) im kp le i sA (by omega) (by omega) (by omega) (hd i (by omega))) gX5_sendOne_X5_isDropped rfl rfl (by decide +kernel) rfl rfl ⟨Nat.le_trans (Nat.le_of_ble_eq_true rfl) hfr, Nat.le_trans (Nat.le_of_ble_eq_true rfl) hlo⟩ hE hAN hP hD hS [0, 1, 2, 3, 4] rfl (by decide) rfl rfl rfl rfl hl.1 [] rfl (Nat.le_of_ble_eq_true rfl) dX5_sendOne_50 ⟨Nat.zero_le _, Nat.zero_le _⟩ ?_
      refine W.eq (g2 := F0 m 53 ls [.int (iI (0))]) rfl ?_
      refine b_neF (tgt := 79) S dX5_sendOne_53 (by decide) (by decide) ?_
      refine lv_aload_n hx hb dX5_sendOne_56 rfl (lv_at hl 4 rfl) ?_
      refine lv_iload hx hb dX5_sendOne_57 (lv_at hl 0 rfl) ?_
      refine lv_iconst (v := iI (0)) hx hb dX5_sendOne_59 rfl ?_
      refine lv_iload_n hx hb dX5_sendOne_60 rfl (lv_at hl 1 rfl) ?_
      refine kV_R (n := 3) (ci := 5) (q := (RX5, TX5, 4)) S (m_over_0 lc D cI cZ N q qs qi qk ql mn tA sA kA nb ck hi lo ha (cnA cn bb i) (smA sm ck nb tA bb i) im kp le i (atN nb tA i) (by omega) (by omega) (by omega)) gX5_sendOne_X5_over rfl rfl (by decide +kernel) rfl rfl ⟨Nat.le_trans (Nat.le_of_ble_eq_true rfl) hfr, Nat.le_trans (Nat.le_of_ble_eq_true rfl) hlo⟩ hE hAN hP hD hS [0, 1, 2, 3, 4] rfl (by decide) rfl rfl rfl rfl hl.1 [] rfl (Nat.le_of_ble_eq_true rfl) dX5_sendOne_61 ⟨Nat.zero_le _, Nat.zero_le _⟩ ?_
      refine W.eq (g2 := F0 m 64 ls [.int (iI ((atN nb tA i) + tkT nb i (atN nb tA i)))]) rfl ?_
      refine lv_istore_n (lv' := [(3, .int (iI ((atN nb tA i) + tkT nb i (atN nb tA i)))), (4, .int (iI (((i : Nat) : Int)))), (2, .int (iI (((bb : Nat) : Int)))), (1, .int (iI (sA))), (0, .ref q)]) hx hb dX5_sendOne_64 rfl hl (by decide) rfl (fun ls hl => ?_)
      refine w_iinc (v := ((i + 1 : Nat) : Int)) (lv' := [(4, .int (iI (((i + 1 : Nat) : Int)))), (3, .int (iI ((atN nb tA i) + tkT nb i (atN nb tA i)))), (2, .int (iI (((bb : Nat) : Int)))), (1, .int (iI (sA))), (0, .ref q)]) S dX5_sendOne_65 hl (k := 1) rfl (by omega) (by decide) rfl (fun ls hl => ?_)
      refine lv_aload_n hx hb dX5_sendOne_68 rfl (lv_at hl 4 rfl) ?_
      refine lv_iload hx hb dX5_sendOne_69 (lv_at hl 0 rfl) ?_
      refine lv_iload_n hx hb dX5_sendOne_71 rfl (lv_at hl 2 rfl) ?_
      refine lv_iload_n hx hb dX5_sendOne_72 rfl (lv_at hl 1 rfl) ?_
      refine kV_M (n := 3) (ci := 5) (q := (RX5, TX5, 4)) S (m_note lc D cI cZ N q qs qi qk ql mn tA sA kA nb ck hi lo ha (cnA cn bb i) (smA sm ck nb tA bb i) im kp le (i + 1) bb ((atN nb tA i) + tkT nb i (atN nb tA i)) (by omega) (by omega)) gX5_sendOne_X5_note rfl rfl (by decide +kernel) rfl rfl ⟨Nat.le_trans (Nat.le_of_ble_eq_true rfl) hfr, Nat.le_trans (Nat.le_of_ble_eq_true rfl) hlo⟩ hE hAN hP hD hS [0, 1, 2, 3, 4] rfl (by decide) rfl rfl rfl rfl rfl hl.1 [] rfl (Nat.le_of_ble_eq_true rfl) dX5_sendOne_73 ⟨Nat.zero_le _, Nat.zero_le _⟩ (fun H locs hP hD hS => ?_)
      have hP : va_P D vwCl [(q, .inr (5, [.ref qs, .ref qi, .ref qk, .ref ql])), (qs, .inl (cI, 2108, .inl (vI (stF ((mn : Nat) : Int) tA sA kA nb ck hi lo ha (updI (cnA cn bb i) ((i + 1) * 200 + bb) ((cnA cn bb i) ((i + 1) * 200 + bb) + 1)) (updI (smA sm ck nb tA bb i) ((i + 1) * 200 + bb) ((smA sm ck nb tA bb i) ((i + 1) * 200 + bb) + (((atN nb tA i) + tkT nb i (atN nb tA i)) + ck (i + 1)))))))), (qi, .inl (cI, 4216, .inl (vI im))), (qk, .inl (cZ, 2, .inl (vI kp))), (ql, .inl (cI, 25, .inl (vI le)))] H := hP
      have hD : va_D A [(q, .inr (5, [.ref qs, .ref qi, .ref qk, .ref ql])), (qs, .inl (cI, 2108, .inl (vI (stF ((mn : Nat) : Int) tA sA kA nb ck hi lo ha (updI (cnA cn bb i) ((i + 1) * 200 + bb) ((cnA cn bb i) ((i + 1) * 200 + bb) + 1)) (updI (smA sm ck nb tA bb i) ((i + 1) * 200 + bb) ((smA sm ck nb tA bb i) ((i + 1) * 200 + bb) + (((atN nb tA i) + tkT nb i (atN nb tA i)) + ck (i + 1)))))))), (qi, .inl (cI, 4216, .inl (vI im))), (qk, .inl (cZ, 2, .inl (vI kp))), (ql, .inl (cI, 25, .inl (vI le)))] := hD
      refine W.eq (g2 := F0 m 76 ls []) rfl ?_
      refine lv_goto (tgt := 33) hx hb dX5_sendOne_76 (by decide) ?_
      have hcell : updI (cnA cn bb i) ((i + 1) * 200 + bb) ((cnA cn bb i) ((i + 1) * 200 + bb) + 1) = cnA cn bb (i + 1) := rfl
      rw [hcell] at hP hD
      have hcell : updI (smA sm ck nb tA bb i) ((i + 1) * 200 + bb) ((smA sm ck nb tA bb i) ((i + 1) * 200 + bb) + (((atN nb tA i) + tkT nb i (atN nb tA i)) + ck (i + 1))) = smA sm ck nb tA bb (i + 1) := rfl
      rw [hcell] at hP hD
      have hloc : ((atN nb tA i) + tkT nb i (atN nb tA i) : Int) = atN nb tA (i + 1) := rfl
      rw [hloc] at hl
      exact ih2 (i + 1)  (by omega)  _ _ _ hP hD hS (lv_sub hl [0, 1, 2, 3, 4] rfl)
  have hcell : updI cn (0 * 200 + bb) (cn (0 * 200 + bb) + 1) = cnA cn bb 0 := rfl
  rw [hcell] at hP hD
  have hcell : updI sm (0 * 200 + bb) (sm (0 * 200 + bb) + (tA + ck 0)) = smA sm ck nb tA bb 0 := rfl
  rw [hcell] at hP hD
  have hloc : (tA : Int) = atN nb tA 0 := rfl
  rw [hloc] at hl
  exact loop2 J 0  (by omega)  _ _ _ hP hD hS (lv_sub hl [0, 1, 2, 3, 4] rfl)
set_option maxHeartbeats 4000000 in
set_option maxRecDepth 100000 in
theorem m_send_O (lc : Launch) (D : va_G) (cI cZ : ClassId) (N : Nat) (q : Nat) (qs : Nat) (qi : Nat) (qk : Nat) (ql : Nat) (mn : Nat) (tA : Int) (sA : Int) (kA : Int) (nb : Nat → Int) (ck : Nat → Int) (hi : Nat → Int) (lo : Nat → Int) (ha : Nat → Int) (cn : Nat → Int) (sm : Nat → Int) (im : Nat → Int) (kp : Nat → Int) (le : Nat → Int) (v : Int) (r_v : -2147483648 ≤ v ∧ v ≤ 2147483647) (h : ¬ (1 ≤ v ∧ v ≤ 60)) : CR lc D cI cZ N yX5_send wsX5_send (rmK 3 69) [.ref q, .int (iI (v))] [(q, .inr (5, [.ref qs, .ref qi, .ref qk, .ref ql])), (qs, .inl (cI, 2108, .inl (vI (stF ((mn : Nat) : Int) tA sA kA nb ck hi lo ha cn sm)))), (qi, .inl (cI, 4216, .inl (vI im))), (qk, .inl (cZ, 2, .inl (vI kp))), (ql, .inl (cI, 25, .inl (vI le)))] (some (.int (iI (-2)))) := by
  refine CR.I (cc := cX5_send) (maxL := 4) (by decide) rfl (Nat.le_of_ble_eq_true rfl) ?_
  intro p e s m args below meth c R Q S hE A hAN hfr hlo hP hD hS hret ls hl
  have S : CallFix p m c cX5_send 4 s args wsX5_send RX5 := S
  have hx := S.1
  have hb := S.2.1
  have hl : lv_has ls 4 [(0, .ref q), (1, .int (iI (v)))] := hl
  refine lv_iload_n hx hb dX5_send_0 rfl (lv_at hl 1 rfl) ?_
  refine lv_iconst (v := iI (1)) hx hb dX5_send_1 rfl ?_
  refine lv_bipush (v := iI (60)) hx hb dX5_send_2 (by decide) ?_
  refine kS_R (n := 3) S (m_in_F lc D cI cZ N v 1 60 (by omega) (by omega) (by omega) (by omega)) gX5_send_X5_in rfl (by decide +kernel) rfl rfl ⟨Nat.le_trans (Nat.le_of_ble_eq_true rfl) hfr, Nat.le_trans (Nat.le_of_ble_eq_true rfl) hlo⟩ hE hAN hP hD hS [] rfl (by decide) rfl hl.1 [] rfl (Nat.le_of_ble_eq_true rfl) dX5_send_4 ⟨Nat.zero_le _, Nat.zero_le _⟩ ?_
  refine W.eq (g2 := F0 m 7 ls [.int (iI (0))]) rfl ?_
  refine b_neF (tgt := 13) S dX5_send_7 (by decide) (by decide) ?_
  refine lv_bipush (v := iI ((-2))) hx hb dX5_send_10 (by decide) ?_
  exact hret _ _ _ dX5_send_12 (congrArg iI (by omega))
set_option maxHeartbeats 4000000 in
set_option maxRecDepth 100000 in
theorem m_send_F (lc : Launch) (D : va_G) (cI cZ : ClassId) (N : Nat) (q : Nat) (qs : Nat) (qi : Nat) (qk : Nat) (ql : Nat) (mn : Nat) (tA : Int) (sA : Int) (kA : Int) (nb : Nat → Int) (ck : Nat → Int) (hi : Nat → Int) (lo : Nat → Int) (ha : Nat → Int) (cn : Nat → Int) (sm : Nat → Int) (im : Nat → Int) (kp : Nat → Int) (le : Nat → Int) (v : Int) (hta : 0 ≤ tA ∧ tA ≤ 10000) (hsA : 0 ≤ sA ∧ sA ≤ 200) (r_v : -2147483648 ≤ v ∧ v ≤ 2147483647) (h : 1 ≤ v ∧ v ≤ 60) (h2 : 200 < sA + v ∨ 9999 < tA + v) : CR lc D cI cZ N yX5_send wsX5_send (rmK 3 69) [.ref q, .int (iI (v))] [(q, .inr (5, [.ref qs, .ref qi, .ref qk, .ref ql])), (qs, .inl (cI, 2108, .inl (vI (stF ((mn : Nat) : Int) tA sA kA nb ck hi lo ha cn sm)))), (qi, .inl (cI, 4216, .inl (vI im))), (qk, .inl (cZ, 2, .inl (vI kp))), (ql, .inl (cI, 25, .inl (vI le)))] (some (.int (iI (-4)))) := by
  refine CR.I (cc := cX5_send) (maxL := 4) (by decide) rfl (Nat.le_of_ble_eq_true rfl) ?_
  intro p e s m args below meth c R Q S hE A hAN hfr hlo hP hD hS hret ls hl
  have S : CallFix p m c cX5_send 4 s args wsX5_send RX5 := S
  have hx := S.1
  have hb := S.2.1
  have hl : lv_has ls 4 [(0, .ref q), (1, .int (iI (v)))] := hl
  refine lv_iload_n hx hb dX5_send_0 rfl (lv_at hl 1 rfl) ?_
  refine lv_iconst (v := iI (1)) hx hb dX5_send_1 rfl ?_
  refine lv_bipush (v := iI (60)) hx hb dX5_send_2 (by decide) ?_
  refine kS_R (n := 3) S (m_in_T lc D cI cZ N v 1 60 (by omega) (by omega) (by omega) (by omega)) gX5_send_X5_in rfl (by decide +kernel) rfl rfl ⟨Nat.le_trans (Nat.le_of_ble_eq_true rfl) hfr, Nat.le_trans (Nat.le_of_ble_eq_true rfl) hlo⟩ hE hAN hP hD hS [] rfl (by decide) rfl hl.1 [] rfl (Nat.le_of_ble_eq_true rfl) dX5_send_4 ⟨Nat.zero_le _, Nat.zero_le _⟩ ?_
  refine W.eq (g2 := F0 m 7 ls [.int (iI (1))]) rfl ?_
  by_cases h3 : 200 < sA + v
  · refine b_neT (tgt := 13) S dX5_send_7 (by decide) (by decide) (by decide) ?_
    refine lv_aload_n hx hb dX5_send_13 rfl (lv_at hl 0 rfl) ?_
    refine w_get (C := RX5) (T := TX5) (Nf := 4) (ci := 5) (v := .ref qs) S (fun _ h => List.mem_cons_of_mem _ (List.mem_append_right _ h)) hE hP 0 rfl rfl 0 (by decide) (List.mem_of_getElem? (i := 1) rfl) rfl dX5_send_14 ?_
    refine lv_iconst (v := iI (2)) hx hb dX5_send_17 rfl ?_
    refine w_iald S hE hP 1 rfl (2) (by omega) (by omega) (by omega) dX5_send_18 ?_
    refine w_tz (z := sA) rfl ?_
    refine lv_iload_n hx hb dX5_send_19 rfl (lv_at hl 1 rfl) ?_
    refine w_iadd S dX5_send_20 ?_
    refine lv_sipush (v := iI (200)) hx hb dX5_send_21 (by decide) ?_
    refine c_gtT (tgt := 41) S dX5_send_24 (by decide) (by omega) (by omega) (by omega) ?_
    refine lv_bipush (v := iI ((-4))) hx hb dX5_send_41 (by decide) ?_
    exact hret _ _ _ dX5_send_43 (congrArg iI (by omega))
  · refine b_neT (tgt := 13) S dX5_send_7 (by decide) (by decide) (by decide) ?_
    refine lv_aload_n hx hb dX5_send_13 rfl (lv_at hl 0 rfl) ?_
    refine w_get (C := RX5) (T := TX5) (Nf := 4) (ci := 5) (v := .ref qs) S (fun _ h => List.mem_cons_of_mem _ (List.mem_append_right _ h)) hE hP 0 rfl rfl 0 (by decide) (List.mem_of_getElem? (i := 1) rfl) rfl dX5_send_14 ?_
    refine lv_iconst (v := iI (2)) hx hb dX5_send_17 rfl ?_
    refine w_iald S hE hP 1 rfl (2) (by omega) (by omega) (by omega) dX5_send_18 ?_
    refine w_tz (z := sA) rfl ?_
    refine lv_iload_n hx hb dX5_send_19 rfl (lv_at hl 1 rfl) ?_
    refine w_iadd S dX5_send_20 ?_
    refine lv_sipush (v := iI (200)) hx hb dX5_send_21 (by decide) ?_
    refine c_gtF (tgt := 41) S dX5_send_24 (by decide) (by omega) (by omega) (by omega) ?_
    refine lv_aload_n hx hb dX5_send_27 rfl (lv_at hl 0 rfl) ?_
    refine w_get (C := RX5) (T := TX5) (Nf := 4) (ci := 5) (v := .ref qs) S (fun _ h => List.mem_cons_of_mem _ (List.mem_append_right _ h)) hE hP 0 rfl rfl 0 (by decide) (List.mem_of_getElem? (i := 1) rfl) rfl dX5_send_28 ?_
    refine lv_iconst (v := iI (1)) hx hb dX5_send_31 rfl ?_
    refine w_iald S hE hP 1 rfl (1) (by omega) (by omega) (by omega) dX5_send_32 ?_
    refine w_tz (z := tA) rfl ?_
    refine lv_iload_n hx hb dX5_send_33 rfl (lv_at hl 1 rfl) ?_
    refine w_iadd S dX5_send_34 ?_
    refine lv_sipush (v := iI (9999)) hx hb dX5_send_35 (by decide) ?_
    refine c_leF (tgt := 44) S dX5_send_38 (by decide) (by omega) (by omega) (by omega) ?_
    refine lv_bipush (v := iI ((-4))) hx hb dX5_send_41 (by decide) ?_
    exact hret _ _ _ dX5_send_43 (congrArg iI (by omega))
set_option maxHeartbeats 4000000 in
set_option maxRecDepth 100000 in
theorem m_send (lc : Launch) (D : va_G) (cI cZ : ClassId) (N : Nat) (q : Nat) (qs : Nat) (qi : Nat) (qk : Nat) (ql : Nat) (mn : Nat) (tA : Int) (sA : Int) (kA : Int) (nb : Nat → Int) (ck : Nat → Int) (hi : Nat → Int) (lo : Nat → Int) (ha : Nat → Int) (cn : Nat → Int) (sm : Nat → Int) (im : Nat → Int) (kp : Nat → Int) (le : Nat → Int) (v : Nat) (hmn : 2 ≤ mn ∧ mn ≤ 5) (hnb : ∀ k, k < 24 → 0 ≤ nb k ∧ nb k ≤ 20) (hta : 0 ≤ tA ∧ tA ≤ 10000) (hsA : 0 ≤ sA ∧ sA ≤ 200) (hkA : 1 ≤ kA ∧ kA ≤ 20) (h : 1 ≤ v ∧ v ≤ 60) (h2 : sA + (v : Int) ≤ 200) (h3 : tA + (v : Int) ≤ 9999) : CM lc D cI cZ N yX5_send wsX5_send (rmK 3 69) [.ref q, .int (iI (((v : Nat) : Int)))] [(q, .inr (5, [.ref qs, .ref qi, .ref qk, .ref ql])), (qs, .inl (cI, 2108, .inl (vI (stF ((mn : Nat) : Int) tA sA kA nb ck hi lo ha cn sm)))), (qi, .inl (cI, 4216, .inl (vI im))), (qk, .inl (cZ, 2, .inl (vI kp))), (ql, .inl (cI, 25, .inl (vI le)))] (some (.int (iI (sdR nb (mn - 1) sA v)))) [(q, .inr (5, [.ref qs, .ref qi, .ref qk, .ref ql])), (qs, .inl (cI, 2108, .inl (vI (stF ((mn : Nat) : Int) (tA + ((v : Nat) : Int)) (sA + ((v : Nat) : Int)) kA nb ck hi lo ha (sdC nb (mn - 1) sA kA cn v) (sdS ck nb (mn - 1) tA sA kA sm v))))), (qi, .inl (cI, 4216, .inl (vI im))), (qk, .inl (cZ, 2, .inl (vI kp))), (ql, .inl (cI, 25, .inl (vI le)))] := by
  refine CM.I (cc := cX5_send) (maxL := 4) (by decide) rfl (Nat.le_of_ble_eq_true rfl) ?_
  intro p e s m args below meth c R Q S hE A hAN hfr hlo hP hD hS hret ls hl
  have S : CallFix p m c cX5_send 4 s args wsX5_send RX5 := S
  have hx := S.1
  have hb := S.2.1
  have hl : lv_has ls 4 [(0, .ref q), (1, .int (iI (((v : Nat) : Int))))] := hl
  refine lv_iload_n hx hb dX5_send_0 rfl (lv_at hl 1 rfl) ?_
  refine lv_iconst (v := iI (1)) hx hb dX5_send_1 rfl ?_
  refine lv_bipush (v := iI (60)) hx hb dX5_send_2 (by decide) ?_
  refine kS_R (n := 3) S (m_in_T lc D cI cZ N ((v : Nat) : Int) 1 60 (by omega) (by omega) (by omega) (by omega)) gX5_send_X5_in rfl (by decide +kernel) rfl rfl ⟨Nat.le_trans (Nat.le_of_ble_eq_true rfl) hfr, Nat.le_trans (Nat.le_of_ble_eq_true rfl) hlo⟩ hE hAN hP hD hS [] rfl (by decide) rfl hl.1 [] rfl (Nat.le_of_ble_eq_true rfl) dX5_send_4 ⟨Nat.zero_le _, Nat.zero_le _⟩ ?_
  refine W.eq (g2 := F0 m 7 ls [.int (iI (1))]) rfl ?_
  refine b_neT (tgt := 13) S dX5_send_7 (by decide) (by decide) (by decide) ?_
  refine lv_aload_n hx hb dX5_send_13 rfl (lv_at hl 0 rfl) ?_
  refine w_get (C := RX5) (T := TX5) (Nf := 4) (ci := 5) (v := .ref qs) S (fun _ h => List.mem_cons_of_mem _ (List.mem_append_right _ h)) hE hP 0 rfl rfl 0 (by decide) (List.mem_of_getElem? (i := 1) rfl) rfl dX5_send_14 ?_
  refine lv_iconst (v := iI (2)) hx hb dX5_send_17 rfl ?_
  refine w_iald S hE hP 1 rfl (2) (by omega) (by omega) (by omega) dX5_send_18 ?_
  refine w_tz (z := sA) rfl ?_
  refine lv_iload_n hx hb dX5_send_19 rfl (lv_at hl 1 rfl) ?_
  refine w_iadd S dX5_send_20 ?_
  refine lv_sipush (v := iI (200)) hx hb dX5_send_21 (by decide) ?_
  refine c_gtF (tgt := 41) S dX5_send_24 (by decide) (by omega) (by omega) (by omega) ?_
  refine lv_aload_n hx hb dX5_send_27 rfl (lv_at hl 0 rfl) ?_
  refine w_get (C := RX5) (T := TX5) (Nf := 4) (ci := 5) (v := .ref qs) S (fun _ h => List.mem_cons_of_mem _ (List.mem_append_right _ h)) hE hP 0 rfl rfl 0 (by decide) (List.mem_of_getElem? (i := 1) rfl) rfl dX5_send_28 ?_
  refine lv_iconst (v := iI (1)) hx hb dX5_send_31 rfl ?_
  refine w_iald S hE hP 1 rfl (1) (by omega) (by omega) (by omega) dX5_send_32 ?_
  refine w_tz (z := tA) rfl ?_
  refine lv_iload_n hx hb dX5_send_33 rfl (lv_at hl 1 rfl) ?_
  refine w_iadd S dX5_send_34 ?_
  refine lv_sipush (v := iI (9999)) hx hb dX5_send_35 (by decide) ?_
  refine c_leT (tgt := 44) S dX5_send_38 (by decide) (by omega) (by omega) (by omega) ?_
  refine lv_iconst (v := iI (0)) hx hb dX5_send_44 rfl ?_
  refine lv_istore_n (lv' := [(2, .int (iI (0))), (0, .ref q), (1, .int (iI (((v : Nat) : Int))))]) hx hb dX5_send_45 rfl hl (by decide) rfl (fun ls hl => ?_)
  refine lv_iconst (v := iI (0)) hx hb dX5_send_46 rfl ?_
  refine lv_istore_n (lv' := [(3, .int (iI (0))), (2, .int (iI (0))), (0, .ref q), (1, .int (iI (((v : Nat) : Int))))]) hx hb dX5_send_47 rfl hl (by decide) rfl (fun ls hl => ?_)
  have loop3 : ∀ (u i : Nat) , i + u = v → ∀ (H : Heap) (locs : List Loc) (ls : Array Slot), va_P D vwCl [(q, .inr (5, [.ref qs, .ref qi, .ref qk, .ref ql])), (qs, .inl (cI, 2108, .inl (vI (stF ((mn : Nat) : Int) (tA + ((i : Nat) : Int)) (sA + ((i : Nat) : Int)) kA nb ck hi lo ha (sdC nb (mn - 1) sA kA cn i) (sdS ck nb (mn - 1) tA sA kA sm i))))), (qi, .inl (cI, 4216, .inl (vI im))), (qk, .inl (cZ, 2, .inl (vI kp))), (ql, .inl (cI, 25, .inl (vI le)))] H → va_D A [(q, .inr (5, [.ref qs, .ref qi, .ref qk, .ref ql])), (qs, .inl (cI, 2108, .inl (vI (stF ((mn : Nat) : Int) (tA + ((i : Nat) : Int)) (sA + ((i : Nat) : Int)) kA nb ck hi lo ha (sdC nb (mn - 1) sA kA cn i) (sdS ck nb (mn - 1) tA sA kA sm i))))), (qi, .inl (cI, 4216, .inl (vI im))), (qk, .inl (cZ, 2, .inl (vI kp))), (ql, .inl (cI, 25, .inl (vI le)))] → va_S A s.heap H locs → lv_has ls 4 [(3, .int (iI (((i : Nat) : Int)))), (2, .int (iI (sdR nb (mn - 1) sA i))), (0, .ref q), (1, .int (iI (((v : Nat) : Int))))] → W p lc e R s m args below meth c H locs 0 0 Q (F0 m 48 ls []) := by
    intro u
    induction u with
    | zero =>
      intro i  hm  H locs ls hP hD hS hl
      refine lv_iload_n hx hb dX5_send_48 rfl (lv_at hl 0 rfl) ?_
      refine lv_iload_n hx hb dX5_send_49 rfl (lv_at hl 3 rfl) ?_
      refine c_geT (tgt := 74) S dX5_send_50 (by decide) (by omega) (by omega) (by omega) ?_
      have hiq : i = v := by omega
      subst hiq
      refine lv_iload_n hx hb dX5_send_74 rfl (lv_at hl 1 rfl) ?_
      exact hret _ _ _ _ _ dX5_send_75 rfl hP hS
    | succ u ih3 =>
      intro i  hm  H locs ls hP hD hS hl
      refine lv_iload_n hx hb dX5_send_48 rfl (lv_at hl 0 rfl) ?_
      refine lv_iload_n hx hb dX5_send_49 rfl (lv_at hl 3 rfl) ?_
      refine c_geF (tgt := 74) S dX5_send_50 (by decide) (by omega) (by omega) (by omega) ?_
      have hst := stop_ok nb (sA + ((i : Nat) : Int)) (mn - 1)
      refine lv_iload_n hx hb dX5_send_53 rfl (lv_at hl 1 rfl) ?_
      by_cases hlt : stop nb (sA + ((i : Nat) : Int)) (mn - 1) < mn - 1
      · refine lv_aload_n hx hb dX5_send_54 rfl (lv_at hl 2 rfl) ?_
        refine kV_M (n := 0) (ci := 5) (q := (RX5, TX5, 4)) S (m_sendOne_F lc D cI cZ N q qs qi qk ql mn (tA + ((i : Nat) : Int)) (sA + ((i : Nat) : Int)) kA nb ck hi lo ha (sdC nb (mn - 1) sA kA cn i) (sdS ck nb (mn - 1) tA sA kA sm i) im kp le (bOf (sA + ((i : Nat) : Int)) kA) (stop nb (sA + ((i : Nat) : Int)) (mn - 1)) (by omega) (by omega) (by omega) (by omega) (by omega) (bOf_eq (by omega) (by omega)) (bOf_lt (by omega) (by omega) (by omega)) hlt (stop_ok nb (sA + ((i : Nat) : Int)) (mn - 1)).2.1 ((stop_ok nb (sA + ((i : Nat) : Int)) (mn - 1)).2.2 hlt)) gX5_send_X5_sendOne rfl rfl (by decide +kernel) rfl rfl ⟨Nat.le_trans (Nat.le_of_ble_eq_true rfl) hfr, Nat.le_trans (Nat.le_of_ble_eq_true rfl) hlo⟩ hE hAN hP hD hS [0, 1, 2, 3, 4] rfl (by decide) rfl rfl rfl rfl rfl hl.1 [.int (iI (sdR nb (mn - 1) sA i))] rfl (Nat.le_of_ble_eq_true rfl) dX5_send_55 ⟨Nat.zero_le _, Nat.zero_le _⟩ (fun H locs hP hD hS => ?_)
        have hP : va_P D vwCl [(q, .inr (5, [.ref qs, .ref qi, .ref qk, .ref ql])), (qs, .inl (cI, 2108, .inl (vI (stF ((mn : Nat) : Int) ((tA + ((i : Nat) : Int)) + 1) ((sA + ((i : Nat) : Int)) + 1) kA nb ck hi lo ha (cnA (sdC nb (mn - 1) sA kA cn i) (bOf (sA + ((i : Nat) : Int)) kA) (stop nb (sA + ((i : Nat) : Int)) (mn - 1))) (smA (sdS ck nb (mn - 1) tA sA kA sm i) ck nb (tA + ((i : Nat) : Int)) (bOf (sA + ((i : Nat) : Int)) kA) (stop nb (sA + ((i : Nat) : Int)) (mn - 1))))))), (qi, .inl (cI, 4216, .inl (vI im))), (qk, .inl (cZ, 2, .inl (vI kp))), (ql, .inl (cI, 25, .inl (vI le)))] H := hP
        have hD : va_D A [(q, .inr (5, [.ref qs, .ref qi, .ref qk, .ref ql])), (qs, .inl (cI, 2108, .inl (vI (stF ((mn : Nat) : Int) ((tA + ((i : Nat) : Int)) + 1) ((sA + ((i : Nat) : Int)) + 1) kA nb ck hi lo ha (cnA (sdC nb (mn - 1) sA kA cn i) (bOf (sA + ((i : Nat) : Int)) kA) (stop nb (sA + ((i : Nat) : Int)) (mn - 1))) (smA (sdS ck nb (mn - 1) tA sA kA sm i) ck nb (tA + ((i : Nat) : Int)) (bOf (sA + ((i : Nat) : Int)) kA) (stop nb (sA + ((i : Nat) : Int)) (mn - 1))))))), (qi, .inl (cI, 4216, .inl (vI im))), (qk, .inl (cZ, 2, .inl (vI kp))), (ql, .inl (cI, 25, .inl (vI le)))] := hD
        refine W.eq (g2 := F0 m 58 ls [.int (iI (0)), .int (iI (sdR nb (mn - 1) sA i))]) rfl ?_
        refine b_eqT (tgt := 65) S dX5_send_58 (by decide) (by decide) ?_
        refine lv_iconst (v := iI (0)) hx hb dX5_send_65 rfl ?_
        refine w_iadd S dX5_send_66 ?_
        refine lv_istore_n (lv' := [(2, .int (iI ((sdR nb (mn - 1) sA i) + 0))), (3, .int (iI (((i : Nat) : Int)))), (0, .ref q), (1, .int (iI (((v : Nat) : Int))))]) hx hb dX5_send_67 rfl hl (by decide) rfl (fun ls hl => ?_)
        refine w_iinc (v := ((i + 1 : Nat) : Int)) (lv' := [(3, .int (iI (((i + 1 : Nat) : Int)))), (2, .int (iI ((sdR nb (mn - 1) sA i) + 0))), (0, .ref q), (1, .int (iI (((v : Nat) : Int))))]) S dX5_send_68 hl (k := 1) rfl (by omega) (by decide) rfl (fun ls hl => ?_)
        refine lv_goto (tgt := 48) hx hb dX5_send_71 (by decide) ?_
        have hcell : cnA (sdC nb (mn - 1) sA kA cn i) (bOf (sA + ((i : Nat) : Int)) kA) (stop nb (sA + ((i : Nat) : Int)) (mn - 1)) = sdC nb (mn - 1) sA kA cn (i + 1) := rfl
        rw [hcell] at hP hD
        have hcell : smA (sdS ck nb (mn - 1) tA sA kA sm i) ck nb (tA + ((i : Nat) : Int)) (bOf (sA + ((i : Nat) : Int)) kA) (stop nb (sA + ((i : Nat) : Int)) (mn - 1)) = sdS ck nb (mn - 1) tA sA kA sm (i + 1) := rfl
        rw [hcell] at hP hD
        have hcell : ((tA + ((i : Nat) : Int)) + 1) = tA + ((i + 1 : Nat) : Int) := (by omega)
        rw [hcell] at hP hD
        have hcell : ((sA + ((i : Nat) : Int)) + 1) = sA + ((i + 1 : Nat) : Int) := (by omega)
        rw [hcell] at hP hD
        have hloc : ((sdR nb (mn - 1) sA i) + 0 : Int) = sdR nb (mn - 1) sA (i + 1) := (by show _ = sdR nb (mn - 1) sA i + _; rw [if_neg (by omega)])
        rw [hloc] at hl
        exact ih3 (i + 1)  (by omega)  _ _ _ hP hD hS (lv_sub hl [0, 1, 2, 3] rfl)
      · have hst2 : stop nb (sA + ((i : Nat) : Int)) (mn - 1) = mn - 1 := by omega
        refine lv_aload_n hx hb dX5_send_54 rfl (lv_at hl 2 rfl) ?_
        refine kV_M (n := 0) (ci := 5) (q := (RX5, TX5, 4)) S (m_sendOne_T lc D cI cZ N q qs qi qk ql mn (tA + ((i : Nat) : Int)) (sA + ((i : Nat) : Int)) kA nb ck hi lo ha (sdC nb (mn - 1) sA kA cn i) (sdS ck nb (mn - 1) tA sA kA sm i) im kp le (bOf (sA + ((i : Nat) : Int)) kA) (by omega) (by omega) (by omega) (by omega) (by omega) (bOf_eq (by omega) (by omega)) (bOf_lt (by omega) (by omega) (by omega)) (by rw [hst2] at hst; exact hst.2.1)) gX5_send_X5_sendOne rfl rfl (by decide +kernel) rfl rfl ⟨Nat.le_trans (Nat.le_of_ble_eq_true rfl) hfr, Nat.le_trans (Nat.le_of_ble_eq_true rfl) hlo⟩ hE hAN hP hD hS [0, 1, 2, 3, 4] rfl (by decide) rfl rfl rfl rfl rfl hl.1 [.int (iI (sdR nb (mn - 1) sA i))] rfl (Nat.le_of_ble_eq_true rfl) dX5_send_55 ⟨Nat.zero_le _, Nat.zero_le _⟩ (fun H locs hP hD hS => ?_)
        have hP : va_P D vwCl [(q, .inr (5, [.ref qs, .ref qi, .ref qk, .ref ql])), (qs, .inl (cI, 2108, .inl (vI (stF ((mn : Nat) : Int) ((tA + ((i : Nat) : Int)) + 1) ((sA + ((i : Nat) : Int)) + 1) kA nb ck hi lo ha (cnA (sdC nb (mn - 1) sA kA cn i) (bOf (sA + ((i : Nat) : Int)) kA) (mn - 1)) (smA (sdS ck nb (mn - 1) tA sA kA sm i) ck nb (tA + ((i : Nat) : Int)) (bOf (sA + ((i : Nat) : Int)) kA) (mn - 1)))))), (qi, .inl (cI, 4216, .inl (vI im))), (qk, .inl (cZ, 2, .inl (vI kp))), (ql, .inl (cI, 25, .inl (vI le)))] H := hP
        have hD : va_D A [(q, .inr (5, [.ref qs, .ref qi, .ref qk, .ref ql])), (qs, .inl (cI, 2108, .inl (vI (stF ((mn : Nat) : Int) ((tA + ((i : Nat) : Int)) + 1) ((sA + ((i : Nat) : Int)) + 1) kA nb ck hi lo ha (cnA (sdC nb (mn - 1) sA kA cn i) (bOf (sA + ((i : Nat) : Int)) kA) (mn - 1)) (smA (sdS ck nb (mn - 1) tA sA kA sm i) ck nb (tA + ((i : Nat) : Int)) (bOf (sA + ((i : Nat) : Int)) kA) (mn - 1)))))), (qi, .inl (cI, 4216, .inl (vI im))), (qk, .inl (cZ, 2, .inl (vI kp))), (ql, .inl (cI, 25, .inl (vI le)))] := hD
        refine W.eq (g2 := F0 m 58 ls [.int (iI (1)), .int (iI (sdR nb (mn - 1) sA i))]) rfl ?_
        refine b_eqF (tgt := 65) S dX5_send_58 (by decide) (by decide) (by decide) ?_
        refine lv_iconst (v := iI (1)) hx hb dX5_send_61 rfl ?_
        refine lv_goto (tgt := 66) hx hb dX5_send_62 (by decide) ?_
        refine w_iadd S dX5_send_66 ?_
        refine lv_istore_n (lv' := [(2, .int (iI ((sdR nb (mn - 1) sA i) + 1))), (3, .int (iI (((i : Nat) : Int)))), (0, .ref q), (1, .int (iI (((v : Nat) : Int))))]) hx hb dX5_send_67 rfl hl (by decide) rfl (fun ls hl => ?_)
        refine w_iinc (v := ((i + 1 : Nat) : Int)) (lv' := [(3, .int (iI (((i + 1 : Nat) : Int)))), (2, .int (iI ((sdR nb (mn - 1) sA i) + 1))), (0, .ref q), (1, .int (iI (((v : Nat) : Int))))]) S dX5_send_68 hl (k := 1) rfl (by omega) (by decide) rfl (fun ls hl => ?_)
        refine lv_goto (tgt := 48) hx hb dX5_send_71 (by decide) ?_
        have hcell : cnA (sdC nb (mn - 1) sA kA cn i) (bOf (sA + ((i : Nat) : Int)) kA) (mn - 1) = sdC nb (mn - 1) sA kA cn (i + 1) := (by show _ = cnA _ _ (stop nb (sA + ((i : Nat) : Int)) (mn - 1)); rw [hst2])
        rw [hcell] at hP hD
        have hcell : smA (sdS ck nb (mn - 1) tA sA kA sm i) ck nb (tA + ((i : Nat) : Int)) (bOf (sA + ((i : Nat) : Int)) kA) (mn - 1) = sdS ck nb (mn - 1) tA sA kA sm (i + 1) := (by show _ = smA _ _ _ _ _ (stop nb (sA + ((i : Nat) : Int)) (mn - 1)); rw [hst2])
        rw [hcell] at hP hD
        have hcell : ((tA + ((i : Nat) : Int)) + 1) = tA + ((i + 1 : Nat) : Int) := (by omega)
        rw [hcell] at hP hD
        have hcell : ((sA + ((i : Nat) : Int)) + 1) = sA + ((i + 1 : Nat) : Int) := (by omega)
        rw [hcell] at hP hD
        have hloc : ((sdR nb (mn - 1) sA i) + 1 : Int) = sdR nb (mn - 1) sA (i + 1) := (by show _ = sdR nb (mn - 1) sA i + _; rw [if_pos hst2])
        rw [hloc] at hl
        exact ih3 (i + 1)  (by omega)  _ _ _ hP hD hS (lv_sub hl [0, 1, 2, 3] rfl)
  have hcell : cn = sdC nb (mn - 1) sA kA cn 0 := rfl
  rw [hcell] at hP hD
  have hcell : sm = sdS ck nb (mn - 1) tA sA kA sm 0 := rfl
  rw [hcell] at hP hD
  have hcell : tA = tA + ((0 : Nat) : Int) := (by omega)
  rw [hcell] at hP hD
  have hcell : sA = sA + ((0 : Nat) : Int) := (by omega)
  rw [hcell] at hP hD
  have hloc : (0 : Int) = sdR nb (mn - 1) sA 0 := rfl
  rw [hloc] at hl
  exact loop3 v 0  (by omega)  _ _ _ hP hD hS (lv_sub hl [0, 1, 2, 3] rfl)
set_option maxHeartbeats 4000000 in
set_option maxRecDepth 100000 in
theorem m_kept_U (lc : Launch) (D : va_G) (cI cZ : ClassId) (N : Nat) (q : Nat) (qs : Nat) (qi : Nat) (qk : Nat) (ql : Nat) (mn : Nat) (tA : Int) (sA : Int) (kA : Int) (nb : Nat → Int) (ck : Nat → Int) (hi : Nat → Int) (lo : Nat → Int) (ha : Nat → Int) (cn : Nat → Int) (sm : Nat → Int) (im : Nat → Int) (kp : Nat → Int) (le : Nat → Int) (x : Int) (y : Int) (z : Int) (hmn : 2 ≤ mn ∧ mn ≤ 5) (r_x : -2147483648 ≤ x ∧ x ≤ 2147483647) (h : ¬ (0 ≤ x ∧ x ≤ (mn : Int) - 1)) : CR lc D cI cZ N yX5_kept wsX5_kept (rmK 2 43) [.ref q, .int (iI (x)), .int (iI (y)), .int (iI (z))] [(q, .inr (5, [.ref qs, .ref qi, .ref qk, .ref ql])), (qs, .inl (cI, 2108, .inl (vI (stF ((mn : Nat) : Int) tA sA kA nb ck hi lo ha cn sm)))), (qi, .inl (cI, 4216, .inl (vI im))), (qk, .inl (cZ, 2, .inl (vI kp))), (ql, .inl (cI, 25, .inl (vI le)))] (some (.int (iI (-1000000001)))) := by
  refine CR.I (cc := cX5_kept) (maxL := 4) (by decide) rfl (Nat.le_of_ble_eq_true rfl) ?_
  intro p e s m args below meth c R Q S hE A hAN hfr hlo hP hD hS hret ls hl
  have S : CallFix p m c cX5_kept 4 s args wsX5_kept RX5 := S
  have hx := S.1
  have hb := S.2.1
  have hl : lv_has ls 4 [(0, .ref q), (1, .int (iI (x))), (2, .int (iI (y))), (3, .int (iI (z)))] := hl
  refine lv_aload_n hx hb dX5_kept_0 rfl (lv_at hl 0 rfl) ?_
  refine lv_iload_n hx hb dX5_kept_1 rfl (lv_at hl 1 rfl) ?_
  refine kV_R (n := 1) (ci := 5) (q := (RX5, TX5, 4)) S (m_isNode_F lc D cI cZ N q qs qi qk ql mn tA sA kA nb ck hi lo ha cn sm im kp le x (by omega) (by omega) (by omega)) gX5_kept_X5_isNode rfl rfl (by decide +kernel) rfl rfl ⟨Nat.le_trans (Nat.le_of_ble_eq_true rfl) hfr, Nat.le_trans (Nat.le_of_ble_eq_true rfl) hlo⟩ hE hAN hP hD hS [0, 1, 2, 3, 4] rfl (by decide) rfl rfl rfl rfl hl.1 [] rfl (Nat.le_of_ble_eq_true rfl) dX5_kept_2 ⟨Nat.zero_le _, Nat.zero_le _⟩ ?_
  refine W.eq (g2 := F0 m 5 ls [.int (iI (0))]) rfl ?_
  refine b_neF (tgt := 11) S dX5_kept_5 (by decide) (by decide) ?_
  refine w_ldc (z := (-1000000001)) S (List.mem_of_getElem? (i := 1) rfl) (by decide) dX5_kept_8 ?_
  exact hret _ _ _ dX5_kept_10 (congrArg iI (by omega))
set_option maxHeartbeats 4000000 in
set_option maxRecDepth 100000 in
theorem m_kept_O (lc : Launch) (D : va_G) (cI cZ : ClassId) (N : Nat) (q : Nat) (qs : Nat) (qi : Nat) (qk : Nat) (ql : Nat) (mn : Nat) (tA : Int) (sA : Int) (kA : Int) (nb : Nat → Int) (ck : Nat → Int) (hi : Nat → Int) (lo : Nat → Int) (ha : Nat → Int) (cn : Nat → Int) (sm : Nat → Int) (im : Nat → Int) (kp : Nat → Int) (le : Nat → Int) (x : Int) (y : Int) (z : Int) (hmn : 2 ≤ mn ∧ mn ≤ 5) (r_x : -2147483648 ≤ x ∧ x ≤ 2147483647) (r_y : -2147483648 ≤ y ∧ y ≤ 2147483647) (r_z : -2147483648 ≤ z ∧ z ≤ 2147483647) (h : (0 ≤ x ∧ x ≤ (mn : Int) - 1)) (h2 : ¬ ((0 ≤ y ∧ y ≤ 199) ∧ (0 ≤ z ∧ z ≤ 1))) : CR lc D cI cZ N yX5_kept wsX5_kept (rmK 2 43) [.ref q, .int (iI (x)), .int (iI (y)), .int (iI (z))] [(q, .inr (5, [.ref qs, .ref qi, .ref qk, .ref ql])), (qs, .inl (cI, 2108, .inl (vI (stF ((mn : Nat) : Int) tA sA kA nb ck hi lo ha cn sm)))), (qi, .inl (cI, 4216, .inl (vI im))), (qk, .inl (cZ, 2, .inl (vI kp))), (ql, .inl (cI, 25, .inl (vI le)))] (some (.int (iI (-1000000002)))) := by
  refine CR.I (cc := cX5_kept) (maxL := 4) (by decide) rfl (Nat.le_of_ble_eq_true rfl) ?_
  intro p e s m args below meth c R Q S hE A hAN hfr hlo hP hD hS hret ls hl
  have S : CallFix p m c cX5_kept 4 s args wsX5_kept RX5 := S
  have hx := S.1
  have hb := S.2.1
  have hl : lv_has ls 4 [(0, .ref q), (1, .int (iI (x))), (2, .int (iI (y))), (3, .int (iI (z)))] := hl
  refine lv_aload_n hx hb dX5_kept_0 rfl (lv_at hl 0 rfl) ?_
  refine lv_iload_n hx hb dX5_kept_1 rfl (lv_at hl 1 rfl) ?_
  refine kV_R (n := 1) (ci := 5) (q := (RX5, TX5, 4)) S (m_isNode_T lc D cI cZ N q qs qi qk ql mn tA sA kA nb ck hi lo ha cn sm im kp le x (by omega) (by omega) (by omega)) gX5_kept_X5_isNode rfl rfl (by decide +kernel) rfl rfl ⟨Nat.le_trans (Nat.le_of_ble_eq_true rfl) hfr, Nat.le_trans (Nat.le_of_ble_eq_true rfl) hlo⟩ hE hAN hP hD hS [0, 1, 2, 3, 4] rfl (by decide) rfl rfl rfl rfl hl.1 [] rfl (Nat.le_of_ble_eq_true rfl) dX5_kept_2 ⟨Nat.zero_le _, Nat.zero_le _⟩ ?_
  refine W.eq (g2 := F0 m 5 ls [.int (iI (1))]) rfl ?_
  refine b_neT (tgt := 11) S dX5_kept_5 (by decide) (by decide) (by decide) ?_
  by_cases h3 : (0 ≤ y ∧ y ≤ 199)
  · refine lv_iload_n hx hb dX5_kept_11 rfl (lv_at hl 2 rfl) ?_
    refine kS_R (n := 1) S (m_isBlock_T lc D cI cZ N y (by omega) (by omega)) gX5_kept_X5_isBlock rfl (by decide +kernel) rfl rfl ⟨Nat.le_trans (Nat.le_of_ble_eq_true rfl) hfr, Nat.le_trans (Nat.le_of_ble_eq_true rfl) hlo⟩ hE hAN hP hD hS [] rfl (by decide) rfl hl.1 [] rfl (Nat.le_of_ble_eq_true rfl) dX5_kept_12 ⟨Nat.zero_le _, Nat.zero_le _⟩ ?_
    refine W.eq (g2 := F0 m 15 ls [.int (iI (1))]) rfl ?_
    refine b_eqF (tgt := 27) S dX5_kept_15 (by decide) (by decide) (by decide) ?_
    refine lv_iload_n hx hb dX5_kept_18 rfl (lv_at hl 3 rfl) ?_
    refine lv_iconst (v := iI (0)) hx hb dX5_kept_19 rfl ?_
    refine lv_iconst (v := iI (1)) hx hb dX5_kept_20 rfl ?_
    refine kS_R (n := 3) S (m_in_F lc D cI cZ N z 0 1 (by omega) (by omega) (by omega) (by omega)) gX5_kept_X5_in rfl (by decide +kernel) rfl rfl ⟨Nat.le_trans (Nat.le_of_ble_eq_true rfl) hfr, Nat.le_trans (Nat.le_of_ble_eq_true rfl) hlo⟩ hE hAN hP hD hS [] rfl (by decide) rfl hl.1 [] rfl (Nat.le_of_ble_eq_true rfl) dX5_kept_21 ⟨Nat.zero_le _, Nat.zero_le _⟩ ?_
    refine W.eq (g2 := F0 m 24 ls [.int (iI (0))]) rfl ?_
    refine b_neF (tgt := 30) S dX5_kept_24 (by decide) (by decide) ?_
    refine w_ldc (z := (-1000000002)) S (List.mem_of_getElem? (i := 2) rfl) (by decide) dX5_kept_27 ?_
    exact hret _ _ _ dX5_kept_29 (congrArg iI (by omega))
  · refine lv_iload_n hx hb dX5_kept_11 rfl (lv_at hl 2 rfl) ?_
    refine kS_R (n := 1) S (m_isBlock_F lc D cI cZ N y (by omega) (by omega)) gX5_kept_X5_isBlock rfl (by decide +kernel) rfl rfl ⟨Nat.le_trans (Nat.le_of_ble_eq_true rfl) hfr, Nat.le_trans (Nat.le_of_ble_eq_true rfl) hlo⟩ hE hAN hP hD hS [] rfl (by decide) rfl hl.1 [] rfl (Nat.le_of_ble_eq_true rfl) dX5_kept_12 ⟨Nat.zero_le _, Nat.zero_le _⟩ ?_
    refine W.eq (g2 := F0 m 15 ls [.int (iI (0))]) rfl ?_
    refine b_eqT (tgt := 27) S dX5_kept_15 (by decide) (by decide) ?_
    refine w_ldc (z := (-1000000002)) S (List.mem_of_getElem? (i := 2) rfl) (by decide) dX5_kept_27 ?_
    exact hret _ _ _ dX5_kept_29 (congrArg iI (by omega))
set_option maxHeartbeats 4000000 in
set_option maxRecDepth 100000 in
theorem m_kept_0 (lc : Launch) (D : va_G) (cI cZ : ClassId) (N : Nat) (q : Nat) (qs : Nat) (qi : Nat) (qk : Nat) (ql : Nat) (mn : Nat) (tA : Int) (sA : Int) (kA : Int) (nb : Nat → Int) (ck : Nat → Int) (hi : Nat → Int) (lo : Nat → Int) (ha : Nat → Int) (cn : Nat → Int) (sm : Nat → Int) (im : Nat → Int) (kp : Nat → Int) (le : Nat → Int) (nd : Nat) (bk : Nat) (hmn : 2 ≤ mn ∧ mn ≤ 5) (h : nd < mn) (h2 : bk < 200) : CR lc D cI cZ N yX5_kept wsX5_kept (rmK 2 43) [.ref q, .int (iI (((nd : Nat) : Int))), .int (iI (((bk : Nat) : Int))), .int (iI (0))] [(q, .inr (5, [.ref qs, .ref qi, .ref qk, .ref ql])), (qs, .inl (cI, 2108, .inl (vI (stF ((mn : Nat) : Int) tA sA kA nb ck hi lo ha cn sm)))), (qi, .inl (cI, 4216, .inl (vI im))), (qk, .inl (cZ, 2, .inl (vI kp))), (ql, .inl (cI, 25, .inl (vI le)))] (some (.int (iI (cn (nd * 200 + bk))))) := by
  refine CR.I (cc := cX5_kept) (maxL := 4) (by decide) rfl (Nat.le_of_ble_eq_true rfl) ?_
  intro p e s m args below meth c R Q S hE A hAN hfr hlo hP hD hS hret ls hl
  have S : CallFix p m c cX5_kept 4 s args wsX5_kept RX5 := S
  have hx := S.1
  have hb := S.2.1
  have hl : lv_has ls 4 [(0, .ref q), (1, .int (iI (((nd : Nat) : Int)))), (2, .int (iI (((bk : Nat) : Int)))), (3, .int (iI (0)))] := hl
  refine lv_aload_n hx hb dX5_kept_0 rfl (lv_at hl 0 rfl) ?_
  refine lv_iload_n hx hb dX5_kept_1 rfl (lv_at hl 1 rfl) ?_
  refine kV_R (n := 1) (ci := 5) (q := (RX5, TX5, 4)) S (m_isNode_T lc D cI cZ N q qs qi qk ql mn tA sA kA nb ck hi lo ha cn sm im kp le ((nd : Nat) : Int) (by omega) (by omega) (by omega)) gX5_kept_X5_isNode rfl rfl (by decide +kernel) rfl rfl ⟨Nat.le_trans (Nat.le_of_ble_eq_true rfl) hfr, Nat.le_trans (Nat.le_of_ble_eq_true rfl) hlo⟩ hE hAN hP hD hS [0, 1, 2, 3, 4] rfl (by decide) rfl rfl rfl rfl hl.1 [] rfl (Nat.le_of_ble_eq_true rfl) dX5_kept_2 ⟨Nat.zero_le _, Nat.zero_le _⟩ ?_
  refine W.eq (g2 := F0 m 5 ls [.int (iI (1))]) rfl ?_
  refine b_neT (tgt := 11) S dX5_kept_5 (by decide) (by decide) (by decide) ?_
  refine lv_iload_n hx hb dX5_kept_11 rfl (lv_at hl 2 rfl) ?_
  refine kS_R (n := 1) S (m_isBlock_T lc D cI cZ N ((bk : Nat) : Int) (by omega) (by omega)) gX5_kept_X5_isBlock rfl (by decide +kernel) rfl rfl ⟨Nat.le_trans (Nat.le_of_ble_eq_true rfl) hfr, Nat.le_trans (Nat.le_of_ble_eq_true rfl) hlo⟩ hE hAN hP hD hS [] rfl (by decide) rfl hl.1 [] rfl (Nat.le_of_ble_eq_true rfl) dX5_kept_12 ⟨Nat.zero_le _, Nat.zero_le _⟩ ?_
  refine W.eq (g2 := F0 m 15 ls [.int (iI (1))]) rfl ?_
  refine b_eqF (tgt := 27) S dX5_kept_15 (by decide) (by decide) (by decide) ?_
  refine lv_iload_n hx hb dX5_kept_18 rfl (lv_at hl 3 rfl) ?_
  refine lv_iconst (v := iI (0)) hx hb dX5_kept_19 rfl ?_
  refine lv_iconst (v := iI (1)) hx hb dX5_kept_20 rfl ?_
  refine kS_R (n := 3) S (m_in_T lc D cI cZ N 0 0 1 (by omega) (by omega) (by omega) (by omega)) gX5_kept_X5_in rfl (by decide +kernel) rfl rfl ⟨Nat.le_trans (Nat.le_of_ble_eq_true rfl) hfr, Nat.le_trans (Nat.le_of_ble_eq_true rfl) hlo⟩ hE hAN hP hD hS [] rfl (by decide) rfl hl.1 [] rfl (Nat.le_of_ble_eq_true rfl) dX5_kept_21 ⟨Nat.zero_le _, Nat.zero_le _⟩ ?_
  refine W.eq (g2 := F0 m 24 ls [.int (iI (1))]) rfl ?_
  refine b_neT (tgt := 30) S dX5_kept_24 (by decide) (by decide) (by decide) ?_
  refine lv_iload_n hx hb dX5_kept_30 rfl (lv_at hl 3 rfl) ?_
  refine b_neF (tgt := 43) S dX5_kept_31 (by decide) (by decide) ?_
  refine lv_aload_n hx hb dX5_kept_34 rfl (lv_at hl 0 rfl) ?_
  refine lv_iload_n hx hb dX5_kept_35 rfl (lv_at hl 1 rfl) ?_
  refine lv_iload_n hx hb dX5_kept_36 rfl (lv_at hl 2 rfl) ?_
  refine kV_R (n := 2) (ci := 5) (q := (RX5, TX5, 4)) S (m_countOf lc D cI cZ N q qs qi qk ql mn tA sA kA nb ck hi lo ha cn sm im kp le nd bk (by omega) (by omega)) gX5_kept_X5_countOf rfl rfl (by decide +kernel) rfl rfl ⟨Nat.le_trans (Nat.le_of_ble_eq_true rfl) hfr, Nat.le_trans (Nat.le_of_ble_eq_true rfl) hlo⟩ hE hAN hP hD hS [0, 1, 2, 3, 4] rfl (by decide) rfl rfl rfl rfl hl.1 [] rfl (Nat.le_of_ble_eq_true rfl) dX5_kept_37 ⟨Nat.zero_le _, Nat.zero_le _⟩ ?_
  refine W.eq (g2 := F0 m 40 ls [.int (iI (cn (nd * 200 + bk)))]) rfl ?_
  refine lv_goto (tgt := 49) hx hb dX5_kept_40 (by decide) ?_
  exact hret _ _ _ dX5_kept_49 rfl
set_option maxHeartbeats 4000000 in
set_option maxRecDepth 100000 in
theorem m_kept_1 (lc : Launch) (D : va_G) (cI cZ : ClassId) (N : Nat) (q : Nat) (qs : Nat) (qi : Nat) (qk : Nat) (ql : Nat) (mn : Nat) (tA : Int) (sA : Int) (kA : Int) (nb : Nat → Int) (ck : Nat → Int) (hi : Nat → Int) (lo : Nat → Int) (ha : Nat → Int) (cn : Nat → Int) (sm : Nat → Int) (im : Nat → Int) (kp : Nat → Int) (le : Nat → Int) (nd : Nat) (bk : Nat) (hmn : 2 ≤ mn ∧ mn ≤ 5) (h : nd < mn) (h2 : bk < 200) : CR lc D cI cZ N yX5_kept wsX5_kept (rmK 2 43) [.ref q, .int (iI (((nd : Nat) : Int))), .int (iI (((bk : Nat) : Int))), .int (iI (1))] [(q, .inr (5, [.ref qs, .ref qi, .ref qk, .ref ql])), (qs, .inl (cI, 2108, .inl (vI (stF ((mn : Nat) : Int) tA sA kA nb ck hi lo ha cn sm)))), (qi, .inl (cI, 4216, .inl (vI im))), (qk, .inl (cZ, 2, .inl (vI kp))), (ql, .inl (cI, 25, .inl (vI le)))] (some (.int (iI (sm (nd * 200 + bk))))) := by
  refine CR.I (cc := cX5_kept) (maxL := 4) (by decide) rfl (Nat.le_of_ble_eq_true rfl) ?_
  intro p e s m args below meth c R Q S hE A hAN hfr hlo hP hD hS hret ls hl
  have S : CallFix p m c cX5_kept 4 s args wsX5_kept RX5 := S
  have hx := S.1
  have hb := S.2.1
  have hl : lv_has ls 4 [(0, .ref q), (1, .int (iI (((nd : Nat) : Int)))), (2, .int (iI (((bk : Nat) : Int)))), (3, .int (iI (1)))] := hl
  refine lv_aload_n hx hb dX5_kept_0 rfl (lv_at hl 0 rfl) ?_
  refine lv_iload_n hx hb dX5_kept_1 rfl (lv_at hl 1 rfl) ?_
  refine kV_R (n := 1) (ci := 5) (q := (RX5, TX5, 4)) S (m_isNode_T lc D cI cZ N q qs qi qk ql mn tA sA kA nb ck hi lo ha cn sm im kp le ((nd : Nat) : Int) (by omega) (by omega) (by omega)) gX5_kept_X5_isNode rfl rfl (by decide +kernel) rfl rfl ⟨Nat.le_trans (Nat.le_of_ble_eq_true rfl) hfr, Nat.le_trans (Nat.le_of_ble_eq_true rfl) hlo⟩ hE hAN hP hD hS [0, 1, 2, 3, 4] rfl (by decide) rfl rfl rfl rfl hl.1 [] rfl (Nat.le_of_ble_eq_true rfl) dX5_kept_2 ⟨Nat.zero_le _, Nat.zero_le _⟩ ?_
  refine W.eq (g2 := F0 m 5 ls [.int (iI (1))]) rfl ?_
  refine b_neT (tgt := 11) S dX5_kept_5 (by decide) (by decide) (by decide) ?_
  refine lv_iload_n hx hb dX5_kept_11 rfl (lv_at hl 2 rfl) ?_
  refine kS_R (n := 1) S (m_isBlock_T lc D cI cZ N ((bk : Nat) : Int) (by omega) (by omega)) gX5_kept_X5_isBlock rfl (by decide +kernel) rfl rfl ⟨Nat.le_trans (Nat.le_of_ble_eq_true rfl) hfr, Nat.le_trans (Nat.le_of_ble_eq_true rfl) hlo⟩ hE hAN hP hD hS [] rfl (by decide) rfl hl.1 [] rfl (Nat.le_of_ble_eq_true rfl) dX5_kept_12 ⟨Nat.zero_le _, Nat.zero_le _⟩ ?_
  refine W.eq (g2 := F0 m 15 ls [.int (iI (1))]) rfl ?_
  refine b_eqF (tgt := 27) S dX5_kept_15 (by decide) (by decide) (by decide) ?_
  refine lv_iload_n hx hb dX5_kept_18 rfl (lv_at hl 3 rfl) ?_
  refine lv_iconst (v := iI (0)) hx hb dX5_kept_19 rfl ?_
  refine lv_iconst (v := iI (1)) hx hb dX5_kept_20 rfl ?_
  refine kS_R (n := 3) S (m_in_T lc D cI cZ N 1 0 1 (by omega) (by omega) (by omega) (by omega)) gX5_kept_X5_in rfl (by decide +kernel) rfl rfl ⟨Nat.le_trans (Nat.le_of_ble_eq_true rfl) hfr, Nat.le_trans (Nat.le_of_ble_eq_true rfl) hlo⟩ hE hAN hP hD hS [] rfl (by decide) rfl hl.1 [] rfl (Nat.le_of_ble_eq_true rfl) dX5_kept_21 ⟨Nat.zero_le _, Nat.zero_le _⟩ ?_
  refine W.eq (g2 := F0 m 24 ls [.int (iI (1))]) rfl ?_
  refine b_neT (tgt := 30) S dX5_kept_24 (by decide) (by decide) (by decide) ?_
  refine lv_iload_n hx hb dX5_kept_30 rfl (lv_at hl 3 rfl) ?_
  refine b_neT (tgt := 43) S dX5_kept_31 (by decide) (by decide) (by decide) ?_
  refine lv_aload_n hx hb dX5_kept_43 rfl (lv_at hl 0 rfl) ?_
  refine lv_iload_n hx hb dX5_kept_44 rfl (lv_at hl 1 rfl) ?_
  refine lv_iload_n hx hb dX5_kept_45 rfl (lv_at hl 2 rfl) ?_
  refine kV_R (n := 2) (ci := 5) (q := (RX5, TX5, 4)) S (m_sumOf lc D cI cZ N q qs qi qk ql mn tA sA kA nb ck hi lo ha cn sm im kp le nd bk (by omega) (by omega)) gX5_kept_X5_sumOf rfl rfl (by decide +kernel) rfl rfl ⟨Nat.le_trans (Nat.le_of_ble_eq_true rfl) hfr, Nat.le_trans (Nat.le_of_ble_eq_true rfl) hlo⟩ hE hAN hP hD hS [0, 1, 2, 3, 4] rfl (by decide) rfl rfl rfl rfl hl.1 [] rfl (Nat.le_of_ble_eq_true rfl) dX5_kept_46 ⟨Nat.zero_le _, Nat.zero_le _⟩ ?_
  refine W.eq (g2 := F0 m 49 ls [.int (iI (sm (nd * 200 + bk)))]) rfl ?_
  exact hret _ _ _ dX5_kept_49 rfl
set_option maxHeartbeats 4000000 in
set_option maxRecDepth 100000 in
theorem m_lost_U (lc : Launch) (D : va_G) (cI cZ : ClassId) (N : Nat) (q : Nat) (qs : Nat) (qi : Nat) (qk : Nat) (ql : Nat) (mn : Nat) (tA : Int) (sA : Int) (kA : Int) (nb : Nat → Int) (ck : Nat → Int) (hi : Nat → Int) (lo : Nat → Int) (ha : Nat → Int) (cn : Nat → Int) (sm : Nat → Int) (im : Nat → Int) (kp : Nat → Int) (le : Nat → Int) (x : Int) (y : Int) (hmn : 2 ≤ mn ∧ mn ≤ 5) (r_x : -2147483648 ≤ x ∧ x ≤ 2147483647) (h : ¬ (0 ≤ x ∧ x ≤ (mn : Int) - 2)) : CR lc D cI cZ N yX5_lost wsX5_lost (rmK 2 44) [.ref q, .int (iI (x)), .int (iI (y))] [(q, .inr (5, [.ref qs, .ref qi, .ref qk, .ref ql])), (qs, .inl (cI, 2108, .inl (vI (stF ((mn : Nat) : Int) tA sA kA nb ck hi lo ha cn sm)))), (qi, .inl (cI, 4216, .inl (vI im))), (qk, .inl (cZ, 2, .inl (vI kp))), (ql, .inl (cI, 25, .inl (vI le)))] (some (.int (iI (-1)))) := by
  refine CR.I (cc := cX5_lost) (maxL := 5) (by decide) rfl (Nat.le_of_ble_eq_true rfl) ?_
  intro p e s m args below meth c R Q S hE A hAN hfr hlo hP hD hS hret ls hl
  have S : CallFix p m c cX5_lost 5 s args wsX5_lost RX5 := S
  have hx := S.1
  have hb := S.2.1
  have hl : lv_has ls 5 [(0, .ref q), (1, .int (iI (x))), (2, .int (iI (y)))] := hl
  refine lv_aload_n hx hb dX5_lost_0 rfl (lv_at hl 0 rfl) ?_
  refine lv_iload_n hx hb dX5_lost_1 rfl (lv_at hl 1 rfl) ?_
  refine kV_R (n := 1) (ci := 5) (q := (RX5, TX5, 4)) S (m_isLink_F lc D cI cZ N q qs qi qk ql mn tA sA kA nb ck hi lo ha cn sm im kp le x (by omega) (by omega) (by omega)) gX5_lost_X5_isLink rfl rfl (by decide +kernel) rfl rfl ⟨Nat.le_trans (Nat.le_of_ble_eq_true rfl) hfr, Nat.le_trans (Nat.le_of_ble_eq_true rfl) hlo⟩ hE hAN hP hD hS [0, 1, 2, 3, 4] rfl (by decide) rfl rfl rfl rfl hl.1 [] rfl (Nat.le_of_ble_eq_true rfl) dX5_lost_2 ⟨Nat.zero_le _, Nat.zero_le _⟩ ?_
  refine W.eq (g2 := F0 m 5 ls [.int (iI (0))]) rfl ?_
  refine b_neF (tgt := 10) S dX5_lost_5 (by decide) (by decide) ?_
  refine lv_iconst (v := iI ((-1))) hx hb dX5_lost_8 rfl ?_
  exact hret _ _ _ dX5_lost_9 (congrArg iI (by omega))
set_option maxHeartbeats 4000000 in
set_option maxRecDepth 100000 in
theorem m_lost_O (lc : Launch) (D : va_G) (cI cZ : ClassId) (N : Nat) (q : Nat) (qs : Nat) (qi : Nat) (qk : Nat) (ql : Nat) (mn : Nat) (tA : Int) (sA : Int) (kA : Int) (nb : Nat → Int) (ck : Nat → Int) (hi : Nat → Int) (lo : Nat → Int) (ha : Nat → Int) (cn : Nat → Int) (sm : Nat → Int) (im : Nat → Int) (kp : Nat → Int) (le : Nat → Int) (x : Int) (y : Int) (hmn : 2 ≤ mn ∧ mn ≤ 5) (r_x : -2147483648 ≤ x ∧ x ≤ 2147483647) (r_y : -2147483648 ≤ y ∧ y ≤ 2147483647) (h : (0 ≤ x ∧ x ≤ (mn : Int) - 2)) (h2 : ¬ (-1 ≤ y ∧ y ≤ 199)) : CR lc D cI cZ N yX5_lost wsX5_lost (rmK 2 44) [.ref q, .int (iI (x)), .int (iI (y))] [(q, .inr (5, [.ref qs, .ref qi, .ref qk, .ref ql])), (qs, .inl (cI, 2108, .inl (vI (stF ((mn : Nat) : Int) tA sA kA nb ck hi lo ha cn sm)))), (qi, .inl (cI, 4216, .inl (vI im))), (qk, .inl (cZ, 2, .inl (vI kp))), (ql, .inl (cI, 25, .inl (vI le)))] (some (.int (iI (-2)))) := by
  refine CR.I (cc := cX5_lost) (maxL := 5) (by decide) rfl (Nat.le_of_ble_eq_true rfl) ?_
  intro p e s m args below meth c R Q S hE A hAN hfr hlo hP hD hS hret ls hl
  have S : CallFix p m c cX5_lost 5 s args wsX5_lost RX5 := S
  have hx := S.1
  have hb := S.2.1
  have hl : lv_has ls 5 [(0, .ref q), (1, .int (iI (x))), (2, .int (iI (y)))] := hl
  refine lv_aload_n hx hb dX5_lost_0 rfl (lv_at hl 0 rfl) ?_
  refine lv_iload_n hx hb dX5_lost_1 rfl (lv_at hl 1 rfl) ?_
  refine kV_R (n := 1) (ci := 5) (q := (RX5, TX5, 4)) S (m_isLink_T lc D cI cZ N q qs qi qk ql mn tA sA kA nb ck hi lo ha cn sm im kp le x (by omega) (by omega) (by omega)) gX5_lost_X5_isLink rfl rfl (by decide +kernel) rfl rfl ⟨Nat.le_trans (Nat.le_of_ble_eq_true rfl) hfr, Nat.le_trans (Nat.le_of_ble_eq_true rfl) hlo⟩ hE hAN hP hD hS [0, 1, 2, 3, 4] rfl (by decide) rfl rfl rfl rfl hl.1 [] rfl (Nat.le_of_ble_eq_true rfl) dX5_lost_2 ⟨Nat.zero_le _, Nat.zero_le _⟩ ?_
  refine W.eq (g2 := F0 m 5 ls [.int (iI (1))]) rfl ?_
  refine b_neT (tgt := 10) S dX5_lost_5 (by decide) (by decide) (by decide) ?_
  refine lv_iload_n hx hb dX5_lost_10 rfl (lv_at hl 2 rfl) ?_
  refine lv_iconst (v := iI ((-1))) hx hb dX5_lost_11 rfl ?_
  refine lv_sipush (v := iI (199)) hx hb dX5_lost_12 (by decide) ?_
  refine kS_R (n := 3) S (m_in_F lc D cI cZ N y (-1) 199 (by omega) (by omega) (by omega) (by omega)) gX5_lost_X5_in rfl (by decide +kernel) rfl rfl ⟨Nat.le_trans (Nat.le_of_ble_eq_true rfl) hfr, Nat.le_trans (Nat.le_of_ble_eq_true rfl) hlo⟩ hE hAN hP hD hS [] rfl (by decide) rfl hl.1 [] rfl (Nat.le_of_ble_eq_true rfl) dX5_lost_15 ⟨Nat.zero_le _, Nat.zero_le _⟩ ?_
  refine W.eq (g2 := F0 m 18 ls [.int (iI (0))]) rfl ?_
  refine b_neF (tgt := 24) S dX5_lost_18 (by decide) (by decide) ?_
  refine lv_bipush (v := iI ((-2))) hx hb dX5_lost_21 (by decide) ?_
  exact hret _ _ _ dX5_lost_23 (congrArg iI (by omega))
set_option maxHeartbeats 4000000 in
set_option maxRecDepth 100000 in
theorem m_lost_A (lc : Launch) (D : va_G) (cI cZ : ClassId) (N : Nat) (q : Nat) (qs : Nat) (qi : Nat) (qk : Nat) (ql : Nat) (mn : Nat) (tA : Int) (sA : Int) (kA : Int) (nb : Nat → Int) (ck : Nat → Int) (hi : Nat → Int) (lo : Nat → Int) (ha : Nat → Int) (cn : Nat → Int) (sm : Nat → Int) (im : Nat → Int) (kp : Nat → Int) (le : Nat → Int) (lk : Nat) (hmn : 2 ≤ mn ∧ mn ≤ 5) (h : lk + 2 ≤ mn) : CR lc D cI cZ N yX5_lost wsX5_lost (rmK 2 44) [.ref q, .int (iI (((lk : Nat) : Int))), .int (iI ((-1)))] [(q, .inr (5, [.ref qs, .ref qi, .ref qk, .ref ql])), (qs, .inl (cI, 2108, .inl (vI (stF ((mn : Nat) : Int) tA sA kA nb ck hi lo ha cn sm)))), (qi, .inl (cI, 4216, .inl (vI im))), (qk, .inl (cZ, 2, .inl (vI kp))), (ql, .inl (cI, 25, .inl (vI le)))] (some (.int (iI (sumTo (fun b => cn (lk * 200 + b) - cn ((lk + 1) * 200 + b)) 200)))) := by
  refine CR.I (cc := cX5_lost) (maxL := 5) (by decide) rfl (Nat.le_of_ble_eq_true rfl) ?_
  intro p e s m args below meth c R Q S hE A hAN hfr hlo hP hD hS hret ls hl
  have S : CallFix p m c cX5_lost 5 s args wsX5_lost RX5 := S
  have hx := S.1
  have hb := S.2.1
  have hl : lv_has ls 5 [(0, .ref q), (1, .int (iI (((lk : Nat) : Int)))), (2, .int (iI ((-1))))] := hl
  refine lv_aload_n hx hb dX5_lost_0 rfl (lv_at hl 0 rfl) ?_
  refine lv_iload_n hx hb dX5_lost_1 rfl (lv_at hl 1 rfl) ?_
  refine kV_R (n := 1) (ci := 5) (q := (RX5, TX5, 4)) S (m_isLink_T lc D cI cZ N q qs qi qk ql mn tA sA kA nb ck hi lo ha cn sm im kp le ((lk : Nat) : Int) (by omega) (by omega) (by omega)) gX5_lost_X5_isLink rfl rfl (by decide +kernel) rfl rfl ⟨Nat.le_trans (Nat.le_of_ble_eq_true rfl) hfr, Nat.le_trans (Nat.le_of_ble_eq_true rfl) hlo⟩ hE hAN hP hD hS [0, 1, 2, 3, 4] rfl (by decide) rfl rfl rfl rfl hl.1 [] rfl (Nat.le_of_ble_eq_true rfl) dX5_lost_2 ⟨Nat.zero_le _, Nat.zero_le _⟩ ?_
  refine W.eq (g2 := F0 m 5 ls [.int (iI (1))]) rfl ?_
  refine b_neT (tgt := 10) S dX5_lost_5 (by decide) (by decide) (by decide) ?_
  refine lv_iload_n hx hb dX5_lost_10 rfl (lv_at hl 2 rfl) ?_
  refine lv_iconst (v := iI ((-1))) hx hb dX5_lost_11 rfl ?_
  refine lv_sipush (v := iI (199)) hx hb dX5_lost_12 (by decide) ?_
  refine kS_R (n := 3) S (m_in_T lc D cI cZ N (-1) (-1) 199 (by omega) (by omega) (by omega) (by omega)) gX5_lost_X5_in rfl (by decide +kernel) rfl rfl ⟨Nat.le_trans (Nat.le_of_ble_eq_true rfl) hfr, Nat.le_trans (Nat.le_of_ble_eq_true rfl) hlo⟩ hE hAN hP hD hS [] rfl (by decide) rfl hl.1 [] rfl (Nat.le_of_ble_eq_true rfl) dX5_lost_15 ⟨Nat.zero_le _, Nat.zero_le _⟩ ?_
  refine W.eq (g2 := F0 m 18 ls [.int (iI (1))]) rfl ?_
  refine b_neT (tgt := 24) S dX5_lost_18 (by decide) (by decide) (by decide) ?_
  refine lv_iconst (v := iI (0)) hx hb dX5_lost_24 rfl ?_
  refine lv_istore_n (lv' := [(3, .int (iI (0))), (0, .ref q), (1, .int (iI (((lk : Nat) : Int)))), (2, .int (iI ((-1))))]) hx hb dX5_lost_25 rfl hl (by decide) rfl (fun ls hl => ?_)
  refine lv_iload_n hx hb dX5_lost_26 rfl (lv_at hl 3 rfl) ?_
  refine b_geF (tgt := 34) S dX5_lost_27 (by decide) (by decide) (by decide) ?_
  refine lv_iconst (v := iI (0)) hx hb dX5_lost_30 rfl ?_
  refine lv_goto (tgt := 35) hx hb dX5_lost_31 (by decide) ?_
  refine lv_istore (lv' := [(4, .int (iI (0))), (3, .int (iI (0))), (0, .ref q), (1, .int (iI (((lk : Nat) : Int)))), (2, .int (iI ((-1))))]) hx hb dX5_lost_35 hl (by decide) rfl (fun ls hl => ?_)
  have loop4 : ∀ (u i : Nat) , i + u = 200 → ∀ (ls : Array Slot), lv_has ls 5 [(4, .int (iI (((i : Nat) : Int)))), (3, .int (iI (sumTo (fun b => cn (lk * 200 + b) - cn ((lk + 1) * 200 + b)) i))), (0, .ref q), (1, .int (iI (((lk : Nat) : Int)))), (2, .int (iI ((-1))))] → W p lc e R s m args below meth c s.heap [] 0 0 Q (F0 m 37 ls []) := by
    intro u
    induction u with
    | zero =>
      intro i  hm  ls hl
      refine lv_iload hx hb dX5_lost_37 (lv_at hl 0 rfl) ?_
      refine lv_iload_n hx hb dX5_lost_39 rfl (lv_at hl 4 rfl) ?_
      refine b_geF (tgt := 49) S dX5_lost_40 (by decide) (by decide) (by decide) ?_
      refine lv_sipush (v := iI (199)) hx hb dX5_lost_43 (by decide) ?_
      refine lv_goto (tgt := 50) hx hb dX5_lost_46 (by decide) ?_
      refine c_gtT (tgt := 69) S dX5_lost_50 (by decide) (by omega) (by omega) (by omega) ?_
      refine lv_iload_n hx hb dX5_lost_69 rfl (lv_at hl 1 rfl) ?_
      exact hret _ _ _ dX5_lost_70 (by rw [show i = 200 by omega])
    | succ u ih4 =>
      intro i  hm  ls hl
      refine lv_iload hx hb dX5_lost_37 (lv_at hl 0 rfl) ?_
      refine lv_iload_n hx hb dX5_lost_39 rfl (lv_at hl 4 rfl) ?_
      refine b_geF (tgt := 49) S dX5_lost_40 (by decide) (by decide) (by decide) ?_
      refine lv_sipush (v := iI (199)) hx hb dX5_lost_43 (by decide) ?_
      refine lv_goto (tgt := 50) hx hb dX5_lost_46 (by decide) ?_
      refine c_gtF (tgt := 69) S dX5_lost_50 (by decide) (by omega) (by omega) (by omega) ?_
      refine lv_iload_n hx hb dX5_lost_53 rfl (lv_at hl 1 rfl) ?_
      refine lv_aload_n hx hb dX5_lost_54 rfl (lv_at hl 2 rfl) ?_
      refine lv_iload_n hx hb dX5_lost_55 rfl (lv_at hl 3 rfl) ?_
      refine lv_iload hx hb dX5_lost_56 (lv_at hl 0 rfl) ?_
      refine kV_R (n := 2) (ci := 5) (q := (RX5, TX5, 4)) S (m_lostOf lc D cI cZ N q qs qi qk ql mn tA sA kA nb ck hi lo ha cn sm im kp le lk i (by omega) (by omega)) gX5_lost_X5_lostOf rfl rfl (by decide +kernel) rfl rfl ⟨Nat.le_trans (Nat.le_of_ble_eq_true rfl) hfr, Nat.le_trans (Nat.le_of_ble_eq_true rfl) hlo⟩ hE hAN hP hD hS [0, 1, 2, 3, 4] rfl (by decide) rfl rfl rfl rfl hl.1 [.int (iI (sumTo (fun b => cn (lk * 200 + b) - cn ((lk + 1) * 200 + b)) i))] rfl (Nat.le_of_ble_eq_true rfl) dX5_lost_58 ⟨Nat.zero_le _, Nat.zero_le _⟩ ?_
      refine W.eq (g2 := F0 m 61 ls [.int (iI (cn (lk * 200 + i) - cn ((lk + 1) * 200 + i))), .int (iI (sumTo (fun b => cn (lk * 200 + b) - cn ((lk + 1) * 200 + b)) i))]) rfl ?_
      refine w_iadd S dX5_lost_61 ?_
      refine lv_istore_n (lv' := [(3, .int (iI ((sumTo (fun b => cn (lk * 200 + b) - cn ((lk + 1) * 200 + b)) i) + (cn (lk * 200 + i) - cn ((lk + 1) * 200 + i))))), (4, .int (iI (((i : Nat) : Int)))), (0, .ref q), (1, .int (iI (((lk : Nat) : Int)))), (2, .int (iI ((-1))))]) hx hb dX5_lost_62 rfl hl (by decide) rfl (fun ls hl => ?_)
      refine w_iinc (v := ((i + 1 : Nat) : Int)) (lv' := [(4, .int (iI (((i + 1 : Nat) : Int)))), (3, .int (iI ((sumTo (fun b => cn (lk * 200 + b) - cn ((lk + 1) * 200 + b)) i) + (cn (lk * 200 + i) - cn ((lk + 1) * 200 + i))))), (0, .ref q), (1, .int (iI (((lk : Nat) : Int)))), (2, .int (iI ((-1))))]) S dX5_lost_63 hl (k := 1) rfl (by omega) (by decide) rfl (fun ls hl => ?_)
      refine lv_goto (tgt := 37) hx hb dX5_lost_66 (by decide) ?_
      have hloc : ((sumTo (fun b => cn (lk * 200 + b) - cn ((lk + 1) * 200 + b)) i) + (cn (lk * 200 + i) - cn ((lk + 1) * 200 + i)) : Int) = sumTo (fun b => cn (lk * 200 + b) - cn ((lk + 1) * 200 + b)) (i + 1) := rfl
      rw [hloc] at hl
      exact ih4 (i + 1)  (by omega)  _ (lv_sub hl [0, 1, 2, 3, 4] rfl)
  have hloc : (0 : Int) = sumTo (fun b => cn (lk * 200 + b) - cn ((lk + 1) * 200 + b)) 0 := rfl
  rw [hloc] at hl
  exact loop4 200 0  (by omega)  _ (lv_sub hl [0, 1, 2, 3, 4] rfl)
set_option maxHeartbeats 4000000 in
set_option maxRecDepth 100000 in
theorem m_lost_1 (lc : Launch) (D : va_G) (cI cZ : ClassId) (N : Nat) (q : Nat) (qs : Nat) (qi : Nat) (qk : Nat) (ql : Nat) (mn : Nat) (tA : Int) (sA : Int) (kA : Int) (nb : Nat → Int) (ck : Nat → Int) (hi : Nat → Int) (lo : Nat → Int) (ha : Nat → Int) (cn : Nat → Int) (sm : Nat → Int) (im : Nat → Int) (kp : Nat → Int) (le : Nat → Int) (lk : Nat) (bk : Nat) (hmn : 2 ≤ mn ∧ mn ≤ 5) (h : lk + 2 ≤ mn) (h2 : bk < 200) : CR lc D cI cZ N yX5_lost wsX5_lost (rmK 2 44) [.ref q, .int (iI (((lk : Nat) : Int))), .int (iI (((bk : Nat) : Int)))] [(q, .inr (5, [.ref qs, .ref qi, .ref qk, .ref ql])), (qs, .inl (cI, 2108, .inl (vI (stF ((mn : Nat) : Int) tA sA kA nb ck hi lo ha cn sm)))), (qi, .inl (cI, 4216, .inl (vI im))), (qk, .inl (cZ, 2, .inl (vI kp))), (ql, .inl (cI, 25, .inl (vI le)))] (some (.int (iI (cn (lk * 200 + bk) - cn ((lk + 1) * 200 + bk))))) := by
  refine CR.I (cc := cX5_lost) (maxL := 5) (by decide) rfl (Nat.le_of_ble_eq_true rfl) ?_
  intro p e s m args below meth c R Q S hE A hAN hfr hlo hP hD hS hret ls hl
  have S : CallFix p m c cX5_lost 5 s args wsX5_lost RX5 := S
  have hx := S.1
  have hb := S.2.1
  have hl : lv_has ls 5 [(0, .ref q), (1, .int (iI (((lk : Nat) : Int)))), (2, .int (iI (((bk : Nat) : Int))))] := hl
  refine lv_aload_n hx hb dX5_lost_0 rfl (lv_at hl 0 rfl) ?_
  refine lv_iload_n hx hb dX5_lost_1 rfl (lv_at hl 1 rfl) ?_
  refine kV_R (n := 1) (ci := 5) (q := (RX5, TX5, 4)) S (m_isLink_T lc D cI cZ N q qs qi qk ql mn tA sA kA nb ck hi lo ha cn sm im kp le ((lk : Nat) : Int) (by omega) (by omega) (by omega)) gX5_lost_X5_isLink rfl rfl (by decide +kernel) rfl rfl ⟨Nat.le_trans (Nat.le_of_ble_eq_true rfl) hfr, Nat.le_trans (Nat.le_of_ble_eq_true rfl) hlo⟩ hE hAN hP hD hS [0, 1, 2, 3, 4] rfl (by decide) rfl rfl rfl rfl hl.1 [] rfl (Nat.le_of_ble_eq_true rfl) dX5_lost_2 ⟨Nat.zero_le _, Nat.zero_le _⟩ ?_
  refine W.eq (g2 := F0 m 5 ls [.int (iI (1))]) rfl ?_
  refine b_neT (tgt := 10) S dX5_lost_5 (by decide) (by decide) (by decide) ?_
  refine lv_iload_n hx hb dX5_lost_10 rfl (lv_at hl 2 rfl) ?_
  refine lv_iconst (v := iI ((-1))) hx hb dX5_lost_11 rfl ?_
  refine lv_sipush (v := iI (199)) hx hb dX5_lost_12 (by decide) ?_
  refine kS_R (n := 3) S (m_in_T lc D cI cZ N ((bk : Nat) : Int) (-1) 199 (by omega) (by omega) (by omega) (by omega)) gX5_lost_X5_in rfl (by decide +kernel) rfl rfl ⟨Nat.le_trans (Nat.le_of_ble_eq_true rfl) hfr, Nat.le_trans (Nat.le_of_ble_eq_true rfl) hlo⟩ hE hAN hP hD hS [] rfl (by decide) rfl hl.1 [] rfl (Nat.le_of_ble_eq_true rfl) dX5_lost_15 ⟨Nat.zero_le _, Nat.zero_le _⟩ ?_
  refine W.eq (g2 := F0 m 18 ls [.int (iI (1))]) rfl ?_
  refine b_neT (tgt := 24) S dX5_lost_18 (by decide) (by decide) (by decide) ?_
  refine lv_iconst (v := iI (0)) hx hb dX5_lost_24 rfl ?_
  refine lv_istore_n (lv' := [(3, .int (iI (0))), (0, .ref q), (1, .int (iI (((lk : Nat) : Int)))), (2, .int (iI (((bk : Nat) : Int))))]) hx hb dX5_lost_25 rfl hl (by decide) rfl (fun ls hl => ?_)
  refine lv_iload_n hx hb dX5_lost_26 rfl (lv_at hl 3 rfl) ?_
  refine b_geT (tgt := 34) S dX5_lost_27 (by decide) (by omega) (by omega) ?_
  refine lv_iload_n hx hb dX5_lost_34 rfl (lv_at hl 3 rfl) ?_
  refine lv_istore (lv' := [(4, .int (iI (((bk : Nat) : Int)))), (3, .int (iI (0))), (0, .ref q), (1, .int (iI (((lk : Nat) : Int)))), (2, .int (iI (((bk : Nat) : Int))))]) hx hb dX5_lost_35 hl (by decide) rfl (fun ls hl => ?_)
  refine lv_iload hx hb dX5_lost_37 (lv_at hl 0 rfl) ?_
  refine lv_iload_n hx hb dX5_lost_39 rfl (lv_at hl 4 rfl) ?_
  refine b_geT (tgt := 49) S dX5_lost_40 (by decide) (by omega) (by omega) ?_
  refine lv_iload_n hx hb dX5_lost_49 rfl (lv_at hl 4 rfl) ?_
  refine c_gtF (tgt := 69) S dX5_lost_50 (by decide) (by omega) (by omega) (by omega) ?_
  refine lv_iload_n hx hb dX5_lost_53 rfl (lv_at hl 1 rfl) ?_
  refine lv_aload_n hx hb dX5_lost_54 rfl (lv_at hl 2 rfl) ?_
  refine lv_iload_n hx hb dX5_lost_55 rfl (lv_at hl 3 rfl) ?_
  refine lv_iload hx hb dX5_lost_56 (lv_at hl 0 rfl) ?_
  refine kV_R (n := 2) (ci := 5) (q := (RX5, TX5, 4)) S (m_lostOf lc D cI cZ N q qs qi qk ql mn tA sA kA nb ck hi lo ha cn sm im kp le lk bk (by omega) (by omega)) gX5_lost_X5_lostOf rfl rfl (by decide +kernel) rfl rfl ⟨Nat.le_trans (Nat.le_of_ble_eq_true rfl) hfr, Nat.le_trans (Nat.le_of_ble_eq_true rfl) hlo⟩ hE hAN hP hD hS [0, 1, 2, 3, 4] rfl (by decide) rfl rfl rfl rfl hl.1 [.int (iI (0))] rfl (Nat.le_of_ble_eq_true rfl) dX5_lost_58 ⟨Nat.zero_le _, Nat.zero_le _⟩ ?_
  refine W.eq (g2 := F0 m 61 ls [.int (iI (cn (lk * 200 + bk) - cn ((lk + 1) * 200 + bk))), .int (iI (0))]) rfl ?_
  refine w_iadd S dX5_lost_61 ?_
  refine lv_istore_n (lv' := [(3, .int (iI (0 + (cn (lk * 200 + bk) - cn ((lk + 1) * 200 + bk))))), (4, .int (iI (((bk : Nat) : Int)))), (0, .ref q), (1, .int (iI (((lk : Nat) : Int)))), (2, .int (iI (((bk : Nat) : Int))))]) hx hb dX5_lost_62 rfl hl (by decide) rfl (fun ls hl => ?_)
  refine w_iinc (v := ((bk + 1 : Nat) : Int)) (lv' := [(4, .int (iI (((bk + 1 : Nat) : Int)))), (3, .int (iI (0 + (cn (lk * 200 + bk) - cn ((lk + 1) * 200 + bk))))), (0, .ref q), (1, .int (iI (((lk : Nat) : Int)))), (2, .int (iI (((bk : Nat) : Int))))]) S dX5_lost_63 hl (k := 1) rfl (by omega) (by decide) rfl (fun ls hl => ?_)
  refine lv_goto (tgt := 37) hx hb dX5_lost_66 (by decide) ?_
  refine lv_iload hx hb dX5_lost_37 (lv_at hl 0 rfl) ?_
  refine lv_iload_n hx hb dX5_lost_39 rfl (lv_at hl 4 rfl) ?_
  refine b_geT (tgt := 49) S dX5_lost_40 (by decide) (by omega) (by omega) ?_
  refine lv_iload_n hx hb dX5_lost_49 rfl (lv_at hl 4 rfl) ?_
  refine c_gtT (tgt := 69) S dX5_lost_50 (by decide) (by omega) (by omega) (by omega) ?_
  refine lv_iload_n hx hb dX5_lost_69 rfl (lv_at hl 1 rfl) ?_
  exact hret _ _ _ dX5_lost_70 (congrArg iI (by omega))
set_option maxHeartbeats 4000000 in
set_option maxRecDepth 100000 in
theorem m_common (lc : Launch) (D : va_G) (cI cZ : ClassId) (N : Nat) (w : Nat) (u : Int) (hu : -1000000000 ≤ u ∧ u ≤ 1000000000) (hw0 : 0 < w ∧ w ≤ 1000000) : CR lc D cI cZ N yX5_common wsX5_common (rmK 0 0) [.int (iI (((w : Nat) : Int))), .int (iI (u))] [] (some (.int (iI (((Nat.gcd u.natAbs w : Nat) : Int))))) := by
  refine CR.I (cc := cX5_common) (maxL := 5) (by decide) rfl (Nat.le_of_ble_eq_true rfl) ?_
  intro p e s m args below meth c R Q S hE A hAN hfr hlo hP hD hS hret ls hl
  have S : CallFix p m c cX5_common 5 s args wsX5_common RX5 := S
  have hx := S.1
  have hb := S.2.1
  have hl : lv_has ls 5 [(0, .int (iI (((w : Nat) : Int)))), (1, .int (iI (u)))] := hl
  by_cases h1 : u < 0
  · refine lv_iload_n hx hb dX5_common_0 rfl (lv_at hl 0 rfl) ?_
    refine lv_istore_n (lv' := [(2, .int (iI (((w : Nat) : Int)))), (0, .int (iI (((w : Nat) : Int)))), (1, .int (iI (u)))]) hx hb dX5_common_1 rfl hl (by decide) rfl (fun ls hl => ?_)
    refine lv_iload_n hx hb dX5_common_2 rfl (lv_at hl 2 rfl) ?_
    refine b_geF (tgt := 11) S dX5_common_3 (by decide) (by omega) (by omega) ?_
    refine lv_iload_n hx hb dX5_common_6 rfl (lv_at hl 2 rfl) ?_
    refine w_ineg S dX5_common_7 ?_
    refine lv_goto (tgt := 12) hx hb dX5_common_8 (by decide) ?_
    refine lv_istore_n (lv' := [(3, .int (iI (-u))), (2, .int (iI (((w : Nat) : Int)))), (0, .int (iI (((w : Nat) : Int)))), (1, .int (iI (u)))]) hx hb dX5_common_12 rfl hl (by decide) rfl (fun ls hl => ?_)
    have loop5 : ∀ (z0 y : Nat) (x : Nat), y ≤ z0 → (Nat.gcd x y = Nat.gcd w u.natAbs) → (x ≤ 1000000000 ∧ y ≤ 1000000000) → ∀ (ls : Array Slot), lv_has ls 5 [(3, .int (iI (((y : Nat) : Int)))), (2, .int (iI (((x : Nat) : Int))))] → W p lc e R s m args below meth c s.heap [] 0 0 Q (F0 m 13 ls []) := by
      intro z0
      induction z0 with
      | zero =>
        intro y x hm hg hxy ls hl
        refine lv_iload_n hx hb dX5_common_13 rfl (lv_at hl 0 rfl) ?_
        refine b_eqT (tgt := 30) S dX5_common_14 (by decide) (by omega) ?_
        refine lv_iload_n hx hb dX5_common_30 rfl (lv_at hl 1 rfl) ?_
        exact hret _ _ _ dX5_common_31 (congrArg iI (by rw [show y = 0 by omega, Nat.gcd_zero_right] at hg; rw [hg, gcd_c]))
      | succ z0 ih5 =>
        intro y x hm hg hxy ls hl
        by_cases hy : y = 0
        · refine lv_iload_n hx hb dX5_common_13 rfl (lv_at hl 0 rfl) ?_
          refine b_eqT (tgt := 30) S dX5_common_14 (by decide) (by omega) ?_
          refine lv_iload_n hx hb dX5_common_30 rfl (lv_at hl 1 rfl) ?_
          exact hret _ _ _ dX5_common_31 (congrArg iI (by rw [show y = 0 by omega, Nat.gcd_zero_right] at hg; rw [hg, gcd_c]))
        · refine lv_iload_n hx hb dX5_common_13 rfl (lv_at hl 0 rfl) ?_
          refine b_eqF (tgt := 30) S dX5_common_14 (by decide) (by omega) (by omega) ?_
          refine lv_iload_n hx hb dX5_common_17 rfl (lv_at hl 1 rfl) ?_
          refine lv_iload_n hx hb dX5_common_18 rfl (lv_at hl 0 rfl) ?_
          refine w_irem S (by omega) (by omega) dX5_common_19 ?_
          refine w_tz (z := ((x % y : Nat) : Int)) (tmodN x y) ?_
          refine lv_istore (lv' := [(4, .int (iI (((x % y : Nat) : Int)))), (3, .int (iI (((y : Nat) : Int)))), (2, .int (iI (((x : Nat) : Int))))]) hx hb dX5_common_20 hl (by decide) rfl (fun ls hl => ?_)
          refine lv_iload_n hx hb dX5_common_22 rfl (lv_at hl 1 rfl) ?_
          refine lv_istore_n (lv' := [(2, .int (iI (((y : Nat) : Int)))), (4, .int (iI (((x % y : Nat) : Int)))), (3, .int (iI (((y : Nat) : Int))))]) hx hb dX5_common_23 rfl hl (by decide) rfl (fun ls hl => ?_)
          refine lv_iload hx hb dX5_common_24 (lv_at hl 1 rfl) ?_
          refine lv_istore_n (lv' := [(3, .int (iI (((x % y : Nat) : Int)))), (2, .int (iI (((y : Nat) : Int)))), (4, .int (iI (((x % y : Nat) : Int))))]) hx hb dX5_common_26 rfl hl (by decide) rfl (fun ls hl => ?_)
          refine lv_goto (tgt := 13) hx hb dX5_common_27 (by decide) ?_
          exact ih5 (x % y) y (by have hq := Nat.mod_lt x (show 0 < y by omega); omega) (by rw [gcd_step]; exact hg) (by have hq := Nat.mod_lt x (show 0 < y by omega); omega) _ (lv_sub hl [0, 1] rfl)
    have hloc : (-u : Int) = ((u.natAbs : Nat) : Int) := (by omega)
    rw [hloc] at hl
    exact loop5 u.natAbs u.natAbs w (Nat.le_refl _) rfl (by omega) _ (lv_sub hl [0, 1] rfl)
  · refine lv_iload_n hx hb dX5_common_0 rfl (lv_at hl 0 rfl) ?_
    refine lv_istore_n (lv' := [(2, .int (iI (((w : Nat) : Int)))), (0, .int (iI (((w : Nat) : Int)))), (1, .int (iI (u)))]) hx hb dX5_common_1 rfl hl (by decide) rfl (fun ls hl => ?_)
    refine lv_iload_n hx hb dX5_common_2 rfl (lv_at hl 2 rfl) ?_
    refine b_geT (tgt := 11) S dX5_common_3 (by decide) (by omega) (by omega) ?_
    refine lv_iload_n hx hb dX5_common_11 rfl (lv_at hl 2 rfl) ?_
    refine lv_istore_n (lv' := [(3, .int (iI (u))), (2, .int (iI (((w : Nat) : Int)))), (0, .int (iI (((w : Nat) : Int)))), (1, .int (iI (u)))]) hx hb dX5_common_12 rfl hl (by decide) rfl (fun ls hl => ?_)
    have loop6 : ∀ (z0 y : Nat) (x : Nat), y ≤ z0 → (Nat.gcd x y = Nat.gcd w u.natAbs) → (x ≤ 1000000000 ∧ y ≤ 1000000000) → ∀ (ls : Array Slot), lv_has ls 5 [(3, .int (iI (((y : Nat) : Int)))), (2, .int (iI (((x : Nat) : Int))))] → W p lc e R s m args below meth c s.heap [] 0 0 Q (F0 m 13 ls []) := by
      intro z0
      induction z0 with
      | zero =>
        intro y x hm hg hxy ls hl
        refine lv_iload_n hx hb dX5_common_13 rfl (lv_at hl 0 rfl) ?_
        refine b_eqT (tgt := 30) S dX5_common_14 (by decide) (by omega) ?_
        refine lv_iload_n hx hb dX5_common_30 rfl (lv_at hl 1 rfl) ?_
        exact hret _ _ _ dX5_common_31 (congrArg iI (by rw [show y = 0 by omega, Nat.gcd_zero_right] at hg; rw [hg, gcd_c]))
      | succ z0 ih6 =>
        intro y x hm hg hxy ls hl
        by_cases hy : y = 0
        · refine lv_iload_n hx hb dX5_common_13 rfl (lv_at hl 0 rfl) ?_
          refine b_eqT (tgt := 30) S dX5_common_14 (by decide) (by omega) ?_
          refine lv_iload_n hx hb dX5_common_30 rfl (lv_at hl 1 rfl) ?_
          exact hret _ _ _ dX5_common_31 (congrArg iI (by rw [show y = 0 by omega, Nat.gcd_zero_right] at hg; rw [hg, gcd_c]))
        · refine lv_iload_n hx hb dX5_common_13 rfl (lv_at hl 0 rfl) ?_
          refine b_eqF (tgt := 30) S dX5_common_14 (by decide) (by omega) (by omega) ?_
          refine lv_iload_n hx hb dX5_common_17 rfl (lv_at hl 1 rfl) ?_
          refine lv_iload_n hx hb dX5_common_18 rfl (lv_at hl 0 rfl) ?_
          refine w_irem S (by omega) (by omega) dX5_common_19 ?_
          refine w_tz (z := ((x % y : Nat) : Int)) (tmodN x y) ?_
          refine lv_istore (lv' := [(4, .int (iI (((x % y : Nat) : Int)))), (3, .int (iI (((y : Nat) : Int)))), (2, .int (iI (((x : Nat) : Int))))]) hx hb dX5_common_20 hl (by decide) rfl (fun ls hl => ?_)
          refine lv_iload_n hx hb dX5_common_22 rfl (lv_at hl 1 rfl) ?_
          refine lv_istore_n (lv' := [(2, .int (iI (((y : Nat) : Int)))), (4, .int (iI (((x % y : Nat) : Int)))), (3, .int (iI (((y : Nat) : Int))))]) hx hb dX5_common_23 rfl hl (by decide) rfl (fun ls hl => ?_)
          refine lv_iload hx hb dX5_common_24 (lv_at hl 1 rfl) ?_
          refine lv_istore_n (lv' := [(3, .int (iI (((x % y : Nat) : Int)))), (2, .int (iI (((y : Nat) : Int)))), (4, .int (iI (((x % y : Nat) : Int))))]) hx hb dX5_common_26 rfl hl (by decide) rfl (fun ls hl => ?_)
          refine lv_goto (tgt := 13) hx hb dX5_common_27 (by decide) ?_
          exact ih6 (x % y) y (by have hq := Nat.mod_lt x (show 0 < y by omega); omega) (by rw [gcd_step]; exact hg) (by have hq := Nat.mod_lt x (show 0 < y by omega); omega) _ (lv_sub hl [0, 1] rfl)
    have hloc : (u : Int) = ((u.natAbs : Nat) : Int) := (by omega)
    rw [hloc] at hl
    exact loop6 u.natAbs u.natAbs w (Nat.le_refl _) rfl (by omega) _ (lv_sub hl [0, 1] rfl)
set_option maxHeartbeats 4000000 in
set_option maxRecDepth 100000 in
theorem m_told_0 (lc : Launch) (D : va_G) (cI cZ : ClassId) (N : Nat) (u : Int) (w : Nat) (pt : Int) (hu : -1000000000 ≤ u ∧ u ≤ 1000000000) (hw0 : 0 < w ∧ w ≤ 1000000) (hq : pt = 0) : CR lc D cI cZ N yX5_told wsX5_told (rmK 1 24) [.int (iI (u)), .int (iI (((w : Nat) : Int))), .int (iI (pt))] [] (some (.int (iI (u.tdiv ((Nat.gcd u.natAbs w : Nat) : Int))))) := by
  refine CR.I (cc := cX5_told) (maxL := 4) (by decide) rfl (Nat.le_of_ble_eq_true rfl) ?_
  intro p e s m args below meth c R Q S hE A hAN hfr hlo hP hD hS hret ls hl
  have S : CallFix p m c cX5_told 4 s args wsX5_told RX5 := S
  have hx := S.1
  have hb := S.2.1
  have hl : lv_has ls 4 [(0, .int (iI (u))), (1, .int (iI (((w : Nat) : Int)))), (2, .int (iI (pt)))] := hl
  have h1 := gcd_pos (x := u.natAbs) hw0.1
  refine lv_iload_n hx hb dX5_told_0 rfl (lv_at hl 1 rfl) ?_
  refine lv_iload_n hx hb dX5_told_1 rfl (lv_at hl 0 rfl) ?_
  refine kS_R (n := 2) S (m_common lc D cI cZ N w u (by omega) (by omega)) gX5_told_X5_common rfl (by decide +kernel) rfl rfl ⟨Nat.le_trans (Nat.le_of_ble_eq_true rfl) hfr, Nat.le_trans (Nat.le_of_ble_eq_true rfl) hlo⟩ hE hAN hP hD hS [] rfl (by decide) rfl hl.1 [] rfl (Nat.le_of_ble_eq_true rfl) dX5_told_2 ⟨Nat.zero_le _, Nat.zero_le _⟩ ?_
  refine W.eq (g2 := F0 m 5 ls [.int (iI (((Nat.gcd u.natAbs w : Nat) : Int)))]) rfl ?_
  refine lv_istore_n (lv' := [(3, .int (iI (((Nat.gcd u.natAbs w : Nat) : Int)))), (0, .int (iI (u))), (1, .int (iI (((w : Nat) : Int)))), (2, .int (iI (pt)))]) hx hb dX5_told_5 rfl hl (by decide) rfl (fun ls hl => ?_)
  refine lv_iload_n hx hb dX5_told_6 rfl (lv_at hl 3 rfl) ?_
  refine b_neF (tgt := 16) S dX5_told_7 (by decide) (by omega) ?_
  refine lv_iload_n hx hb dX5_told_10 rfl (lv_at hl 1 rfl) ?_
  refine lv_iload_n hx hb dX5_told_11 rfl (lv_at hl 0 rfl) ?_
  refine w_idiv S (by omega) (by omega) dX5_told_12 ?_
  refine lv_goto (tgt := 19) hx hb dX5_told_13 (by decide) ?_
  exact hret _ _ _ dX5_told_19 rfl
set_option maxHeartbeats 4000000 in
set_option maxRecDepth 100000 in
theorem m_told_1 (lc : Launch) (D : va_G) (cI cZ : ClassId) (N : Nat) (u : Int) (w : Nat) (pt : Int) (hu : -1000000000 ≤ u ∧ u ≤ 1000000000) (hw0 : 0 < w ∧ w ≤ 1000000) (hq : pt = 1) : CR lc D cI cZ N yX5_told wsX5_told (rmK 1 24) [.int (iI (u)), .int (iI (((w : Nat) : Int))), .int (iI (pt))] [] (some (.int (iI (((w : Nat) : Int).tdiv ((Nat.gcd u.natAbs w : Nat) : Int))))) := by
  refine CR.I (cc := cX5_told) (maxL := 4) (by decide) rfl (Nat.le_of_ble_eq_true rfl) ?_
  intro p e s m args below meth c R Q S hE A hAN hfr hlo hP hD hS hret ls hl
  have S : CallFix p m c cX5_told 4 s args wsX5_told RX5 := S
  have hx := S.1
  have hb := S.2.1
  have hl : lv_has ls 4 [(0, .int (iI (u))), (1, .int (iI (((w : Nat) : Int)))), (2, .int (iI (pt)))] := hl
  have h1 := gcd_pos (x := u.natAbs) hw0.1
  refine lv_iload_n hx hb dX5_told_0 rfl (lv_at hl 1 rfl) ?_
  refine lv_iload_n hx hb dX5_told_1 rfl (lv_at hl 0 rfl) ?_
  refine kS_R (n := 2) S (m_common lc D cI cZ N w u (by omega) (by omega)) gX5_told_X5_common rfl (by decide +kernel) rfl rfl ⟨Nat.le_trans (Nat.le_of_ble_eq_true rfl) hfr, Nat.le_trans (Nat.le_of_ble_eq_true rfl) hlo⟩ hE hAN hP hD hS [] rfl (by decide) rfl hl.1 [] rfl (Nat.le_of_ble_eq_true rfl) dX5_told_2 ⟨Nat.zero_le _, Nat.zero_le _⟩ ?_
  refine W.eq (g2 := F0 m 5 ls [.int (iI (((Nat.gcd u.natAbs w : Nat) : Int)))]) rfl ?_
  refine lv_istore_n (lv' := [(3, .int (iI (((Nat.gcd u.natAbs w : Nat) : Int)))), (0, .int (iI (u))), (1, .int (iI (((w : Nat) : Int)))), (2, .int (iI (pt)))]) hx hb dX5_told_5 rfl hl (by decide) rfl (fun ls hl => ?_)
  refine lv_iload_n hx hb dX5_told_6 rfl (lv_at hl 3 rfl) ?_
  refine b_neT (tgt := 16) S dX5_told_7 (by decide) (by omega) (by omega) ?_
  refine lv_iload_n hx hb dX5_told_16 rfl (lv_at hl 2 rfl) ?_
  refine lv_iload_n hx hb dX5_told_17 rfl (lv_at hl 0 rfl) ?_
  refine w_idiv S (by omega) (by omega) dX5_told_18 ?_
  exact hret _ _ _ dX5_told_19 rfl
set_option maxHeartbeats 4000000 in
set_option maxRecDepth 100000 in
theorem m_isTaken_T (lc : Launch) (D : va_G) (cI cZ : ClassId) (N : Nat) (q : Nat) (qs : Nat) (qi : Nat) (qk : Nat) (ql : Nat) (mn : Nat) (tA : Int) (sA : Int) (kA : Int) (nb : Nat → Int) (ck : Nat → Int) (hi : Nat → Int) (lo : Nat → Int) (ha : Nat → Int) (cn : Nat → Int) (sm : Nat → Int) (im : Nat → Int) (kp : Nat → Int) (le : Nat → Int) (f : Nat) (g : Nat) (bk : Nat) (hf : f < 5) (hg : g < 5) (hb2 : bk < 200) (hcn : ∀ k, k < 1000 → 0 ≤ cn k ∧ cn k ≤ 200) (h : 0 < cn (f * 200 + bk) ∧ cn (f * 200 + bk) = cn (g * 200 + bk)) : CR lc D cI cZ N yX5_isTaken wsX5_isTaken (rmK 1 22) [.ref q, .int (iI (((f : Nat) : Int))), .int (iI (((g : Nat) : Int))), .int (iI (((bk : Nat) : Int)))] [(q, .inr (5, [.ref qs, .ref qi, .ref qk, .ref ql])), (qs, .inl (cI, 2108, .inl (vI (stF ((mn : Nat) : Int) tA sA kA nb ck hi lo ha cn sm)))), (qi, .inl (cI, 4216, .inl (vI im))), (qk, .inl (cZ, 2, .inl (vI kp))), (ql, .inl (cI, 25, .inl (vI le)))] (some (.int (iI (1)))) := by
  refine CR.Z (cc := cX5_isTaken) (maxL := 4) (by decide) rfl (Nat.le_of_ble_eq_true rfl) ?_
  intro p e s m args below meth c R Q S hE A hAN hfr hlo hP hD hS hret ls hl
  have S : CallFix p m c cX5_isTaken 4 s args wsX5_isTaken RX5 := S
  have hx := S.1
  have hb := S.2.1
  have hl : lv_has ls 4 [(0, .ref q), (1, .int (iI (((f : Nat) : Int)))), (2, .int (iI (((g : Nat) : Int)))), (3, .int (iI (((bk : Nat) : Int))))] := hl
  have h7 := hcn (f * 200 + bk) (by omega)
  have h8 := hcn (g * 200 + bk) (by omega)
  refine lv_aload_n hx hb dX5_isTaken_0 rfl (lv_at hl 0 rfl) ?_
  refine lv_iload_n hx hb dX5_isTaken_1 rfl (lv_at hl 2 rfl) ?_
  refine lv_iload_n hx hb dX5_isTaken_2 rfl (lv_at hl 3 rfl) ?_
  refine kV_R (n := 2) (ci := 5) (q := (RX5, TX5, 4)) S (m_countOf lc D cI cZ N q qs qi qk ql mn tA sA kA nb ck hi lo ha cn sm im kp le g bk (by omega) (by omega)) gX5_isTaken_X5_countOf rfl rfl (by decide +kernel) rfl rfl ⟨Nat.le_trans (Nat.le_of_ble_eq_true rfl) hfr, Nat.le_trans (Nat.le_of_ble_eq_true rfl) hlo⟩ hE hAN hP hD hS [0, 1, 2, 3, 4] rfl (by decide) rfl rfl rfl rfl hl.1 [] rfl (Nat.le_of_ble_eq_true rfl) dX5_isTaken_3 ⟨Nat.zero_le _, Nat.zero_le _⟩ ?_
  refine W.eq (g2 := F0 m 6 ls [.int (iI (cn (g * 200 + bk)))]) rfl ?_
  refine b_leF (tgt := 28) S dX5_isTaken_6 (by decide) (by omega) (by omega) ?_
  refine lv_aload_n hx hb dX5_isTaken_9 rfl (lv_at hl 0 rfl) ?_
  refine lv_iload_n hx hb dX5_isTaken_10 rfl (lv_at hl 1 rfl) ?_
  refine lv_iload_n hx hb dX5_isTaken_11 rfl (lv_at hl 3 rfl) ?_
  refine kV_R (n := 2) (ci := 5) (q := (RX5, TX5, 4)) S (m_countOf lc D cI cZ N q qs qi qk ql mn tA sA kA nb ck hi lo ha cn sm im kp le f bk (by omega) (by omega)) gX5_isTaken_X5_countOf rfl rfl (by decide +kernel) rfl rfl ⟨Nat.le_trans (Nat.le_of_ble_eq_true rfl) hfr, Nat.le_trans (Nat.le_of_ble_eq_true rfl) hlo⟩ hE hAN hP hD hS [0, 1, 2, 3, 4] rfl (by decide) rfl rfl rfl rfl hl.1 [] rfl (Nat.le_of_ble_eq_true rfl) dX5_isTaken_12 ⟨Nat.zero_le _, Nat.zero_le _⟩ ?_
  refine W.eq (g2 := F0 m 15 ls [.int (iI (cn (f * 200 + bk)))]) rfl ?_
  refine lv_aload_n hx hb dX5_isTaken_15 rfl (lv_at hl 0 rfl) ?_
  refine lv_iload_n hx hb dX5_isTaken_16 rfl (lv_at hl 2 rfl) ?_
  refine lv_iload_n hx hb dX5_isTaken_17 rfl (lv_at hl 3 rfl) ?_
  refine kV_R (n := 2) (ci := 5) (q := (RX5, TX5, 4)) S (m_countOf lc D cI cZ N q qs qi qk ql mn tA sA kA nb ck hi lo ha cn sm im kp le g bk (by omega) (by omega)) gX5_isTaken_X5_countOf rfl rfl (by decide +kernel) rfl rfl ⟨Nat.le_trans (Nat.le_of_ble_eq_true rfl) hfr, Nat.le_trans (Nat.le_of_ble_eq_true rfl) hlo⟩ hE hAN hP hD hS [0, 1, 2, 3, 4] rfl (by decide) rfl rfl rfl rfl hl.1 [.int (iI (cn (f * 200 + bk)))] rfl (Nat.le_of_ble_eq_true rfl) dX5_isTaken_18 ⟨Nat.zero_le _, Nat.zero_le _⟩ ?_
  refine W.eq (g2 := F0 m 21 ls [.int (iI (cn (g * 200 + bk))), .int (iI (cn (f * 200 + bk)))]) rfl ?_
  refine c_neF (tgt := 28) S dX5_isTaken_21 (by decide) (by omega) ?_
  refine lv_iconst (v := iI (1)) hx hb dX5_isTaken_24 rfl ?_
  refine lv_goto (tgt := 29) hx hb dX5_isTaken_25 (by decide) ?_
  exact hret _ _ _ dX5_isTaken_29 rfl (Or.inr rfl)
set_option maxHeartbeats 4000000 in
set_option maxRecDepth 100000 in
theorem m_isTaken_F (lc : Launch) (D : va_G) (cI cZ : ClassId) (N : Nat) (q : Nat) (qs : Nat) (qi : Nat) (qk : Nat) (ql : Nat) (mn : Nat) (tA : Int) (sA : Int) (kA : Int) (nb : Nat → Int) (ck : Nat → Int) (hi : Nat → Int) (lo : Nat → Int) (ha : Nat → Int) (cn : Nat → Int) (sm : Nat → Int) (im : Nat → Int) (kp : Nat → Int) (le : Nat → Int) (f : Nat) (g : Nat) (bk : Nat) (hf : f < 5) (hg : g < 5) (hb2 : bk < 200) (hcn : ∀ k, k < 1000 → 0 ≤ cn k ∧ cn k ≤ 200) (h : ¬ (0 < cn (f * 200 + bk) ∧ cn (f * 200 + bk) = cn (g * 200 + bk))) : CR lc D cI cZ N yX5_isTaken wsX5_isTaken (rmK 1 22) [.ref q, .int (iI (((f : Nat) : Int))), .int (iI (((g : Nat) : Int))), .int (iI (((bk : Nat) : Int)))] [(q, .inr (5, [.ref qs, .ref qi, .ref qk, .ref ql])), (qs, .inl (cI, 2108, .inl (vI (stF ((mn : Nat) : Int) tA sA kA nb ck hi lo ha cn sm)))), (qi, .inl (cI, 4216, .inl (vI im))), (qk, .inl (cZ, 2, .inl (vI kp))), (ql, .inl (cI, 25, .inl (vI le)))] (some (.int (iI (0)))) := by
  refine CR.Z (cc := cX5_isTaken) (maxL := 4) (by decide) rfl (Nat.le_of_ble_eq_true rfl) ?_
  intro p e s m args below meth c R Q S hE A hAN hfr hlo hP hD hS hret ls hl
  have S : CallFix p m c cX5_isTaken 4 s args wsX5_isTaken RX5 := S
  have hx := S.1
  have hb := S.2.1
  have hl : lv_has ls 4 [(0, .ref q), (1, .int (iI (((f : Nat) : Int)))), (2, .int (iI (((g : Nat) : Int)))), (3, .int (iI (((bk : Nat) : Int))))] := hl
  have h7 := hcn (f * 200 + bk) (by omega)
  have h8 := hcn (g * 200 + bk) (by omega)
  by_cases h3 : 0 < cn (g * 200 + bk)
  · refine lv_aload_n hx hb dX5_isTaken_0 rfl (lv_at hl 0 rfl) ?_
    refine lv_iload_n hx hb dX5_isTaken_1 rfl (lv_at hl 2 rfl) ?_
    refine lv_iload_n hx hb dX5_isTaken_2 rfl (lv_at hl 3 rfl) ?_
    refine kV_R (n := 2) (ci := 5) (q := (RX5, TX5, 4)) S (m_countOf lc D cI cZ N q qs qi qk ql mn tA sA kA nb ck hi lo ha cn sm im kp le g bk (by omega) (by omega)) gX5_isTaken_X5_countOf rfl rfl (by decide +kernel) rfl rfl ⟨Nat.le_trans (Nat.le_of_ble_eq_true rfl) hfr, Nat.le_trans (Nat.le_of_ble_eq_true rfl) hlo⟩ hE hAN hP hD hS [0, 1, 2, 3, 4] rfl (by decide) rfl rfl rfl rfl hl.1 [] rfl (Nat.le_of_ble_eq_true rfl) dX5_isTaken_3 ⟨Nat.zero_le _, Nat.zero_le _⟩ ?_
    refine W.eq (g2 := F0 m 6 ls [.int (iI (cn (g * 200 + bk)))]) rfl ?_
    refine b_leF (tgt := 28) S dX5_isTaken_6 (by decide) (by omega) (by omega) ?_
    refine lv_aload_n hx hb dX5_isTaken_9 rfl (lv_at hl 0 rfl) ?_
    refine lv_iload_n hx hb dX5_isTaken_10 rfl (lv_at hl 1 rfl) ?_
    refine lv_iload_n hx hb dX5_isTaken_11 rfl (lv_at hl 3 rfl) ?_
    refine kV_R (n := 2) (ci := 5) (q := (RX5, TX5, 4)) S (m_countOf lc D cI cZ N q qs qi qk ql mn tA sA kA nb ck hi lo ha cn sm im kp le f bk (by omega) (by omega)) gX5_isTaken_X5_countOf rfl rfl (by decide +kernel) rfl rfl ⟨Nat.le_trans (Nat.le_of_ble_eq_true rfl) hfr, Nat.le_trans (Nat.le_of_ble_eq_true rfl) hlo⟩ hE hAN hP hD hS [0, 1, 2, 3, 4] rfl (by decide) rfl rfl rfl rfl hl.1 [] rfl (Nat.le_of_ble_eq_true rfl) dX5_isTaken_12 ⟨Nat.zero_le _, Nat.zero_le _⟩ ?_
    refine W.eq (g2 := F0 m 15 ls [.int (iI (cn (f * 200 + bk)))]) rfl ?_
    refine lv_aload_n hx hb dX5_isTaken_15 rfl (lv_at hl 0 rfl) ?_
    refine lv_iload_n hx hb dX5_isTaken_16 rfl (lv_at hl 2 rfl) ?_
    refine lv_iload_n hx hb dX5_isTaken_17 rfl (lv_at hl 3 rfl) ?_
    refine kV_R (n := 2) (ci := 5) (q := (RX5, TX5, 4)) S (m_countOf lc D cI cZ N q qs qi qk ql mn tA sA kA nb ck hi lo ha cn sm im kp le g bk (by omega) (by omega)) gX5_isTaken_X5_countOf rfl rfl (by decide +kernel) rfl rfl ⟨Nat.le_trans (Nat.le_of_ble_eq_true rfl) hfr, Nat.le_trans (Nat.le_of_ble_eq_true rfl) hlo⟩ hE hAN hP hD hS [0, 1, 2, 3, 4] rfl (by decide) rfl rfl rfl rfl hl.1 [.int (iI (cn (f * 200 + bk)))] rfl (Nat.le_of_ble_eq_true rfl) dX5_isTaken_18 ⟨Nat.zero_le _, Nat.zero_le _⟩ ?_
    refine W.eq (g2 := F0 m 21 ls [.int (iI (cn (g * 200 + bk))), .int (iI (cn (f * 200 + bk)))]) rfl ?_
    refine c_neT (tgt := 28) S dX5_isTaken_21 (by decide) (by omega) (by omega) (by omega) ?_
    refine lv_iconst (v := iI (0)) hx hb dX5_isTaken_28 rfl ?_
    exact hret _ _ _ dX5_isTaken_29 rfl (Or.inl rfl)
  · refine lv_aload_n hx hb dX5_isTaken_0 rfl (lv_at hl 0 rfl) ?_
    refine lv_iload_n hx hb dX5_isTaken_1 rfl (lv_at hl 2 rfl) ?_
    refine lv_iload_n hx hb dX5_isTaken_2 rfl (lv_at hl 3 rfl) ?_
    refine kV_R (n := 2) (ci := 5) (q := (RX5, TX5, 4)) S (m_countOf lc D cI cZ N q qs qi qk ql mn tA sA kA nb ck hi lo ha cn sm im kp le g bk (by omega) (by omega)) gX5_isTaken_X5_countOf rfl rfl (by decide +kernel) rfl rfl ⟨Nat.le_trans (Nat.le_of_ble_eq_true rfl) hfr, Nat.le_trans (Nat.le_of_ble_eq_true rfl) hlo⟩ hE hAN hP hD hS [0, 1, 2, 3, 4] rfl (by decide) rfl rfl rfl rfl hl.1 [] rfl (Nat.le_of_ble_eq_true rfl) dX5_isTaken_3 ⟨Nat.zero_le _, Nat.zero_le _⟩ ?_
    refine W.eq (g2 := F0 m 6 ls [.int (iI (cn (g * 200 + bk)))]) rfl ?_
    refine b_leT (tgt := 28) S dX5_isTaken_6 (by decide) (by omega) (by omega) ?_
    refine lv_iconst (v := iI (0)) hx hb dX5_isTaken_28 rfl ?_
    exact hret _ _ _ dX5_isTaken_29 rfl (Or.inl rfl)
set_option maxHeartbeats 4000000 in
set_option maxRecDepth 100000 in
theorem m_took_U (lc : Launch) (D : va_G) (cI cZ : ClassId) (N : Nat) (q : Nat) (qs : Nat) (qi : Nat) (qk : Nat) (ql : Nat) (mn : Nat) (tA : Int) (sA : Int) (kA : Int) (nb : Nat → Int) (ck : Nat → Int) (hi : Nat → Int) (lo : Nat → Int) (ha : Nat → Int) (cn : Nat → Int) (sm : Nat → Int) (im : Nat → Int) (kp : Nat → Int) (le : Nat → Int) (x : Int) (y : Int) (z : Int) (u : Int) (hmn : 2 ≤ mn ∧ mn ≤ 5) (r_x : -2147483648 ≤ x ∧ x ≤ 2147483647) (r_y : -2147483648 ≤ y ∧ y ≤ 2147483647) (h : ¬ ((0 ≤ x ∧ x ≤ (mn : Int) - 1) ∧ (0 ≤ y ∧ y ≤ (mn : Int) - 1))) : CR lc D cI cZ N yX5_took wsX5_took (rmK 2 47) [.ref q, .int (iI (x)), .int (iI (y)), .int (iI (z)), .int (iI (u))] [(q, .inr (5, [.ref qs, .ref qi, .ref qk, .ref ql])), (qs, .inl (cI, 2108, .inl (vI (stF ((mn : Nat) : Int) tA sA kA nb ck hi lo ha cn sm)))), (qi, .inl (cI, 4216, .inl (vI im))), (qk, .inl (cZ, 2, .inl (vI kp))), (ql, .inl (cI, 25, .inl (vI le)))] (some (.int (iI (-1000000001)))) := by
  refine CR.I (cc := cX5_took) (maxL := 5) (by decide) rfl (Nat.le_of_ble_eq_true rfl) ?_
  intro p e s m args below meth c R Q S hE A hAN hfr hlo hP hD hS hret ls hl
  have S : CallFix p m c cX5_took 5 s args wsX5_took RX5 := S
  have hx := S.1
  have hb := S.2.1
  have hl : lv_has ls 5 [(0, .ref q), (1, .int (iI (x))), (2, .int (iI (y))), (3, .int (iI (z))), (4, .int (iI (u)))] := hl
  by_cases h3 : (0 ≤ x ∧ x ≤ (mn : Int) - 1)
  · refine lv_aload_n hx hb dX5_took_0 rfl (lv_at hl 0 rfl) ?_
    refine lv_iload_n hx hb dX5_took_1 rfl (lv_at hl 1 rfl) ?_
    refine kV_R (n := 1) (ci := 5) (q := (RX5, TX5, 4)) S (m_isNode_T lc D cI cZ N q qs qi qk ql mn tA sA kA nb ck hi lo ha cn sm im kp le x (by omega) (by omega) (by omega)) gX5_took_X5_isNode rfl rfl (by decide +kernel) rfl rfl ⟨Nat.le_trans (Nat.le_of_ble_eq_true rfl) hfr, Nat.le_trans (Nat.le_of_ble_eq_true rfl) hlo⟩ hE hAN hP hD hS [0, 1, 2, 3, 4] rfl (by decide) rfl rfl rfl rfl hl.1 [] rfl (Nat.le_of_ble_eq_true rfl) dX5_took_2 ⟨Nat.zero_le _, Nat.zero_le _⟩ ?_
    refine W.eq (g2 := F0 m 5 ls [.int (iI (1))]) rfl ?_
    refine b_eqF (tgt := 16) S dX5_took_5 (by decide) (by decide) (by decide) ?_
    refine lv_aload_n hx hb dX5_took_8 rfl (lv_at hl 0 rfl) ?_
    refine lv_iload_n hx hb dX5_took_9 rfl (lv_at hl 2 rfl) ?_
    refine kV_R (n := 1) (ci := 5) (q := (RX5, TX5, 4)) S (m_isNode_F lc D cI cZ N q qs qi qk ql mn tA sA kA nb ck hi lo ha cn sm im kp le y (by omega) (by omega) (by omega)) gX5_took_X5_isNode rfl rfl (by decide +kernel) rfl rfl ⟨Nat.le_trans (Nat.le_of_ble_eq_true rfl) hfr, Nat.le_trans (Nat.le_of_ble_eq_true rfl) hlo⟩ hE hAN hP hD hS [0, 1, 2, 3, 4] rfl (by decide) rfl rfl rfl rfl hl.1 [] rfl (Nat.le_of_ble_eq_true rfl) dX5_took_10 ⟨Nat.zero_le _, Nat.zero_le _⟩ ?_
    refine W.eq (g2 := F0 m 13 ls [.int (iI (0))]) rfl ?_
    refine b_neF (tgt := 19) S dX5_took_13 (by decide) (by decide) ?_
    refine w_ldc (z := (-1000000001)) S (List.mem_of_getElem? (i := 1) rfl) (by decide) dX5_took_16 ?_
    exact hret _ _ _ dX5_took_18 (congrArg iI (by omega))
  · refine lv_aload_n hx hb dX5_took_0 rfl (lv_at hl 0 rfl) ?_
    refine lv_iload_n hx hb dX5_took_1 rfl (lv_at hl 1 rfl) ?_
    refine kV_R (n := 1) (ci := 5) (q := (RX5, TX5, 4)) S (m_isNode_F lc D cI cZ N q qs qi qk ql mn tA sA kA nb ck hi lo ha cn sm im kp le x (by omega) (by omega) (by omega)) gX5_took_X5_isNode rfl rfl (by decide +kernel) rfl rfl ⟨Nat.le_trans (Nat.le_of_ble_eq_true rfl) hfr, Nat.le_trans (Nat.le_of_ble_eq_true rfl) hlo⟩ hE hAN hP hD hS [0, 1, 2, 3, 4] rfl (by decide) rfl rfl rfl rfl hl.1 [] rfl (Nat.le_of_ble_eq_true rfl) dX5_took_2 ⟨Nat.zero_le _, Nat.zero_le _⟩ ?_
    refine W.eq (g2 := F0 m 5 ls [.int (iI (0))]) rfl ?_
    refine b_eqT (tgt := 16) S dX5_took_5 (by decide) (by decide) ?_
    refine w_ldc (z := (-1000000001)) S (List.mem_of_getElem? (i := 1) rfl) (by decide) dX5_took_16 ?_
    exact hret _ _ _ dX5_took_18 (congrArg iI (by omega))
set_option maxHeartbeats 4000000 in
set_option maxRecDepth 100000 in
theorem m_took_O (lc : Launch) (D : va_G) (cI cZ : ClassId) (N : Nat) (q : Nat) (qs : Nat) (qi : Nat) (qk : Nat) (ql : Nat) (mn : Nat) (tA : Int) (sA : Int) (kA : Int) (nb : Nat → Int) (ck : Nat → Int) (hi : Nat → Int) (lo : Nat → Int) (ha : Nat → Int) (cn : Nat → Int) (sm : Nat → Int) (im : Nat → Int) (kp : Nat → Int) (le : Nat → Int) (x : Int) (y : Int) (z : Int) (u : Int) (hmn : 2 ≤ mn ∧ mn ≤ 5) (r_x : -2147483648 ≤ x ∧ x ≤ 2147483647) (r_y : -2147483648 ≤ y ∧ y ≤ 2147483647) (r_z : -2147483648 ≤ z ∧ z ≤ 2147483647) (r_u : -2147483648 ≤ u ∧ u ≤ 2147483647) (h1 : (0 ≤ x ∧ x ≤ (mn : Int) - 1)) (h2 : (0 ≤ y ∧ y ≤ (mn : Int) - 1)) (h : ¬ (x < y ∧ (0 ≤ z ∧ z ≤ 199) ∧ (0 ≤ u ∧ u ≤ 1))) : CR lc D cI cZ N yX5_took wsX5_took (rmK 2 47) [.ref q, .int (iI (x)), .int (iI (y)), .int (iI (z)), .int (iI (u))] [(q, .inr (5, [.ref qs, .ref qi, .ref qk, .ref ql])), (qs, .inl (cI, 2108, .inl (vI (stF ((mn : Nat) : Int) tA sA kA nb ck hi lo ha cn sm)))), (qi, .inl (cI, 4216, .inl (vI im))), (qk, .inl (cZ, 2, .inl (vI kp))), (ql, .inl (cI, 25, .inl (vI le)))] (some (.int (iI (-1000000002)))) := by
  refine CR.I (cc := cX5_took) (maxL := 5) (by decide) rfl (Nat.le_of_ble_eq_true rfl) ?_
  intro p e s m args below meth c R Q S hE A hAN hfr hlo hP hD hS hret ls hl
  have S : CallFix p m c cX5_took 5 s args wsX5_took RX5 := S
  have hx := S.1
  have hb := S.2.1
  have hl : lv_has ls 5 [(0, .ref q), (1, .int (iI (x))), (2, .int (iI (y))), (3, .int (iI (z))), (4, .int (iI (u)))] := hl
  refine lv_aload_n hx hb dX5_took_0 rfl (lv_at hl 0 rfl) ?_
  refine lv_iload_n hx hb dX5_took_1 rfl (lv_at hl 1 rfl) ?_
  refine kV_R (n := 1) (ci := 5) (q := (RX5, TX5, 4)) S (m_isNode_T lc D cI cZ N q qs qi qk ql mn tA sA kA nb ck hi lo ha cn sm im kp le x (by omega) (by omega) (by omega)) gX5_took_X5_isNode rfl rfl (by decide +kernel) rfl rfl ⟨Nat.le_trans (Nat.le_of_ble_eq_true rfl) hfr, Nat.le_trans (Nat.le_of_ble_eq_true rfl) hlo⟩ hE hAN hP hD hS [0, 1, 2, 3, 4] rfl (by decide) rfl rfl rfl rfl hl.1 [] rfl (Nat.le_of_ble_eq_true rfl) dX5_took_2 ⟨Nat.zero_le _, Nat.zero_le _⟩ ?_
  refine W.eq (g2 := F0 m 5 ls [.int (iI (1))]) rfl ?_
  refine b_eqF (tgt := 16) S dX5_took_5 (by decide) (by decide) (by decide) ?_
  refine lv_aload_n hx hb dX5_took_8 rfl (lv_at hl 0 rfl) ?_
  refine lv_iload_n hx hb dX5_took_9 rfl (lv_at hl 2 rfl) ?_
  refine kV_R (n := 1) (ci := 5) (q := (RX5, TX5, 4)) S (m_isNode_T lc D cI cZ N q qs qi qk ql mn tA sA kA nb ck hi lo ha cn sm im kp le y (by omega) (by omega) (by omega)) gX5_took_X5_isNode rfl rfl (by decide +kernel) rfl rfl ⟨Nat.le_trans (Nat.le_of_ble_eq_true rfl) hfr, Nat.le_trans (Nat.le_of_ble_eq_true rfl) hlo⟩ hE hAN hP hD hS [0, 1, 2, 3, 4] rfl (by decide) rfl rfl rfl rfl hl.1 [] rfl (Nat.le_of_ble_eq_true rfl) dX5_took_10 ⟨Nat.zero_le _, Nat.zero_le _⟩ ?_
  refine W.eq (g2 := F0 m 13 ls [.int (iI (1))]) rfl ?_
  refine b_neT (tgt := 19) S dX5_took_13 (by decide) (by decide) (by decide) ?_
  by_cases h3 : x < y
  · refine lv_iload_n hx hb dX5_took_19 rfl (lv_at hl 2 rfl) ?_
    refine lv_iload_n hx hb dX5_took_20 rfl (lv_at hl 1 rfl) ?_
    refine c_leF (tgt := 41) S dX5_took_21 (by decide) (by omega) (by omega) (by omega) ?_
    by_cases h4 : (0 ≤ z ∧ z ≤ 199)
    · refine lv_iload_n hx hb dX5_took_24 rfl (lv_at hl 3 rfl) ?_
      refine kS_R (n := 1) S (m_isBlock_T lc D cI cZ N z (by omega) (by omega)) gX5_took_X5_isBlock rfl (by decide +kernel) rfl rfl ⟨Nat.le_trans (Nat.le_of_ble_eq_true rfl) hfr, Nat.le_trans (Nat.le_of_ble_eq_true rfl) hlo⟩ hE hAN hP hD hS [] rfl (by decide) rfl hl.1 [] rfl (Nat.le_of_ble_eq_true rfl) dX5_took_25 ⟨Nat.zero_le _, Nat.zero_le _⟩ ?_
      refine W.eq (g2 := F0 m 28 ls [.int (iI (1))]) rfl ?_
      refine b_eqF (tgt := 41) S dX5_took_28 (by decide) (by decide) (by decide) ?_
      refine lv_iload hx hb dX5_took_31 (lv_at hl 4 rfl) ?_
      refine lv_iconst (v := iI (0)) hx hb dX5_took_33 rfl ?_
      refine lv_iconst (v := iI (1)) hx hb dX5_took_34 rfl ?_
      refine kS_R (n := 3) S (m_in_F lc D cI cZ N u 0 1 (by omega) (by omega) (by omega) (by omega)) gX5_took_X5_in rfl (by decide +kernel) rfl rfl ⟨Nat.le_trans (Nat.le_of_ble_eq_true rfl) hfr, Nat.le_trans (Nat.le_of_ble_eq_true rfl) hlo⟩ hE hAN hP hD hS [] rfl (by decide) rfl hl.1 [] rfl (Nat.le_of_ble_eq_true rfl) dX5_took_35 ⟨Nat.zero_le _, Nat.zero_le _⟩ ?_
      refine W.eq (g2 := F0 m 38 ls [.int (iI (0))]) rfl ?_
      refine b_neF (tgt := 44) S dX5_took_38 (by decide) (by decide) ?_
      refine w_ldc (z := (-1000000002)) S (List.mem_of_getElem? (i := 2) rfl) (by decide) dX5_took_41 ?_
      exact hret _ _ _ dX5_took_43 (congrArg iI (by omega))
    · refine lv_iload_n hx hb dX5_took_24 rfl (lv_at hl 3 rfl) ?_
      refine kS_R (n := 1) S (m_isBlock_F lc D cI cZ N z (by omega) (by omega)) gX5_took_X5_isBlock rfl (by decide +kernel) rfl rfl ⟨Nat.le_trans (Nat.le_of_ble_eq_true rfl) hfr, Nat.le_trans (Nat.le_of_ble_eq_true rfl) hlo⟩ hE hAN hP hD hS [] rfl (by decide) rfl hl.1 [] rfl (Nat.le_of_ble_eq_true rfl) dX5_took_25 ⟨Nat.zero_le _, Nat.zero_le _⟩ ?_
      refine W.eq (g2 := F0 m 28 ls [.int (iI (0))]) rfl ?_
      refine b_eqT (tgt := 41) S dX5_took_28 (by decide) (by decide) ?_
      refine w_ldc (z := (-1000000002)) S (List.mem_of_getElem? (i := 2) rfl) (by decide) dX5_took_41 ?_
      exact hret _ _ _ dX5_took_43 (congrArg iI (by omega))
  · refine lv_iload_n hx hb dX5_took_19 rfl (lv_at hl 2 rfl) ?_
    refine lv_iload_n hx hb dX5_took_20 rfl (lv_at hl 1 rfl) ?_
    refine c_leT (tgt := 41) S dX5_took_21 (by decide) (by omega) (by omega) (by omega) ?_
    refine w_ldc (z := (-1000000002)) S (List.mem_of_getElem? (i := 2) rfl) (by decide) dX5_took_41 ?_
    exact hret _ _ _ dX5_took_43 (congrArg iI (by omega))
set_option maxHeartbeats 4000000 in
set_option maxRecDepth 100000 in
theorem m_took_N (lc : Launch) (D : va_G) (cI cZ : ClassId) (N : Nat) (q : Nat) (qs : Nat) (qi : Nat) (qk : Nat) (ql : Nat) (mn : Nat) (tA : Int) (sA : Int) (kA : Int) (nb : Nat → Int) (ck : Nat → Int) (hi : Nat → Int) (lo : Nat → Int) (ha : Nat → Int) (cn : Nat → Int) (sm : Nat → Int) (im : Nat → Int) (kp : Nat → Int) (le : Nat → Int) (f : Nat) (g : Nat) (bk : Nat) (u : Int) (hmn : 2 ≤ mn ∧ mn ≤ 5) (hfg : f < g) (hgm : g < mn) (hbk : bk < 200) (hcn : ∀ k, k < 1000 → 0 ≤ cn k ∧ cn k ≤ 200) (r_u : -2147483648 ≤ u ∧ u ≤ 2147483647) (h : (0 ≤ u ∧ u ≤ 1)) (h2 : ¬ (0 < cn (f * 200 + bk) ∧ cn (f * 200 + bk) = cn (g * 200 + bk))) : CR lc D cI cZ N yX5_took wsX5_took (rmK 2 47) [.ref q, .int (iI (((f : Nat) : Int))), .int (iI (((g : Nat) : Int))), .int (iI (((bk : Nat) : Int))), .int (iI (u))] [(q, .inr (5, [.ref qs, .ref qi, .ref qk, .ref ql])), (qs, .inl (cI, 2108, .inl (vI (stF ((mn : Nat) : Int) tA sA kA nb ck hi lo ha cn sm)))), (qi, .inl (cI, 4216, .inl (vI im))), (qk, .inl (cZ, 2, .inl (vI kp))), (ql, .inl (cI, 25, .inl (vI le)))] (some (.int (iI (-1000000005)))) := by
  refine CR.I (cc := cX5_took) (maxL := 5) (by decide) rfl (Nat.le_of_ble_eq_true rfl) ?_
  intro p e s m args below meth c R Q S hE A hAN hfr hlo hP hD hS hret ls hl
  have S : CallFix p m c cX5_took 5 s args wsX5_took RX5 := S
  have hx := S.1
  have hb := S.2.1
  have hl : lv_has ls 5 [(0, .ref q), (1, .int (iI (((f : Nat) : Int)))), (2, .int (iI (((g : Nat) : Int)))), (3, .int (iI (((bk : Nat) : Int)))), (4, .int (iI (u)))] := hl
  refine lv_aload_n hx hb dX5_took_0 rfl (lv_at hl 0 rfl) ?_
  refine lv_iload_n hx hb dX5_took_1 rfl (lv_at hl 1 rfl) ?_
  refine kV_R (n := 1) (ci := 5) (q := (RX5, TX5, 4)) S (m_isNode_T lc D cI cZ N q qs qi qk ql mn tA sA kA nb ck hi lo ha cn sm im kp le ((f : Nat) : Int) (by omega) (by omega) (by omega)) gX5_took_X5_isNode rfl rfl (by decide +kernel) rfl rfl ⟨Nat.le_trans (Nat.le_of_ble_eq_true rfl) hfr, Nat.le_trans (Nat.le_of_ble_eq_true rfl) hlo⟩ hE hAN hP hD hS [0, 1, 2, 3, 4] rfl (by decide) rfl rfl rfl rfl hl.1 [] rfl (Nat.le_of_ble_eq_true rfl) dX5_took_2 ⟨Nat.zero_le _, Nat.zero_le _⟩ ?_
  refine W.eq (g2 := F0 m 5 ls [.int (iI (1))]) rfl ?_
  refine b_eqF (tgt := 16) S dX5_took_5 (by decide) (by decide) (by decide) ?_
  refine lv_aload_n hx hb dX5_took_8 rfl (lv_at hl 0 rfl) ?_
  refine lv_iload_n hx hb dX5_took_9 rfl (lv_at hl 2 rfl) ?_
  refine kV_R (n := 1) (ci := 5) (q := (RX5, TX5, 4)) S (m_isNode_T lc D cI cZ N q qs qi qk ql mn tA sA kA nb ck hi lo ha cn sm im kp le ((g : Nat) : Int) (by omega) (by omega) (by omega)) gX5_took_X5_isNode rfl rfl (by decide +kernel) rfl rfl ⟨Nat.le_trans (Nat.le_of_ble_eq_true rfl) hfr, Nat.le_trans (Nat.le_of_ble_eq_true rfl) hlo⟩ hE hAN hP hD hS [0, 1, 2, 3, 4] rfl (by decide) rfl rfl rfl rfl hl.1 [] rfl (Nat.le_of_ble_eq_true rfl) dX5_took_10 ⟨Nat.zero_le _, Nat.zero_le _⟩ ?_
  refine W.eq (g2 := F0 m 13 ls [.int (iI (1))]) rfl ?_
  refine b_neT (tgt := 19) S dX5_took_13 (by decide) (by decide) (by decide) ?_
  refine lv_iload_n hx hb dX5_took_19 rfl (lv_at hl 2 rfl) ?_
  refine lv_iload_n hx hb dX5_took_20 rfl (lv_at hl 1 rfl) ?_
  refine c_leF (tgt := 41) S dX5_took_21 (by decide) (by omega) (by omega) (by omega) ?_
  refine lv_iload_n hx hb dX5_took_24 rfl (lv_at hl 3 rfl) ?_
  refine kS_R (n := 1) S (m_isBlock_T lc D cI cZ N ((bk : Nat) : Int) (by omega) (by omega)) gX5_took_X5_isBlock rfl (by decide +kernel) rfl rfl ⟨Nat.le_trans (Nat.le_of_ble_eq_true rfl) hfr, Nat.le_trans (Nat.le_of_ble_eq_true rfl) hlo⟩ hE hAN hP hD hS [] rfl (by decide) rfl hl.1 [] rfl (Nat.le_of_ble_eq_true rfl) dX5_took_25 ⟨Nat.zero_le _, Nat.zero_le _⟩ ?_
  refine W.eq (g2 := F0 m 28 ls [.int (iI (1))]) rfl ?_
  refine b_eqF (tgt := 41) S dX5_took_28 (by decide) (by decide) (by decide) ?_
  refine lv_iload hx hb dX5_took_31 (lv_at hl 4 rfl) ?_
  refine lv_iconst (v := iI (0)) hx hb dX5_took_33 rfl ?_
  refine lv_iconst (v := iI (1)) hx hb dX5_took_34 rfl ?_
  refine kS_R (n := 3) S (m_in_T lc D cI cZ N u 0 1 (by omega) (by omega) (by omega) (by omega)) gX5_took_X5_in rfl (by decide +kernel) rfl rfl ⟨Nat.le_trans (Nat.le_of_ble_eq_true rfl) hfr, Nat.le_trans (Nat.le_of_ble_eq_true rfl) hlo⟩ hE hAN hP hD hS [] rfl (by decide) rfl hl.1 [] rfl (Nat.le_of_ble_eq_true rfl) dX5_took_35 ⟨Nat.zero_le _, Nat.zero_le _⟩ ?_
  refine W.eq (g2 := F0 m 38 ls [.int (iI (1))]) rfl ?_
  refine b_neT (tgt := 44) S dX5_took_38 (by decide) (by decide) (by decide) ?_
  refine lv_aload_n hx hb dX5_took_44 rfl (lv_at hl 0 rfl) ?_
  refine lv_iload_n hx hb dX5_took_45 rfl (lv_at hl 1 rfl) ?_
  refine lv_iload_n hx hb dX5_took_46 rfl (lv_at hl 2 rfl) ?_
  refine lv_iload_n hx hb dX5_took_47 rfl (lv_at hl 3 rfl) ?_
  refine kV_R (n := 3) (ci := 5) (q := (RX5, TX5, 4)) S (m_isTaken_F lc D cI cZ N q qs qi qk ql mn tA sA kA nb ck hi lo ha cn sm im kp le f g bk (by omega) (by omega) (by omega) (by omega) (by omega)) gX5_took_X5_isTaken rfl rfl (by decide +kernel) rfl rfl ⟨Nat.le_trans (Nat.le_of_ble_eq_true rfl) hfr, Nat.le_trans (Nat.le_of_ble_eq_true rfl) hlo⟩ hE hAN hP hD hS [0, 1, 2, 3, 4] rfl (by decide) rfl rfl rfl rfl hl.1 [] rfl (Nat.le_of_ble_eq_true rfl) dX5_took_48 ⟨Nat.zero_le _, Nat.zero_le _⟩ ?_
  refine W.eq (g2 := F0 m 51 ls [.int (iI (0))]) rfl ?_
  refine b_neF (tgt := 57) S dX5_took_51 (by decide) (by decide) ?_
  refine w_ldc (z := (-1000000005)) S (List.mem_of_getElem? (i := 3) rfl) (by decide) dX5_took_54 ?_
  exact hret _ _ _ dX5_took_56 (congrArg iI (by omega))
set_option maxHeartbeats 4000000 in
set_option maxRecDepth 100000 in
theorem m_took_0 (lc : Launch) (D : va_G) (cI cZ : ClassId) (N : Nat) (q : Nat) (qs : Nat) (qi : Nat) (qk : Nat) (ql : Nat) (mn : Nat) (tA : Int) (sA : Int) (kA : Int) (nb : Nat → Int) (ck : Nat → Int) (hi : Nat → Int) (lo : Nat → Int) (ha : Nat → Int) (cn : Nat → Int) (sm : Nat → Int) (im : Nat → Int) (kp : Nat → Int) (le : Nat → Int) (f : Nat) (g : Nat) (bk : Nat) (wq : Nat) (hmn : 2 ≤ mn ∧ mn ≤ 5) (hfg : f < g) (hgm : g < mn) (hbk : bk < 200) (hcn : ∀ k, k < 1000 → 0 ≤ cn k ∧ cn k ≤ 200) (h2 : 0 < cn (f * 200 + bk) ∧ cn (f * 200 + bk) = cn (g * 200 + bk)) (hwq : cn (g * 200 + bk) = ((wq : Nat) : Int)) (hwq2 : 0 < wq ∧ wq ≤ 200) (hU : -1000000000 ≤ (sm (g * 200 + bk) - sm (f * 200 + bk)) ∧ (sm (g * 200 + bk) - sm (f * 200 + bk)) ≤ 1000000000) : CR lc D cI cZ N yX5_took wsX5_took (rmK 2 47) [.ref q, .int (iI (((f : Nat) : Int))), .int (iI (((g : Nat) : Int))), .int (iI (((bk : Nat) : Int))), .int (iI (0))] [(q, .inr (5, [.ref qs, .ref qi, .ref qk, .ref ql])), (qs, .inl (cI, 2108, .inl (vI (stF ((mn : Nat) : Int) tA sA kA nb ck hi lo ha cn sm)))), (qi, .inl (cI, 4216, .inl (vI im))), (qk, .inl (cZ, 2, .inl (vI kp))), (ql, .inl (cI, 25, .inl (vI le)))] (some (.int (iI ((sm (g * 200 + bk) - sm (f * 200 + bk)).tdiv ((Nat.gcd ((sm (g * 200 + bk) - sm (f * 200 + bk))).natAbs wq : Nat) : Int))))) := by
  refine CR.I (cc := cX5_took) (maxL := 5) (by decide) rfl (Nat.le_of_ble_eq_true rfl) ?_
  intro p e s m args below meth c R Q S hE A hAN hfr hlo hP hD hS hret ls hl
  have S : CallFix p m c cX5_took 5 s args wsX5_took RX5 := S
  have hx := S.1
  have hb := S.2.1
  have hl : lv_has ls 5 [(0, .ref q), (1, .int (iI (((f : Nat) : Int)))), (2, .int (iI (((g : Nat) : Int)))), (3, .int (iI (((bk : Nat) : Int)))), (4, .int (iI (0)))] := hl
  refine lv_aload_n hx hb dX5_took_0 rfl (lv_at hl 0 rfl) ?_
  refine lv_iload_n hx hb dX5_took_1 rfl (lv_at hl 1 rfl) ?_
  refine kV_R (n := 1) (ci := 5) (q := (RX5, TX5, 4)) S (m_isNode_T lc D cI cZ N q qs qi qk ql mn tA sA kA nb ck hi lo ha cn sm im kp le ((f : Nat) : Int) (by omega) (by omega) (by omega)) gX5_took_X5_isNode rfl rfl (by decide +kernel) rfl rfl ⟨Nat.le_trans (Nat.le_of_ble_eq_true rfl) hfr, Nat.le_trans (Nat.le_of_ble_eq_true rfl) hlo⟩ hE hAN hP hD hS [0, 1, 2, 3, 4] rfl (by decide) rfl rfl rfl rfl hl.1 [] rfl (Nat.le_of_ble_eq_true rfl) dX5_took_2 ⟨Nat.zero_le _, Nat.zero_le _⟩ ?_
  refine W.eq (g2 := F0 m 5 ls [.int (iI (1))]) rfl ?_
  refine b_eqF (tgt := 16) S dX5_took_5 (by decide) (by decide) (by decide) ?_
  refine lv_aload_n hx hb dX5_took_8 rfl (lv_at hl 0 rfl) ?_
  refine lv_iload_n hx hb dX5_took_9 rfl (lv_at hl 2 rfl) ?_
  refine kV_R (n := 1) (ci := 5) (q := (RX5, TX5, 4)) S (m_isNode_T lc D cI cZ N q qs qi qk ql mn tA sA kA nb ck hi lo ha cn sm im kp le ((g : Nat) : Int) (by omega) (by omega) (by omega)) gX5_took_X5_isNode rfl rfl (by decide +kernel) rfl rfl ⟨Nat.le_trans (Nat.le_of_ble_eq_true rfl) hfr, Nat.le_trans (Nat.le_of_ble_eq_true rfl) hlo⟩ hE hAN hP hD hS [0, 1, 2, 3, 4] rfl (by decide) rfl rfl rfl rfl hl.1 [] rfl (Nat.le_of_ble_eq_true rfl) dX5_took_10 ⟨Nat.zero_le _, Nat.zero_le _⟩ ?_
  refine W.eq (g2 := F0 m 13 ls [.int (iI (1))]) rfl ?_
  refine b_neT (tgt := 19) S dX5_took_13 (by decide) (by decide) (by decide) ?_
  refine lv_iload_n hx hb dX5_took_19 rfl (lv_at hl 2 rfl) ?_
  refine lv_iload_n hx hb dX5_took_20 rfl (lv_at hl 1 rfl) ?_
  refine c_leF (tgt := 41) S dX5_took_21 (by decide) (by omega) (by omega) (by omega) ?_
  refine lv_iload_n hx hb dX5_took_24 rfl (lv_at hl 3 rfl) ?_
  refine kS_R (n := 1) S (m_isBlock_T lc D cI cZ N ((bk : Nat) : Int) (by omega) (by omega)) gX5_took_X5_isBlock rfl (by decide +kernel) rfl rfl ⟨Nat.le_trans (Nat.le_of_ble_eq_true rfl) hfr, Nat.le_trans (Nat.le_of_ble_eq_true rfl) hlo⟩ hE hAN hP hD hS [] rfl (by decide) rfl hl.1 [] rfl (Nat.le_of_ble_eq_true rfl) dX5_took_25 ⟨Nat.zero_le _, Nat.zero_le _⟩ ?_
  refine W.eq (g2 := F0 m 28 ls [.int (iI (1))]) rfl ?_
  refine b_eqF (tgt := 41) S dX5_took_28 (by decide) (by decide) (by decide) ?_
  refine lv_iload hx hb dX5_took_31 (lv_at hl 4 rfl) ?_
  refine lv_iconst (v := iI (0)) hx hb dX5_took_33 rfl ?_
  refine lv_iconst (v := iI (1)) hx hb dX5_took_34 rfl ?_
  refine kS_R (n := 3) S (m_in_T lc D cI cZ N 0 0 1 (by omega) (by omega) (by omega) (by omega)) gX5_took_X5_in rfl (by decide +kernel) rfl rfl ⟨Nat.le_trans (Nat.le_of_ble_eq_true rfl) hfr, Nat.le_trans (Nat.le_of_ble_eq_true rfl) hlo⟩ hE hAN hP hD hS [] rfl (by decide) rfl hl.1 [] rfl (Nat.le_of_ble_eq_true rfl) dX5_took_35 ⟨Nat.zero_le _, Nat.zero_le _⟩ ?_
  refine W.eq (g2 := F0 m 38 ls [.int (iI (1))]) rfl ?_
  refine b_neT (tgt := 44) S dX5_took_38 (by decide) (by decide) (by decide) ?_
  refine lv_aload_n hx hb dX5_took_44 rfl (lv_at hl 0 rfl) ?_
  refine lv_iload_n hx hb dX5_took_45 rfl (lv_at hl 1 rfl) ?_
  refine lv_iload_n hx hb dX5_took_46 rfl (lv_at hl 2 rfl) ?_
  refine lv_iload_n hx hb dX5_took_47 rfl (lv_at hl 3 rfl) ?_
  refine kV_R (n := 3) (ci := 5) (q := (RX5, TX5, 4)) S (m_isTaken_T lc D cI cZ N q qs qi qk ql mn tA sA kA nb ck hi lo ha cn sm im kp le f g bk (by omega) (by omega) (by omega) (by omega) (by omega)) gX5_took_X5_isTaken rfl rfl (by decide +kernel) rfl rfl ⟨Nat.le_trans (Nat.le_of_ble_eq_true rfl) hfr, Nat.le_trans (Nat.le_of_ble_eq_true rfl) hlo⟩ hE hAN hP hD hS [0, 1, 2, 3, 4] rfl (by decide) rfl rfl rfl rfl hl.1 [] rfl (Nat.le_of_ble_eq_true rfl) dX5_took_48 ⟨Nat.zero_le _, Nat.zero_le _⟩ ?_
  refine W.eq (g2 := F0 m 51 ls [.int (iI (1))]) rfl ?_
  refine b_neT (tgt := 57) S dX5_took_51 (by decide) (by decide) (by decide) ?_
  refine lv_aload_n hx hb dX5_took_57 rfl (lv_at hl 0 rfl) ?_
  refine lv_iload_n hx hb dX5_took_58 rfl (lv_at hl 2 rfl) ?_
  refine lv_iload_n hx hb dX5_took_59 rfl (lv_at hl 3 rfl) ?_
  refine kV_R (n := 2) (ci := 5) (q := (RX5, TX5, 4)) S (m_sumOf lc D cI cZ N q qs qi qk ql mn tA sA kA nb ck hi lo ha cn sm im kp le g bk (by omega) (by omega)) gX5_took_X5_sumOf rfl rfl (by decide +kernel) rfl rfl ⟨Nat.le_trans (Nat.le_of_ble_eq_true rfl) hfr, Nat.le_trans (Nat.le_of_ble_eq_true rfl) hlo⟩ hE hAN hP hD hS [0, 1, 2, 3, 4] rfl (by decide) rfl rfl rfl rfl hl.1 [] rfl (Nat.le_of_ble_eq_true rfl) dX5_took_60 ⟨Nat.zero_le _, Nat.zero_le _⟩ ?_
  refine W.eq (g2 := F0 m 63 ls [.int (iI (sm (g * 200 + bk)))]) rfl ?_
  refine lv_aload_n hx hb dX5_took_63 rfl (lv_at hl 0 rfl) ?_
  refine lv_iload_n hx hb dX5_took_64 rfl (lv_at hl 1 rfl) ?_
  refine lv_iload_n hx hb dX5_took_65 rfl (lv_at hl 3 rfl) ?_
  refine kV_R (n := 2) (ci := 5) (q := (RX5, TX5, 4)) S (m_sumOf lc D cI cZ N q qs qi qk ql mn tA sA kA nb ck hi lo ha cn sm im kp le f bk (by omega) (by omega)) gX5_took_X5_sumOf rfl rfl (by decide +kernel) rfl rfl ⟨Nat.le_trans (Nat.le_of_ble_eq_true rfl) hfr, Nat.le_trans (Nat.le_of_ble_eq_true rfl) hlo⟩ hE hAN hP hD hS [0, 1, 2, 3, 4] rfl (by decide) rfl rfl rfl rfl hl.1 [.int (iI (sm (g * 200 + bk)))] rfl (Nat.le_of_ble_eq_true rfl) dX5_took_66 ⟨Nat.zero_le _, Nat.zero_le _⟩ ?_
  refine W.eq (g2 := F0 m 69 ls [.int (iI (sm (f * 200 + bk))), .int (iI (sm (g * 200 + bk)))]) rfl ?_
  refine w_isub S dX5_took_69 ?_
  refine lv_aload_n hx hb dX5_took_70 rfl (lv_at hl 0 rfl) ?_
  refine lv_iload_n hx hb dX5_took_71 rfl (lv_at hl 2 rfl) ?_
  refine lv_iload_n hx hb dX5_took_72 rfl (lv_at hl 3 rfl) ?_
  refine kV_R (n := 2) (ci := 5) (q := (RX5, TX5, 4)) S (m_countOf lc D cI cZ N q qs qi qk ql mn tA sA kA nb ck hi lo ha cn sm im kp le g bk (by omega) (by omega)) gX5_took_X5_countOf rfl rfl (by decide +kernel) rfl rfl ⟨Nat.le_trans (Nat.le_of_ble_eq_true rfl) hfr, Nat.le_trans (Nat.le_of_ble_eq_true rfl) hlo⟩ hE hAN hP hD hS [0, 1, 2, 3, 4] rfl (by decide) rfl rfl rfl rfl hl.1 [.int (iI ((sm (g * 200 + bk)) - (sm (f * 200 + bk))))] rfl (Nat.le_of_ble_eq_true rfl) dX5_took_73 ⟨Nat.zero_le _, Nat.zero_le _⟩ ?_
  refine W.eq (g2 := F0 m 76 ls [.int (iI (cn (g * 200 + bk))), .int (iI ((sm (g * 200 + bk)) - (sm (f * 200 + bk))))]) rfl ?_
  refine w_tz (z := ((wq : Nat) : Int)) hwq ?_
  refine lv_iload hx hb dX5_took_76 (lv_at hl 4 rfl) ?_
  refine kS_R (n := 3) S (m_told_0 lc D cI cZ N ((sm (g * 200 + bk)) - (sm (f * 200 + bk))) wq 0 (by omega) (by omega) (by omega)) gX5_took_X5_told rfl (by decide +kernel) rfl rfl ⟨Nat.le_trans (Nat.le_of_ble_eq_true rfl) hfr, Nat.le_trans (Nat.le_of_ble_eq_true rfl) hlo⟩ hE hAN hP hD hS [] rfl (by decide) rfl hl.1 [] rfl (Nat.le_of_ble_eq_true rfl) dX5_took_78 ⟨Nat.zero_le _, Nat.zero_le _⟩ ?_
  refine W.eq (g2 := F0 m 81 ls [.int (iI (((sm (g * 200 + bk)) - (sm (f * 200 + bk))).tdiv ((Nat.gcd ((sm (g * 200 + bk)) - (sm (f * 200 + bk))).natAbs wq : Nat) : Int)))]) rfl ?_
  exact hret _ _ _ dX5_took_81 (congrArg iI (by omega))
set_option maxHeartbeats 4000000 in
set_option maxRecDepth 100000 in
theorem m_took_1 (lc : Launch) (D : va_G) (cI cZ : ClassId) (N : Nat) (q : Nat) (qs : Nat) (qi : Nat) (qk : Nat) (ql : Nat) (mn : Nat) (tA : Int) (sA : Int) (kA : Int) (nb : Nat → Int) (ck : Nat → Int) (hi : Nat → Int) (lo : Nat → Int) (ha : Nat → Int) (cn : Nat → Int) (sm : Nat → Int) (im : Nat → Int) (kp : Nat → Int) (le : Nat → Int) (f : Nat) (g : Nat) (bk : Nat) (wq : Nat) (hmn : 2 ≤ mn ∧ mn ≤ 5) (hfg : f < g) (hgm : g < mn) (hbk : bk < 200) (hcn : ∀ k, k < 1000 → 0 ≤ cn k ∧ cn k ≤ 200) (h2 : 0 < cn (f * 200 + bk) ∧ cn (f * 200 + bk) = cn (g * 200 + bk)) (hwq : cn (g * 200 + bk) = ((wq : Nat) : Int)) (hwq2 : 0 < wq ∧ wq ≤ 200) (hU : -1000000000 ≤ (sm (g * 200 + bk) - sm (f * 200 + bk)) ∧ (sm (g * 200 + bk) - sm (f * 200 + bk)) ≤ 1000000000) : CR lc D cI cZ N yX5_took wsX5_took (rmK 2 47) [.ref q, .int (iI (((f : Nat) : Int))), .int (iI (((g : Nat) : Int))), .int (iI (((bk : Nat) : Int))), .int (iI (1))] [(q, .inr (5, [.ref qs, .ref qi, .ref qk, .ref ql])), (qs, .inl (cI, 2108, .inl (vI (stF ((mn : Nat) : Int) tA sA kA nb ck hi lo ha cn sm)))), (qi, .inl (cI, 4216, .inl (vI im))), (qk, .inl (cZ, 2, .inl (vI kp))), (ql, .inl (cI, 25, .inl (vI le)))] (some (.int (iI (((wq : Nat) : Int).tdiv ((Nat.gcd ((sm (g * 200 + bk) - sm (f * 200 + bk))).natAbs wq : Nat) : Int))))) := by
  refine CR.I (cc := cX5_took) (maxL := 5) (by decide) rfl (Nat.le_of_ble_eq_true rfl) ?_
  intro p e s m args below meth c R Q S hE A hAN hfr hlo hP hD hS hret ls hl
  have S : CallFix p m c cX5_took 5 s args wsX5_took RX5 := S
  have hx := S.1
  have hb := S.2.1
  have hl : lv_has ls 5 [(0, .ref q), (1, .int (iI (((f : Nat) : Int)))), (2, .int (iI (((g : Nat) : Int)))), (3, .int (iI (((bk : Nat) : Int)))), (4, .int (iI (1)))] := hl
  refine lv_aload_n hx hb dX5_took_0 rfl (lv_at hl 0 rfl) ?_
  refine lv_iload_n hx hb dX5_took_1 rfl (lv_at hl 1 rfl) ?_
  refine kV_R (n := 1) (ci := 5) (q := (RX5, TX5, 4)) S (m_isNode_T lc D cI cZ N q qs qi qk ql mn tA sA kA nb ck hi lo ha cn sm im kp le ((f : Nat) : Int) (by omega) (by omega) (by omega)) gX5_took_X5_isNode rfl rfl (by decide +kernel) rfl rfl ⟨Nat.le_trans (Nat.le_of_ble_eq_true rfl) hfr, Nat.le_trans (Nat.le_of_ble_eq_true rfl) hlo⟩ hE hAN hP hD hS [0, 1, 2, 3, 4] rfl (by decide) rfl rfl rfl rfl hl.1 [] rfl (Nat.le_of_ble_eq_true rfl) dX5_took_2 ⟨Nat.zero_le _, Nat.zero_le _⟩ ?_
  refine W.eq (g2 := F0 m 5 ls [.int (iI (1))]) rfl ?_
  refine b_eqF (tgt := 16) S dX5_took_5 (by decide) (by decide) (by decide) ?_
  refine lv_aload_n hx hb dX5_took_8 rfl (lv_at hl 0 rfl) ?_
  refine lv_iload_n hx hb dX5_took_9 rfl (lv_at hl 2 rfl) ?_
  refine kV_R (n := 1) (ci := 5) (q := (RX5, TX5, 4)) S (m_isNode_T lc D cI cZ N q qs qi qk ql mn tA sA kA nb ck hi lo ha cn sm im kp le ((g : Nat) : Int) (by omega) (by omega) (by omega)) gX5_took_X5_isNode rfl rfl (by decide +kernel) rfl rfl ⟨Nat.le_trans (Nat.le_of_ble_eq_true rfl) hfr, Nat.le_trans (Nat.le_of_ble_eq_true rfl) hlo⟩ hE hAN hP hD hS [0, 1, 2, 3, 4] rfl (by decide) rfl rfl rfl rfl hl.1 [] rfl (Nat.le_of_ble_eq_true rfl) dX5_took_10 ⟨Nat.zero_le _, Nat.zero_le _⟩ ?_
  refine W.eq (g2 := F0 m 13 ls [.int (iI (1))]) rfl ?_
  refine b_neT (tgt := 19) S dX5_took_13 (by decide) (by decide) (by decide) ?_
  refine lv_iload_n hx hb dX5_took_19 rfl (lv_at hl 2 rfl) ?_
  refine lv_iload_n hx hb dX5_took_20 rfl (lv_at hl 1 rfl) ?_
  refine c_leF (tgt := 41) S dX5_took_21 (by decide) (by omega) (by omega) (by omega) ?_
  refine lv_iload_n hx hb dX5_took_24 rfl (lv_at hl 3 rfl) ?_
  refine kS_R (n := 1) S (m_isBlock_T lc D cI cZ N ((bk : Nat) : Int) (by omega) (by omega)) gX5_took_X5_isBlock rfl (by decide +kernel) rfl rfl ⟨Nat.le_trans (Nat.le_of_ble_eq_true rfl) hfr, Nat.le_trans (Nat.le_of_ble_eq_true rfl) hlo⟩ hE hAN hP hD hS [] rfl (by decide) rfl hl.1 [] rfl (Nat.le_of_ble_eq_true rfl) dX5_took_25 ⟨Nat.zero_le _, Nat.zero_le _⟩ ?_
  refine W.eq (g2 := F0 m 28 ls [.int (iI (1))]) rfl ?_
  refine b_eqF (tgt := 41) S dX5_took_28 (by decide) (by decide) (by decide) ?_
  refine lv_iload hx hb dX5_took_31 (lv_at hl 4 rfl) ?_
  refine lv_iconst (v := iI (0)) hx hb dX5_took_33 rfl ?_
  refine lv_iconst (v := iI (1)) hx hb dX5_took_34 rfl ?_
  refine kS_R (n := 3) S (m_in_T lc D cI cZ N 1 0 1 (by omega) (by omega) (by omega) (by omega)) gX5_took_X5_in rfl (by decide +kernel) rfl rfl ⟨Nat.le_trans (Nat.le_of_ble_eq_true rfl) hfr, Nat.le_trans (Nat.le_of_ble_eq_true rfl) hlo⟩ hE hAN hP hD hS [] rfl (by decide) rfl hl.1 [] rfl (Nat.le_of_ble_eq_true rfl) dX5_took_35 ⟨Nat.zero_le _, Nat.zero_le _⟩ ?_
  refine W.eq (g2 := F0 m 38 ls [.int (iI (1))]) rfl ?_
  refine b_neT (tgt := 44) S dX5_took_38 (by decide) (by decide) (by decide) ?_
  refine lv_aload_n hx hb dX5_took_44 rfl (lv_at hl 0 rfl) ?_
  refine lv_iload_n hx hb dX5_took_45 rfl (lv_at hl 1 rfl) ?_
  refine lv_iload_n hx hb dX5_took_46 rfl (lv_at hl 2 rfl) ?_
  refine lv_iload_n hx hb dX5_took_47 rfl (lv_at hl 3 rfl) ?_
  refine kV_R (n := 3) (ci := 5) (q := (RX5, TX5, 4)) S (m_isTaken_T lc D cI cZ N q qs qi qk ql mn tA sA kA nb ck hi lo ha cn sm im kp le f g bk (by omega) (by omega) (by omega) (by omega) (by omega)) gX5_took_X5_isTaken rfl rfl (by decide +kernel) rfl rfl ⟨Nat.le_trans (Nat.le_of_ble_eq_true rfl) hfr, Nat.le_trans (Nat.le_of_ble_eq_true rfl) hlo⟩ hE hAN hP hD hS [0, 1, 2, 3, 4] rfl (by decide) rfl rfl rfl rfl hl.1 [] rfl (Nat.le_of_ble_eq_true rfl) dX5_took_48 ⟨Nat.zero_le _, Nat.zero_le _⟩ ?_
  refine W.eq (g2 := F0 m 51 ls [.int (iI (1))]) rfl ?_
  refine b_neT (tgt := 57) S dX5_took_51 (by decide) (by decide) (by decide) ?_
  refine lv_aload_n hx hb dX5_took_57 rfl (lv_at hl 0 rfl) ?_
  refine lv_iload_n hx hb dX5_took_58 rfl (lv_at hl 2 rfl) ?_
  refine lv_iload_n hx hb dX5_took_59 rfl (lv_at hl 3 rfl) ?_
  refine kV_R (n := 2) (ci := 5) (q := (RX5, TX5, 4)) S (m_sumOf lc D cI cZ N q qs qi qk ql mn tA sA kA nb ck hi lo ha cn sm im kp le g bk (by omega) (by omega)) gX5_took_X5_sumOf rfl rfl (by decide +kernel) rfl rfl ⟨Nat.le_trans (Nat.le_of_ble_eq_true rfl) hfr, Nat.le_trans (Nat.le_of_ble_eq_true rfl) hlo⟩ hE hAN hP hD hS [0, 1, 2, 3, 4] rfl (by decide) rfl rfl rfl rfl hl.1 [] rfl (Nat.le_of_ble_eq_true rfl) dX5_took_60 ⟨Nat.zero_le _, Nat.zero_le _⟩ ?_
  refine W.eq (g2 := F0 m 63 ls [.int (iI (sm (g * 200 + bk)))]) rfl ?_
  refine lv_aload_n hx hb dX5_took_63 rfl (lv_at hl 0 rfl) ?_
  refine lv_iload_n hx hb dX5_took_64 rfl (lv_at hl 1 rfl) ?_
  refine lv_iload_n hx hb dX5_took_65 rfl (lv_at hl 3 rfl) ?_
  refine kV_R (n := 2) (ci := 5) (q := (RX5, TX5, 4)) S (m_sumOf lc D cI cZ N q qs qi qk ql mn tA sA kA nb ck hi lo ha cn sm im kp le f bk (by omega) (by omega)) gX5_took_X5_sumOf rfl rfl (by decide +kernel) rfl rfl ⟨Nat.le_trans (Nat.le_of_ble_eq_true rfl) hfr, Nat.le_trans (Nat.le_of_ble_eq_true rfl) hlo⟩ hE hAN hP hD hS [0, 1, 2, 3, 4] rfl (by decide) rfl rfl rfl rfl hl.1 [.int (iI (sm (g * 200 + bk)))] rfl (Nat.le_of_ble_eq_true rfl) dX5_took_66 ⟨Nat.zero_le _, Nat.zero_le _⟩ ?_
  refine W.eq (g2 := F0 m 69 ls [.int (iI (sm (f * 200 + bk))), .int (iI (sm (g * 200 + bk)))]) rfl ?_
  refine w_isub S dX5_took_69 ?_
  refine lv_aload_n hx hb dX5_took_70 rfl (lv_at hl 0 rfl) ?_
  refine lv_iload_n hx hb dX5_took_71 rfl (lv_at hl 2 rfl) ?_
  refine lv_iload_n hx hb dX5_took_72 rfl (lv_at hl 3 rfl) ?_
  refine kV_R (n := 2) (ci := 5) (q := (RX5, TX5, 4)) S (m_countOf lc D cI cZ N q qs qi qk ql mn tA sA kA nb ck hi lo ha cn sm im kp le g bk (by omega) (by omega)) gX5_took_X5_countOf rfl rfl (by decide +kernel) rfl rfl ⟨Nat.le_trans (Nat.le_of_ble_eq_true rfl) hfr, Nat.le_trans (Nat.le_of_ble_eq_true rfl) hlo⟩ hE hAN hP hD hS [0, 1, 2, 3, 4] rfl (by decide) rfl rfl rfl rfl hl.1 [.int (iI ((sm (g * 200 + bk)) - (sm (f * 200 + bk))))] rfl (Nat.le_of_ble_eq_true rfl) dX5_took_73 ⟨Nat.zero_le _, Nat.zero_le _⟩ ?_
  refine W.eq (g2 := F0 m 76 ls [.int (iI (cn (g * 200 + bk))), .int (iI ((sm (g * 200 + bk)) - (sm (f * 200 + bk))))]) rfl ?_
  refine w_tz (z := ((wq : Nat) : Int)) hwq ?_
  refine lv_iload hx hb dX5_took_76 (lv_at hl 4 rfl) ?_
  refine kS_R (n := 3) S (m_told_1 lc D cI cZ N ((sm (g * 200 + bk)) - (sm (f * 200 + bk))) wq 1 (by omega) (by omega) (by omega)) gX5_took_X5_told rfl (by decide +kernel) rfl rfl ⟨Nat.le_trans (Nat.le_of_ble_eq_true rfl) hfr, Nat.le_trans (Nat.le_of_ble_eq_true rfl) hlo⟩ hE hAN hP hD hS [] rfl (by decide) rfl hl.1 [] rfl (Nat.le_of_ble_eq_true rfl) dX5_took_78 ⟨Nat.zero_le _, Nat.zero_le _⟩ ?_
  refine W.eq (g2 := F0 m 81 ls [.int (iI (((wq : Nat) : Int).tdiv ((Nat.gcd ((sm (g * 200 + bk)) - (sm (f * 200 + bk))).natAbs wq : Nat) : Int)))]) rfl ?_
  exact hret _ _ _ dX5_took_81 (congrArg iI (by omega))
