/-- the row at the reference's beginning, its links laid one by one -/
def begL (v : Nat) : Nat → (Nat → Int)
  | 0 => updI (updI (fun _ => 0) 0 ((v : Nat) : Int)) 3 5
  | i + 1 => updI (updI (begL v i) (4 + 6 * i) 5) (4 + 6 * i + 2) 5
theorem begL_s (v i : Nat) : updI (updI (begL v i) (4 + 6 * i) 5) (4 + 6 * i + 2) 5 = begL v (i + 1) := rfl
theorem begL_f (v : Nat) : ∀ i, ∀ k, begL v i k = if k = 0 then (v : Int) else if k = 3 then 5 else if 4 ≤ k ∧ k < 4 + 6 * i ∧ ((k - 4) % 6 = 0 ∨ (k - 4) % 6 = 2) then 5 else 0
  | 0, k => by
    show updI (updI (fun _ => 0) 0 ((v : Nat) : Int)) 3 5 k = _
    unfold updI
    by_cases h0 : k = 0
    · subst h0; rfl
    · by_cases h3 : k = 3
      · subst h3; rfl
      · rw [if_neg h3, if_neg h0, if_neg h0, if_neg h3, if_neg (by omega)]
  | i + 1, k => by
    show updI (updI (begL v i) (4 + 6 * i) 5) (4 + 6 * i + 2) 5 k = _
    have ih := begL_f v i k
    unfold updI
    by_cases h1 : k = 4 + 6 * i + 2
    · rw [if_pos h1, if_neg (by omega), if_neg (by omega), if_pos (by omega)]
    · rw [if_neg h1]
      by_cases h2 : k = 4 + 6 * i
      · rw [if_pos h2, if_neg (by omega), if_neg (by omega), if_pos (by omega)]
      · rw [if_neg h2, ih]
        by_cases h0 : k = 0
        · rw [if_pos h0, if_pos h0]
        · rw [if_neg h0, if_neg h0]
          by_cases h3 : k = 3
          · rw [if_pos h3, if_pos h3]
          · rw [if_neg h3, if_neg h3]
            by_cases h4 : 4 ≤ k ∧ k < 4 + 6 * i ∧ ((k - 4) % 6 = 0 ∨ (k - 4) % 6 = 2)
            · rw [if_pos h4, if_pos (by omega)]
            · rw [if_neg h4, if_neg (by omega)]
theorem lnF : ∀ r, r < 6 → lnFirst r = if r = 0 ∨ r = 2 then 5 else 0 := by decide
theorem begL_ok (v k : Nat) : begL v 4 k = stF ((v : Nat) : Int) 0 0 5 nbFirst (fun _ => 0) (fun _ => 0) (fun _ => 0) (fun _ => 0) (fun _ => 0) (fun _ => 0) k := by
  rw [begL_f]
  unfold stF
  by_cases h0 : k = 0
  · rw [if_pos h0, if_pos h0]
  · rw [if_neg h0, if_neg h0]
    by_cases h3 : k = 3
    · subst h3; rfl
    · rw [if_neg h3]
      by_cases h1 : k = 1
      · subst h1; rfl
      · by_cases h2 : k = 2
        · subst h2; rfl
        · rw [if_neg h1, if_neg h2, if_neg h3]
          by_cases h28 : k < 28
          · rw [if_pos h28]
            unfold nbFirst
            rw [lnF _ (Nat.mod_lt _ (by decide))]
            by_cases h5 : (k - 4) % 6 = 0 ∨ (k - 4) % 6 = 2
            · rw [if_pos h5, if_pos (by omega)]
            · rw [if_neg h5, if_neg (by omega)]
          · rw [if_neg h28, if_neg (by omega)]
            repeat' split
            all_goals rfl
set_option maxHeartbeats 4000000 in
set_option maxRecDepth 100000 in
theorem m_in_T (lc : Launch) (D : va_G) (cI cZ : ClassId) (N : Nat) (v : Int) (lo : Int) (hi : Int) (hr_0 : -2147483648 ≤ v ∧ v ≤ 2147483647) (hr_1 : -2147483648 ≤ lo ∧ lo ≤ 2147483647) (hr_2 : -2147483648 ≤ hi ∧ hi ≤ 2147483647) (h : lo ≤ v ∧ v ≤ hi) : CR lc D cI cZ N yX5_in wsX5_in (rmK 0 0) [.int (iI (v)), .int (iI (lo)), .int (iI (hi))] [] (some (.int (iI (1)))) := by
  refine CR.Z (cc := cX5_in) (maxL := 3) (by decide) rfl (Nat.le_of_ble_eq_true rfl) ?_
  intro p e s m args below meth c R Q S hE A hAN hfr hlo hP hD hS hret ls hl
  have S : CallFix p m c cX5_in 3 s args wsX5_in RX5 := S
  have hx := S.1
  have hb := S.2.1
  have hl : lv_has ls 3 [(0, .int (iI (v))), (1, .int (iI (lo))), (2, .int (iI (hi)))] := hl
  refine lv_iload_n hx hb dX5_in_0 rfl (lv_at hl 0 rfl) ?_
  refine lv_iload_n hx hb dX5_in_1 rfl (lv_at hl 1 rfl) ?_
  refine c_ltF (tgt := 14) S dX5_in_2 (by decide) (by omega) (by omega) (by omega) ?_
  refine lv_iload_n hx hb dX5_in_5 rfl (lv_at hl 0 rfl) ?_
  refine lv_iload_n hx hb dX5_in_6 rfl (lv_at hl 2 rfl) ?_
  refine c_gtF (tgt := 14) S dX5_in_7 (by decide) (by omega) (by omega) (by omega) ?_
  refine lv_iconst (v := iI (1)) hx hb dX5_in_10 rfl ?_
  refine lv_goto (tgt := 15) hx hb dX5_in_11 (by decide) ?_
  exact hret _ _ _ dX5_in_15 rfl (Or.inr rfl)
set_option maxHeartbeats 4000000 in
set_option maxRecDepth 100000 in
theorem m_in_F (lc : Launch) (D : va_G) (cI cZ : ClassId) (N : Nat) (v : Int) (lo : Int) (hi : Int) (hr_0 : -2147483648 ≤ v ∧ v ≤ 2147483647) (hr_1 : -2147483648 ≤ lo ∧ lo ≤ 2147483647) (hr_2 : -2147483648 ≤ hi ∧ hi ≤ 2147483647) (h : ¬ (lo ≤ v ∧ v ≤ hi)) : CR lc D cI cZ N yX5_in wsX5_in (rmK 0 0) [.int (iI (v)), .int (iI (lo)), .int (iI (hi))] [] (some (.int (iI (0)))) := by
  refine CR.Z (cc := cX5_in) (maxL := 3) (by decide) rfl (Nat.le_of_ble_eq_true rfl) ?_
  intro p e s m args below meth c R Q S hE A hAN hfr hlo hP hD hS hret ls hl
  have S : CallFix p m c cX5_in 3 s args wsX5_in RX5 := S
  have hx := S.1
  have hb := S.2.1
  have hl : lv_has ls 3 [(0, .int (iI (v))), (1, .int (iI (lo))), (2, .int (iI (hi)))] := hl
  by_cases h1 : v < lo
  · refine lv_iload_n hx hb dX5_in_0 rfl (lv_at hl 0 rfl) ?_
    refine lv_iload_n hx hb dX5_in_1 rfl (lv_at hl 1 rfl) ?_
    refine c_ltT (tgt := 14) S dX5_in_2 (by decide) (by omega) (by omega) (by omega) ?_
    refine lv_iconst (v := iI (0)) hx hb dX5_in_14 rfl ?_
    exact hret _ _ _ dX5_in_15 rfl (Or.inl rfl)
  · refine lv_iload_n hx hb dX5_in_0 rfl (lv_at hl 0 rfl) ?_
    refine lv_iload_n hx hb dX5_in_1 rfl (lv_at hl 1 rfl) ?_
    refine c_ltF (tgt := 14) S dX5_in_2 (by decide) (by omega) (by omega) (by omega) ?_
    refine lv_iload_n hx hb dX5_in_5 rfl (lv_at hl 0 rfl) ?_
    refine lv_iload_n hx hb dX5_in_6 rfl (lv_at hl 2 rfl) ?_
    refine c_gtT (tgt := 14) S dX5_in_7 (by decide) (by omega) (by omega) (by omega) ?_
    refine lv_iconst (v := iI (0)) hx hb dX5_in_14 rfl ?_
    exact hret _ _ _ dX5_in_15 rfl (Or.inl rfl)
set_option maxHeartbeats 4000000 in
set_option maxRecDepth 100000 in
theorem m_isBlock_T (lc : Launch) (D : va_G) (cI cZ : ClassId) (N : Nat) (v : Int) (hr_0 : -2147483648 ≤ v ∧ v ≤ 2147483647) (h : 0 ≤ v ∧ v ≤ 199) : CR lc D cI cZ N yX5_isBlock wsX5_isBlock (rmK 1 22) [.int (iI (v))] [] (some (.int (iI (1)))) := by
  refine CR.Z (cc := cX5_isBlock) (maxL := 1) (by decide) rfl (Nat.le_of_ble_eq_true rfl) ?_
  intro p e s m args below meth c R Q S hE A hAN hfr hlo hP hD hS hret ls hl
  have S : CallFix p m c cX5_isBlock 1 s args wsX5_isBlock RX5 := S
  have hx := S.1
  have hb := S.2.1
  have hl : lv_has ls 1 [(0, .int (iI (v)))] := hl
  refine lv_iload_n hx hb dX5_isBlock_0 rfl (lv_at hl 0 rfl) ?_
  refine lv_iconst (v := iI (0)) hx hb dX5_isBlock_1 rfl ?_
  refine lv_sipush (v := iI (199)) hx hb dX5_isBlock_2 (by decide) ?_
  refine kS_R (n := 3) S (m_in_T lc D cI cZ N v 0 199 (by omega) (by omega) (by omega) (by omega)) gX5_isBlock_X5_in rfl (by decide +kernel) rfl rfl ⟨Nat.le_trans (Nat.le_of_ble_eq_true rfl) hfr, Nat.le_trans (Nat.le_of_ble_eq_true rfl) hlo⟩ hE hAN hP hD hS [] rfl (by decide) rfl hl.1 [] rfl (Nat.le_of_ble_eq_true rfl) dX5_isBlock_5 ⟨Nat.zero_le _, Nat.zero_le _⟩ ?_
  refine W.eq (g2 := F0 m 8 ls [.int (iI (1))]) rfl ?_
  exact hret _ _ _ dX5_isBlock_8 rfl (Or.inr rfl)
set_option maxHeartbeats 4000000 in
set_option maxRecDepth 100000 in
theorem m_isBlock_F (lc : Launch) (D : va_G) (cI cZ : ClassId) (N : Nat) (v : Int) (hr_0 : -2147483648 ≤ v ∧ v ≤ 2147483647) (h : ¬ (0 ≤ v ∧ v ≤ 199)) : CR lc D cI cZ N yX5_isBlock wsX5_isBlock (rmK 1 22) [.int (iI (v))] [] (some (.int (iI (0)))) := by
  refine CR.Z (cc := cX5_isBlock) (maxL := 1) (by decide) rfl (Nat.le_of_ble_eq_true rfl) ?_
  intro p e s m args below meth c R Q S hE A hAN hfr hlo hP hD hS hret ls hl
  have S : CallFix p m c cX5_isBlock 1 s args wsX5_isBlock RX5 := S
  have hx := S.1
  have hb := S.2.1
  have hl : lv_has ls 1 [(0, .int (iI (v)))] := hl
  refine lv_iload_n hx hb dX5_isBlock_0 rfl (lv_at hl 0 rfl) ?_
  refine lv_iconst (v := iI (0)) hx hb dX5_isBlock_1 rfl ?_
  refine lv_sipush (v := iI (199)) hx hb dX5_isBlock_2 (by decide) ?_
  refine kS_R (n := 3) S (m_in_F lc D cI cZ N v 0 199 (by omega) (by omega) (by omega) (by omega)) gX5_isBlock_X5_in rfl (by decide +kernel) rfl rfl ⟨Nat.le_trans (Nat.le_of_ble_eq_true rfl) hfr, Nat.le_trans (Nat.le_of_ble_eq_true rfl) hlo⟩ hE hAN hP hD hS [] rfl (by decide) rfl hl.1 [] rfl (Nat.le_of_ble_eq_true rfl) dX5_isBlock_5 ⟨Nat.zero_le _, Nat.zero_le _⟩ ?_
  refine W.eq (g2 := F0 m 8 ls [.int (iI (0))]) rfl ?_
  exact hret _ _ _ dX5_isBlock_8 rfl (Or.inl rfl)
set_option maxHeartbeats 4000000 in
set_option maxRecDepth 100000 in
theorem m_isNode_T (lc : Launch) (D : va_G) (cI cZ : ClassId) (N : Nat) (q : Nat) (qs : Nat) (qi : Nat) (qk : Nat) (ql : Nat) (mn : Nat) (tA : Int) (sA : Int) (kA : Int) (nb : Nat → Int) (ck : Nat → Int) (hi : Nat → Int) (lo : Nat → Int) (ha : Nat → Int) (cn : Nat → Int) (sm : Nat → Int) (im : Nat → Int) (kp : Nat → Int) (le : Nat → Int) (x : Int) (hmn : 2 ≤ mn ∧ mn ≤ 5) (hxr : -2147483648 ≤ x ∧ x ≤ 2147483647) (h : 0 ≤ x ∧ x ≤ (mn : Int) - 1) : CR lc D cI cZ N yX5_isNode wsX5_isNode (rmK 1 22) [.ref q, .int (iI (x))] [(q, .inr (5, [.ref qs, .ref qi, .ref qk, .ref ql])), (qs, .inl (cI, 2108, .inl (vI (stF ((mn : Nat) : Int) tA sA kA nb ck hi lo ha cn sm)))), (qi, .inl (cI, 4216, .inl (vI im))), (qk, .inl (cZ, 2, .inl (vI kp))), (ql, .inl (cI, 25, .inl (vI le)))] (some (.int (iI (1)))) := by
  refine CR.Z (cc := cX5_isNode) (maxL := 2) (by decide) rfl (Nat.le_of_ble_eq_true rfl) ?_
  intro p e s m args below meth c R Q S hE A hAN hfr hlo hP hD hS hret ls hl
  have S : CallFix p m c cX5_isNode 2 s args wsX5_isNode RX5 := S
  have hx := S.1
  have hb := S.2.1
  have hl : lv_has ls 2 [(0, .ref q), (1, .int (iI (x)))] := hl
  refine lv_iload_n hx hb dX5_isNode_0 rfl (lv_at hl 1 rfl) ?_
  refine lv_iconst (v := iI (0)) hx hb dX5_isNode_1 rfl ?_
  refine lv_aload_n hx hb dX5_isNode_2 rfl (lv_at hl 0 rfl) ?_
  refine w_get (C := RX5) (T := TX5) (Nf := 4) (ci := 5) (v := .ref qs) S (fun _ h => List.mem_cons_of_mem _ (List.mem_append_right _ h)) hE hP 0 rfl rfl 0 (by decide) (List.mem_of_getElem? (i := 1) rfl) rfl dX5_isNode_3 ?_
  refine lv_iconst (v := iI (0)) hx hb dX5_isNode_6 rfl ?_
  refine w_iald S hE hP 1 rfl (0) (by omega) (by omega) (by omega) dX5_isNode_7 ?_
  refine w_tz (z := ((mn : Nat) : Int)) rfl ?_
  refine lv_iconst (v := iI (1)) hx hb dX5_isNode_8 rfl ?_
  refine w_isub S dX5_isNode_9 ?_
  refine kS_R (n := 3) S (m_in_T lc D cI cZ N x 0 (((mn : Nat) : Int) - 1) (by omega) (by omega) (by omega) (by omega)) gX5_isNode_X5_in rfl (by decide +kernel) rfl rfl ⟨Nat.le_trans (Nat.le_of_ble_eq_true rfl) hfr, Nat.le_trans (Nat.le_of_ble_eq_true rfl) hlo⟩ hE hAN hP hD hS [] rfl (by decide) rfl hl.1 [] rfl (Nat.le_of_ble_eq_true rfl) dX5_isNode_10 ⟨Nat.zero_le _, Nat.zero_le _⟩ ?_
  refine W.eq (g2 := F0 m 13 ls [.int (iI (1))]) rfl ?_
  exact hret _ _ _ dX5_isNode_13 rfl (Or.inr rfl)
set_option maxHeartbeats 4000000 in
set_option maxRecDepth 100000 in
theorem m_isNode_F (lc : Launch) (D : va_G) (cI cZ : ClassId) (N : Nat) (q : Nat) (qs : Nat) (qi : Nat) (qk : Nat) (ql : Nat) (mn : Nat) (tA : Int) (sA : Int) (kA : Int) (nb : Nat → Int) (ck : Nat → Int) (hi : Nat → Int) (lo : Nat → Int) (ha : Nat → Int) (cn : Nat → Int) (sm : Nat → Int) (im : Nat → Int) (kp : Nat → Int) (le : Nat → Int) (x : Int) (hmn : 2 ≤ mn ∧ mn ≤ 5) (hxr : -2147483648 ≤ x ∧ x ≤ 2147483647) (h : ¬ (0 ≤ x ∧ x ≤ (mn : Int) - 1)) : CR lc D cI cZ N yX5_isNode wsX5_isNode (rmK 1 22) [.ref q, .int (iI (x))] [(q, .inr (5, [.ref qs, .ref qi, .ref qk, .ref ql])), (qs, .inl (cI, 2108, .inl (vI (stF ((mn : Nat) : Int) tA sA kA nb ck hi lo ha cn sm)))), (qi, .inl (cI, 4216, .inl (vI im))), (qk, .inl (cZ, 2, .inl (vI kp))), (ql, .inl (cI, 25, .inl (vI le)))] (some (.int (iI (0)))) := by
  refine CR.Z (cc := cX5_isNode) (maxL := 2) (by decide) rfl (Nat.le_of_ble_eq_true rfl) ?_
  intro p e s m args below meth c R Q S hE A hAN hfr hlo hP hD hS hret ls hl
  have S : CallFix p m c cX5_isNode 2 s args wsX5_isNode RX5 := S
  have hx := S.1
  have hb := S.2.1
  have hl : lv_has ls 2 [(0, .ref q), (1, .int (iI (x)))] := hl
  refine lv_iload_n hx hb dX5_isNode_0 rfl (lv_at hl 1 rfl) ?_
  refine lv_iconst (v := iI (0)) hx hb dX5_isNode_1 rfl ?_
  refine lv_aload_n hx hb dX5_isNode_2 rfl (lv_at hl 0 rfl) ?_
  refine w_get (C := RX5) (T := TX5) (Nf := 4) (ci := 5) (v := .ref qs) S (fun _ h => List.mem_cons_of_mem _ (List.mem_append_right _ h)) hE hP 0 rfl rfl 0 (by decide) (List.mem_of_getElem? (i := 1) rfl) rfl dX5_isNode_3 ?_
  refine lv_iconst (v := iI (0)) hx hb dX5_isNode_6 rfl ?_
  refine w_iald S hE hP 1 rfl (0) (by omega) (by omega) (by omega) dX5_isNode_7 ?_
  refine w_tz (z := ((mn : Nat) : Int)) rfl ?_
  refine lv_iconst (v := iI (1)) hx hb dX5_isNode_8 rfl ?_
  refine w_isub S dX5_isNode_9 ?_
  refine kS_R (n := 3) S (m_in_F lc D cI cZ N x 0 (((mn : Nat) : Int) - 1) (by omega) (by omega) (by omega) (by omega)) gX5_isNode_X5_in rfl (by decide +kernel) rfl rfl ⟨Nat.le_trans (Nat.le_of_ble_eq_true rfl) hfr, Nat.le_trans (Nat.le_of_ble_eq_true rfl) hlo⟩ hE hAN hP hD hS [] rfl (by decide) rfl hl.1 [] rfl (Nat.le_of_ble_eq_true rfl) dX5_isNode_10 ⟨Nat.zero_le _, Nat.zero_le _⟩ ?_
  refine W.eq (g2 := F0 m 13 ls [.int (iI (0))]) rfl ?_
  exact hret _ _ _ dX5_isNode_13 rfl (Or.inl rfl)
set_option maxHeartbeats 4000000 in
set_option maxRecDepth 100000 in
theorem m_isLink_T (lc : Launch) (D : va_G) (cI cZ : ClassId) (N : Nat) (q : Nat) (qs : Nat) (qi : Nat) (qk : Nat) (ql : Nat) (mn : Nat) (tA : Int) (sA : Int) (kA : Int) (nb : Nat → Int) (ck : Nat → Int) (hi : Nat → Int) (lo : Nat → Int) (ha : Nat → Int) (cn : Nat → Int) (sm : Nat → Int) (im : Nat → Int) (kp : Nat → Int) (le : Nat → Int) (x : Int) (hmn : 2 ≤ mn ∧ mn ≤ 5) (hxr : -2147483648 ≤ x ∧ x ≤ 2147483647) (h : 0 ≤ x ∧ x ≤ (mn : Int) - 2) : CR lc D cI cZ N yX5_isLink wsX5_isLink (rmK 1 22) [.ref q, .int (iI (x))] [(q, .inr (5, [.ref qs, .ref qi, .ref qk, .ref ql])), (qs, .inl (cI, 2108, .inl (vI (stF ((mn : Nat) : Int) tA sA kA nb ck hi lo ha cn sm)))), (qi, .inl (cI, 4216, .inl (vI im))), (qk, .inl (cZ, 2, .inl (vI kp))), (ql, .inl (cI, 25, .inl (vI le)))] (some (.int (iI (1)))) := by
  refine CR.Z (cc := cX5_isLink) (maxL := 2) (by decide) rfl (Nat.le_of_ble_eq_true rfl) ?_
  intro p e s m args below meth c R Q S hE A hAN hfr hlo hP hD hS hret ls hl
  have S : CallFix p m c cX5_isLink 2 s args wsX5_isLink RX5 := S
  have hx := S.1
  have hb := S.2.1
  have hl : lv_has ls 2 [(0, .ref q), (1, .int (iI (x)))] := hl
  refine lv_iload_n hx hb dX5_isLink_0 rfl (lv_at hl 1 rfl) ?_
  refine lv_iconst (v := iI (0)) hx hb dX5_isLink_1 rfl ?_
  refine lv_aload_n hx hb dX5_isLink_2 rfl (lv_at hl 0 rfl) ?_
  refine w_get (C := RX5) (T := TX5) (Nf := 4) (ci := 5) (v := .ref qs) S (fun _ h => List.mem_cons_of_mem _ (List.mem_append_right _ h)) hE hP 0 rfl rfl 0 (by decide) (List.mem_of_getElem? (i := 1) rfl) rfl dX5_isLink_3 ?_
  refine lv_iconst (v := iI (0)) hx hb dX5_isLink_6 rfl ?_
  refine w_iald S hE hP 1 rfl (0) (by omega) (by omega) (by omega) dX5_isLink_7 ?_
  refine w_tz (z := ((mn : Nat) : Int)) rfl ?_
  refine lv_iconst (v := iI (2)) hx hb dX5_isLink_8 rfl ?_
  refine w_isub S dX5_isLink_9 ?_
  refine kS_R (n := 3) S (m_in_T lc D cI cZ N x 0 (((mn : Nat) : Int) - 2) (by omega) (by omega) (by omega) (by omega)) gX5_isLink_X5_in rfl (by decide +kernel) rfl rfl ⟨Nat.le_trans (Nat.le_of_ble_eq_true rfl) hfr, Nat.le_trans (Nat.le_of_ble_eq_true rfl) hlo⟩ hE hAN hP hD hS [] rfl (by decide) rfl hl.1 [] rfl (Nat.le_of_ble_eq_true rfl) dX5_isLink_10 ⟨Nat.zero_le _, Nat.zero_le _⟩ ?_
  refine W.eq (g2 := F0 m 13 ls [.int (iI (1))]) rfl ?_
  exact hret _ _ _ dX5_isLink_13 rfl (Or.inr rfl)
set_option maxHeartbeats 4000000 in
set_option maxRecDepth 100000 in
theorem m_isLink_F (lc : Launch) (D : va_G) (cI cZ : ClassId) (N : Nat) (q : Nat) (qs : Nat) (qi : Nat) (qk : Nat) (ql : Nat) (mn : Nat) (tA : Int) (sA : Int) (kA : Int) (nb : Nat → Int) (ck : Nat → Int) (hi : Nat → Int) (lo : Nat → Int) (ha : Nat → Int) (cn : Nat → Int) (sm : Nat → Int) (im : Nat → Int) (kp : Nat → Int) (le : Nat → Int) (x : Int) (hmn : 2 ≤ mn ∧ mn ≤ 5) (hxr : -2147483648 ≤ x ∧ x ≤ 2147483647) (h : ¬ (0 ≤ x ∧ x ≤ (mn : Int) - 2)) : CR lc D cI cZ N yX5_isLink wsX5_isLink (rmK 1 22) [.ref q, .int (iI (x))] [(q, .inr (5, [.ref qs, .ref qi, .ref qk, .ref ql])), (qs, .inl (cI, 2108, .inl (vI (stF ((mn : Nat) : Int) tA sA kA nb ck hi lo ha cn sm)))), (qi, .inl (cI, 4216, .inl (vI im))), (qk, .inl (cZ, 2, .inl (vI kp))), (ql, .inl (cI, 25, .inl (vI le)))] (some (.int (iI (0)))) := by
  refine CR.Z (cc := cX5_isLink) (maxL := 2) (by decide) rfl (Nat.le_of_ble_eq_true rfl) ?_
  intro p e s m args below meth c R Q S hE A hAN hfr hlo hP hD hS hret ls hl
  have S : CallFix p m c cX5_isLink 2 s args wsX5_isLink RX5 := S
  have hx := S.1
  have hb := S.2.1
  have hl : lv_has ls 2 [(0, .ref q), (1, .int (iI (x)))] := hl
  refine lv_iload_n hx hb dX5_isLink_0 rfl (lv_at hl 1 rfl) ?_
  refine lv_iconst (v := iI (0)) hx hb dX5_isLink_1 rfl ?_
  refine lv_aload_n hx hb dX5_isLink_2 rfl (lv_at hl 0 rfl) ?_
  refine w_get (C := RX5) (T := TX5) (Nf := 4) (ci := 5) (v := .ref qs) S (fun _ h => List.mem_cons_of_mem _ (List.mem_append_right _ h)) hE hP 0 rfl rfl 0 (by decide) (List.mem_of_getElem? (i := 1) rfl) rfl dX5_isLink_3 ?_
  refine lv_iconst (v := iI (0)) hx hb dX5_isLink_6 rfl ?_
  refine w_iald S hE hP 1 rfl (0) (by omega) (by omega) (by omega) dX5_isLink_7 ?_
  refine w_tz (z := ((mn : Nat) : Int)) rfl ?_
  refine lv_iconst (v := iI (2)) hx hb dX5_isLink_8 rfl ?_
  refine w_isub S dX5_isLink_9 ?_
  refine kS_R (n := 3) S (m_in_F lc D cI cZ N x 0 (((mn : Nat) : Int) - 2) (by omega) (by omega) (by omega) (by omega)) gX5_isLink_X5_in rfl (by decide +kernel) rfl rfl ⟨Nat.le_trans (Nat.le_of_ble_eq_true rfl) hfr, Nat.le_trans (Nat.le_of_ble_eq_true rfl) hlo⟩ hE hAN hP hD hS [] rfl (by decide) rfl hl.1 [] rfl (Nat.le_of_ble_eq_true rfl) dX5_isLink_10 ⟨Nat.zero_le _, Nat.zero_le _⟩ ?_
  refine W.eq (g2 := F0 m 13 ls [.int (iI (0))]) rfl ?_
  exact hret _ _ _ dX5_isLink_13 rfl (Or.inl rfl)
set_option maxHeartbeats 4000000 in
set_option maxRecDepth 100000 in
theorem m_linkOf (lc : Launch) (D : va_G) (cI cZ : ClassId) (N : Nat) (q : Nat) (qs : Nat) (qi : Nat) (qk : Nat) (ql : Nat) (mn : Nat) (tA : Int) (sA : Int) (kA : Int) (nb : Nat → Int) (ck : Nat → Int) (hi : Nat → Int) (lo : Nat → Int) (ha : Nat → Int) (cn : Nat → Int) (sm : Nat → Int) (im : Nat → Int) (kp : Nat → Int) (le : Nat → Int) (lk : Nat) (wh : Nat) (hw : lk * 6 + wh < 24) : CR lc D cI cZ N yX5_linkOf wsX5_linkOf (rmK 0 0) [.ref q, .int (iI (((lk : Nat) : Int))), .int (iI (((wh : Nat) : Int)))] [(q, .inr (5, [.ref qs, .ref qi, .ref qk, .ref ql])), (qs, .inl (cI, 2108, .inl (vI (stF ((mn : Nat) : Int) tA sA kA nb ck hi lo ha cn sm)))), (qi, .inl (cI, 4216, .inl (vI im))), (qk, .inl (cZ, 2, .inl (vI kp))), (ql, .inl (cI, 25, .inl (vI le)))] (some (.int (iI (nb (lk * 6 + wh))))) := by
  refine CR.I (cc := cX5_linkOf) (maxL := 3) (by decide) rfl (Nat.le_of_ble_eq_true rfl) ?_
  intro p e s m args below meth c R Q S hE A hAN hfr hlo hP hD hS hret ls hl
  have S : CallFix p m c cX5_linkOf 3 s args wsX5_linkOf RX5 := S
  have hx := S.1
  have hb := S.2.1
  have hl : lv_has ls 3 [(0, .ref q), (1, .int (iI (((lk : Nat) : Int)))), (2, .int (iI (((wh : Nat) : Int))))] := hl
  refine lv_aload_n hx hb dX5_linkOf_0 rfl (lv_at hl 0 rfl) ?_
  refine w_get (C := RX5) (T := TX5) (Nf := 4) (ci := 5) (v := .ref qs) S (fun _ h => List.mem_cons_of_mem _ (List.mem_append_right _ h)) hE hP 0 rfl rfl 0 (by decide) (List.mem_of_getElem? (i := 1) rfl) rfl dX5_linkOf_1 ?_
  refine lv_iconst (v := iI (4)) hx hb dX5_linkOf_4 rfl ?_
  refine lv_bipush (v := iI (6)) hx hb dX5_linkOf_5 (by decide) ?_
  refine lv_iload_n hx hb dX5_linkOf_7 rfl (lv_at hl 1 rfl) ?_
  refine w_imul S dX5_linkOf_8 ?_
  refine w_iadd S dX5_linkOf_9 ?_
  refine lv_iload_n hx hb dX5_linkOf_10 rfl (lv_at hl 2 rfl) ?_
  refine w_iadd S dX5_linkOf_11 ?_
  refine w_iald S hE hP 1 rfl ((4 + (6 * lk)) + wh) (by omega) (by omega) (by omega) dX5_linkOf_12 ?_
  refine w_tz (z := nb (lk * 6 + wh)) (st_nb (by omega) (by omega)) ?_
  exact hret _ _ _ dX5_linkOf_13 rfl
set_option maxHeartbeats 4000000 in
set_option maxRecDepth 100000 in
theorem m_countOf (lc : Launch) (D : va_G) (cI cZ : ClassId) (N : Nat) (q : Nat) (qs : Nat) (qi : Nat) (qk : Nat) (ql : Nat) (mn : Nat) (tA : Int) (sA : Int) (kA : Int) (nb : Nat → Int) (ck : Nat → Int) (hi : Nat → Int) (lo : Nat → Int) (ha : Nat → Int) (cn : Nat → Int) (sm : Nat → Int) (im : Nat → Int) (kp : Nat → Int) (le : Nat → Int) (nd : Nat) (bk : Nat) (hn : nd < 5) (hb2 : bk < 200) : CR lc D cI cZ N yX5_countOf wsX5_countOf (rmK 0 0) [.ref q, .int (iI (((nd : Nat) : Int))), .int (iI (((bk : Nat) : Int)))] [(q, .inr (5, [.ref qs, .ref qi, .ref qk, .ref ql])), (qs, .inl (cI, 2108, .inl (vI (stF ((mn : Nat) : Int) tA sA kA nb ck hi lo ha cn sm)))), (qi, .inl (cI, 4216, .inl (vI im))), (qk, .inl (cZ, 2, .inl (vI kp))), (ql, .inl (cI, 25, .inl (vI le)))] (some (.int (iI (cn (nd * 200 + bk))))) := by
  refine CR.I (cc := cX5_countOf) (maxL := 3) (by decide) rfl (Nat.le_of_ble_eq_true rfl) ?_
  intro p e s m args below meth c R Q S hE A hAN hfr hlo hP hD hS hret ls hl
  have S : CallFix p m c cX5_countOf 3 s args wsX5_countOf RX5 := S
  have hx := S.1
  have hb := S.2.1
  have hl : lv_has ls 3 [(0, .ref q), (1, .int (iI (((nd : Nat) : Int)))), (2, .int (iI (((bk : Nat) : Int))))] := hl
  refine lv_aload_n hx hb dX5_countOf_0 rfl (lv_at hl 0 rfl) ?_
  refine w_get (C := RX5) (T := TX5) (Nf := 4) (ci := 5) (v := .ref qs) S (fun _ h => List.mem_cons_of_mem _ (List.mem_append_right _ h)) hE hP 0 rfl rfl 0 (by decide) (List.mem_of_getElem? (i := 1) rfl) rfl dX5_countOf_1 ?_
  refine lv_bipush (v := iI (108)) hx hb dX5_countOf_4 (by decide) ?_
  refine lv_sipush (v := iI (200)) hx hb dX5_countOf_6 (by decide) ?_
  refine lv_iload_n hx hb dX5_countOf_9 rfl (lv_at hl 1 rfl) ?_
  refine w_imul S dX5_countOf_10 ?_
  refine w_iadd S dX5_countOf_11 ?_
  refine lv_iload_n hx hb dX5_countOf_12 rfl (lv_at hl 2 rfl) ?_
  refine w_iadd S dX5_countOf_13 ?_
  refine w_iald S hE hP 1 rfl ((108 + (200 * nd)) + bk) (by omega) (by omega) (by omega) dX5_countOf_14 ?_
  refine w_tz (z := cn (nd * 200 + bk)) (st_cn (by omega) (by omega)) ?_
  exact hret _ _ _ dX5_countOf_15 rfl
set_option maxHeartbeats 4000000 in
set_option maxRecDepth 100000 in
theorem m_sumOf (lc : Launch) (D : va_G) (cI cZ : ClassId) (N : Nat) (q : Nat) (qs : Nat) (qi : Nat) (qk : Nat) (ql : Nat) (mn : Nat) (tA : Int) (sA : Int) (kA : Int) (nb : Nat → Int) (ck : Nat → Int) (hi : Nat → Int) (lo : Nat → Int) (ha : Nat → Int) (cn : Nat → Int) (sm : Nat → Int) (im : Nat → Int) (kp : Nat → Int) (le : Nat → Int) (nd : Nat) (bk : Nat) (hn : nd < 5) (hb2 : bk < 200) : CR lc D cI cZ N yX5_sumOf wsX5_sumOf (rmK 0 0) [.ref q, .int (iI (((nd : Nat) : Int))), .int (iI (((bk : Nat) : Int)))] [(q, .inr (5, [.ref qs, .ref qi, .ref qk, .ref ql])), (qs, .inl (cI, 2108, .inl (vI (stF ((mn : Nat) : Int) tA sA kA nb ck hi lo ha cn sm)))), (qi, .inl (cI, 4216, .inl (vI im))), (qk, .inl (cZ, 2, .inl (vI kp))), (ql, .inl (cI, 25, .inl (vI le)))] (some (.int (iI (sm (nd * 200 + bk))))) := by
  refine CR.I (cc := cX5_sumOf) (maxL := 3) (by decide) rfl (Nat.le_of_ble_eq_true rfl) ?_
  intro p e s m args below meth c R Q S hE A hAN hfr hlo hP hD hS hret ls hl
  have S : CallFix p m c cX5_sumOf 3 s args wsX5_sumOf RX5 := S
  have hx := S.1
  have hb := S.2.1
  have hl : lv_has ls 3 [(0, .ref q), (1, .int (iI (((nd : Nat) : Int)))), (2, .int (iI (((bk : Nat) : Int))))] := hl
  refine lv_aload_n hx hb dX5_sumOf_0 rfl (lv_at hl 0 rfl) ?_
  refine w_get (C := RX5) (T := TX5) (Nf := 4) (ci := 5) (v := .ref qs) S (fun _ h => List.mem_cons_of_mem _ (List.mem_append_right _ h)) hE hP 0 rfl rfl 0 (by decide) (List.mem_of_getElem? (i := 1) rfl) rfl dX5_sumOf_1 ?_
  refine lv_sipush (v := iI (1108)) hx hb dX5_sumOf_4 (by decide) ?_
  refine lv_sipush (v := iI (200)) hx hb dX5_sumOf_7 (by decide) ?_
  refine lv_iload_n hx hb dX5_sumOf_10 rfl (lv_at hl 1 rfl) ?_
  refine w_imul S dX5_sumOf_11 ?_
  refine w_iadd S dX5_sumOf_12 ?_
  refine lv_iload_n hx hb dX5_sumOf_13 rfl (lv_at hl 2 rfl) ?_
  refine w_iadd S dX5_sumOf_14 ?_
  refine w_iald S hE hP 1 rfl ((1108 + (200 * nd)) + bk) (by omega) (by omega) (by omega) dX5_sumOf_15 ?_
  refine w_tz (z := sm (nd * 200 + bk)) (st_sm (by omega) (by omega)) ?_
  exact hret _ _ _ dX5_sumOf_16 rfl
set_option maxHeartbeats 4000000 in
set_option maxRecDepth 100000 in
theorem m_lostOf (lc : Launch) (D : va_G) (cI cZ : ClassId) (N : Nat) (q : Nat) (qs : Nat) (qi : Nat) (qk : Nat) (ql : Nat) (mn : Nat) (tA : Int) (sA : Int) (kA : Int) (nb : Nat → Int) (ck : Nat → Int) (hi : Nat → Int) (lo : Nat → Int) (ha : Nat → Int) (cn : Nat → Int) (sm : Nat → Int) (im : Nat → Int) (kp : Nat → Int) (le : Nat → Int) (lk : Nat) (bk : Nat) (hn : lk < 4) (hb2 : bk < 200) : CR lc D cI cZ N yX5_lostOf wsX5_lostOf (rmK 1 22) [.ref q, .int (iI (((lk : Nat) : Int))), .int (iI (((bk : Nat) : Int)))] [(q, .inr (5, [.ref qs, .ref qi, .ref qk, .ref ql])), (qs, .inl (cI, 2108, .inl (vI (stF ((mn : Nat) : Int) tA sA kA nb ck hi lo ha cn sm)))), (qi, .inl (cI, 4216, .inl (vI im))), (qk, .inl (cZ, 2, .inl (vI kp))), (ql, .inl (cI, 25, .inl (vI le)))] (some (.int (iI (cn (lk * 200 + bk) - cn ((lk + 1) * 200 + bk))))) := by
  refine CR.I (cc := cX5_lostOf) (maxL := 3) (by decide) rfl (Nat.le_of_ble_eq_true rfl) ?_
  intro p e s m args below meth c R Q S hE A hAN hfr hlo hP hD hS hret ls hl
  have S : CallFix p m c cX5_lostOf 3 s args wsX5_lostOf RX5 := S
  have hx := S.1
  have hb := S.2.1
  have hl : lv_has ls 3 [(0, .ref q), (1, .int (iI (((lk : Nat) : Int)))), (2, .int (iI (((bk : Nat) : Int))))] := hl
  refine lv_aload_n hx hb dX5_lostOf_0 rfl (lv_at hl 0 rfl) ?_
  refine lv_iload_n hx hb dX5_lostOf_1 rfl (lv_at hl 1 rfl) ?_
  refine lv_iload_n hx hb dX5_lostOf_2 rfl (lv_at hl 2 rfl) ?_
  refine kV_R (n := 2) (ci := 5) (q := (RX5, TX5, 4)) S (m_countOf lc D cI cZ N q qs qi qk ql mn tA sA kA nb ck hi lo ha cn sm im kp le lk bk (by omega) (by omega)) gX5_lostOf_X5_countOf rfl rfl (by decide +kernel) rfl rfl ⟨Nat.le_trans (Nat.le_of_ble_eq_true rfl) hfr, Nat.le_trans (Nat.le_of_ble_eq_true rfl) hlo⟩ hE hAN hP hD hS [0, 1, 2, 3, 4] rfl (by decide) rfl rfl rfl rfl hl.1 [] rfl (Nat.le_of_ble_eq_true rfl) dX5_lostOf_3 ⟨Nat.zero_le _, Nat.zero_le _⟩ ?_
  refine W.eq (g2 := F0 m 6 ls [.int (iI (cn (lk * 200 + bk)))]) rfl ?_
  refine lv_aload_n hx hb dX5_lostOf_6 rfl (lv_at hl 0 rfl) ?_
  refine lv_iload_n hx hb dX5_lostOf_7 rfl (lv_at hl 1 rfl) ?_
  refine lv_iconst (v := iI (1)) hx hb dX5_lostOf_8 rfl ?_
  refine w_iadd S dX5_lostOf_9 ?_
  refine lv_iload_n hx hb dX5_lostOf_10 rfl (lv_at hl 2 rfl) ?_
  refine kV_R (n := 2) (ci := 5) (q := (RX5, TX5, 4)) S (m_countOf lc D cI cZ N q qs qi qk ql mn tA sA kA nb ck hi lo ha cn sm im kp le (lk + 1) bk (by omega) (by omega)) gX5_lostOf_X5_countOf rfl rfl (by decide +kernel) rfl rfl ⟨Nat.le_trans (Nat.le_of_ble_eq_true rfl) hfr, Nat.le_trans (Nat.le_of_ble_eq_true rfl) hlo⟩ hE hAN hP hD hS [0, 1, 2, 3, 4] rfl (by decide) rfl rfl rfl rfl hl.1 [.int (iI (cn (lk * 200 + bk)))] rfl (Nat.le_of_ble_eq_true rfl) dX5_lostOf_11 ⟨Nat.zero_le _, Nat.zero_le _⟩ ?_
  refine W.eq (g2 := F0 m 14 ls [.int (iI (cn ((lk + 1) * 200 + bk))), .int (iI (cn (lk * 200 + bk)))]) rfl ?_
  refine w_isub S dX5_lostOf_14 ?_
  exact hret _ _ _ dX5_lostOf_15 (congrArg iI (by omega))
set_option maxHeartbeats 4000000 in
set_option maxRecDepth 100000 in
theorem m_canBe_T (lc : Launch) (D : va_G) (cI cZ : ClassId) (N : Nat) (wh : Nat) (v : Int) (r_v : -2147483648 ≤ v ∧ v ≤ 2147483647) (hwh : wh < 6) (h : lnLeast wh ≤ v ∧ v ≤ lnMost wh) : CR lc D cI cZ N yX5_canBe wsX5_canBe (rmK 1 22) [.int (iI (((wh : Nat) : Int))), .int (iI (v))] [] (some (.int (iI (1)))) := by
  refine CR.Z (cc := cX5_canBe) (maxL := 2) (by decide) rfl (Nat.le_of_ble_eq_true rfl) ?_
  intro p e s m args below meth c R Q S hE A hAN hfr hlo hP hD hS hret ls hl
  have S : CallFix p m c cX5_canBe 2 s args wsX5_canBe RX5 := S
  have hx := S.1
  have hb := S.2.1
  have hl : lv_has ls 2 [(0, .int (iI (((wh : Nat) : Int)))), (1, .int (iI (v)))] := hl
  by_cases h0 : wh = 0
  · have hl2 := ln_02 wh hwh (Or.inl h0)
    refine lv_iload_n hx hb dX5_canBe_0 rfl (lv_at hl 0 rfl) ?_
    refine b_eqT (tgt := 9) S dX5_canBe_1 (by decide) (by omega) ?_
    refine lv_iload_n hx hb dX5_canBe_9 rfl (lv_at hl 1 rfl) ?_
    refine lv_iconst (v := iI (1)) hx hb dX5_canBe_10 rfl ?_
    refine lv_bipush (v := iI (20)) hx hb dX5_canBe_11 (by decide) ?_
    refine kS_R (n := 3) S (m_in_T lc D cI cZ N v 1 20 (by omega) (by omega) (by omega) (by omega)) gX5_canBe_X5_in rfl (by decide +kernel) rfl rfl ⟨Nat.le_trans (Nat.le_of_ble_eq_true rfl) hfr, Nat.le_trans (Nat.le_of_ble_eq_true rfl) hlo⟩ hE hAN hP hD hS [] rfl (by decide) rfl hl.1 [] rfl (Nat.le_of_ble_eq_true rfl) dX5_canBe_13 ⟨Nat.zero_le _, Nat.zero_le _⟩ ?_
    refine W.eq (g2 := F0 m 16 ls [.int (iI (1))]) rfl ?_
    refine lv_goto (tgt := 26) hx hb dX5_canBe_16 (by decide) ?_
    exact hret _ _ _ dX5_canBe_26 rfl (Or.inr rfl)
  · refine lv_iload_n hx hb dX5_canBe_0 rfl (lv_at hl 0 rfl) ?_
    refine b_eqF (tgt := 9) S dX5_canBe_1 (by decide) (by omega) (by omega) ?_
    by_cases h2 : wh = 2
    · have hl2 := ln_02 wh hwh (Or.inr h2)
      refine lv_iload_n hx hb dX5_canBe_4 rfl (lv_at hl 0 rfl) ?_
      refine lv_iconst (v := iI (2)) hx hb dX5_canBe_5 rfl ?_
      refine c_neF (tgt := 19) S dX5_canBe_6 (by decide) (by omega) ?_
      refine lv_iload_n hx hb dX5_canBe_9 rfl (lv_at hl 1 rfl) ?_
      refine lv_iconst (v := iI (1)) hx hb dX5_canBe_10 rfl ?_
      refine lv_bipush (v := iI (20)) hx hb dX5_canBe_11 (by decide) ?_
      refine kS_R (n := 3) S (m_in_T lc D cI cZ N v 1 20 (by omega) (by omega) (by omega) (by omega)) gX5_canBe_X5_in rfl (by decide +kernel) rfl rfl ⟨Nat.le_trans (Nat.le_of_ble_eq_true rfl) hfr, Nat.le_trans (Nat.le_of_ble_eq_true rfl) hlo⟩ hE hAN hP hD hS [] rfl (by decide) rfl hl.1 [] rfl (Nat.le_of_ble_eq_true rfl) dX5_canBe_13 ⟨Nat.zero_le _, Nat.zero_le _⟩ ?_
      refine W.eq (g2 := F0 m 16 ls [.int (iI (1))]) rfl ?_
      refine lv_goto (tgt := 26) hx hb dX5_canBe_16 (by decide) ?_
      exact hret _ _ _ dX5_canBe_26 rfl (Or.inr rfl)
    · have hl2 := ln_un wh hwh h0 h2
      refine lv_iload_n hx hb dX5_canBe_4 rfl (lv_at hl 0 rfl) ?_
      refine lv_iconst (v := iI (2)) hx hb dX5_canBe_5 rfl ?_
      refine c_neT (tgt := 19) S dX5_canBe_6 (by decide) (by omega) (by omega) (by omega) ?_
      refine lv_iload_n hx hb dX5_canBe_19 rfl (lv_at hl 1 rfl) ?_
      refine lv_iconst (v := iI (0)) hx hb dX5_canBe_20 rfl ?_
      refine lv_bipush (v := iI (9)) hx hb dX5_canBe_21 (by decide) ?_
      refine kS_R (n := 3) S (m_in_T lc D cI cZ N v 0 9 (by omega) (by omega) (by omega) (by omega)) gX5_canBe_X5_in rfl (by decide +kernel) rfl rfl ⟨Nat.le_trans (Nat.le_of_ble_eq_true rfl) hfr, Nat.le_trans (Nat.le_of_ble_eq_true rfl) hlo⟩ hE hAN hP hD hS [] rfl (by decide) rfl hl.1 [] rfl (Nat.le_of_ble_eq_true rfl) dX5_canBe_23 ⟨Nat.zero_le _, Nat.zero_le _⟩ ?_
      refine W.eq (g2 := F0 m 26 ls [.int (iI (1))]) rfl ?_
      exact hret _ _ _ dX5_canBe_26 rfl (Or.inr rfl)
set_option maxHeartbeats 4000000 in
set_option maxRecDepth 100000 in
theorem m_canBe_F (lc : Launch) (D : va_G) (cI cZ : ClassId) (N : Nat) (wh : Nat) (v : Int) (r_v : -2147483648 ≤ v ∧ v ≤ 2147483647) (hwh : wh < 6) (h : ¬ (lnLeast wh ≤ v ∧ v ≤ lnMost wh)) : CR lc D cI cZ N yX5_canBe wsX5_canBe (rmK 1 22) [.int (iI (((wh : Nat) : Int))), .int (iI (v))] [] (some (.int (iI (0)))) := by
  refine CR.Z (cc := cX5_canBe) (maxL := 2) (by decide) rfl (Nat.le_of_ble_eq_true rfl) ?_
  intro p e s m args below meth c R Q S hE A hAN hfr hlo hP hD hS hret ls hl
  have S : CallFix p m c cX5_canBe 2 s args wsX5_canBe RX5 := S
  have hx := S.1
  have hb := S.2.1
  have hl : lv_has ls 2 [(0, .int (iI (((wh : Nat) : Int)))), (1, .int (iI (v)))] := hl
  by_cases h0 : wh = 0
  · have hl2 := ln_02 wh hwh (Or.inl h0)
    refine lv_iload_n hx hb dX5_canBe_0 rfl (lv_at hl 0 rfl) ?_
    refine b_eqT (tgt := 9) S dX5_canBe_1 (by decide) (by omega) ?_
    refine lv_iload_n hx hb dX5_canBe_9 rfl (lv_at hl 1 rfl) ?_
    refine lv_iconst (v := iI (1)) hx hb dX5_canBe_10 rfl ?_
    refine lv_bipush (v := iI (20)) hx hb dX5_canBe_11 (by decide) ?_
    refine kS_R (n := 3) S (m_in_F lc D cI cZ N v 1 20 (by omega) (by omega) (by omega) (by omega)) gX5_canBe_X5_in rfl (by decide +kernel) rfl rfl ⟨Nat.le_trans (Nat.le_of_ble_eq_true rfl) hfr, Nat.le_trans (Nat.le_of_ble_eq_true rfl) hlo⟩ hE hAN hP hD hS [] rfl (by decide) rfl hl.1 [] rfl (Nat.le_of_ble_eq_true rfl) dX5_canBe_13 ⟨Nat.zero_le _, Nat.zero_le _⟩ ?_
    refine W.eq (g2 := F0 m 16 ls [.int (iI (0))]) rfl ?_
    refine lv_goto (tgt := 26) hx hb dX5_canBe_16 (by decide) ?_
    exact hret _ _ _ dX5_canBe_26 rfl (Or.inl rfl)
  · refine lv_iload_n hx hb dX5_canBe_0 rfl (lv_at hl 0 rfl) ?_
    refine b_eqF (tgt := 9) S dX5_canBe_1 (by decide) (by omega) (by omega) ?_
    by_cases h2 : wh = 2
    · have hl2 := ln_02 wh hwh (Or.inr h2)
      refine lv_iload_n hx hb dX5_canBe_4 rfl (lv_at hl 0 rfl) ?_
      refine lv_iconst (v := iI (2)) hx hb dX5_canBe_5 rfl ?_
      refine c_neF (tgt := 19) S dX5_canBe_6 (by decide) (by omega) ?_
      refine lv_iload_n hx hb dX5_canBe_9 rfl (lv_at hl 1 rfl) ?_
      refine lv_iconst (v := iI (1)) hx hb dX5_canBe_10 rfl ?_
      refine lv_bipush (v := iI (20)) hx hb dX5_canBe_11 (by decide) ?_
      refine kS_R (n := 3) S (m_in_F lc D cI cZ N v 1 20 (by omega) (by omega) (by omega) (by omega)) gX5_canBe_X5_in rfl (by decide +kernel) rfl rfl ⟨Nat.le_trans (Nat.le_of_ble_eq_true rfl) hfr, Nat.le_trans (Nat.le_of_ble_eq_true rfl) hlo⟩ hE hAN hP hD hS [] rfl (by decide) rfl hl.1 [] rfl (Nat.le_of_ble_eq_true rfl) dX5_canBe_13 ⟨Nat.zero_le _, Nat.zero_le _⟩ ?_
      refine W.eq (g2 := F0 m 16 ls [.int (iI (0))]) rfl ?_
      refine lv_goto (tgt := 26) hx hb dX5_canBe_16 (by decide) ?_
      exact hret _ _ _ dX5_canBe_26 rfl (Or.inl rfl)
    · have hl2 := ln_un wh hwh h0 h2
      refine lv_iload_n hx hb dX5_canBe_4 rfl (lv_at hl 0 rfl) ?_
      refine lv_iconst (v := iI (2)) hx hb dX5_canBe_5 rfl ?_
      refine c_neT (tgt := 19) S dX5_canBe_6 (by decide) (by omega) (by omega) (by omega) ?_
      refine lv_iload_n hx hb dX5_canBe_19 rfl (lv_at hl 1 rfl) ?_
      refine lv_iconst (v := iI (0)) hx hb dX5_canBe_20 rfl ?_
      refine lv_bipush (v := iI (9)) hx hb dX5_canBe_21 (by decide) ?_
      refine kS_R (n := 3) S (m_in_F lc D cI cZ N v 0 9 (by omega) (by omega) (by omega) (by omega)) gX5_canBe_X5_in rfl (by decide +kernel) rfl rfl ⟨Nat.le_trans (Nat.le_of_ble_eq_true rfl) hfr, Nat.le_trans (Nat.le_of_ble_eq_true rfl) hlo⟩ hE hAN hP hD hS [] rfl (by decide) rfl hl.1 [] rfl (Nat.le_of_ble_eq_true rfl) dX5_canBe_23 ⟨Nat.zero_le _, Nat.zero_le _⟩ ?_
      refine W.eq (g2 := F0 m 26 ls [.int (iI (0))]) rfl ?_
      exact hret _ _ _ dX5_canBe_26 rfl (Or.inl rfl)
set_option maxHeartbeats 4000000 in
set_option maxRecDepth 100000 in
theorem m_begin (lc : Launch) (D : va_G) (cI cZ : ClassId) (N : Nat) (q : Nat) (qs : Nat) (qi : Nat) (qk : Nat) (ql : Nat) (mn : Nat) (tA : Int) (sA : Int) (kA : Int) (nb : Nat → Int) (ck : Nat → Int) (hi : Nat → Int) (lo : Nat → Int) (ha : Nat → Int) (cn : Nat → Int) (sm : Nat → Int) (im : Nat → Int) (kp : Nat → Int) (le : Nat → Int) (v : Nat)  : CM lc D cI cZ N yX5_begin wsX5_begin (rmK 0 0) [.ref q, .int (iI (((v : Nat) : Int)))] [(q, .inr (5, [.ref qs, .ref qi, .ref qk, .ref ql])), (qs, .inl (cI, 2108, .inl (vI (stF ((mn : Nat) : Int) tA sA kA nb ck hi lo ha cn sm)))), (qi, .inl (cI, 4216, .inl (vI im))), (qk, .inl (cZ, 2, .inl (vI kp))), (ql, .inl (cI, 25, .inl (vI le)))] none [(q, .inr (5, [.ref qs, .ref qi, .ref qk, .ref ql])), (qs, .inl (cI, 2108, .inl (vI (stF ((v : Nat) : Int) 0 0 5 nbFirst (fun _ => 0) (fun _ => 0) (fun _ => 0) (fun _ => 0) (fun _ => 0) (fun _ => 0))))), (qi, .inl (cI, 4216, .inl (vI im))), (qk, .inl (cZ, 2, .inl (vI kp))), (ql, .inl (cI, 25, .inl (vI le)))] := by
  refine CM.V (cc := cX5_begin) (maxL := 3) (by decide) rfl (Nat.le_of_ble_eq_true rfl) ?_
  intro p e s m args below meth c R Q S hE A hAN hfr hlo hP hD hS hret ls hl
  have S : CallFix p m c cX5_begin 3 s args wsX5_begin RX5 := S
  have hx := S.1
  have hb := S.2.1
  have hl : lv_has ls 3 [(0, .ref q), (1, .int (iI (((v : Nat) : Int))))] := hl
  refine lv_iconst (v := iI (0)) hx hb dX5_begin_0 rfl ?_
  refine lv_istore_n (lv' := [(2, .int (iI (0))), (0, .ref q), (1, .int (iI (((v : Nat) : Int))))]) hx hb dX5_begin_1 rfl hl (by decide) rfl (fun ls hl => ?_)
  have loop1 : ∀ (u i : Nat) , i + u = 2108 → ∀ (H : Heap) (locs : List Loc) (ls : Array Slot), va_P D vwCl [(q, .inr (5, [.ref qs, .ref qi, .ref qk, .ref ql])), (qs, .inl (cI, 2108, .inl (vI (fun j => if j < i then 0 else (stF ((mn : Nat) : Int) tA sA kA nb ck hi lo ha cn sm) j)))), (qi, .inl (cI, 4216, .inl (vI im))), (qk, .inl (cZ, 2, .inl (vI kp))), (ql, .inl (cI, 25, .inl (vI le)))] H → va_D A [(q, .inr (5, [.ref qs, .ref qi, .ref qk, .ref ql])), (qs, .inl (cI, 2108, .inl (vI (fun j => if j < i then 0 else (stF ((mn : Nat) : Int) tA sA kA nb ck hi lo ha cn sm) j)))), (qi, .inl (cI, 4216, .inl (vI im))), (qk, .inl (cZ, 2, .inl (vI kp))), (ql, .inl (cI, 25, .inl (vI le)))] → va_S A s.heap H locs → lv_has ls 3 [(2, .int (iI (((i : Nat) : Int)))), (0, .ref q), (1, .int (iI (((v : Nat) : Int))))] → W p lc e R s m args below meth c H locs 0 0 Q (F0 m 2 ls []) := by
    intro u
    induction u with
    | zero =>
      intro i  hm  H locs ls hP hD hS hl
      refine lv_iload_n hx hb dX5_begin_2 rfl (lv_at hl 0 rfl) ?_
      refine lv_sipush (v := iI (2108)) hx hb dX5_begin_3 (by decide) ?_
      refine c_geT (tgt := 22) S dX5_begin_6 (by decide) (by omega) (by omega) (by omega) ?_
      have hP := P_row (q0 := 1) (g := vI (fun _ => 0)) hP rfl (fun k hk => by simp only [vI]; rw [if_pos (by omega)])
      have hD := va_D.set (p := 1) (e := .inl (cI, 2108, .inl (vI (fun _ => 0)))) hD rfl
      refine lv_aload_n hx hb dX5_begin_22 rfl (lv_at hl 1 rfl) ?_
      refine w_get (C := RX5) (T := TX5) (Nf := 4) (ci := 5) (v := .ref qs) S (fun _ h => List.mem_cons_of_mem _ (List.mem_append_right _ h)) hE hP 0 rfl rfl 0 (by decide) (List.mem_of_getElem? (i := 1) rfl) rfl dX5_begin_23 ?_
      refine lv_iconst (v := iI (0)) hx hb dX5_begin_26 rfl ?_
      refine lv_iload_n hx hb dX5_begin_27 rfl (lv_at hl 2 rfl) ?_
      refine w_iast S hE hP hD hS 1 rfl (0) (by omega) (by omega) (by omega) dX5_begin_28 (fun H locs hP hD hS => ?_)
      have hP : va_P D vwCl [(q, .inr (5, [.ref qs, .ref qi, .ref qk, .ref ql])), (qs, .inl (cI, 2108, .inl (vI (updI (fun _ => 0) 0 ((v : Nat) : Int))))), (qi, .inl (cI, 4216, .inl (vI im))), (qk, .inl (cZ, 2, .inl (vI kp))), (ql, .inl (cI, 25, .inl (vI le)))] H := hP
      have hD : va_D A [(q, .inr (5, [.ref qs, .ref qi, .ref qk, .ref ql])), (qs, .inl (cI, 2108, .inl (vI (updI (fun _ => 0) 0 ((v : Nat) : Int))))), (qi, .inl (cI, 4216, .inl (vI im))), (qk, .inl (cZ, 2, .inl (vI kp))), (ql, .inl (cI, 25, .inl (vI le)))] := hD
      refine lv_aload_n hx hb dX5_begin_29 rfl (lv_at hl 1 rfl) ?_
      refine w_get (C := RX5) (T := TX5) (Nf := 4) (ci := 5) (v := .ref qs) S (fun _ h => List.mem_cons_of_mem _ (List.mem_append_right _ h)) hE hP 0 rfl rfl 0 (by decide) (List.mem_of_getElem? (i := 1) rfl) rfl dX5_begin_30 ?_
      refine lv_iconst (v := iI (3)) hx hb dX5_begin_33 rfl ?_
      refine lv_iconst (v := iI (5)) hx hb dX5_begin_34 rfl ?_
      refine w_iast S hE hP hD hS 1 rfl (3) (by omega) (by omega) (by omega) dX5_begin_35 (fun H locs hP hD hS => ?_)
      have hP : va_P D vwCl [(q, .inr (5, [.ref qs, .ref qi, .ref qk, .ref ql])), (qs, .inl (cI, 2108, .inl (vI (updI (updI (fun _ => 0) 0 ((v : Nat) : Int)) 3 5)))), (qi, .inl (cI, 4216, .inl (vI im))), (qk, .inl (cZ, 2, .inl (vI kp))), (ql, .inl (cI, 25, .inl (vI le)))] H := hP
      have hD : va_D A [(q, .inr (5, [.ref qs, .ref qi, .ref qk, .ref ql])), (qs, .inl (cI, 2108, .inl (vI (updI (updI (fun _ => 0) 0 ((v : Nat) : Int)) 3 5)))), (qi, .inl (cI, 4216, .inl (vI im))), (qk, .inl (cZ, 2, .inl (vI kp))), (ql, .inl (cI, 25, .inl (vI le)))] := hD
      refine lv_iconst (v := iI (0)) hx hb dX5_begin_36 rfl ?_
      refine lv_istore_n (lv' := [(2, .int (iI (0))), (0, .ref q), (1, .int (iI (((v : Nat) : Int))))]) hx hb dX5_begin_37 rfl hl (by decide) rfl (fun ls hl => ?_)
      have loop2 : ∀ (u i : Nat) , i + u = 4 → ∀ (H : Heap) (locs : List Loc) (ls : Array Slot), va_P D vwCl [(q, .inr (5, [.ref qs, .ref qi, .ref qk, .ref ql])), (qs, .inl (cI, 2108, .inl (vI (begL v i)))), (qi, .inl (cI, 4216, .inl (vI im))), (qk, .inl (cZ, 2, .inl (vI kp))), (ql, .inl (cI, 25, .inl (vI le)))] H → va_D A [(q, .inr (5, [.ref qs, .ref qi, .ref qk, .ref ql])), (qs, .inl (cI, 2108, .inl (vI (begL v i)))), (qi, .inl (cI, 4216, .inl (vI im))), (qk, .inl (cZ, 2, .inl (vI kp))), (ql, .inl (cI, 25, .inl (vI le)))] → va_S A s.heap H locs → lv_has ls 3 [(2, .int (iI (((i : Nat) : Int)))), (0, .ref q), (1, .int (iI (((v : Nat) : Int))))] → W p lc e R s m args below meth c H locs 0 0 Q (F0 m 38 ls []) := by
        intro u
        induction u with
        | zero =>
          intro i  hm  H locs ls hP hD hS hl
          refine lv_iload_n hx hb dX5_begin_38 rfl (lv_at hl 0 rfl) ?_
          refine lv_iconst (v := iI (4)) hx hb dX5_begin_39 rfl ?_
          refine c_geT (tgt := 75) S dX5_begin_40 (by decide) (by omega) (by omega) (by omega) ?_
          have hi4 : i = 4 := by omega
          subst hi4
          exact hret _ _ _ _ dX5_begin_75 (P_row (q0 := 1) (g := vI (stF ((v : Nat) : Int) 0 0 5 nbFirst (fun _ => 0) (fun _ => 0) (fun _ => 0) (fun _ => 0) (fun _ => 0) (fun _ => 0))) hP rfl (fun k hk => congrArg iI (begL_ok v k))) hS
        | succ u ih2 =>
          intro i  hm  H locs ls hP hD hS hl
          refine lv_iload_n hx hb dX5_begin_38 rfl (lv_at hl 0 rfl) ?_
          refine lv_iconst (v := iI (4)) hx hb dX5_begin_39 rfl ?_
          refine c_geF (tgt := 75) S dX5_begin_40 (by decide) (by omega) (by omega) (by omega) ?_
          refine lv_aload_n hx hb dX5_begin_43 rfl (lv_at hl 1 rfl) ?_
          refine w_get (C := RX5) (T := TX5) (Nf := 4) (ci := 5) (v := .ref qs) S (fun _ h => List.mem_cons_of_mem _ (List.mem_append_right _ h)) hE hP 0 rfl rfl 0 (by decide) (List.mem_of_getElem? (i := 1) rfl) rfl dX5_begin_44 ?_
          refine lv_iconst (v := iI (4)) hx hb dX5_begin_47 rfl ?_
          refine lv_bipush (v := iI (6)) hx hb dX5_begin_48 (by decide) ?_
          refine lv_iload_n hx hb dX5_begin_50 rfl (lv_at hl 0 rfl) ?_
          refine w_imul S dX5_begin_51 ?_
          refine w_iadd S dX5_begin_52 ?_
          refine lv_iconst (v := iI (5)) hx hb dX5_begin_53 rfl ?_
          refine w_iast S hE hP hD hS 1 rfl (4 + (6 * i)) (by omega) (by omega) (by omega) dX5_begin_54 (fun H locs hP hD hS => ?_)
          have hP : va_P D vwCl [(q, .inr (5, [.ref qs, .ref qi, .ref qk, .ref ql])), (qs, .inl (cI, 2108, .inl (vI (updI (begL v i) (4 + (6 * i)) 5)))), (qi, .inl (cI, 4216, .inl (vI im))), (qk, .inl (cZ, 2, .inl (vI kp))), (ql, .inl (cI, 25, .inl (vI le)))] H := hP
          have hD : va_D A [(q, .inr (5, [.ref qs, .ref qi, .ref qk, .ref ql])), (qs, .inl (cI, 2108, .inl (vI (updI (begL v i) (4 + (6 * i)) 5)))), (qi, .inl (cI, 4216, .inl (vI im))), (qk, .inl (cZ, 2, .inl (vI kp))), (ql, .inl (cI, 25, .inl (vI le)))] := hD
          refine lv_aload_n hx hb dX5_begin_55 rfl (lv_at hl 1 rfl) ?_
          refine w_get (C := RX5) (T := TX5) (Nf := 4) (ci := 5) (v := .ref qs) S (fun _ h => List.mem_cons_of_mem _ (List.mem_append_right _ h)) hE hP 0 rfl rfl 0 (by decide) (List.mem_of_getElem? (i := 1) rfl) rfl dX5_begin_56 ?_
          refine lv_iconst (v := iI (4)) hx hb dX5_begin_59 rfl ?_
          refine lv_bipush (v := iI (6)) hx hb dX5_begin_60 (by decide) ?_
          refine lv_iload_n hx hb dX5_begin_62 rfl (lv_at hl 0 rfl) ?_
          refine w_imul S dX5_begin_63 ?_
          refine w_iadd S dX5_begin_64 ?_
          refine lv_iconst (v := iI (2)) hx hb dX5_begin_65 rfl ?_
          refine w_iadd S dX5_begin_66 ?_
          refine lv_iconst (v := iI (5)) hx hb dX5_begin_67 rfl ?_
          refine w_iast S hE hP hD hS 1 rfl ((4 + (6 * i)) + 2) (by omega) (by omega) (by omega) dX5_begin_68 (fun H locs hP hD hS => ?_)
          have hP : va_P D vwCl [(q, .inr (5, [.ref qs, .ref qi, .ref qk, .ref ql])), (qs, .inl (cI, 2108, .inl (vI (updI (updI (begL v i) (4 + (6 * i)) 5) ((4 + (6 * i)) + 2) 5)))), (qi, .inl (cI, 4216, .inl (vI im))), (qk, .inl (cZ, 2, .inl (vI kp))), (ql, .inl (cI, 25, .inl (vI le)))] H := hP
          have hD : va_D A [(q, .inr (5, [.ref qs, .ref qi, .ref qk, .ref ql])), (qs, .inl (cI, 2108, .inl (vI (updI (updI (begL v i) (4 + (6 * i)) 5) ((4 + (6 * i)) + 2) 5)))), (qi, .inl (cI, 4216, .inl (vI im))), (qk, .inl (cZ, 2, .inl (vI kp))), (ql, .inl (cI, 25, .inl (vI le)))] := hD
          refine w_iinc (v := ((i + 1 : Nat) : Int)) (lv' := [(2, .int (iI (((i + 1 : Nat) : Int)))), (0, .ref q), (1, .int (iI (((v : Nat) : Int))))]) S dX5_begin_69 hl (k := 0) rfl (by omega) (by decide) rfl (fun ls hl => ?_)
          refine lv_goto (tgt := 38) hx hb dX5_begin_72 (by decide) ?_
          have hcell : updI (updI (begL v i) (4 + (6 * i)) 5) ((4 + (6 * i)) + 2) 5 = begL v (i + 1) := (begL_s v i)
          rw [hcell] at hP hD
          exact ih2 (i + 1)  (by omega)  _ _ _ hP hD hS (lv_sub hl [0, 1, 2] rfl)
      have hcell : updI (updI (fun _ => 0) 0 ((v : Nat) : Int)) 3 5 = begL v 0 := (by rfl)
      rw [hcell] at hP hD
      exact loop2 4 0  (by omega)  _ _ _ hP hD hS (lv_sub hl [0, 1, 2] rfl)
    | succ u ih1 =>
      intro i  hm  H locs ls hP hD hS hl
      refine lv_iload_n hx hb dX5_begin_2 rfl (lv_at hl 0 rfl) ?_
      refine lv_sipush (v := iI (2108)) hx hb dX5_begin_3 (by decide) ?_
      refine c_geF (tgt := 22) S dX5_begin_6 (by decide) (by omega) (by omega) (by omega) ?_
      refine lv_aload_n hx hb dX5_begin_9 rfl (lv_at hl 1 rfl) ?_
      refine w_get (C := RX5) (T := TX5) (Nf := 4) (ci := 5) (v := .ref qs) S (fun _ h => List.mem_cons_of_mem _ (List.mem_append_right _ h)) hE hP 0 rfl rfl 0 (by decide) (List.mem_of_getElem? (i := 1) rfl) rfl dX5_begin_10 ?_
      refine lv_iload_n hx hb dX5_begin_13 rfl (lv_at hl 0 rfl) ?_
      refine lv_iconst (v := iI (0)) hx hb dX5_begin_14 rfl ?_
      refine w_iast S hE hP hD hS 1 rfl (i) (by omega) (by omega) (by omega) dX5_begin_15 (fun H locs hP hD hS => ?_)
      have hP : va_P D vwCl [(q, .inr (5, [.ref qs, .ref qi, .ref qk, .ref ql])), (qs, .inl (cI, 2108, .inl (vI (updI (fun j => if j < i then 0 else (stF ((mn : Nat) : Int) tA sA kA nb ck hi lo ha cn sm) j) i 0)))), (qi, .inl (cI, 4216, .inl (vI im))), (qk, .inl (cZ, 2, .inl (vI kp))), (ql, .inl (cI, 25, .inl (vI le)))] H := hP
      have hD : va_D A [(q, .inr (5, [.ref qs, .ref qi, .ref qk, .ref ql])), (qs, .inl (cI, 2108, .inl (vI (updI (fun j => if j < i then 0 else (stF ((mn : Nat) : Int) tA sA kA nb ck hi lo ha cn sm) j) i 0)))), (qi, .inl (cI, 4216, .inl (vI im))), (qk, .inl (cZ, 2, .inl (vI kp))), (ql, .inl (cI, 25, .inl (vI le)))] := hD
      refine w_iinc (v := ((i + 1 : Nat) : Int)) (lv' := [(2, .int (iI (((i + 1 : Nat) : Int)))), (0, .ref q), (1, .int (iI (((v : Nat) : Int))))]) S dX5_begin_16 hl (k := 0) rfl (by omega) (by decide) rfl (fun ls hl => ?_)
      refine lv_goto (tgt := 2) hx hb dX5_begin_19 (by decide) ?_
      have hcell : updI (fun j => if j < i then 0 else (stF ((mn : Nat) : Int) tA sA kA nb ck hi lo ha cn sm) j) i 0 = (fun j => if j < (i + 1) then 0 else (stF ((mn : Nat) : Int) tA sA kA nb ck hi lo ha cn sm) j) := (funext fun j => by by_cases h1 : j = i <;> by_cases h2 : j < i <;> simp [updI, h1, h2] <;> omega)
      rw [hcell] at hP hD
      exact ih1 (i + 1)  (by omega)  _ _ _ hP hD hS (lv_sub hl [0, 1, 2] rfl)
  have hcell : stF ((mn : Nat) : Int) tA sA kA nb ck hi lo ha cn sm = (fun j => if j < 0 then 0 else (stF ((mn : Nat) : Int) tA sA kA nb ck hi lo ha cn sm) j) := (funext fun j => by simp)
  rw [hcell] at hP hD
  exact loop1 2108 0  (by omega)  _ _ _ hP hD hS (lv_sub hl [0, 1, 2] rfl)
set_option maxHeartbeats 4000000 in
set_option maxRecDepth 100000 in
theorem m_nodes_O (lc : Launch) (D : va_G) (cI cZ : ClassId) (N : Nat) (q : Nat) (qs : Nat) (qi : Nat) (qk : Nat) (ql : Nat) (mn : Nat) (tA : Int) (sA : Int) (kA : Int) (nb : Nat → Int) (ck : Nat → Int) (hi : Nat → Int) (lo : Nat → Int) (ha : Nat → Int) (cn : Nat → Int) (sm : Nat → Int) (im : Nat → Int) (kp : Nat → Int) (le : Nat → Int) (x : Int) (r_x : -2147483648 ≤ x ∧ x ≤ 2147483647) (h : ¬ (2 ≤ x ∧ x ≤ 5)) : CR lc D cI cZ N yX5_nodes wsX5_nodes (rmK 1 22) [.ref q, .int (iI (x))] [(q, .inr (5, [.ref qs, .ref qi, .ref qk, .ref ql])), (qs, .inl (cI, 2108, .inl (vI (stF ((mn : Nat) : Int) tA sA kA nb ck hi lo ha cn sm)))), (qi, .inl (cI, 4216, .inl (vI im))), (qk, .inl (cZ, 2, .inl (vI kp))), (ql, .inl (cI, 25, .inl (vI le)))] (some (.int (iI (-2)))) := by
  refine CR.I (cc := cX5_nodes) (maxL := 3) (by decide) rfl (Nat.le_of_ble_eq_true rfl) ?_
  intro p e s m args below meth c R Q S hE A hAN hfr hlo hP hD hS hret ls hl
  have S : CallFix p m c cX5_nodes 3 s args wsX5_nodes RX5 := S
  have hx := S.1
  have hb := S.2.1
  have hl : lv_has ls 3 [(0, .ref q), (1, .int (iI (x)))] := hl
  refine lv_iload_n hx hb dX5_nodes_0 rfl (lv_at hl 1 rfl) ?_
  refine lv_iconst (v := iI (2)) hx hb dX5_nodes_1 rfl ?_
  refine lv_iconst (v := iI (5)) hx hb dX5_nodes_2 rfl ?_
  refine kS_R (n := 3) S (m_in_F lc D cI cZ N x 2 5 (by omega) (by omega) (by omega) (by omega)) gX5_nodes_X5_in rfl (by decide +kernel) rfl rfl ⟨Nat.le_trans (Nat.le_of_ble_eq_true rfl) hfr, Nat.le_trans (Nat.le_of_ble_eq_true rfl) hlo⟩ hE hAN hP hD hS [] rfl (by decide) rfl hl.1 [] rfl (Nat.le_of_ble_eq_true rfl) dX5_nodes_3 ⟨Nat.zero_le _, Nat.zero_le _⟩ ?_
  refine W.eq (g2 := F0 m 6 ls [.int (iI (0))]) rfl ?_
  refine b_neF (tgt := 12) S dX5_nodes_6 (by decide) (by decide) ?_
  refine lv_bipush (v := iI ((-2))) hx hb dX5_nodes_9 (by decide) ?_
  exact hret _ _ _ dX5_nodes_11 (congrArg iI (by omega))
set_option maxHeartbeats 4000000 in
set_option maxRecDepth 100000 in
theorem m_nodes (lc : Launch) (D : va_G) (cI cZ : ClassId) (N : Nat) (q : Nat) (qs : Nat) (qi : Nat) (qk : Nat) (ql : Nat) (mn : Nat) (tA : Int) (sA : Int) (kA : Int) (nb : Nat → Int) (ck : Nat → Int) (hi : Nat → Int) (lo : Nat → Int) (ha : Nat → Int) (cn : Nat → Int) (sm : Nat → Int) (im : Nat → Int) (kp : Nat → Int) (le : Nat → Int) (v : Nat) (h : 2 ≤ v ∧ v ≤ 5) : CM lc D cI cZ N yX5_nodes wsX5_nodes (rmK 1 22) [.ref q, .int (iI (((v : Nat) : Int)))] [(q, .inr (5, [.ref qs, .ref qi, .ref qk, .ref ql])), (qs, .inl (cI, 2108, .inl (vI (stF ((mn : Nat) : Int) tA sA kA nb ck hi lo ha cn sm)))), (qi, .inl (cI, 4216, .inl (vI im))), (qk, .inl (cZ, 2, .inl (vI kp))), (ql, .inl (cI, 25, .inl (vI le)))] (some (.int (iI (((mn : Nat) : Int))))) [(q, .inr (5, [.ref qs, .ref qi, .ref qk, .ref ql])), (qs, .inl (cI, 2108, .inl (vI (stF ((v : Nat) : Int) 0 0 5 nbFirst (fun _ => 0) (fun _ => 0) (fun _ => 0) (fun _ => 0) (fun _ => 0) (fun _ => 0))))), (qi, .inl (cI, 4216, .inl (vI im))), (qk, .inl (cZ, 2, .inl (vI kp))), (ql, .inl (cI, 25, .inl (vI le)))] := by
  refine CM.I (cc := cX5_nodes) (maxL := 3) (by decide) rfl (Nat.le_of_ble_eq_true rfl) ?_
  intro p e s m args below meth c R Q S hE A hAN hfr hlo hP hD hS hret ls hl
  have S : CallFix p m c cX5_nodes 3 s args wsX5_nodes RX5 := S
  have hx := S.1
  have hb := S.2.1
  have hl : lv_has ls 3 [(0, .ref q), (1, .int (iI (((v : Nat) : Int))))] := hl
  refine lv_iload_n hx hb dX5_nodes_0 rfl (lv_at hl 1 rfl) ?_
  refine lv_iconst (v := iI (2)) hx hb dX5_nodes_1 rfl ?_
  refine lv_iconst (v := iI (5)) hx hb dX5_nodes_2 rfl ?_
  refine kS_R (n := 3) S (m_in_T lc D cI cZ N ((v : Nat) : Int) 2 5 (by omega) (by omega) (by omega) (by omega)) gX5_nodes_X5_in rfl (by decide +kernel) rfl rfl ⟨Nat.le_trans (Nat.le_of_ble_eq_true rfl) hfr, Nat.le_trans (Nat.le_of_ble_eq_true rfl) hlo⟩ hE hAN hP hD hS [] rfl (by decide) rfl hl.1 [] rfl (Nat.le_of_ble_eq_true rfl) dX5_nodes_3 ⟨Nat.zero_le _, Nat.zero_le _⟩ ?_
  refine W.eq (g2 := F0 m 6 ls [.int (iI (1))]) rfl ?_
  refine b_neT (tgt := 12) S dX5_nodes_6 (by decide) (by decide) (by decide) ?_
  refine lv_aload_n hx hb dX5_nodes_12 rfl (lv_at hl 0 rfl) ?_
  refine w_get (C := RX5) (T := TX5) (Nf := 4) (ci := 5) (v := .ref qs) S (fun _ h => List.mem_cons_of_mem _ (List.mem_append_right _ h)) hE hP 0 rfl rfl 0 (by decide) (List.mem_of_getElem? (i := 1) rfl) rfl dX5_nodes_13 ?_
  refine lv_iconst (v := iI (0)) hx hb dX5_nodes_16 rfl ?_
  refine w_iald S hE hP 1 rfl (0) (by omega) (by omega) (by omega) dX5_nodes_17 ?_
  refine w_tz (z := ((mn : Nat) : Int)) rfl ?_
  refine lv_istore_n (lv' := [(2, .int (iI (((mn : Nat) : Int)))), (0, .ref q), (1, .int (iI (((v : Nat) : Int))))]) hx hb dX5_nodes_18 rfl hl (by decide) rfl (fun ls hl => ?_)
  refine lv_aload_n hx hb dX5_nodes_19 rfl (lv_at hl 1 rfl) ?_
  refine lv_iload_n hx hb dX5_nodes_20 rfl (lv_at hl 2 rfl) ?_
  refine kV_M (n := 1) (ci := 5) (q := (RX5, TX5, 4)) S (m_begin lc D cI cZ N q qs qi qk ql mn tA sA kA nb ck hi lo ha cn sm im kp le v ) gX5_nodes_X5_begin rfl rfl (by decide +kernel) rfl rfl ⟨Nat.le_trans (Nat.le_of_ble_eq_true rfl) hfr, Nat.le_trans (Nat.le_of_ble_eq_true rfl) hlo⟩ hE hAN hP hD hS [0, 1, 2, 3, 4] rfl (by decide) rfl rfl rfl rfl rfl hl.1 [] rfl (Nat.le_of_ble_eq_true rfl) dX5_nodes_21 ⟨Nat.zero_le _, Nat.zero_le _⟩ (fun H locs hP hD hS => ?_)
  have hP : va_P D vwCl [(q, .inr (5, [.ref qs, .ref qi, .ref qk, .ref ql])), (qs, .inl (cI, 2108, .inl (vI (stF ((v : Nat) : Int) 0 0 5 nbFirst (fun _ => 0) (fun _ => 0) (fun _ => 0) (fun _ => 0) (fun _ => 0) (fun _ => 0))))), (qi, .inl (cI, 4216, .inl (vI im))), (qk, .inl (cZ, 2, .inl (vI kp))), (ql, .inl (cI, 25, .inl (vI le)))] H := hP
  have hD : va_D A [(q, .inr (5, [.ref qs, .ref qi, .ref qk, .ref ql])), (qs, .inl (cI, 2108, .inl (vI (stF ((v : Nat) : Int) 0 0 5 nbFirst (fun _ => 0) (fun _ => 0) (fun _ => 0) (fun _ => 0) (fun _ => 0) (fun _ => 0))))), (qi, .inl (cI, 4216, .inl (vI im))), (qk, .inl (cZ, 2, .inl (vI kp))), (ql, .inl (cI, 25, .inl (vI le)))] := hD
  refine W.eq (g2 := F0 m 24 ls []) rfl ?_
  refine lv_iload_n hx hb dX5_nodes_24 rfl (lv_at hl 0 rfl) ?_
  exact hret _ _ _ _ _ dX5_nodes_25 rfl hP hS
set_option maxHeartbeats 4000000 in
set_option maxRecDepth 100000 in
theorem m_link_U (lc : Launch) (D : va_G) (cI cZ : ClassId) (N : Nat) (q : Nat) (qs : Nat) (qi : Nat) (qk : Nat) (ql : Nat) (mn : Nat) (tA : Int) (sA : Int) (kA : Int) (nb : Nat → Int) (ck : Nat → Int) (hi : Nat → Int) (lo : Nat → Int) (ha : Nat → Int) (cn : Nat → Int) (sm : Nat → Int) (im : Nat → Int) (kp : Nat → Int) (le : Nat → Int) (x : Int) (y : Int) (v : Int) (hmn : 2 ≤ mn ∧ mn ≤ 5) (r_x : -2147483648 ≤ x ∧ x ≤ 2147483647) (h : ¬ (0 ≤ x ∧ x ≤ (mn : Int) - 2)) : CR lc D cI cZ N yX5_link wsX5_link (rmK 2 43) [.ref q, .int (iI (x)), .int (iI (y)), .int (iI (v))] [(q, .inr (5, [.ref qs, .ref qi, .ref qk, .ref ql])), (qs, .inl (cI, 2108, .inl (vI (stF ((mn : Nat) : Int) tA sA kA nb ck hi lo ha cn sm)))), (qi, .inl (cI, 4216, .inl (vI im))), (qk, .inl (cZ, 2, .inl (vI kp))), (ql, .inl (cI, 25, .inl (vI le)))] (some (.int (iI (-1)))) := by
  refine CR.I (cc := cX5_link) (maxL := 5) (by decide) rfl (Nat.le_of_ble_eq_true rfl) ?_
  intro p e s m args below meth c R Q S hE A hAN hfr hlo hP hD hS hret ls hl
  have S : CallFix p m c cX5_link 5 s args wsX5_link RX5 := S
  have hx := S.1
  have hb := S.2.1
  have hl : lv_has ls 5 [(0, .ref q), (1, .int (iI (x))), (2, .int (iI (y))), (3, .int (iI (v)))] := hl
  refine lv_aload_n hx hb dX5_link_0 rfl (lv_at hl 0 rfl) ?_
  refine lv_iload_n hx hb dX5_link_1 rfl (lv_at hl 1 rfl) ?_
  refine kV_R (n := 1) (ci := 5) (q := (RX5, TX5, 4)) S (m_isLink_F lc D cI cZ N q qs qi qk ql mn tA sA kA nb ck hi lo ha cn sm im kp le x (by omega) (by omega) (by omega)) gX5_link_X5_isLink rfl rfl (by decide +kernel) rfl rfl ⟨Nat.le_trans (Nat.le_of_ble_eq_true rfl) hfr, Nat.le_trans (Nat.le_of_ble_eq_true rfl) hlo⟩ hE hAN hP hD hS [0, 1, 2, 3, 4] rfl (by decide) rfl rfl rfl rfl hl.1 [] rfl (Nat.le_of_ble_eq_true rfl) dX5_link_2 ⟨Nat.zero_le _, Nat.zero_le _⟩ ?_
  refine W.eq (g2 := F0 m 5 ls [.int (iI (0))]) rfl ?_
  refine b_neF (tgt := 10) S dX5_link_5 (by decide) (by decide) ?_
  refine lv_iconst (v := iI ((-1))) hx hb dX5_link_8 rfl ?_
  exact hret _ _ _ dX5_link_9 (congrArg iI (by omega))
set_option maxHeartbeats 4000000 in
set_option maxRecDepth 100000 in
theorem m_link_O1 (lc : Launch) (D : va_G) (cI cZ : ClassId) (N : Nat) (q : Nat) (qs : Nat) (qi : Nat) (qk : Nat) (ql : Nat) (mn : Nat) (tA : Int) (sA : Int) (kA : Int) (nb : Nat → Int) (ck : Nat → Int) (hi : Nat → Int) (lo : Nat → Int) (ha : Nat → Int) (cn : Nat → Int) (sm : Nat → Int) (im : Nat → Int) (kp : Nat → Int) (le : Nat → Int) (x : Int) (y : Int) (v : Int) (hmn : 2 ≤ mn ∧ mn ≤ 5) (r_x : -2147483648 ≤ x ∧ x ≤ 2147483647) (r_y : -2147483648 ≤ y ∧ y ≤ 2147483647) (h : (0 ≤ x ∧ x ≤ (mn : Int) - 2)) (h2 : ¬ (0 ≤ y ∧ y ≤ 5)) : CR lc D cI cZ N yX5_link wsX5_link (rmK 2 43) [.ref q, .int (iI (x)), .int (iI (y)), .int (iI (v))] [(q, .inr (5, [.ref qs, .ref qi, .ref qk, .ref ql])), (qs, .inl (cI, 2108, .inl (vI (stF ((mn : Nat) : Int) tA sA kA nb ck hi lo ha cn sm)))), (qi, .inl (cI, 4216, .inl (vI im))), (qk, .inl (cZ, 2, .inl (vI kp))), (ql, .inl (cI, 25, .inl (vI le)))] (some (.int (iI (-2)))) := by
  refine CR.I (cc := cX5_link) (maxL := 5) (by decide) rfl (Nat.le_of_ble_eq_true rfl) ?_
  intro p e s m args below meth c R Q S hE A hAN hfr hlo hP hD hS hret ls hl
  have S : CallFix p m c cX5_link 5 s args wsX5_link RX5 := S
  have hx := S.1
  have hb := S.2.1
  have hl : lv_has ls 5 [(0, .ref q), (1, .int (iI (x))), (2, .int (iI (y))), (3, .int (iI (v)))] := hl
  refine lv_aload_n hx hb dX5_link_0 rfl (lv_at hl 0 rfl) ?_
  refine lv_iload_n hx hb dX5_link_1 rfl (lv_at hl 1 rfl) ?_
  refine kV_R (n := 1) (ci := 5) (q := (RX5, TX5, 4)) S (m_isLink_T lc D cI cZ N q qs qi qk ql mn tA sA kA nb ck hi lo ha cn sm im kp le x (by omega) (by omega) (by omega)) gX5_link_X5_isLink rfl rfl (by decide +kernel) rfl rfl ⟨Nat.le_trans (Nat.le_of_ble_eq_true rfl) hfr, Nat.le_trans (Nat.le_of_ble_eq_true rfl) hlo⟩ hE hAN hP hD hS [0, 1, 2, 3, 4] rfl (by decide) rfl rfl rfl rfl hl.1 [] rfl (Nat.le_of_ble_eq_true rfl) dX5_link_2 ⟨Nat.zero_le _, Nat.zero_le _⟩ ?_
  refine W.eq (g2 := F0 m 5 ls [.int (iI (1))]) rfl ?_
  refine b_neT (tgt := 10) S dX5_link_5 (by decide) (by decide) (by decide) ?_
  refine lv_iload_n hx hb dX5_link_10 rfl (lv_at hl 2 rfl) ?_
  refine lv_iconst (v := iI (0)) hx hb dX5_link_11 rfl ?_
  refine lv_iconst (v := iI (5)) hx hb dX5_link_12 rfl ?_
  refine kS_R (n := 3) S (m_in_F lc D cI cZ N y 0 5 (by omega) (by omega) (by omega) (by omega)) gX5_link_X5_in rfl (by decide +kernel) rfl rfl ⟨Nat.le_trans (Nat.le_of_ble_eq_true rfl) hfr, Nat.le_trans (Nat.le_of_ble_eq_true rfl) hlo⟩ hE hAN hP hD hS [] rfl (by decide) rfl hl.1 [] rfl (Nat.le_of_ble_eq_true rfl) dX5_link_13 ⟨Nat.zero_le _, Nat.zero_le _⟩ ?_
  refine W.eq (g2 := F0 m 16 ls [.int (iI (0))]) rfl ?_
  refine b_eqT (tgt := 27) S dX5_link_16 (by decide) (by decide) ?_
  refine lv_bipush (v := iI ((-2))) hx hb dX5_link_27 (by decide) ?_
  exact hret _ _ _ dX5_link_29 (congrArg iI (by omega))
set_option maxHeartbeats 4000000 in
set_option maxRecDepth 100000 in
theorem m_link_O2 (lc : Launch) (D : va_G) (cI cZ : ClassId) (N : Nat) (q : Nat) (qs : Nat) (qi : Nat) (qk : Nat) (ql : Nat) (mn : Nat) (tA : Int) (sA : Int) (kA : Int) (nb : Nat → Int) (ck : Nat → Int) (hi : Nat → Int) (lo : Nat → Int) (ha : Nat → Int) (cn : Nat → Int) (sm : Nat → Int) (im : Nat → Int) (kp : Nat → Int) (le : Nat → Int) (x : Int) (wh : Nat) (v : Int) (hmn : 2 ≤ mn ∧ mn ≤ 5) (r_x : -2147483648 ≤ x ∧ x ≤ 2147483647) (r_v : -2147483648 ≤ v ∧ v ≤ 2147483647) (h : (0 ≤ x ∧ x ≤ (mn : Int) - 2)) (hwh : wh < 6) (h2 : ¬ (lnLeast wh ≤ v ∧ v ≤ lnMost wh)) : CR lc D cI cZ N yX5_link wsX5_link (rmK 2 43) [.ref q, .int (iI (x)), .int (iI (((wh : Nat) : Int))), .int (iI (v))] [(q, .inr (5, [.ref qs, .ref qi, .ref qk, .ref ql])), (qs, .inl (cI, 2108, .inl (vI (stF ((mn : Nat) : Int) tA sA kA nb ck hi lo ha cn sm)))), (qi, .inl (cI, 4216, .inl (vI im))), (qk, .inl (cZ, 2, .inl (vI kp))), (ql, .inl (cI, 25, .inl (vI le)))] (some (.int (iI (-2)))) := by
  refine CR.I (cc := cX5_link) (maxL := 5) (by decide) rfl (Nat.le_of_ble_eq_true rfl) ?_
  intro p e s m args below meth c R Q S hE A hAN hfr hlo hP hD hS hret ls hl
  have S : CallFix p m c cX5_link 5 s args wsX5_link RX5 := S
  have hx := S.1
  have hb := S.2.1
  have hl : lv_has ls 5 [(0, .ref q), (1, .int (iI (x))), (2, .int (iI (((wh : Nat) : Int)))), (3, .int (iI (v)))] := hl
  refine lv_aload_n hx hb dX5_link_0 rfl (lv_at hl 0 rfl) ?_
  refine lv_iload_n hx hb dX5_link_1 rfl (lv_at hl 1 rfl) ?_
  refine kV_R (n := 1) (ci := 5) (q := (RX5, TX5, 4)) S (m_isLink_T lc D cI cZ N q qs qi qk ql mn tA sA kA nb ck hi lo ha cn sm im kp le x (by omega) (by omega) (by omega)) gX5_link_X5_isLink rfl rfl (by decide +kernel) rfl rfl ⟨Nat.le_trans (Nat.le_of_ble_eq_true rfl) hfr, Nat.le_trans (Nat.le_of_ble_eq_true rfl) hlo⟩ hE hAN hP hD hS [0, 1, 2, 3, 4] rfl (by decide) rfl rfl rfl rfl hl.1 [] rfl (Nat.le_of_ble_eq_true rfl) dX5_link_2 ⟨Nat.zero_le _, Nat.zero_le _⟩ ?_
  refine W.eq (g2 := F0 m 5 ls [.int (iI (1))]) rfl ?_
  refine b_neT (tgt := 10) S dX5_link_5 (by decide) (by decide) (by decide) ?_
  refine lv_iload_n hx hb dX5_link_10 rfl (lv_at hl 2 rfl) ?_
  refine lv_iconst (v := iI (0)) hx hb dX5_link_11 rfl ?_
  refine lv_iconst (v := iI (5)) hx hb dX5_link_12 rfl ?_
  refine kS_R (n := 3) S (m_in_T lc D cI cZ N ((wh : Nat) : Int) 0 5 (by omega) (by omega) (by omega) (by omega)) gX5_link_X5_in rfl (by decide +kernel) rfl rfl ⟨Nat.le_trans (Nat.le_of_ble_eq_true rfl) hfr, Nat.le_trans (Nat.le_of_ble_eq_true rfl) hlo⟩ hE hAN hP hD hS [] rfl (by decide) rfl hl.1 [] rfl (Nat.le_of_ble_eq_true rfl) dX5_link_13 ⟨Nat.zero_le _, Nat.zero_le _⟩ ?_
  refine W.eq (g2 := F0 m 16 ls [.int (iI (1))]) rfl ?_
  refine b_eqF (tgt := 27) S dX5_link_16 (by decide) (by decide) (by decide) ?_
  refine lv_iload_n hx hb dX5_link_19 rfl (lv_at hl 2 rfl) ?_
  refine lv_iload_n hx hb dX5_link_20 rfl (lv_at hl 3 rfl) ?_
  refine kS_R (n := 2) S (m_canBe_F lc D cI cZ N wh v (by omega) (by omega) (by omega)) gX5_link_X5_canBe rfl (by decide +kernel) rfl rfl ⟨Nat.le_trans (Nat.le_of_ble_eq_true rfl) hfr, Nat.le_trans (Nat.le_of_ble_eq_true rfl) hlo⟩ hE hAN hP hD hS [] rfl (by decide) rfl hl.1 [] rfl (Nat.le_of_ble_eq_true rfl) dX5_link_21 ⟨Nat.zero_le _, Nat.zero_le _⟩ ?_
  refine W.eq (g2 := F0 m 24 ls [.int (iI (0))]) rfl ?_
  refine b_neF (tgt := 30) S dX5_link_24 (by decide) (by decide) ?_
  refine lv_bipush (v := iI ((-2))) hx hb dX5_link_27 (by decide) ?_
  exact hret _ _ _ dX5_link_29 (congrArg iI (by omega))
set_option maxHeartbeats 4000000 in
set_option maxRecDepth 100000 in
theorem m_link (lc : Launch) (D : va_G) (cI cZ : ClassId) (N : Nat) (q : Nat) (qs : Nat) (qi : Nat) (qk : Nat) (ql : Nat) (mn : Nat) (tA : Int) (sA : Int) (kA : Int) (nb : Nat → Int) (ck : Nat → Int) (hi : Nat → Int) (lo : Nat → Int) (ha : Nat → Int) (cn : Nat → Int) (sm : Nat → Int) (im : Nat → Int) (kp : Nat → Int) (le : Nat → Int) (lk : Nat) (wh : Nat) (v : Int) (hmn : 2 ≤ mn ∧ mn ≤ 5) (r_v : -2147483648 ≤ v ∧ v ≤ 2147483647) (h : lk + 2 ≤ mn) (hwh : wh < 6) (h2 : lnLeast wh ≤ v ∧ v ≤ lnMost wh) : CM lc D cI cZ N yX5_link wsX5_link (rmK 2 43) [.ref q, .int (iI (((lk : Nat) : Int))), .int (iI (((wh : Nat) : Int))), .int (iI (v))] [(q, .inr (5, [.ref qs, .ref qi, .ref qk, .ref ql])), (qs, .inl (cI, 2108, .inl (vI (stF ((mn : Nat) : Int) tA sA kA nb ck hi lo ha cn sm)))), (qi, .inl (cI, 4216, .inl (vI im))), (qk, .inl (cZ, 2, .inl (vI kp))), (ql, .inl (cI, 25, .inl (vI le)))] (some (.int (iI (nb (lk * 6 + wh))))) [(q, .inr (5, [.ref qs, .ref qi, .ref qk, .ref ql])), (qs, .inl (cI, 2108, .inl (vI (stF ((mn : Nat) : Int) tA sA kA (updI nb (lk * 6 + wh) v) ck hi lo ha cn sm)))), (qi, .inl (cI, 4216, .inl (vI im))), (qk, .inl (cZ, 2, .inl (vI kp))), (ql, .inl (cI, 25, .inl (vI le)))] := by
  refine CM.I (cc := cX5_link) (maxL := 5) (by decide) rfl (Nat.le_of_ble_eq_true rfl) ?_
  intro p e s m args below meth c R Q S hE A hAN hfr hlo hP hD hS hret ls hl
  have S : CallFix p m c cX5_link 5 s args wsX5_link RX5 := S
  have hx := S.1
  have hb := S.2.1
  have hl : lv_has ls 5 [(0, .ref q), (1, .int (iI (((lk : Nat) : Int)))), (2, .int (iI (((wh : Nat) : Int)))), (3, .int (iI (v)))] := hl
  refine lv_aload_n hx hb dX5_link_0 rfl (lv_at hl 0 rfl) ?_
  refine lv_iload_n hx hb dX5_link_1 rfl (lv_at hl 1 rfl) ?_
  refine kV_R (n := 1) (ci := 5) (q := (RX5, TX5, 4)) S (m_isLink_T lc D cI cZ N q qs qi qk ql mn tA sA kA nb ck hi lo ha cn sm im kp le ((lk : Nat) : Int) (by omega) (by omega) (by omega)) gX5_link_X5_isLink rfl rfl (by decide +kernel) rfl rfl ⟨Nat.le_trans (Nat.le_of_ble_eq_true rfl) hfr, Nat.le_trans (Nat.le_of_ble_eq_true rfl) hlo⟩ hE hAN hP hD hS [0, 1, 2, 3, 4] rfl (by decide) rfl rfl rfl rfl hl.1 [] rfl (Nat.le_of_ble_eq_true rfl) dX5_link_2 ⟨Nat.zero_le _, Nat.zero_le _⟩ ?_
  refine W.eq (g2 := F0 m 5 ls [.int (iI (1))]) rfl ?_
  refine b_neT (tgt := 10) S dX5_link_5 (by decide) (by decide) (by decide) ?_
  refine lv_iload_n hx hb dX5_link_10 rfl (lv_at hl 2 rfl) ?_
  refine lv_iconst (v := iI (0)) hx hb dX5_link_11 rfl ?_
  refine lv_iconst (v := iI (5)) hx hb dX5_link_12 rfl ?_
  refine kS_R (n := 3) S (m_in_T lc D cI cZ N ((wh : Nat) : Int) 0 5 (by omega) (by omega) (by omega) (by omega)) gX5_link_X5_in rfl (by decide +kernel) rfl rfl ⟨Nat.le_trans (Nat.le_of_ble_eq_true rfl) hfr, Nat.le_trans (Nat.le_of_ble_eq_true rfl) hlo⟩ hE hAN hP hD hS [] rfl (by decide) rfl hl.1 [] rfl (Nat.le_of_ble_eq_true rfl) dX5_link_13 ⟨Nat.zero_le _, Nat.zero_le _⟩ ?_
  refine W.eq (g2 := F0 m 16 ls [.int (iI (1))]) rfl ?_
  refine b_eqF (tgt := 27) S dX5_link_16 (by decide) (by decide) (by decide) ?_
  refine lv_iload_n hx hb dX5_link_19 rfl (lv_at hl 2 rfl) ?_
  refine lv_iload_n hx hb dX5_link_20 rfl (lv_at hl 3 rfl) ?_
  refine kS_R (n := 2) S (m_canBe_T lc D cI cZ N wh v (by omega) (by omega) (by omega)) gX5_link_X5_canBe rfl (by decide +kernel) rfl rfl ⟨Nat.le_trans (Nat.le_of_ble_eq_true rfl) hfr, Nat.le_trans (Nat.le_of_ble_eq_true rfl) hlo⟩ hE hAN hP hD hS [] rfl (by decide) rfl hl.1 [] rfl (Nat.le_of_ble_eq_true rfl) dX5_link_21 ⟨Nat.zero_le _, Nat.zero_le _⟩ ?_
  refine W.eq (g2 := F0 m 24 ls [.int (iI (1))]) rfl ?_
  refine b_neT (tgt := 30) S dX5_link_24 (by decide) (by decide) (by decide) ?_
  refine lv_aload_n hx hb dX5_link_30 rfl (lv_at hl 0 rfl) ?_
  refine lv_iload_n hx hb dX5_link_31 rfl (lv_at hl 1 rfl) ?_
  refine lv_iload_n hx hb dX5_link_32 rfl (lv_at hl 2 rfl) ?_
  refine kV_R (n := 2) (ci := 5) (q := (RX5, TX5, 4)) S (m_linkOf lc D cI cZ N q qs qi qk ql mn tA sA kA nb ck hi lo ha cn sm im kp le lk wh (by omega)) gX5_link_X5_linkOf rfl rfl (by decide +kernel) rfl rfl ⟨Nat.le_trans (Nat.le_of_ble_eq_true rfl) hfr, Nat.le_trans (Nat.le_of_ble_eq_true rfl) hlo⟩ hE hAN hP hD hS [0, 1, 2, 3, 4] rfl (by decide) rfl rfl rfl rfl hl.1 [] rfl (Nat.le_of_ble_eq_true rfl) dX5_link_33 ⟨Nat.zero_le _, Nat.zero_le _⟩ ?_
  refine W.eq (g2 := F0 m 36 ls [.int (iI (nb (lk * 6 + wh)))]) rfl ?_
  refine lv_istore (lv' := [(4, .int (iI (nb (lk * 6 + wh)))), (0, .ref q), (1, .int (iI (((lk : Nat) : Int)))), (2, .int (iI (((wh : Nat) : Int)))), (3, .int (iI (v)))]) hx hb dX5_link_36 hl (by decide) rfl (fun ls hl => ?_)
  refine lv_aload_n hx hb dX5_link_38 rfl (lv_at hl 1 rfl) ?_
  refine w_get (C := RX5) (T := TX5) (Nf := 4) (ci := 5) (v := .ref qs) S (fun _ h => List.mem_cons_of_mem _ (List.mem_append_right _ h)) hE hP 0 rfl rfl 0 (by decide) (List.mem_of_getElem? (i := 1) rfl) rfl dX5_link_39 ?_
  refine lv_iconst (v := iI (4)) hx hb dX5_link_42 rfl ?_
  refine lv_bipush (v := iI (6)) hx hb dX5_link_43 (by decide) ?_
  refine lv_iload_n hx hb dX5_link_45 rfl (lv_at hl 2 rfl) ?_
  refine w_imul S dX5_link_46 ?_
  refine w_iadd S dX5_link_47 ?_
  refine lv_iload_n hx hb dX5_link_48 rfl (lv_at hl 3 rfl) ?_
  refine w_iadd S dX5_link_49 ?_
  refine lv_iload_n hx hb dX5_link_50 rfl (lv_at hl 4 rfl) ?_
  refine w_iast S hE hP hD hS 1 rfl ((4 + (6 * lk)) + wh) (by omega) (by omega) (by omega) dX5_link_51 (fun H locs hP hD hS => ?_)
  rw [List.set_cons_succ, List.set_cons_zero, su_nb (j := lk * 6 + wh) (by omega) (by omega)] at hP hD
  have hP : va_P D vwCl [(q, .inr (5, [.ref qs, .ref qi, .ref qk, .ref ql])), (qs, .inl (cI, 2108, .inl (vI (stF ((mn : Nat) : Int) tA sA kA (updI nb (lk * 6 + wh) v) ck hi lo ha cn sm)))), (qi, .inl (cI, 4216, .inl (vI im))), (qk, .inl (cZ, 2, .inl (vI kp))), (ql, .inl (cI, 25, .inl (vI le)))] H := hP
  have hD : va_D A [(q, .inr (5, [.ref qs, .ref qi, .ref qk, .ref ql])), (qs, .inl (cI, 2108, .inl (vI (stF ((mn : Nat) : Int) tA sA kA (updI nb (lk * 6 + wh) v) ck hi lo ha cn sm)))), (qi, .inl (cI, 4216, .inl (vI im))), (qk, .inl (cZ, 2, .inl (vI kp))), (ql, .inl (cI, 25, .inl (vI le)))] := hD
  refine lv_iload hx hb dX5_link_52 (lv_at hl 0 rfl) ?_
  exact hret _ _ _ _ _ dX5_link_54 rfl hP hS
set_option maxHeartbeats 4000000 in
set_option maxRecDepth 100000 in
theorem m_clock_U (lc : Launch) (D : va_G) (cI cZ : ClassId) (N : Nat) (q : Nat) (qs : Nat) (qi : Nat) (qk : Nat) (ql : Nat) (mn : Nat) (tA : Int) (sA : Int) (kA : Int) (nb : Nat → Int) (ck : Nat → Int) (hi : Nat → Int) (lo : Nat → Int) (ha : Nat → Int) (cn : Nat → Int) (sm : Nat → Int) (im : Nat → Int) (kp : Nat → Int) (le : Nat → Int) (x : Int) (v : Int) (hmn : 2 ≤ mn ∧ mn ≤ 5) (r_x : -2147483648 ≤ x ∧ x ≤ 2147483647) (h : ¬ (0 ≤ x ∧ x ≤ (mn : Int) - 1)) : CR lc D cI cZ N yX5_clock wsX5_clock (rmK 2 43) [.ref q, .int (iI (x)), .int (iI (v))] [(q, .inr (5, [.ref qs, .ref qi, .ref qk, .ref ql])), (qs, .inl (cI, 2108, .inl (vI (stF ((mn : Nat) : Int) tA sA kA nb ck hi lo ha cn sm)))), (qi, .inl (cI, 4216, .inl (vI im))), (qk, .inl (cZ, 2, .inl (vI kp))), (ql, .inl (cI, 25, .inl (vI le)))] (some (.int (iI (-1000000001)))) := by
  refine CR.I (cc := cX5_clock) (maxL := 5) (by decide) rfl (Nat.le_of_ble_eq_true rfl) ?_
  intro p e s m args below meth c R Q S hE A hAN hfr hlo hP hD hS hret ls hl
  have S : CallFix p m c cX5_clock 5 s args wsX5_clock RX5 := S
  have hx := S.1
  have hb := S.2.1
  have hl : lv_has ls 5 [(0, .ref q), (1, .int (iI (x))), (2, .int (iI (v)))] := hl
  refine lv_aload_n hx hb dX5_clock_0 rfl (lv_at hl 0 rfl) ?_
  refine lv_iload_n hx hb dX5_clock_1 rfl (lv_at hl 1 rfl) ?_
  refine kV_R (n := 1) (ci := 5) (q := (RX5, TX5, 4)) S (m_isNode_F lc D cI cZ N q qs qi qk ql mn tA sA kA nb ck hi lo ha cn sm im kp le x (by omega) (by omega) (by omega)) gX5_clock_X5_isNode rfl rfl (by decide +kernel) rfl rfl ⟨Nat.le_trans (Nat.le_of_ble_eq_true rfl) hfr, Nat.le_trans (Nat.le_of_ble_eq_true rfl) hlo⟩ hE hAN hP hD hS [0, 1, 2, 3, 4] rfl (by decide) rfl rfl rfl rfl hl.1 [] rfl (Nat.le_of_ble_eq_true rfl) dX5_clock_2 ⟨Nat.zero_le _, Nat.zero_le _⟩ ?_
  refine W.eq (g2 := F0 m 5 ls [.int (iI (0))]) rfl ?_
  refine b_neF (tgt := 11) S dX5_clock_5 (by decide) (by decide) ?_
  refine w_ldc (z := (-1000000001)) S (List.mem_of_getElem? (i := 1) rfl) (by decide) dX5_clock_8 ?_
  exact hret _ _ _ dX5_clock_10 (congrArg iI (by omega))
set_option maxHeartbeats 4000000 in
set_option maxRecDepth 100000 in
theorem m_clock_O (lc : Launch) (D : va_G) (cI cZ : ClassId) (N : Nat) (q : Nat) (qs : Nat) (qi : Nat) (qk : Nat) (ql : Nat) (mn : Nat) (tA : Int) (sA : Int) (kA : Int) (nb : Nat → Int) (ck : Nat → Int) (hi : Nat → Int) (lo : Nat → Int) (ha : Nat → Int) (cn : Nat → Int) (sm : Nat → Int) (im : Nat → Int) (kp : Nat → Int) (le : Nat → Int) (x : Int) (v : Int) (hmn : 2 ≤ mn ∧ mn ≤ 5) (r_x : -2147483648 ≤ x ∧ x ≤ 2147483647) (r_v : -2147483648 ≤ v ∧ v ≤ 2147483647) (h : (0 ≤ x ∧ x ≤ (mn : Int) - 1)) (h2 : ¬ (-99 ≤ v ∧ v ≤ 99)) : CR lc D cI cZ N yX5_clock wsX5_clock (rmK 2 43) [.ref q, .int (iI (x)), .int (iI (v))] [(q, .inr (5, [.ref qs, .ref qi, .ref qk, .ref ql])), (qs, .inl (cI, 2108, .inl (vI (stF ((mn : Nat) : Int) tA sA kA nb ck hi lo ha cn sm)))), (qi, .inl (cI, 4216, .inl (vI im))), (qk, .inl (cZ, 2, .inl (vI kp))), (ql, .inl (cI, 25, .inl (vI le)))] (some (.int (iI (-1000000002)))) := by
  refine CR.I (cc := cX5_clock) (maxL := 5) (by decide) rfl (Nat.le_of_ble_eq_true rfl) ?_
  intro p e s m args below meth c R Q S hE A hAN hfr hlo hP hD hS hret ls hl
  have S : CallFix p m c cX5_clock 5 s args wsX5_clock RX5 := S
  have hx := S.1
  have hb := S.2.1
  have hl : lv_has ls 5 [(0, .ref q), (1, .int (iI (x))), (2, .int (iI (v)))] := hl
  refine lv_aload_n hx hb dX5_clock_0 rfl (lv_at hl 0 rfl) ?_
  refine lv_iload_n hx hb dX5_clock_1 rfl (lv_at hl 1 rfl) ?_
  refine kV_R (n := 1) (ci := 5) (q := (RX5, TX5, 4)) S (m_isNode_T lc D cI cZ N q qs qi qk ql mn tA sA kA nb ck hi lo ha cn sm im kp le x (by omega) (by omega) (by omega)) gX5_clock_X5_isNode rfl rfl (by decide +kernel) rfl rfl ⟨Nat.le_trans (Nat.le_of_ble_eq_true rfl) hfr, Nat.le_trans (Nat.le_of_ble_eq_true rfl) hlo⟩ hE hAN hP hD hS [0, 1, 2, 3, 4] rfl (by decide) rfl rfl rfl rfl hl.1 [] rfl (Nat.le_of_ble_eq_true rfl) dX5_clock_2 ⟨Nat.zero_le _, Nat.zero_le _⟩ ?_
  refine W.eq (g2 := F0 m 5 ls [.int (iI (1))]) rfl ?_
  refine b_neT (tgt := 11) S dX5_clock_5 (by decide) (by decide) (by decide) ?_
  refine lv_iload_n hx hb dX5_clock_11 rfl (lv_at hl 2 rfl) ?_
  refine lv_bipush (v := iI ((-99))) hx hb dX5_clock_12 (by decide) ?_
  refine lv_bipush (v := iI (99)) hx hb dX5_clock_14 (by decide) ?_
  refine kS_R (n := 3) S (m_in_F lc D cI cZ N v (-99) 99 (by omega) (by omega) (by omega) (by omega)) gX5_clock_X5_in rfl (by decide +kernel) rfl rfl ⟨Nat.le_trans (Nat.le_of_ble_eq_true rfl) hfr, Nat.le_trans (Nat.le_of_ble_eq_true rfl) hlo⟩ hE hAN hP hD hS [] rfl (by decide) rfl hl.1 [] rfl (Nat.le_of_ble_eq_true rfl) dX5_clock_16 ⟨Nat.zero_le _, Nat.zero_le _⟩ ?_
  refine W.eq (g2 := F0 m 19 ls [.int (iI (0))]) rfl ?_
  refine b_neF (tgt := 25) S dX5_clock_19 (by decide) (by decide) ?_
  refine w_ldc (z := (-1000000002)) S (List.mem_of_getElem? (i := 2) rfl) (by decide) dX5_clock_22 ?_
  exact hret _ _ _ dX5_clock_24 (congrArg iI (by omega))
set_option maxHeartbeats 4000000 in
set_option maxRecDepth 100000 in
theorem m_clock_S (lc : Launch) (D : va_G) (cI cZ : ClassId) (N : Nat) (q : Nat) (qs : Nat) (qi : Nat) (qk : Nat) (ql : Nat) (mn : Nat) (tA : Int) (sA : Int) (kA : Int) (nb : Nat → Int) (ck : Nat → Int) (hi : Nat → Int) (lo : Nat → Int) (ha : Nat → Int) (cn : Nat → Int) (sm : Nat → Int) (im : Nat → Int) (kp : Nat → Int) (le : Nat → Int) (x : Int) (v : Int) (hmn : 2 ≤ mn ∧ mn ≤ 5) (hsA : 0 ≤ sA ∧ sA ≤ 200) (r_x : -2147483648 ≤ x ∧ x ≤ 2147483647) (r_v : -2147483648 ≤ v ∧ v ≤ 2147483647) (h : (0 ≤ x ∧ x ≤ (mn : Int) - 1)) (h2 : -99 ≤ v ∧ v ≤ 99) (h3 : 0 < sA) : CR lc D cI cZ N yX5_clock wsX5_clock (rmK 2 43) [.ref q, .int (iI (x)), .int (iI (v))] [(q, .inr (5, [.ref qs, .ref qi, .ref qk, .ref ql])), (qs, .inl (cI, 2108, .inl (vI (stF ((mn : Nat) : Int) tA sA kA nb ck hi lo ha cn sm)))), (qi, .inl (cI, 4216, .inl (vI im))), (qk, .inl (cZ, 2, .inl (vI kp))), (ql, .inl (cI, 25, .inl (vI le)))] (some (.int (iI (-1000000003)))) := by
  refine CR.I (cc := cX5_clock) (maxL := 5) (by decide) rfl (Nat.le_of_ble_eq_true rfl) ?_
  intro p e s m args below meth c R Q S hE A hAN hfr hlo hP hD hS hret ls hl
  have S : CallFix p m c cX5_clock 5 s args wsX5_clock RX5 := S
  have hx := S.1
  have hb := S.2.1
  have hl : lv_has ls 5 [(0, .ref q), (1, .int (iI (x))), (2, .int (iI (v)))] := hl
  refine lv_aload_n hx hb dX5_clock_0 rfl (lv_at hl 0 rfl) ?_
  refine lv_iload_n hx hb dX5_clock_1 rfl (lv_at hl 1 rfl) ?_
  refine kV_R (n := 1) (ci := 5) (q := (RX5, TX5, 4)) S (m_isNode_T lc D cI cZ N q qs qi qk ql mn tA sA kA nb ck hi lo ha cn sm im kp le x (by omega) (by omega) (by omega)) gX5_clock_X5_isNode rfl rfl (by decide +kernel) rfl rfl ⟨Nat.le_trans (Nat.le_of_ble_eq_true rfl) hfr, Nat.le_trans (Nat.le_of_ble_eq_true rfl) hlo⟩ hE hAN hP hD hS [0, 1, 2, 3, 4] rfl (by decide) rfl rfl rfl rfl hl.1 [] rfl (Nat.le_of_ble_eq_true rfl) dX5_clock_2 ⟨Nat.zero_le _, Nat.zero_le _⟩ ?_
  refine W.eq (g2 := F0 m 5 ls [.int (iI (1))]) rfl ?_
  refine b_neT (tgt := 11) S dX5_clock_5 (by decide) (by decide) (by decide) ?_
  refine lv_iload_n hx hb dX5_clock_11 rfl (lv_at hl 2 rfl) ?_
  refine lv_bipush (v := iI ((-99))) hx hb dX5_clock_12 (by decide) ?_
  refine lv_bipush (v := iI (99)) hx hb dX5_clock_14 (by decide) ?_
  refine kS_R (n := 3) S (m_in_T lc D cI cZ N v (-99) 99 (by omega) (by omega) (by omega) (by omega)) gX5_clock_X5_in rfl (by decide +kernel) rfl rfl ⟨Nat.le_trans (Nat.le_of_ble_eq_true rfl) hfr, Nat.le_trans (Nat.le_of_ble_eq_true rfl) hlo⟩ hE hAN hP hD hS [] rfl (by decide) rfl hl.1 [] rfl (Nat.le_of_ble_eq_true rfl) dX5_clock_16 ⟨Nat.zero_le _, Nat.zero_le _⟩ ?_
  refine W.eq (g2 := F0 m 19 ls [.int (iI (1))]) rfl ?_
  refine b_neT (tgt := 25) S dX5_clock_19 (by decide) (by decide) (by decide) ?_
  refine lv_aload_n hx hb dX5_clock_25 rfl (lv_at hl 0 rfl) ?_
  refine w_get (C := RX5) (T := TX5) (Nf := 4) (ci := 5) (v := .ref qs) S (fun _ h => List.mem_cons_of_mem _ (List.mem_append_right _ h)) hE hP 0 rfl rfl 0 (by decide) (List.mem_of_getElem? (i := 3) rfl) rfl dX5_clock_26 ?_
  refine lv_iconst (v := iI (2)) hx hb dX5_clock_29 rfl ?_
  refine w_iald S hE hP 1 rfl (2) (by omega) (by omega) (by omega) dX5_clock_30 ?_
  refine w_tz (z := sA) rfl ?_
  refine b_leF (tgt := 37) S dX5_clock_31 (by decide) (by omega) (by omega) ?_
  refine w_ldc (z := (-1000000003)) S (List.mem_of_getElem? (i := 4) rfl) (by decide) dX5_clock_34 ?_
  exact hret _ _ _ dX5_clock_36 (congrArg iI (by omega))
set_option maxHeartbeats 4000000 in
set_option maxRecDepth 100000 in
theorem m_clock (lc : Launch) (D : va_G) (cI cZ : ClassId) (N : Nat) (q : Nat) (qs : Nat) (qi : Nat) (qk : Nat) (ql : Nat) (mn : Nat) (tA : Int) (sA : Int) (kA : Int) (nb : Nat → Int) (ck : Nat → Int) (hi : Nat → Int) (lo : Nat → Int) (ha : Nat → Int) (cn : Nat → Int) (sm : Nat → Int) (im : Nat → Int) (kp : Nat → Int) (le : Nat → Int) (nd : Nat) (v : Int) (hmn : 2 ≤ mn ∧ mn ≤ 5) (hsA : 0 ≤ sA ∧ sA ≤ 200) (r_v : -2147483648 ≤ v ∧ v ≤ 2147483647) (h : nd < mn) (h2 : -99 ≤ v ∧ v ≤ 99) (h3 : sA = 0) : CM lc D cI cZ N yX5_clock wsX5_clock (rmK 2 43) [.ref q, .int (iI (((nd : Nat) : Int))), .int (iI (v))] [(q, .inr (5, [.ref qs, .ref qi, .ref qk, .ref ql])), (qs, .inl (cI, 2108, .inl (vI (stF ((mn : Nat) : Int) tA sA kA nb ck hi lo ha cn sm)))), (qi, .inl (cI, 4216, .inl (vI im))), (qk, .inl (cZ, 2, .inl (vI kp))), (ql, .inl (cI, 25, .inl (vI le)))] (some (.int (iI (ck nd)))) [(q, .inr (5, [.ref qs, .ref qi, .ref qk, .ref ql])), (qs, .inl (cI, 2108, .inl (vI (stF ((mn : Nat) : Int) tA sA kA nb (updI ck nd v) hi lo (fgh ha nd 5) cn sm)))), (qi, .inl (cI, 4216, .inl (vI im))), (qk, .inl (cZ, 2, .inl (vI kp))), (ql, .inl (cI, 25, .inl (vI le)))] := by
  refine CM.I (cc := cX5_clock) (maxL := 5) (by decide) rfl (Nat.le_of_ble_eq_true rfl) ?_
  intro p e s m args below meth c R Q S hE A hAN hfr hlo hP hD hS hret ls hl
  have S : CallFix p m c cX5_clock 5 s args wsX5_clock RX5 := S
  have hx := S.1
  have hb := S.2.1
  have hl : lv_has ls 5 [(0, .ref q), (1, .int (iI (((nd : Nat) : Int)))), (2, .int (iI (v)))] := hl
  refine lv_aload_n hx hb dX5_clock_0 rfl (lv_at hl 0 rfl) ?_
  refine lv_iload_n hx hb dX5_clock_1 rfl (lv_at hl 1 rfl) ?_
  refine kV_R (n := 1) (ci := 5) (q := (RX5, TX5, 4)) S (m_isNode_T lc D cI cZ N q qs qi qk ql mn tA sA kA nb ck hi lo ha cn sm im kp le ((nd : Nat) : Int) (by omega) (by omega) (by omega)) gX5_clock_X5_isNode rfl rfl (by decide +kernel) rfl rfl ⟨Nat.le_trans (Nat.le_of_ble_eq_true rfl) hfr, Nat.le_trans (Nat.le_of_ble_eq_true rfl) hlo⟩ hE hAN hP hD hS [0, 1, 2, 3, 4] rfl (by decide) rfl rfl rfl rfl hl.1 [] rfl (Nat.le_of_ble_eq_true rfl) dX5_clock_2 ⟨Nat.zero_le _, Nat.zero_le _⟩ ?_
  refine W.eq (g2 := F0 m 5 ls [.int (iI (1))]) rfl ?_
  refine b_neT (tgt := 11) S dX5_clock_5 (by decide) (by decide) (by decide) ?_
  refine lv_iload_n hx hb dX5_clock_11 rfl (lv_at hl 2 rfl) ?_
  refine lv_bipush (v := iI ((-99))) hx hb dX5_clock_12 (by decide) ?_
  refine lv_bipush (v := iI (99)) hx hb dX5_clock_14 (by decide) ?_
  refine kS_R (n := 3) S (m_in_T lc D cI cZ N v (-99) 99 (by omega) (by omega) (by omega) (by omega)) gX5_clock_X5_in rfl (by decide +kernel) rfl rfl ⟨Nat.le_trans (Nat.le_of_ble_eq_true rfl) hfr, Nat.le_trans (Nat.le_of_ble_eq_true rfl) hlo⟩ hE hAN hP hD hS [] rfl (by decide) rfl hl.1 [] rfl (Nat.le_of_ble_eq_true rfl) dX5_clock_16 ⟨Nat.zero_le _, Nat.zero_le _⟩ ?_
  refine W.eq (g2 := F0 m 19 ls [.int (iI (1))]) rfl ?_
  refine b_neT (tgt := 25) S dX5_clock_19 (by decide) (by decide) (by decide) ?_
  refine lv_aload_n hx hb dX5_clock_25 rfl (lv_at hl 0 rfl) ?_
  refine w_get (C := RX5) (T := TX5) (Nf := 4) (ci := 5) (v := .ref qs) S (fun _ h => List.mem_cons_of_mem _ (List.mem_append_right _ h)) hE hP 0 rfl rfl 0 (by decide) (List.mem_of_getElem? (i := 3) rfl) rfl dX5_clock_26 ?_
  refine lv_iconst (v := iI (2)) hx hb dX5_clock_29 rfl ?_
  refine w_iald S hE hP 1 rfl (2) (by omega) (by omega) (by omega) dX5_clock_30 ?_
  refine w_tz (z := sA) rfl ?_
  refine b_leT (tgt := 37) S dX5_clock_31 (by decide) (by omega) (by omega) ?_
  refine lv_aload_n hx hb dX5_clock_37 rfl (lv_at hl 0 rfl) ?_
  refine w_get (C := RX5) (T := TX5) (Nf := 4) (ci := 5) (v := .ref qs) S (fun _ h => List.mem_cons_of_mem _ (List.mem_append_right _ h)) hE hP 0 rfl rfl 0 (by decide) (List.mem_of_getElem? (i := 3) rfl) rfl dX5_clock_38 ?_
  refine lv_bipush (v := iI (28)) hx hb dX5_clock_41 (by decide) ?_
  refine lv_iload_n hx hb dX5_clock_43 rfl (lv_at hl 1 rfl) ?_
  refine w_iadd S dX5_clock_44 ?_
  refine w_iald S hE hP 1 rfl (28 + nd) (by omega) (by omega) (by omega) dX5_clock_45 ?_
  refine w_tz (z := ck nd) (st_ck (by omega) (by omega)) ?_
  refine lv_istore_n (lv' := [(3, .int (iI (ck nd))), (0, .ref q), (1, .int (iI (((nd : Nat) : Int)))), (2, .int (iI (v)))]) hx hb dX5_clock_46 rfl hl (by decide) rfl (fun ls hl => ?_)
  refine lv_aload_n hx hb dX5_clock_47 rfl (lv_at hl 1 rfl) ?_
  refine w_get (C := RX5) (T := TX5) (Nf := 4) (ci := 5) (v := .ref qs) S (fun _ h => List.mem_cons_of_mem _ (List.mem_append_right _ h)) hE hP 0 rfl rfl 0 (by decide) (List.mem_of_getElem? (i := 3) rfl) rfl dX5_clock_48 ?_
  refine lv_bipush (v := iI (28)) hx hb dX5_clock_51 (by decide) ?_
  refine lv_iload_n hx hb dX5_clock_53 rfl (lv_at hl 2 rfl) ?_
  refine w_iadd S dX5_clock_54 ?_
  refine lv_iload_n hx hb dX5_clock_55 rfl (lv_at hl 3 rfl) ?_
  refine w_iast S hE hP hD hS 1 rfl (28 + nd) (by omega) (by omega) (by omega) dX5_clock_56 (fun H locs hP hD hS => ?_)
  rw [List.set_cons_succ, List.set_cons_zero, su_ck (j := nd) (by omega) (by omega)] at hP hD
  have hP : va_P D vwCl [(q, .inr (5, [.ref qs, .ref qi, .ref qk, .ref ql])), (qs, .inl (cI, 2108, .inl (vI (stF ((mn : Nat) : Int) tA sA kA nb (updI ck nd v) hi lo ha cn sm)))), (qi, .inl (cI, 4216, .inl (vI im))), (qk, .inl (cZ, 2, .inl (vI kp))), (ql, .inl (cI, 25, .inl (vI le)))] H := hP
  have hD : va_D A [(q, .inr (5, [.ref qs, .ref qi, .ref qk, .ref ql])), (qs, .inl (cI, 2108, .inl (vI (stF ((mn : Nat) : Int) tA sA kA nb (updI ck nd v) hi lo ha cn sm)))), (qi, .inl (cI, 4216, .inl (vI im))), (qk, .inl (cZ, 2, .inl (vI kp))), (ql, .inl (cI, 25, .inl (vI le)))] := hD
  refine lv_iconst (v := iI (0)) hx hb dX5_clock_57 rfl ?_
  refine lv_istore (lv' := [(4, .int (iI (0))), (3, .int (iI (ck nd))), (0, .ref q), (1, .int (iI (((nd : Nat) : Int)))), (2, .int (iI (v)))]) hx hb dX5_clock_58 hl (by decide) rfl (fun ls hl => ?_)
  have loop3 : ∀ (u i : Nat) , i + u = 5 → ∀ (H : Heap) (locs : List Loc) (ls : Array Slot), va_P D vwCl [(q, .inr (5, [.ref qs, .ref qi, .ref qk, .ref ql])), (qs, .inl (cI, 2108, .inl (vI (stF ((mn : Nat) : Int) tA sA kA nb (updI ck nd v) hi lo (fgh ha nd i) cn sm)))), (qi, .inl (cI, 4216, .inl (vI im))), (qk, .inl (cZ, 2, .inl (vI kp))), (ql, .inl (cI, 25, .inl (vI le)))] H → va_D A [(q, .inr (5, [.ref qs, .ref qi, .ref qk, .ref ql])), (qs, .inl (cI, 2108, .inl (vI (stF ((mn : Nat) : Int) tA sA kA nb (updI ck nd v) hi lo (fgh ha nd i) cn sm)))), (qi, .inl (cI, 4216, .inl (vI im))), (qk, .inl (cZ, 2, .inl (vI kp))), (ql, .inl (cI, 25, .inl (vI le)))] → va_S A s.heap H locs → lv_has ls 5 [(4, .int (iI (((i : Nat) : Int)))), (3, .int (iI (ck nd))), (0, .ref q), (1, .int (iI (((nd : Nat) : Int)))), (2, .int (iI (v)))] → W p lc e R s m args below meth c H locs 0 0 Q (F0 m 60 ls []) := by
    intro u
    induction u with
    | zero =>
      intro i  hm  H locs ls hP hD hS hl
      refine lv_iload hx hb dX5_clock_60 (lv_at hl 0 rfl) ?_
      refine lv_iconst (v := iI (5)) hx hb dX5_clock_62 rfl ?_
      refine c_geT (tgt := 102) S dX5_clock_63 (by decide) (by omega) (by omega) (by omega) ?_
      have hi5 : i = 5 := by omega
      subst hi5
      refine lv_iload_n hx hb dX5_clock_102 rfl (lv_at hl 1 rfl) ?_
      exact hret _ _ _ _ _ dX5_clock_103 rfl hP hS
    | succ u ih3 =>
      intro i  hm  H locs ls hP hD hS hl
      refine lv_iload hx hb dX5_clock_60 (lv_at hl 0 rfl) ?_
      refine lv_iconst (v := iI (5)) hx hb dX5_clock_62 rfl ?_
      refine c_geF (tgt := 102) S dX5_clock_63 (by decide) (by omega) (by omega) (by omega) ?_
      refine lv_aload_n hx hb dX5_clock_66 rfl (lv_at hl 2 rfl) ?_
      refine w_get (C := RX5) (T := TX5) (Nf := 4) (ci := 5) (v := .ref qs) S (fun _ h => List.mem_cons_of_mem _ (List.mem_append_right _ h)) hE hP 0 rfl rfl 0 (by decide) (List.mem_of_getElem? (i := 3) rfl) rfl dX5_clock_67 ?_
      refine lv_bipush (v := iI (83)) hx hb dX5_clock_70 (by decide) ?_
      refine lv_iconst (v := iI (5)) hx hb dX5_clock_72 rfl ?_
      refine lv_iload_n hx hb dX5_clock_73 rfl (lv_at hl 3 rfl) ?_
      refine w_imul S dX5_clock_74 ?_
      refine w_iadd S dX5_clock_75 ?_
      refine lv_iload hx hb dX5_clock_76 (lv_at hl 0 rfl) ?_
      refine w_iadd S dX5_clock_78 ?_
      refine lv_iconst (v := iI (0)) hx hb dX5_clock_79 rfl ?_
      refine w_iast S hE hP hD hS 1 rfl ((83 + (5 * nd)) + i) (by omega) (by omega) (by omega) dX5_clock_80 (fun H locs hP hD hS => ?_)
      rw [List.set_cons_succ, List.set_cons_zero, su_ha (j := nd * 5 + i) (by omega) (by omega)] at hP hD
      have hP : va_P D vwCl [(q, .inr (5, [.ref qs, .ref qi, .ref qk, .ref ql])), (qs, .inl (cI, 2108, .inl (vI (stF ((mn : Nat) : Int) tA sA kA nb (updI ck nd v) hi lo (updI (fgh ha nd i) (nd * 5 + i) 0) cn sm)))), (qi, .inl (cI, 4216, .inl (vI im))), (qk, .inl (cZ, 2, .inl (vI kp))), (ql, .inl (cI, 25, .inl (vI le)))] H := hP
      have hD : va_D A [(q, .inr (5, [.ref qs, .ref qi, .ref qk, .ref ql])), (qs, .inl (cI, 2108, .inl (vI (stF ((mn : Nat) : Int) tA sA kA nb (updI ck nd v) hi lo (updI (fgh ha nd i) (nd * 5 + i) 0) cn sm)))), (qi, .inl (cI, 4216, .inl (vI im))), (qk, .inl (cZ, 2, .inl (vI kp))), (ql, .inl (cI, 25, .inl (vI le)))] := hD
      refine lv_aload_n hx hb dX5_clock_81 rfl (lv_at hl 2 rfl) ?_
      refine w_get (C := RX5) (T := TX5) (Nf := 4) (ci := 5) (v := .ref qs) S (fun _ h => List.mem_cons_of_mem _ (List.mem_append_right _ h)) hE hP 0 rfl rfl 0 (by decide) (List.mem_of_getElem? (i := 3) rfl) rfl dX5_clock_82 ?_
      refine lv_bipush (v := iI (83)) hx hb dX5_clock_85 (by decide) ?_
      refine lv_iconst (v := iI (5)) hx hb dX5_clock_87 rfl ?_
      refine lv_iload hx hb dX5_clock_88 (lv_at hl 0 rfl) ?_
      refine w_imul S dX5_clock_90 ?_
      refine w_iadd S dX5_clock_91 ?_
      refine lv_iload_n hx hb dX5_clock_92 rfl (lv_at hl 3 rfl) ?_
      refine w_iadd S dX5_clock_93 ?_
      refine lv_iconst (v := iI (0)) hx hb dX5_clock_94 rfl ?_
      refine w_iast S hE hP hD hS 1 rfl ((83 + (5 * i)) + nd) (by omega) (by omega) (by omega) dX5_clock_95 (fun H locs hP hD hS => ?_)
      rw [List.set_cons_succ, List.set_cons_zero, su_ha (j := i * 5 + nd) (by omega) (by omega)] at hP hD
      have hP : va_P D vwCl [(q, .inr (5, [.ref qs, .ref qi, .ref qk, .ref ql])), (qs, .inl (cI, 2108, .inl (vI (stF ((mn : Nat) : Int) tA sA kA nb (updI ck nd v) hi lo (updI (updI (fgh ha nd i) (nd * 5 + i) 0) (i * 5 + nd) 0) cn sm)))), (qi, .inl (cI, 4216, .inl (vI im))), (qk, .inl (cZ, 2, .inl (vI kp))), (ql, .inl (cI, 25, .inl (vI le)))] H := hP
      have hD : va_D A [(q, .inr (5, [.ref qs, .ref qi, .ref qk, .ref ql])), (qs, .inl (cI, 2108, .inl (vI (stF ((mn : Nat) : Int) tA sA kA nb (updI ck nd v) hi lo (updI (updI (fgh ha nd i) (nd * 5 + i) 0) (i * 5 + nd) 0) cn sm)))), (qi, .inl (cI, 4216, .inl (vI im))), (qk, .inl (cZ, 2, .inl (vI kp))), (ql, .inl (cI, 25, .inl (vI le)))] := hD
      refine w_iinc (v := ((i + 1 : Nat) : Int)) (lv' := [(4, .int (iI (((i + 1 : Nat) : Int)))), (3, .int (iI (ck nd))), (0, .ref q), (1, .int (iI (((nd : Nat) : Int)))), (2, .int (iI (v)))]) S dX5_clock_96 hl (k := 0) rfl (by omega) (by decide) rfl (fun ls hl => ?_)
      refine lv_goto (tgt := 60) hx hb dX5_clock_99 (by decide) ?_
      have hcell : updI (updI (fgh ha nd i) (nd * 5 + i) 0) (i * 5 + nd) 0 = fgh ha nd (i + 1) := (fgh_s ha nd i (by omega) (by omega))
      rw [hcell] at hP hD
      exact ih3 (i + 1)  (by omega)  _ _ _ hP hD hS (lv_sub hl [0, 1, 2, 3, 4] rfl)
  have hcell : ha = fgh ha nd 0 := (fgh_0 ha nd)
  rw [hcell] at hP hD
  exact loop3 5 0  (by omega)  _ _ _ hP hD hS (lv_sub hl [0, 1, 2, 3, 4] rfl)
set_option maxHeartbeats 4000000 in
set_option maxRecDepth 100000 in
theorem m_block_O (lc : Launch) (D : va_G) (cI cZ : ClassId) (N : Nat) (q : Nat) (qs : Nat) (qi : Nat) (qk : Nat) (ql : Nat) (mn : Nat) (tA : Int) (sA : Int) (kA : Int) (nb : Nat → Int) (ck : Nat → Int) (hi : Nat → Int) (lo : Nat → Int) (ha : Nat → Int) (cn : Nat → Int) (sm : Nat → Int) (im : Nat → Int) (kp : Nat → Int) (le : Nat → Int) (v : Int) (r_v : -2147483648 ≤ v ∧ v ≤ 2147483647) (h : ¬ (1 ≤ v ∧ v ≤ 20)) : CR lc D cI cZ N yX5_block wsX5_block (rmK 1 22) [.ref q, .int (iI (v))] [(q, .inr (5, [.ref qs, .ref qi, .ref qk, .ref ql])), (qs, .inl (cI, 2108, .inl (vI (stF ((mn : Nat) : Int) tA sA kA nb ck hi lo ha cn sm)))), (qi, .inl (cI, 4216, .inl (vI im))), (qk, .inl (cZ, 2, .inl (vI kp))), (ql, .inl (cI, 25, .inl (vI le)))] (some (.int (iI (-2)))) := by
  refine CR.I (cc := cX5_block) (maxL := 3) (by decide) rfl (Nat.le_of_ble_eq_true rfl) ?_
  intro p e s m args below meth c R Q S hE A hAN hfr hlo hP hD hS hret ls hl
  have S : CallFix p m c cX5_block 3 s args wsX5_block RX5 := S
  have hx := S.1
  have hb := S.2.1
  have hl : lv_has ls 3 [(0, .ref q), (1, .int (iI (v)))] := hl
  refine lv_iload_n hx hb dX5_block_0 rfl (lv_at hl 1 rfl) ?_
  refine lv_iconst (v := iI (1)) hx hb dX5_block_1 rfl ?_
  refine lv_bipush (v := iI (20)) hx hb dX5_block_2 (by decide) ?_
  refine kS_R (n := 3) S (m_in_F lc D cI cZ N v 1 20 (by omega) (by omega) (by omega) (by omega)) gX5_block_X5_in rfl (by decide +kernel) rfl rfl ⟨Nat.le_trans (Nat.le_of_ble_eq_true rfl) hfr, Nat.le_trans (Nat.le_of_ble_eq_true rfl) hlo⟩ hE hAN hP hD hS [] rfl (by decide) rfl hl.1 [] rfl (Nat.le_of_ble_eq_true rfl) dX5_block_4 ⟨Nat.zero_le _, Nat.zero_le _⟩ ?_
  refine W.eq (g2 := F0 m 7 ls [.int (iI (0))]) rfl ?_
  refine b_neF (tgt := 13) S dX5_block_7 (by decide) (by decide) ?_
  refine lv_bipush (v := iI ((-2))) hx hb dX5_block_10 (by decide) ?_
  exact hret _ _ _ dX5_block_12 (congrArg iI (by omega))
set_option maxHeartbeats 4000000 in
set_option maxRecDepth 100000 in
theorem m_block_S (lc : Launch) (D : va_G) (cI cZ : ClassId) (N : Nat) (q : Nat) (qs : Nat) (qi : Nat) (qk : Nat) (ql : Nat) (mn : Nat) (tA : Int) (sA : Int) (kA : Int) (nb : Nat → Int) (ck : Nat → Int) (hi : Nat → Int) (lo : Nat → Int) (ha : Nat → Int) (cn : Nat → Int) (sm : Nat → Int) (im : Nat → Int) (kp : Nat → Int) (le : Nat → Int) (v : Int) (hsA : 0 ≤ sA ∧ sA ≤ 200) (r_v : -2147483648 ≤ v ∧ v ≤ 2147483647) (h : 1 ≤ v ∧ v ≤ 20) (h3 : 0 < sA) : CR lc D cI cZ N yX5_block wsX5_block (rmK 1 22) [.ref q, .int (iI (v))] [(q, .inr (5, [.ref qs, .ref qi, .ref qk, .ref ql])), (qs, .inl (cI, 2108, .inl (vI (stF ((mn : Nat) : Int) tA sA kA nb ck hi lo ha cn sm)))), (qi, .inl (cI, 4216, .inl (vI im))), (qk, .inl (cZ, 2, .inl (vI kp))), (ql, .inl (cI, 25, .inl (vI le)))] (some (.int (iI (-3)))) := by
  refine CR.I (cc := cX5_block) (maxL := 3) (by decide) rfl (Nat.le_of_ble_eq_true rfl) ?_
  intro p e s m args below meth c R Q S hE A hAN hfr hlo hP hD hS hret ls hl
  have S : CallFix p m c cX5_block 3 s args wsX5_block RX5 := S
  have hx := S.1
  have hb := S.2.1
  have hl : lv_has ls 3 [(0, .ref q), (1, .int (iI (v)))] := hl
  refine lv_iload_n hx hb dX5_block_0 rfl (lv_at hl 1 rfl) ?_
  refine lv_iconst (v := iI (1)) hx hb dX5_block_1 rfl ?_
  refine lv_bipush (v := iI (20)) hx hb dX5_block_2 (by decide) ?_
  refine kS_R (n := 3) S (m_in_T lc D cI cZ N v 1 20 (by omega) (by omega) (by omega) (by omega)) gX5_block_X5_in rfl (by decide +kernel) rfl rfl ⟨Nat.le_trans (Nat.le_of_ble_eq_true rfl) hfr, Nat.le_trans (Nat.le_of_ble_eq_true rfl) hlo⟩ hE hAN hP hD hS [] rfl (by decide) rfl hl.1 [] rfl (Nat.le_of_ble_eq_true rfl) dX5_block_4 ⟨Nat.zero_le _, Nat.zero_le _⟩ ?_
  refine W.eq (g2 := F0 m 7 ls [.int (iI (1))]) rfl ?_
  refine b_neT (tgt := 13) S dX5_block_7 (by decide) (by decide) (by decide) ?_
  refine lv_aload_n hx hb dX5_block_13 rfl (lv_at hl 0 rfl) ?_
  refine w_get (C := RX5) (T := TX5) (Nf := 4) (ci := 5) (v := .ref qs) S (fun _ h => List.mem_cons_of_mem _ (List.mem_append_right _ h)) hE hP 0 rfl rfl 0 (by decide) (List.mem_of_getElem? (i := 1) rfl) rfl dX5_block_14 ?_
  refine lv_iconst (v := iI (2)) hx hb dX5_block_17 rfl ?_
  refine w_iald S hE hP 1 rfl (2) (by omega) (by omega) (by omega) dX5_block_18 ?_
  refine w_tz (z := sA) rfl ?_
  refine b_leF (tgt := 25) S dX5_block_19 (by decide) (by omega) (by omega) ?_
  refine lv_bipush (v := iI ((-3))) hx hb dX5_block_22 (by decide) ?_
  exact hret _ _ _ dX5_block_24 (congrArg iI (by omega))
set_option maxHeartbeats 4000000 in
set_option maxRecDepth 100000 in
theorem m_block (lc : Launch) (D : va_G) (cI cZ : ClassId) (N : Nat) (q : Nat) (qs : Nat) (qi : Nat) (qk : Nat) (ql : Nat) (mn : Nat) (tA : Int) (sA : Int) (kA : Int) (nb : Nat → Int) (ck : Nat → Int) (hi : Nat → Int) (lo : Nat → Int) (ha : Nat → Int) (cn : Nat → Int) (sm : Nat → Int) (im : Nat → Int) (kp : Nat → Int) (le : Nat → Int) (v : Int) (hsA : 0 ≤ sA ∧ sA ≤ 200) (r_v : -2147483648 ≤ v ∧ v ≤ 2147483647) (h : 1 ≤ v ∧ v ≤ 20) (h3 : sA = 0) : CM lc D cI cZ N yX5_block wsX5_block (rmK 1 22) [.ref q, .int (iI (v))] [(q, .inr (5, [.ref qs, .ref qi, .ref qk, .ref ql])), (qs, .inl (cI, 2108, .inl (vI (stF ((mn : Nat) : Int) tA sA kA nb ck hi lo ha cn sm)))), (qi, .inl (cI, 4216, .inl (vI im))), (qk, .inl (cZ, 2, .inl (vI kp))), (ql, .inl (cI, 25, .inl (vI le)))] (some (.int (iI (kA)))) [(q, .inr (5, [.ref qs, .ref qi, .ref qk, .ref ql])), (qs, .inl (cI, 2108, .inl (vI (stF ((mn : Nat) : Int) tA sA v nb ck hi lo ha cn sm)))), (qi, .inl (cI, 4216, .inl (vI im))), (qk, .inl (cZ, 2, .inl (vI kp))), (ql, .inl (cI, 25, .inl (vI le)))] := by
  refine CM.I (cc := cX5_block) (maxL := 3) (by decide) rfl (Nat.le_of_ble_eq_true rfl) ?_
  intro p e s m args below meth c R Q S hE A hAN hfr hlo hP hD hS hret ls hl
  have S : CallFix p m c cX5_block 3 s args wsX5_block RX5 := S
  have hx := S.1
  have hb := S.2.1
  have hl : lv_has ls 3 [(0, .ref q), (1, .int (iI (v)))] := hl
  refine lv_iload_n hx hb dX5_block_0 rfl (lv_at hl 1 rfl) ?_
  refine lv_iconst (v := iI (1)) hx hb dX5_block_1 rfl ?_
  refine lv_bipush (v := iI (20)) hx hb dX5_block_2 (by decide) ?_
  refine kS_R (n := 3) S (m_in_T lc D cI cZ N v 1 20 (by omega) (by omega) (by omega) (by omega)) gX5_block_X5_in rfl (by decide +kernel) rfl rfl ⟨Nat.le_trans (Nat.le_of_ble_eq_true rfl) hfr, Nat.le_trans (Nat.le_of_ble_eq_true rfl) hlo⟩ hE hAN hP hD hS [] rfl (by decide) rfl hl.1 [] rfl (Nat.le_of_ble_eq_true rfl) dX5_block_4 ⟨Nat.zero_le _, Nat.zero_le _⟩ ?_
  refine W.eq (g2 := F0 m 7 ls [.int (iI (1))]) rfl ?_
  refine b_neT (tgt := 13) S dX5_block_7 (by decide) (by decide) (by decide) ?_
  refine lv_aload_n hx hb dX5_block_13 rfl (lv_at hl 0 rfl) ?_
  refine w_get (C := RX5) (T := TX5) (Nf := 4) (ci := 5) (v := .ref qs) S (fun _ h => List.mem_cons_of_mem _ (List.mem_append_right _ h)) hE hP 0 rfl rfl 0 (by decide) (List.mem_of_getElem? (i := 1) rfl) rfl dX5_block_14 ?_
  refine lv_iconst (v := iI (2)) hx hb dX5_block_17 rfl ?_
  refine w_iald S hE hP 1 rfl (2) (by omega) (by omega) (by omega) dX5_block_18 ?_
  refine w_tz (z := sA) rfl ?_
  refine b_leT (tgt := 25) S dX5_block_19 (by decide) (by omega) (by omega) ?_
  refine lv_aload_n hx hb dX5_block_25 rfl (lv_at hl 0 rfl) ?_
  refine w_get (C := RX5) (T := TX5) (Nf := 4) (ci := 5) (v := .ref qs) S (fun _ h => List.mem_cons_of_mem _ (List.mem_append_right _ h)) hE hP 0 rfl rfl 0 (by decide) (List.mem_of_getElem? (i := 1) rfl) rfl dX5_block_26 ?_
  refine lv_iconst (v := iI (3)) hx hb dX5_block_29 rfl ?_
  refine w_iald S hE hP 1 rfl (3) (by omega) (by omega) (by omega) dX5_block_30 ?_
  refine w_tz (z := kA) rfl ?_
  refine lv_istore_n (lv' := [(2, .int (iI (kA))), (0, .ref q), (1, .int (iI (v)))]) hx hb dX5_block_31 rfl hl (by decide) rfl (fun ls hl => ?_)
  refine lv_aload_n hx hb dX5_block_32 rfl (lv_at hl 1 rfl) ?_
  refine w_get (C := RX5) (T := TX5) (Nf := 4) (ci := 5) (v := .ref qs) S (fun _ h => List.mem_cons_of_mem _ (List.mem_append_right _ h)) hE hP 0 rfl rfl 0 (by decide) (List.mem_of_getElem? (i := 1) rfl) rfl dX5_block_33 ?_
  refine lv_iconst (v := iI (3)) hx hb dX5_block_36 rfl ?_
  refine lv_iload_n hx hb dX5_block_37 rfl (lv_at hl 2 rfl) ?_
  refine w_iast S hE hP hD hS 1 rfl (3) (by omega) (by omega) (by omega) dX5_block_38 (fun H locs hP hD hS => ?_)
  rw [List.set_cons_succ, List.set_cons_zero, su_kA] at hP hD
  have hP : va_P D vwCl [(q, .inr (5, [.ref qs, .ref qi, .ref qk, .ref ql])), (qs, .inl (cI, 2108, .inl (vI (stF ((mn : Nat) : Int) tA sA v nb ck hi lo ha cn sm)))), (qi, .inl (cI, 4216, .inl (vI im))), (qk, .inl (cZ, 2, .inl (vI kp))), (ql, .inl (cI, 25, .inl (vI le)))] H := hP
  have hD : va_D A [(q, .inr (5, [.ref qs, .ref qi, .ref qk, .ref ql])), (qs, .inl (cI, 2108, .inl (vI (stF ((mn : Nat) : Int) tA sA v nb ck hi lo ha cn sm)))), (qi, .inl (cI, 4216, .inl (vI im))), (qk, .inl (cZ, 2, .inl (vI kp))), (ql, .inl (cI, 25, .inl (vI le)))] := hD
  refine lv_iload_n hx hb dX5_block_39 rfl (lv_at hl 0 rfl) ?_
  exact hret _ _ _ _ _ dX5_block_40 rfl hP hS
set_option maxHeartbeats 4000000 in
set_option maxRecDepth 100000 in
theorem m_pause_O (lc : Launch) (D : va_G) (cI cZ : ClassId) (N : Nat) (q : Nat) (qs : Nat) (qi : Nat) (qk : Nat) (ql : Nat) (mn : Nat) (tA : Int) (sA : Int) (kA : Int) (nb : Nat → Int) (ck : Nat → Int) (hi : Nat → Int) (lo : Nat → Int) (ha : Nat → Int) (cn : Nat → Int) (sm : Nat → Int) (im : Nat → Int) (kp : Nat → Int) (le : Nat → Int) (v : Int) (r_v : -2147483648 ≤ v ∧ v ≤ 2147483647) (h : ¬ (1 ≤ v ∧ v ≤ 999)) : CR lc D cI cZ N yX5_pause wsX5_pause (rmK 1 22) [.ref q, .int (iI (v))] [(q, .inr (5, [.ref qs, .ref qi, .ref qk, .ref ql])), (qs, .inl (cI, 2108, .inl (vI (stF ((mn : Nat) : Int) tA sA kA nb ck hi lo ha cn sm)))), (qi, .inl (cI, 4216, .inl (vI im))), (qk, .inl (cZ, 2, .inl (vI kp))), (ql, .inl (cI, 25, .inl (vI le)))] (some (.int (iI (-2)))) := by
  refine CR.I (cc := cX5_pause) (maxL := 2) (by decide) rfl (Nat.le_of_ble_eq_true rfl) ?_
  intro p e s m args below meth c R Q S hE A hAN hfr hlo hP hD hS hret ls hl
  have S : CallFix p m c cX5_pause 2 s args wsX5_pause RX5 := S
  have hx := S.1
  have hb := S.2.1
  have hl : lv_has ls 2 [(0, .ref q), (1, .int (iI (v)))] := hl
  refine lv_iload_n hx hb dX5_pause_0 rfl (lv_at hl 1 rfl) ?_
  refine lv_iconst (v := iI (1)) hx hb dX5_pause_1 rfl ?_
  refine lv_sipush (v := iI (999)) hx hb dX5_pause_2 (by decide) ?_
  refine kS_R (n := 3) S (m_in_F lc D cI cZ N v 1 999 (by omega) (by omega) (by omega) (by omega)) gX5_pause_X5_in rfl (by decide +kernel) rfl rfl ⟨Nat.le_trans (Nat.le_of_ble_eq_true rfl) hfr, Nat.le_trans (Nat.le_of_ble_eq_true rfl) hlo⟩ hE hAN hP hD hS [] rfl (by decide) rfl hl.1 [] rfl (Nat.le_of_ble_eq_true rfl) dX5_pause_5 ⟨Nat.zero_le _, Nat.zero_le _⟩ ?_
  refine W.eq (g2 := F0 m 8 ls [.int (iI (0))]) rfl ?_
  refine b_neF (tgt := 14) S dX5_pause_8 (by decide) (by decide) ?_
  refine lv_bipush (v := iI ((-2))) hx hb dX5_pause_11 (by decide) ?_
  exact hret _ _ _ dX5_pause_13 (congrArg iI (by omega))
set_option maxHeartbeats 4000000 in
set_option maxRecDepth 100000 in
theorem m_pause_F (lc : Launch) (D : va_G) (cI cZ : ClassId) (N : Nat) (q : Nat) (qs : Nat) (qi : Nat) (qk : Nat) (ql : Nat) (mn : Nat) (tA : Int) (sA : Int) (kA : Int) (nb : Nat → Int) (ck : Nat → Int) (hi : Nat → Int) (lo : Nat → Int) (ha : Nat → Int) (cn : Nat → Int) (sm : Nat → Int) (im : Nat → Int) (kp : Nat → Int) (le : Nat → Int) (v : Int) (hta : 0 ≤ tA ∧ tA ≤ 10000) (r_v : -2147483648 ≤ v ∧ v ≤ 2147483647) (h : 1 ≤ v ∧ v ≤ 999) (h2 : 9999 < tA + v) : CR lc D cI cZ N yX5_pause wsX5_pause (rmK 1 22) [.ref q, .int (iI (v))] [(q, .inr (5, [.ref qs, .ref qi, .ref qk, .ref ql])), (qs, .inl (cI, 2108, .inl (vI (stF ((mn : Nat) : Int) tA sA kA nb ck hi lo ha cn sm)))), (qi, .inl (cI, 4216, .inl (vI im))), (qk, .inl (cZ, 2, .inl (vI kp))), (ql, .inl (cI, 25, .inl (vI le)))] (some (.int (iI (-4)))) := by
  refine CR.I (cc := cX5_pause) (maxL := 2) (by decide) rfl (Nat.le_of_ble_eq_true rfl) ?_
  intro p e s m args below meth c R Q S hE A hAN hfr hlo hP hD hS hret ls hl
  have S : CallFix p m c cX5_pause 2 s args wsX5_pause RX5 := S
  have hx := S.1
  have hb := S.2.1
  have hl : lv_has ls 2 [(0, .ref q), (1, .int (iI (v)))] := hl
  refine lv_iload_n hx hb dX5_pause_0 rfl (lv_at hl 1 rfl) ?_
  refine lv_iconst (v := iI (1)) hx hb dX5_pause_1 rfl ?_
  refine lv_sipush (v := iI (999)) hx hb dX5_pause_2 (by decide) ?_
  refine kS_R (n := 3) S (m_in_T lc D cI cZ N v 1 999 (by omega) (by omega) (by omega) (by omega)) gX5_pause_X5_in rfl (by decide +kernel) rfl rfl ⟨Nat.le_trans (Nat.le_of_ble_eq_true rfl) hfr, Nat.le_trans (Nat.le_of_ble_eq_true rfl) hlo⟩ hE hAN hP hD hS [] rfl (by decide) rfl hl.1 [] rfl (Nat.le_of_ble_eq_true rfl) dX5_pause_5 ⟨Nat.zero_le _, Nat.zero_le _⟩ ?_
  refine W.eq (g2 := F0 m 8 ls [.int (iI (1))]) rfl ?_
  refine b_neT (tgt := 14) S dX5_pause_8 (by decide) (by decide) (by decide) ?_
  refine lv_aload_n hx hb dX5_pause_14 rfl (lv_at hl 0 rfl) ?_
  refine w_get (C := RX5) (T := TX5) (Nf := 4) (ci := 5) (v := .ref qs) S (fun _ h => List.mem_cons_of_mem _ (List.mem_append_right _ h)) hE hP 0 rfl rfl 0 (by decide) (List.mem_of_getElem? (i := 1) rfl) rfl dX5_pause_15 ?_
  refine lv_iconst (v := iI (1)) hx hb dX5_pause_18 rfl ?_
  refine w_iald S hE hP 1 rfl (1) (by omega) (by omega) (by omega) dX5_pause_19 ?_
  refine w_tz (z := tA) rfl ?_
  refine lv_iload_n hx hb dX5_pause_20 rfl (lv_at hl 1 rfl) ?_
  refine w_iadd S dX5_pause_21 ?_
  refine lv_sipush (v := iI (9999)) hx hb dX5_pause_22 (by decide) ?_
  refine c_leF (tgt := 31) S dX5_pause_25 (by decide) (by omega) (by omega) (by omega) ?_
  refine lv_bipush (v := iI ((-4))) hx hb dX5_pause_28 (by decide) ?_
  exact hret _ _ _ dX5_pause_30 (congrArg iI (by omega))
set_option maxHeartbeats 4000000 in
set_option maxRecDepth 100000 in
theorem m_pause (lc : Launch) (D : va_G) (cI cZ : ClassId) (N : Nat) (q : Nat) (qs : Nat) (qi : Nat) (qk : Nat) (ql : Nat) (mn : Nat) (tA : Int) (sA : Int) (kA : Int) (nb : Nat → Int) (ck : Nat → Int) (hi : Nat → Int) (lo : Nat → Int) (ha : Nat → Int) (cn : Nat → Int) (sm : Nat → Int) (im : Nat → Int) (kp : Nat → Int) (le : Nat → Int) (v : Int) (hta : 0 ≤ tA ∧ tA ≤ 10000) (r_v : -2147483648 ≤ v ∧ v ≤ 2147483647) (h : 1 ≤ v ∧ v ≤ 999) (h2 : tA + v ≤ 9999) : CM lc D cI cZ N yX5_pause wsX5_pause (rmK 1 22) [.ref q, .int (iI (v))] [(q, .inr (5, [.ref qs, .ref qi, .ref qk, .ref ql])), (qs, .inl (cI, 2108, .inl (vI (stF ((mn : Nat) : Int) tA sA kA nb ck hi lo ha cn sm)))), (qi, .inl (cI, 4216, .inl (vI im))), (qk, .inl (cZ, 2, .inl (vI kp))), (ql, .inl (cI, 25, .inl (vI le)))] (some (.int (iI (tA + v)))) [(q, .inr (5, [.ref qs, .ref qi, .ref qk, .ref ql])), (qs, .inl (cI, 2108, .inl (vI (stF ((mn : Nat) : Int) (tA + v) sA kA nb ck hi lo ha cn sm)))), (qi, .inl (cI, 4216, .inl (vI im))), (qk, .inl (cZ, 2, .inl (vI kp))), (ql, .inl (cI, 25, .inl (vI le)))] := by
  refine CM.I (cc := cX5_pause) (maxL := 2) (by decide) rfl (Nat.le_of_ble_eq_true rfl) ?_
  intro p e s m args below meth c R Q S hE A hAN hfr hlo hP hD hS hret ls hl
  have S : CallFix p m c cX5_pause 2 s args wsX5_pause RX5 := S
  have hx := S.1
  have hb := S.2.1
  have hl : lv_has ls 2 [(0, .ref q), (1, .int (iI (v)))] := hl
  refine lv_iload_n hx hb dX5_pause_0 rfl (lv_at hl 1 rfl) ?_
  refine lv_iconst (v := iI (1)) hx hb dX5_pause_1 rfl ?_
  refine lv_sipush (v := iI (999)) hx hb dX5_pause_2 (by decide) ?_
  refine kS_R (n := 3) S (m_in_T lc D cI cZ N v 1 999 (by omega) (by omega) (by omega) (by omega)) gX5_pause_X5_in rfl (by decide +kernel) rfl rfl ⟨Nat.le_trans (Nat.le_of_ble_eq_true rfl) hfr, Nat.le_trans (Nat.le_of_ble_eq_true rfl) hlo⟩ hE hAN hP hD hS [] rfl (by decide) rfl hl.1 [] rfl (Nat.le_of_ble_eq_true rfl) dX5_pause_5 ⟨Nat.zero_le _, Nat.zero_le _⟩ ?_
  refine W.eq (g2 := F0 m 8 ls [.int (iI (1))]) rfl ?_
  refine b_neT (tgt := 14) S dX5_pause_8 (by decide) (by decide) (by decide) ?_
  refine lv_aload_n hx hb dX5_pause_14 rfl (lv_at hl 0 rfl) ?_
  refine w_get (C := RX5) (T := TX5) (Nf := 4) (ci := 5) (v := .ref qs) S (fun _ h => List.mem_cons_of_mem _ (List.mem_append_right _ h)) hE hP 0 rfl rfl 0 (by decide) (List.mem_of_getElem? (i := 1) rfl) rfl dX5_pause_15 ?_
  refine lv_iconst (v := iI (1)) hx hb dX5_pause_18 rfl ?_
  refine w_iald S hE hP 1 rfl (1) (by omega) (by omega) (by omega) dX5_pause_19 ?_
  refine w_tz (z := tA) rfl ?_
  refine lv_iload_n hx hb dX5_pause_20 rfl (lv_at hl 1 rfl) ?_
  refine w_iadd S dX5_pause_21 ?_
  refine lv_sipush (v := iI (9999)) hx hb dX5_pause_22 (by decide) ?_
  refine c_leT (tgt := 31) S dX5_pause_25 (by decide) (by omega) (by omega) (by omega) ?_
  refine lv_aload_n hx hb dX5_pause_31 rfl (lv_at hl 0 rfl) ?_
  refine w_get (C := RX5) (T := TX5) (Nf := 4) (ci := 5) (v := .ref qs) S (fun _ h => List.mem_cons_of_mem _ (List.mem_append_right _ h)) hE hP 0 rfl rfl 0 (by decide) (List.mem_of_getElem? (i := 1) rfl) rfl dX5_pause_32 ?_
  refine lv_iconst (v := iI (1)) hx hb dX5_pause_35 rfl ?_
  refine lv_dup2_11 hx hb dX5_pause_36 rfl rfl ?_
  refine w_iald S hE hP 1 rfl (1) (by omega) (by omega) (by omega) dX5_pause_37 ?_
  refine w_tz (z := tA) rfl ?_
  refine lv_iload_n hx hb dX5_pause_38 rfl (lv_at hl 1 rfl) ?_
  refine w_iadd S dX5_pause_39 ?_
  refine w_iast S hE hP hD hS 1 rfl (1) (by omega) (by omega) (by omega) dX5_pause_40 (fun H locs hP hD hS => ?_)
  rw [List.set_cons_succ, List.set_cons_zero, su_tA] at hP hD
  have hP : va_P D vwCl [(q, .inr (5, [.ref qs, .ref qi, .ref qk, .ref ql])), (qs, .inl (cI, 2108, .inl (vI (stF ((mn : Nat) : Int) (tA + v) sA kA nb ck hi lo ha cn sm)))), (qi, .inl (cI, 4216, .inl (vI im))), (qk, .inl (cZ, 2, .inl (vI kp))), (ql, .inl (cI, 25, .inl (vI le)))] H := hP
  have hD : va_D A [(q, .inr (5, [.ref qs, .ref qi, .ref qk, .ref ql])), (qs, .inl (cI, 2108, .inl (vI (stF ((mn : Nat) : Int) (tA + v) sA kA nb ck hi lo ha cn sm)))), (qi, .inl (cI, 4216, .inl (vI im))), (qk, .inl (cZ, 2, .inl (vI kp))), (ql, .inl (cI, 25, .inl (vI le)))] := hD
  refine lv_aload_n hx hb dX5_pause_41 rfl (lv_at hl 0 rfl) ?_
  refine w_get (C := RX5) (T := TX5) (Nf := 4) (ci := 5) (v := .ref qs) S (fun _ h => List.mem_cons_of_mem _ (List.mem_append_right _ h)) hE hP 0 rfl rfl 0 (by decide) (List.mem_of_getElem? (i := 1) rfl) rfl dX5_pause_42 ?_
  refine lv_iconst (v := iI (1)) hx hb dX5_pause_45 rfl ?_
  refine w_iald S hE hP 1 rfl (1) (by omega) (by omega) (by omega) dX5_pause_46 ?_
  refine w_tz (z := tA + v) rfl ?_
  exact hret _ _ _ _ _ dX5_pause_47 rfl hP hS
