set_option maxHeartbeats 4000000 in
set_option maxRecDepth 100000 in
theorem c_fill (lc : Launch) (D : va_G) (cI cZ : ClassId) (N : Nat) (a : Nat) (n : Nat) (f : Nat → Int) (v : Int) (hn : n ≤ 100000) : CM lc D cI cZ N yJ7_fill_53178 wsJ7_fill_53178 (rmK 0 0) [.ref a, .int (iI (v))] [(a, .inl (cI, n, .inl (vI f)))] none [(a, .inl (cI, n, .inl (vI (fun _ => v))))] := by
  refine CM.V (cc := cJ7_fill_53178) (maxL := 4) (by decide) rfl (Nat.le_of_ble_eq_true rfl) ?_
  intro p e s m args below meth c R Q S hE A hAN hfr hlo hP hD hS hret ls hl
  have S : CallFix p m c cJ7_fill_53178 4 s args wsJ7_fill_53178 RJ7 := S
  have hx := S.1
  have hb := S.2.1
  have hl : lv_has ls 4 [(0, .ref a), (1, .int (iI (v)))] := hl
  refine lv_iconst (v := iI (0)) hx hb dJ7_fill_53178_0 rfl ?_
  refine lv_istore_n (lv' := [(2, .int (iI (0))), (0, .ref a), (1, .int (iI (v)))]) hx hb dJ7_fill_53178_1 rfl hl (by decide) rfl (fun ls hl => ?_)
  refine lv_aload_n hx hb dJ7_fill_53178_2 rfl (lv_at hl 1 rfl) ?_
  refine w_alen S hE hP 0 rfl dJ7_fill_53178_3 ?_
  refine lv_istore_n (lv' := [(3, .int (iI (((n : Nat) : Int)))), (2, .int (iI (0))), (0, .ref a), (1, .int (iI (v)))]) hx hb dJ7_fill_53178_4 rfl hl (by decide) rfl (fun ls hl => ?_)
  have loop1 : ∀ (k i : Nat) , i + k = n → ∀ (H : Heap) (locs : List Loc) (ls : Array Slot), va_P D vwCl [(a, .inl (cI, n, .inl (vI (fun j => if j < i then v else f j))))] H → va_D A [(a, .inl (cI, n, .inl (vI (fun j => if j < i then v else f j))))] → va_S A s.heap H locs → lv_has ls 4 [(3, .int (iI (((n : Nat) : Int)))), (2, .int (iI (((i : Nat) : Int)))), (0, .ref a), (1, .int (iI (v)))] → W p lc e R s m args below meth c H locs 0 0 Q (F0 m 5 ls []) := by
    intro k
    induction k with
    | zero =>
      intro i  hm  H locs ls hP hD hS hl
      refine lv_iload_n hx hb dJ7_fill_53178_5 rfl (lv_at hl 1 rfl) ?_
      refine lv_iload_n hx hb dJ7_fill_53178_6 rfl (lv_at hl 0 rfl) ?_
      refine c_geT (tgt := 20) S dJ7_fill_53178_7 (by decide) (by omega) (by omega) (by omega) ?_
      exact hret _ _ _ _ dJ7_fill_53178_20 (P_row (q0 := 0) (g := vI (fun _ => v)) hP rfl (fun k hk => by simp only [vI]; rw [if_pos (by omega)])) hS
    | succ k ih1 =>
      intro i  hm  H locs ls hP hD hS hl
      refine lv_iload_n hx hb dJ7_fill_53178_5 rfl (lv_at hl 1 rfl) ?_
      refine lv_iload_n hx hb dJ7_fill_53178_6 rfl (lv_at hl 0 rfl) ?_
      refine c_geF (tgt := 20) S dJ7_fill_53178_7 (by decide) (by omega) (by omega) (by omega) ?_
      refine lv_aload_n hx hb dJ7_fill_53178_10 rfl (lv_at hl 2 rfl) ?_
      refine lv_iload_n hx hb dJ7_fill_53178_11 rfl (lv_at hl 1 rfl) ?_
      refine lv_iload_n hx hb dJ7_fill_53178_12 rfl (lv_at hl 3 rfl) ?_
      refine w_iast S hE hP hD hS 0 rfl (i) (by omega) (by omega) (by omega) dJ7_fill_53178_13 (fun H locs hP hD hS => ?_)
      have hP : va_P D vwCl [(a, .inl (cI, n, .inl (vI (updI (fun j => if j < i then v else f j) i v))))] H := hP
      have hD : va_D A [(a, .inl (cI, n, .inl (vI (updI (fun j => if j < i then v else f j) i v))))] := hD
      refine w_iinc (v := ((i + 1 : Nat) : Int)) (lv' := [(2, .int (iI (((i + 1 : Nat) : Int)))), (3, .int (iI (((n : Nat) : Int)))), (0, .ref a), (1, .int (iI (v)))]) S dJ7_fill_53178_14 hl (k := 1) rfl (by omega) (by decide) rfl (fun ls hl => ?_)
      refine lv_goto (tgt := 5) hx hb dJ7_fill_53178_17 (by decide) ?_
      have hcell : updI (fun j => if j < i then v else f j) i v = (fun j => if j < (i + 1) then v else f j) := (funext fun j => by by_cases h1 : j = i <;> by_cases h2 : j < i <;> simp [updI, h1, h2] <;> omega)
      rw [hcell] at hP hD
      exact ih1 (i + 1)  (by omega)  _ _ _ hP hD hS (lv_sub hl [1, 0, 2, 3] rfl)
  have hcell : f = (fun j => if j < 0 then v else f j) := (funext fun j => by simp)
  rw [hcell] at hP hD
  exact loop1 n 0  (by omega)  _ _ _ hP hD hS (lv_sub hl [0, 1, 2, 3] rfl)
set_option maxHeartbeats 4000000 in
set_option maxRecDepth 100000 in
theorem c_within_T (lc : Launch) (D : va_G) (cI cZ : ClassId) (N : Nat) (v : Int) (lo : Int) (hi : Int) (hr_0 : -2147483648 ≤ v ∧ v ≤ 2147483647) (hr_1 : -2147483648 ≤ lo ∧ lo ≤ 2147483647) (hr_2 : -2147483648 ≤ hi ∧ hi ≤ 2147483647) (h : lo ≤ v ∧ v ≤ hi) : CR lc D cI cZ N yX4_within wsX4_within (rmK 0 0) [.int (iI (v)), .int (iI (lo)), .int (iI (hi))] [] (some (.int (iI (1)))) := by
  refine CR.Z (cc := cX4_within) (maxL := 3) (by decide) rfl (Nat.le_of_ble_eq_true rfl) ?_
  intro p e s m args below meth c R Q S hE A hAN hfr hlo hP hD hS hret ls hl
  have S : CallFix p m c cX4_within 3 s args wsX4_within RX4 := S
  have hx := S.1
  have hb := S.2.1
  have hl : lv_has ls 3 [(0, .int (iI (v))), (1, .int (iI (lo))), (2, .int (iI (hi)))] := hl
  refine lv_iload_n hx hb dX4_within_0 rfl (lv_at hl 0 rfl) ?_
  refine lv_iload_n hx hb dX4_within_1 rfl (lv_at hl 1 rfl) ?_
  refine c_ltF (tgt := 14) S dX4_within_2 (by decide) (by omega) (by omega) (by omega) ?_
  refine lv_iload_n hx hb dX4_within_5 rfl (lv_at hl 0 rfl) ?_
  refine lv_iload_n hx hb dX4_within_6 rfl (lv_at hl 2 rfl) ?_
  refine c_gtF (tgt := 14) S dX4_within_7 (by decide) (by omega) (by omega) (by omega) ?_
  refine lv_iconst (v := iI (1)) hx hb dX4_within_10 rfl ?_
  refine lv_goto (tgt := 15) hx hb dX4_within_11 (by decide) ?_
  exact hret _ _ _ dX4_within_15 rfl (Or.inr rfl)
set_option maxHeartbeats 4000000 in
set_option maxRecDepth 100000 in
theorem c_within_F (lc : Launch) (D : va_G) (cI cZ : ClassId) (N : Nat) (v : Int) (lo : Int) (hi : Int) (hr_0 : -2147483648 ≤ v ∧ v ≤ 2147483647) (hr_1 : -2147483648 ≤ lo ∧ lo ≤ 2147483647) (hr_2 : -2147483648 ≤ hi ∧ hi ≤ 2147483647) (h : ¬ (lo ≤ v ∧ v ≤ hi)) : CR lc D cI cZ N yX4_within wsX4_within (rmK 0 0) [.int (iI (v)), .int (iI (lo)), .int (iI (hi))] [] (some (.int (iI (0)))) := by
  refine CR.Z (cc := cX4_within) (maxL := 3) (by decide) rfl (Nat.le_of_ble_eq_true rfl) ?_
  intro p e s m args below meth c R Q S hE A hAN hfr hlo hP hD hS hret ls hl
  have S : CallFix p m c cX4_within 3 s args wsX4_within RX4 := S
  have hx := S.1
  have hb := S.2.1
  have hl : lv_has ls 3 [(0, .int (iI (v))), (1, .int (iI (lo))), (2, .int (iI (hi)))] := hl
  by_cases h1 : v < lo
  · refine lv_iload_n hx hb dX4_within_0 rfl (lv_at hl 0 rfl) ?_
    refine lv_iload_n hx hb dX4_within_1 rfl (lv_at hl 1 rfl) ?_
    refine c_ltT (tgt := 14) S dX4_within_2 (by decide) (by omega) (by omega) (by omega) ?_
    refine lv_iconst (v := iI (0)) hx hb dX4_within_14 rfl ?_
    exact hret _ _ _ dX4_within_15 rfl (Or.inl rfl)
  · refine lv_iload_n hx hb dX4_within_0 rfl (lv_at hl 0 rfl) ?_
    refine lv_iload_n hx hb dX4_within_1 rfl (lv_at hl 1 rfl) ?_
    refine c_ltF (tgt := 14) S dX4_within_2 (by decide) (by omega) (by omega) (by omega) ?_
    refine lv_iload_n hx hb dX4_within_5 rfl (lv_at hl 0 rfl) ?_
    refine lv_iload_n hx hb dX4_within_6 rfl (lv_at hl 2 rfl) ?_
    refine c_gtT (tgt := 14) S dX4_within_7 (by decide) (by omega) (by omega) (by omega) ?_
    refine lv_iconst (v := iI (0)) hx hb dX4_within_14 rfl ?_
    exact hret _ _ _ dX4_within_15 rfl (Or.inl rfl)
set_option maxHeartbeats 4000000 in
set_option maxRecDepth 100000 in
theorem c_isBlock_T (lc : Launch) (D : va_G) (cI cZ : ClassId) (N : Nat) (v : Int) (hr_0 : -2147483648 ≤ v ∧ v ≤ 2147483647) (h : 0 ≤ v ∧ v ≤ 199) : CR lc D cI cZ N yX4_isBlock wsX4_isBlock (rmK 1 22) [.int (iI (v))] [] (some (.int (iI (1)))) := by
  refine CR.Z (cc := cX4_isBlock) (maxL := 1) (by decide) rfl (Nat.le_of_ble_eq_true rfl) ?_
  intro p e s m args below meth c R Q S hE A hAN hfr hlo hP hD hS hret ls hl
  have S : CallFix p m c cX4_isBlock 1 s args wsX4_isBlock RX4 := S
  have hx := S.1
  have hb := S.2.1
  have hl : lv_has ls 1 [(0, .int (iI (v)))] := hl
  refine lv_iload_n hx hb dX4_isBlock_0 rfl (lv_at hl 0 rfl) ?_
  refine lv_iconst (v := iI (0)) hx hb dX4_isBlock_1 rfl ?_
  refine lv_sipush (v := iI (199)) hx hb dX4_isBlock_2 (by decide) ?_
  refine kS_R (n := 3) S (c_within_T lc D cI cZ N v 0 199 (by omega) (by omega) (by omega) (by omega)) gX4_isBlock_X4_within rfl (by decide +kernel) rfl rfl ⟨Nat.le_trans (Nat.le_of_ble_eq_true rfl) hfr, Nat.le_trans (Nat.le_of_ble_eq_true rfl) hlo⟩ hE hAN hP hD hS [] rfl (by decide) rfl hl.1 [] rfl (Nat.le_of_ble_eq_true rfl) dX4_isBlock_5 ⟨Nat.zero_le _, Nat.zero_le _⟩ ?_
  refine W.eq (g2 := F0 m 8 ls [.int (iI (1))]) rfl ?_
  exact hret _ _ _ dX4_isBlock_8 rfl (Or.inr rfl)
set_option maxHeartbeats 4000000 in
set_option maxRecDepth 100000 in
theorem c_isBlock_F (lc : Launch) (D : va_G) (cI cZ : ClassId) (N : Nat) (v : Int) (hr_0 : -2147483648 ≤ v ∧ v ≤ 2147483647) (h : ¬ (0 ≤ v ∧ v ≤ 199)) : CR lc D cI cZ N yX4_isBlock wsX4_isBlock (rmK 1 22) [.int (iI (v))] [] (some (.int (iI (0)))) := by
  refine CR.Z (cc := cX4_isBlock) (maxL := 1) (by decide) rfl (Nat.le_of_ble_eq_true rfl) ?_
  intro p e s m args below meth c R Q S hE A hAN hfr hlo hP hD hS hret ls hl
  have S : CallFix p m c cX4_isBlock 1 s args wsX4_isBlock RX4 := S
  have hx := S.1
  have hb := S.2.1
  have hl : lv_has ls 1 [(0, .int (iI (v)))] := hl
  refine lv_iload_n hx hb dX4_isBlock_0 rfl (lv_at hl 0 rfl) ?_
  refine lv_iconst (v := iI (0)) hx hb dX4_isBlock_1 rfl ?_
  refine lv_sipush (v := iI (199)) hx hb dX4_isBlock_2 (by decide) ?_
  refine kS_R (n := 3) S (c_within_F lc D cI cZ N v 0 199 (by omega) (by omega) (by omega) (by omega)) gX4_isBlock_X4_within rfl (by decide +kernel) rfl rfl ⟨Nat.le_trans (Nat.le_of_ble_eq_true rfl) hfr, Nat.le_trans (Nat.le_of_ble_eq_true rfl) hlo⟩ hE hAN hP hD hS [] rfl (by decide) rfl hl.1 [] rfl (Nat.le_of_ble_eq_true rfl) dX4_isBlock_5 ⟨Nat.zero_le _, Nat.zero_le _⟩ ?_
  refine W.eq (g2 := F0 m 8 ls [.int (iI (0))]) rfl ?_
  exact hret _ _ _ dX4_isBlock_8 rfl (Or.inl rfl)
set_option maxHeartbeats 4000000 in
set_option maxRecDepth 100000 in
theorem c_quotient (lc : Launch) (D : va_G) (cI cZ : ClassId) (N : Nat) (u : Int) (d : Int) (hr_0 : -2147483648 ≤ u ∧ u ≤ 2147483647) (hd : 0 < d ∧ d ≤ 2147483647) : CR lc D cI cZ N yX4_quotient wsX4_quotient (rmK 0 0) [.int (iI (u)), .int (iI (d))] [] (some (.int (iI (u.tdiv d)))) := by
  refine CR.I (cc := cX4_quotient) (maxL := 2) (by decide) rfl (Nat.le_of_ble_eq_true rfl) ?_
  intro p e s m args below meth c R Q S hE A hAN hfr hlo hP hD hS hret ls hl
  have S : CallFix p m c cX4_quotient 2 s args wsX4_quotient RX4 := S
  have hx := S.1
  have hb := S.2.1
  have hl : lv_has ls 2 [(0, .int (iI (u))), (1, .int (iI (d)))] := hl
  refine lv_iload_n hx hb dX4_quotient_0 rfl (lv_at hl 1 rfl) ?_
  refine b_leF (tgt := 10) S dX4_quotient_1 (by decide) (by omega) (by omega) ?_
  refine lv_iload_n hx hb dX4_quotient_4 rfl (lv_at hl 0 rfl) ?_
  refine lv_iload_n hx hb dX4_quotient_5 rfl (lv_at hl 1 rfl) ?_
  refine w_idiv S (by omega) (by omega) dX4_quotient_6 ?_
  refine lv_goto (tgt := 11) hx hb dX4_quotient_7 (by decide) ?_
  exact hret _ _ _ dX4_quotient_11 rfl
set_option maxHeartbeats 4000000 in
set_option maxRecDepth 100000 in
theorem c_leftOver (lc : Launch) (D : va_G) (cI cZ : ClassId) (N : Nat) (u : Int) (d : Int) (hr_0 : -2147483648 ≤ u ∧ u ≤ 2147483647) (hd : 0 < d ∧ d ≤ 2147483647) : CR lc D cI cZ N yX4_leftOver wsX4_leftOver (rmK 0 0) [.int (iI (u)), .int (iI (d))] [] (some (.int (iI (u.tmod d)))) := by
  refine CR.I (cc := cX4_leftOver) (maxL := 2) (by decide) rfl (Nat.le_of_ble_eq_true rfl) ?_
  intro p e s m args below meth c R Q S hE A hAN hfr hlo hP hD hS hret ls hl
  have S : CallFix p m c cX4_leftOver 2 s args wsX4_leftOver RX4 := S
  have hx := S.1
  have hb := S.2.1
  have hl : lv_has ls 2 [(0, .int (iI (u))), (1, .int (iI (d)))] := hl
  refine lv_iload_n hx hb dX4_leftOver_0 rfl (lv_at hl 1 rfl) ?_
  refine b_leF (tgt := 10) S dX4_leftOver_1 (by decide) (by omega) (by omega) ?_
  refine lv_iload_n hx hb dX4_leftOver_4 rfl (lv_at hl 0 rfl) ?_
  refine lv_iload_n hx hb dX4_leftOver_5 rfl (lv_at hl 1 rfl) ?_
  refine w_irem S (by omega) (by omega) dX4_leftOver_6 ?_
  refine lv_goto (tgt := 11) hx hb dX4_leftOver_7 (by decide) ?_
  exact hret _ _ _ dX4_leftOver_11 rfl
