set_option maxHeartbeats 4000000 in
set_option maxRecDepth 100000 in
theorem m_image_0 (lc : Launch) (D : va_G) (cI cZ : ClassId) (N : Nat) (q : Nat) (qs : Nat) (qi : Nat) (qk : Nat) (ql : Nat) (mn : Nat) (tA : Int) (sA : Int) (kA : Int) (nb : Nat → Int) (ck : Nat → Int) (hi : Nat → Int) (lo : Nat → Int) (ha : Nat → Int) (cn : Nat → Int) (sm : Nat → Int) (le : Nat → Int) (b0 : Int) (b1 : Int) (iA : Nat → Int) (iB : Nat → Int)  : CM lc D cI cZ N yX5_image wsX5_image (rmK 1 22) [.ref q, .int (iI (0))] [(q, .inr (5, [.ref qs, .ref qi, .ref qk, .ref ql])), (qs, .inl (cI, 2108, .inl (vI (stF ((mn : Nat) : Int) tA sA kA nb ck hi lo ha cn sm)))), (qi, .inl (cI, 4216, .inl (vI (imF iA iB)))), (qk, .inl (cZ, 2, .inl (vI (kpF b0 b1)))), (ql, .inl (cI, 25, .inl (vI le)))] (some (.int (iI (1)))) [(q, .inr (5, [.ref qs, .ref qi, .ref qk, .ref ql])), (qs, .inl (cI, 2108, .inl (vI (stF ((mn : Nat) : Int) tA sA kA nb ck hi lo ha cn sm)))), (qi, .inl (cI, 4216, .inl (vI (imF (stF ((mn : Nat) : Int) tA sA kA nb ck hi lo ha cn sm) iB)))), (qk, .inl (cZ, 2, .inl (vI (kpF 1 b1)))), (ql, .inl (cI, 25, .inl (vI le)))] := by
  refine CM.I (cc := cX5_image) (maxL := 3) (by decide) rfl (Nat.le_of_ble_eq_true rfl) ?_
  intro p e s m args below meth c R Q S hE A hAN hfr hlo hP hD hS hret ls hl
  have S : CallFix p m c cX5_image 3 s args wsX5_image RX5 := S
  have hx := S.1
  have hb := S.2.1
  have hl : lv_has ls 3 [(0, .ref q), (1, .int (iI (0)))] := hl
  refine lv_iload_n hx hb dX5_image_0 rfl (lv_at hl 1 rfl) ?_
  refine lv_iconst (v := iI (0)) hx hb dX5_image_1 rfl ?_
  refine lv_iconst (v := iI (1)) hx hb dX5_image_2 rfl ?_
  refine kS_R (n := 3) S (m_in_T lc D cI cZ N 0 0 1 (by omega) (by omega) (by omega) (by omega)) gX5_image_X5_in rfl (by decide +kernel) rfl rfl ⟨Nat.le_trans (Nat.le_of_ble_eq_true rfl) hfr, Nat.le_trans (Nat.le_of_ble_eq_true rfl) hlo⟩ hE hAN hP hD hS [] rfl (by decide) rfl hl.1 [] rfl (Nat.le_of_ble_eq_true rfl) dX5_image_3 ⟨Nat.zero_le _, Nat.zero_le _⟩ ?_
  refine W.eq (g2 := F0 m 6 ls [.int (iI (1))]) rfl ?_
  refine b_neT (tgt := 12) S dX5_image_6 (by decide) (by decide) (by decide) ?_
  refine lv_iconst (v := iI (0)) hx hb dX5_image_12 rfl ?_
  refine lv_istore_n (lv' := [(2, .int (iI (0))), (0, .ref q), (1, .int (iI (0)))]) hx hb dX5_image_13 rfl hl (by decide) rfl (fun ls hl => ?_)
  have loop4 : ∀ (u i : Nat) , i + u = 2108 → ∀ (H : Heap) (locs : List Loc) (ls : Array Slot), va_P D vwCl [(q, .inr (5, [.ref qs, .ref qi, .ref qk, .ref ql])), (qs, .inl (cI, 2108, .inl (vI (stF ((mn : Nat) : Int) tA sA kA nb ck hi lo ha cn sm)))), (qi, .inl (cI, 4216, .inl (vI (imF (fun j => if j < i then (stF ((mn : Nat) : Int) tA sA kA nb ck hi lo ha cn sm) j else iA j) iB)))), (qk, .inl (cZ, 2, .inl (vI (kpF b0 b1)))), (ql, .inl (cI, 25, .inl (vI le)))] H → va_D A [(q, .inr (5, [.ref qs, .ref qi, .ref qk, .ref ql])), (qs, .inl (cI, 2108, .inl (vI (stF ((mn : Nat) : Int) tA sA kA nb ck hi lo ha cn sm)))), (qi, .inl (cI, 4216, .inl (vI (imF (fun j => if j < i then (stF ((mn : Nat) : Int) tA sA kA nb ck hi lo ha cn sm) j else iA j) iB)))), (qk, .inl (cZ, 2, .inl (vI (kpF b0 b1)))), (ql, .inl (cI, 25, .inl (vI le)))] → va_S A s.heap H locs → lv_has ls 3 [(2, .int (iI (((i : Nat) : Int)))), (0, .ref q), (1, .int (iI (0)))] → W p lc e R s m args below meth c H locs 0 0 Q (F0 m 14 ls []) := by
    intro u
    induction u with
    | zero =>
      intro i  hm  H locs ls hP hD hS hl
      refine lv_iload_n hx hb dX5_image_14 rfl (lv_at hl 0 rfl) ?_
      refine lv_sipush (v := iI (2108)) hx hb dX5_image_15 (by decide) ?_
      refine c_geT (tgt := 45) S dX5_image_18 (by decide) (by omega) (by omega) (by omega) ?_
      have hi5 : i = 2108 := by omega
      subst hi5
      rw [im_ae] at hP hD
      refine lv_aload_n hx hb dX5_image_45 rfl (lv_at hl 1 rfl) ?_
      refine w_get (C := RX5) (T := TX5) (Nf := 4) (ci := 5) (v := .ref qk) S (fun _ h => List.mem_cons_of_mem _ (List.mem_append_right _ h)) hE hP 0 rfl rfl 2 (by decide) (List.mem_of_getElem? (i := 3) rfl) rfl dX5_image_46 ?_
      refine lv_iload_n hx hb dX5_image_49 rfl (lv_at hl 2 rfl) ?_
      refine lv_iconst (v := iI (1)) hx hb dX5_image_50 rfl ?_
      refine w_zast1 S hE hP hD hS 3 rfl (0) (by omega) (by omega) (by omega) dX5_image_51 (fun H locs hP hD hS => ?_)
      have hP : va_P D vwCl [(q, .inr (5, [.ref qs, .ref qi, .ref qk, .ref ql])), (qs, .inl (cI, 2108, .inl (vI (stF ((mn : Nat) : Int) tA sA kA nb ck hi lo ha cn sm)))), (qi, .inl (cI, 4216, .inl (vI (imF (stF ((mn : Nat) : Int) tA sA kA nb ck hi lo ha cn sm) iB)))), (qk, .inl (cZ, 2, .inl (vI (updI (kpF b0 b1) 0 1)))), (ql, .inl (cI, 25, .inl (vI le)))] H := hP
      have hD : va_D A [(q, .inr (5, [.ref qs, .ref qi, .ref qk, .ref ql])), (qs, .inl (cI, 2108, .inl (vI (stF ((mn : Nat) : Int) tA sA kA nb ck hi lo ha cn sm)))), (qi, .inl (cI, 4216, .inl (vI (imF (stF ((mn : Nat) : Int) tA sA kA nb ck hi lo ha cn sm) iB)))), (qk, .inl (cZ, 2, .inl (vI (updI (kpF b0 b1) 0 1)))), (ql, .inl (cI, 25, .inl (vI le)))] := hD
      have hcell : updI (kpF b0 b1) 0 1 = (kpF 1 b1) := ku_0
      rw [hcell] at hP hD
      refine lv_iconst (v := iI (1)) hx hb dX5_image_52 rfl ?_
      exact hret _ _ _ _ _ dX5_image_53 rfl hP hS
    | succ u ih4 =>
      intro i  hm  H locs ls hP hD hS hl
      refine lv_iload_n hx hb dX5_image_14 rfl (lv_at hl 0 rfl) ?_
      refine lv_sipush (v := iI (2108)) hx hb dX5_image_15 (by decide) ?_
      refine c_geF (tgt := 45) S dX5_image_18 (by decide) (by omega) (by omega) (by omega) ?_
      refine lv_aload_n hx hb dX5_image_21 rfl (lv_at hl 1 rfl) ?_
      refine w_get (C := RX5) (T := TX5) (Nf := 4) (ci := 5) (v := .ref qi) S (fun _ h => List.mem_cons_of_mem _ (List.mem_append_right _ h)) hE hP 0 rfl rfl 1 (by decide) (List.mem_of_getElem? (i := 1) rfl) rfl dX5_image_22 ?_
      refine lv_sipush (v := iI (2108)) hx hb dX5_image_25 (by decide) ?_
      refine lv_iload_n hx hb dX5_image_28 rfl (lv_at hl 2 rfl) ?_
      refine w_imul S dX5_image_29 ?_
      refine w_tz (z := 0) (by decide) ?_
      refine lv_iload_n hx hb dX5_image_30 rfl (lv_at hl 0 rfl) ?_
      refine w_iadd S dX5_image_31 ?_
      refine lv_aload_n hx hb dX5_image_32 rfl (lv_at hl 1 rfl) ?_
      refine w_get (C := RX5) (T := TX5) (Nf := 4) (ci := 5) (v := .ref qs) S (fun _ h => List.mem_cons_of_mem _ (List.mem_append_right _ h)) hE hP 0 rfl rfl 0 (by decide) (List.mem_of_getElem? (i := 2) rfl) rfl dX5_image_33 ?_
      refine lv_iload_n hx hb dX5_image_36 rfl (lv_at hl 0 rfl) ?_
      refine w_iald S hE hP 1 rfl (i) (by omega) (by omega) (by omega) dX5_image_37 ?_
      refine w_iast S hE hP hD hS 2 rfl (0 + i) (by omega) (by omega) (by omega) dX5_image_38 (fun H locs hP hD hS => ?_)
      have hP : va_P D vwCl [(q, .inr (5, [.ref qs, .ref qi, .ref qk, .ref ql])), (qs, .inl (cI, 2108, .inl (vI (stF ((mn : Nat) : Int) tA sA kA nb ck hi lo ha cn sm)))), (qi, .inl (cI, 4216, .inl (vI (updI (imF (fun j => if j < i then (stF ((mn : Nat) : Int) tA sA kA nb ck hi lo ha cn sm) j else iA j) iB) (0 + i) ((stF ((mn : Nat) : Int) tA sA kA nb ck hi lo ha cn sm) i))))), (qk, .inl (cZ, 2, .inl (vI (kpF b0 b1)))), (ql, .inl (cI, 25, .inl (vI le)))] H := hP
      have hD : va_D A [(q, .inr (5, [.ref qs, .ref qi, .ref qk, .ref ql])), (qs, .inl (cI, 2108, .inl (vI (stF ((mn : Nat) : Int) tA sA kA nb ck hi lo ha cn sm)))), (qi, .inl (cI, 4216, .inl (vI (updI (imF (fun j => if j < i then (stF ((mn : Nat) : Int) tA sA kA nb ck hi lo ha cn sm) j else iA j) iB) (0 + i) ((stF ((mn : Nat) : Int) tA sA kA nb ck hi lo ha cn sm) i))))), (qk, .inl (cZ, 2, .inl (vI (kpF b0 b1)))), (ql, .inl (cI, 25, .inl (vI le)))] := hD
      refine w_iinc (v := ((i + 1 : Nat) : Int)) (lv' := [(2, .int (iI (((i + 1 : Nat) : Int)))), (0, .ref q), (1, .int (iI (0)))]) S dX5_image_39 hl (k := 0) rfl (by omega) (by decide) rfl (fun ls hl => ?_)
      refine lv_goto (tgt := 14) hx hb dX5_image_42 (by decide) ?_
      have hcell : updI (imF (fun j => if j < i then (stF ((mn : Nat) : Int) tA sA kA nb ck hi lo ha cn sm) j else iA j) iB) (0 + i) ((stF ((mn : Nat) : Int) tA sA kA nb ck hi lo ha cn sm) i) = (imF (fun j => if j < (i + 1) then (stF ((mn : Nat) : Int) tA sA kA nb ck hi lo ha cn sm) j else iA j) iB) := (im_as iA iB (stF ((mn : Nat) : Int) tA sA kA nb ck hi lo ha cn sm) i (by omega))
      rw [hcell] at hP hD
      exact ih4 (i + 1)  (by omega)  _ _ _ hP hD hS (lv_sub hl [0, 1, 2] rfl)
  have hcell : (imF iA iB) = (imF (fun j => if j < 0 then (stF ((mn : Nat) : Int) tA sA kA nb ck hi lo ha cn sm) j else iA j) iB) := (im_a0 iA iB (stF ((mn : Nat) : Int) tA sA kA nb ck hi lo ha cn sm))
  rw [hcell] at hP hD
  exact loop4 2108 0  (by omega)  _ _ _ hP hD hS (lv_sub hl [0, 1, 2] rfl)
set_option maxHeartbeats 4000000 in
set_option maxRecDepth 100000 in
theorem m_restore_0 (lc : Launch) (D : va_G) (cI cZ : ClassId) (N : Nat) (q : Nat) (qs : Nat) (qi : Nat) (qk : Nat) (ql : Nat) (mn : Nat) (tA : Int) (sA : Int) (kA : Int) (nb : Nat → Int) (ck : Nat → Int) (hi : Nat → Int) (lo : Nat → Int) (ha : Nat → Int) (cn : Nat → Int) (sm : Nat → Int) (le : Nat → Int) (b0 : Int) (b1 : Int) (mn2 : Nat) (tA2 : Int) (sA2 : Int) (kA2 : Int) (nb2 : Nat → Int) (ck2 : Nat → Int) (hi2 : Nat → Int) (lo2 : Nat → Int) (ha2 : Nat → Int) (cn2 : Nat → Int) (sm2 : Nat → Int) (iB : Nat → Int) (h2 : b0 = 1) : CM lc D cI cZ N yX5_restore wsX5_restore (rmK 1 22) [.ref q, .int (iI (0))] [(q, .inr (5, [.ref qs, .ref qi, .ref qk, .ref ql])), (qs, .inl (cI, 2108, .inl (vI (stF ((mn : Nat) : Int) tA sA kA nb ck hi lo ha cn sm)))), (qi, .inl (cI, 4216, .inl (vI (imF (stF ((mn2 : Nat) : Int) tA2 sA2 kA2 nb2 ck2 hi2 lo2 ha2 cn2 sm2) iB)))), (qk, .inl (cZ, 2, .inl (vI (kpF b0 b1)))), (ql, .inl (cI, 25, .inl (vI le)))] (some (.int (iI (1)))) [(q, .inr (5, [.ref qs, .ref qi, .ref qk, .ref ql])), (qs, .inl (cI, 2108, .inl (vI (stF ((mn2 : Nat) : Int) tA2 sA2 kA2 nb2 ck2 hi2 lo2 ha2 cn2 sm2)))), (qi, .inl (cI, 4216, .inl (vI (imF (stF ((mn2 : Nat) : Int) tA2 sA2 kA2 nb2 ck2 hi2 lo2 ha2 cn2 sm2) iB)))), (qk, .inl (cZ, 2, .inl (vI (kpF b0 b1)))), (ql, .inl (cI, 25, .inl (vI le)))] := by
  refine CM.I (cc := cX5_restore) (maxL := 3) (by decide) rfl (Nat.le_of_ble_eq_true rfl) ?_
  intro p e s m args below meth c R Q S hE A hAN hfr hlo hP hD hS hret ls hl
  have S : CallFix p m c cX5_restore 3 s args wsX5_restore RX5 := S
  have hx := S.1
  have hb := S.2.1
  have hl : lv_has ls 3 [(0, .ref q), (1, .int (iI (0)))] := hl
  refine lv_iload_n hx hb dX5_restore_0 rfl (lv_at hl 1 rfl) ?_
  refine lv_iconst (v := iI (0)) hx hb dX5_restore_1 rfl ?_
  refine lv_iconst (v := iI (1)) hx hb dX5_restore_2 rfl ?_
  refine kS_R (n := 3) S (m_in_T lc D cI cZ N 0 0 1 (by omega) (by omega) (by omega) (by omega)) gX5_restore_X5_in rfl (by decide +kernel) rfl rfl ⟨Nat.le_trans (Nat.le_of_ble_eq_true rfl) hfr, Nat.le_trans (Nat.le_of_ble_eq_true rfl) hlo⟩ hE hAN hP hD hS [] rfl (by decide) rfl hl.1 [] rfl (Nat.le_of_ble_eq_true rfl) dX5_restore_3 ⟨Nat.zero_le _, Nat.zero_le _⟩ ?_
  refine W.eq (g2 := F0 m 6 ls [.int (iI (1))]) rfl ?_
  refine b_neT (tgt := 12) S dX5_restore_6 (by decide) (by decide) (by decide) ?_
  refine lv_aload_n hx hb dX5_restore_12 rfl (lv_at hl 0 rfl) ?_
  refine w_get (C := RX5) (T := TX5) (Nf := 4) (ci := 5) (v := .ref qk) S (fun _ h => List.mem_cons_of_mem _ (List.mem_append_right _ h)) hE hP 0 rfl rfl 2 (by decide) (List.mem_of_getElem? (i := 1) rfl) rfl dX5_restore_13 ?_
  refine lv_iload_n hx hb dX5_restore_16 rfl (lv_at hl 1 rfl) ?_
  refine w_zald S hE hP 3 rfl (0) (by omega) (by omega) (by omega) dX5_restore_17 ?_
  refine w_tz (z := b0) rfl ?_
  refine b_neT (tgt := 24) S dX5_restore_18 (by decide) (by omega) (by omega) ?_
  refine lv_iconst (v := iI (0)) hx hb dX5_restore_24 rfl ?_
  refine lv_istore_n (lv' := [(2, .int (iI (0))), (0, .ref q), (1, .int (iI (0)))]) hx hb dX5_restore_25 rfl hl (by decide) rfl (fun ls hl => ?_)
  have loop5 : ∀ (u i : Nat) , i + u = 2108 → ∀ (H : Heap) (locs : List Loc) (ls : Array Slot), va_P D vwCl [(q, .inr (5, [.ref qs, .ref qi, .ref qk, .ref ql])), (qs, .inl (cI, 2108, .inl (vI (fun j => if j < i then (stF ((mn2 : Nat) : Int) tA2 sA2 kA2 nb2 ck2 hi2 lo2 ha2 cn2 sm2) j else (stF ((mn : Nat) : Int) tA sA kA nb ck hi lo ha cn sm) j)))), (qi, .inl (cI, 4216, .inl (vI (imF (stF ((mn2 : Nat) : Int) tA2 sA2 kA2 nb2 ck2 hi2 lo2 ha2 cn2 sm2) iB)))), (qk, .inl (cZ, 2, .inl (vI (kpF b0 b1)))), (ql, .inl (cI, 25, .inl (vI le)))] H → va_D A [(q, .inr (5, [.ref qs, .ref qi, .ref qk, .ref ql])), (qs, .inl (cI, 2108, .inl (vI (fun j => if j < i then (stF ((mn2 : Nat) : Int) tA2 sA2 kA2 nb2 ck2 hi2 lo2 ha2 cn2 sm2) j else (stF ((mn : Nat) : Int) tA sA kA nb ck hi lo ha cn sm) j)))), (qi, .inl (cI, 4216, .inl (vI (imF (stF ((mn2 : Nat) : Int) tA2 sA2 kA2 nb2 ck2 hi2 lo2 ha2 cn2 sm2) iB)))), (qk, .inl (cZ, 2, .inl (vI (kpF b0 b1)))), (ql, .inl (cI, 25, .inl (vI le)))] → va_S A s.heap H locs → lv_has ls 3 [(2, .int (iI (((i : Nat) : Int)))), (0, .ref q), (1, .int (iI (0)))] → W p lc e R s m args below meth c H locs 0 0 Q (F0 m 26 ls []) := by
    intro u
    induction u with
    | zero =>
      intro i  hm  H locs ls hP hD hS hl
      refine lv_iload_n hx hb dX5_restore_26 rfl (lv_at hl 0 rfl) ?_
      refine lv_sipush (v := iI (2108)) hx hb dX5_restore_27 (by decide) ?_
      refine c_geT (tgt := 57) S dX5_restore_30 (by decide) (by omega) (by omega) (by omega) ?_
      refine lv_iconst (v := iI (1)) hx hb dX5_restore_57 rfl ?_
      exact hret _ _ _ _ _ dX5_restore_58 rfl (P_row (q0 := 1) (g := vI (stF ((mn2 : Nat) : Int) tA2 sA2 kA2 nb2 ck2 hi2 lo2 ha2 cn2 sm2)) hP rfl (fun k hk => by simp only [vI]; rw [if_pos (by omega)])) hS
    | succ u ih5 =>
      intro i  hm  H locs ls hP hD hS hl
      refine lv_iload_n hx hb dX5_restore_26 rfl (lv_at hl 0 rfl) ?_
      refine lv_sipush (v := iI (2108)) hx hb dX5_restore_27 (by decide) ?_
      refine c_geF (tgt := 57) S dX5_restore_30 (by decide) (by omega) (by omega) (by omega) ?_
      refine lv_aload_n hx hb dX5_restore_33 rfl (lv_at hl 1 rfl) ?_
      refine w_get (C := RX5) (T := TX5) (Nf := 4) (ci := 5) (v := .ref qs) S (fun _ h => List.mem_cons_of_mem _ (List.mem_append_right _ h)) hE hP 0 rfl rfl 0 (by decide) (List.mem_of_getElem? (i := 2) rfl) rfl dX5_restore_34 ?_
      refine lv_iload_n hx hb dX5_restore_37 rfl (lv_at hl 0 rfl) ?_
      refine lv_aload_n hx hb dX5_restore_38 rfl (lv_at hl 1 rfl) ?_
      refine w_get (C := RX5) (T := TX5) (Nf := 4) (ci := 5) (v := .ref qi) S (fun _ h => List.mem_cons_of_mem _ (List.mem_append_right _ h)) hE hP 0 rfl rfl 1 (by decide) (List.mem_of_getElem? (i := 3) rfl) rfl dX5_restore_39 ?_
      refine lv_sipush (v := iI (2108)) hx hb dX5_restore_42 (by decide) ?_
      refine lv_iload_n hx hb dX5_restore_45 rfl (lv_at hl 2 rfl) ?_
      refine w_imul S dX5_restore_46 ?_
      refine w_tz (z := 0) (by decide) ?_
      refine lv_iload_n hx hb dX5_restore_47 rfl (lv_at hl 0 rfl) ?_
      refine w_iadd S dX5_restore_48 ?_
      refine w_iald S hE hP 2 rfl (0 + i) (by omega) (by omega) (by omega) dX5_restore_49 ?_
      refine w_tz (z := (stF ((mn2 : Nat) : Int) tA2 sA2 kA2 nb2 ck2 hi2 lo2 ha2 cn2 sm2) i) (im_at0 (by omega) (by omega)) ?_
      refine w_iast S hE hP hD hS 1 rfl (i) (by omega) (by omega) (by omega) dX5_restore_50 (fun H locs hP hD hS => ?_)
      have hP : va_P D vwCl [(q, .inr (5, [.ref qs, .ref qi, .ref qk, .ref ql])), (qs, .inl (cI, 2108, .inl (vI (updI (fun j => if j < i then (stF ((mn2 : Nat) : Int) tA2 sA2 kA2 nb2 ck2 hi2 lo2 ha2 cn2 sm2) j else (stF ((mn : Nat) : Int) tA sA kA nb ck hi lo ha cn sm) j) i ((stF ((mn2 : Nat) : Int) tA2 sA2 kA2 nb2 ck2 hi2 lo2 ha2 cn2 sm2) i))))), (qi, .inl (cI, 4216, .inl (vI (imF (stF ((mn2 : Nat) : Int) tA2 sA2 kA2 nb2 ck2 hi2 lo2 ha2 cn2 sm2) iB)))), (qk, .inl (cZ, 2, .inl (vI (kpF b0 b1)))), (ql, .inl (cI, 25, .inl (vI le)))] H := hP
      have hD : va_D A [(q, .inr (5, [.ref qs, .ref qi, .ref qk, .ref ql])), (qs, .inl (cI, 2108, .inl (vI (updI (fun j => if j < i then (stF ((mn2 : Nat) : Int) tA2 sA2 kA2 nb2 ck2 hi2 lo2 ha2 cn2 sm2) j else (stF ((mn : Nat) : Int) tA sA kA nb ck hi lo ha cn sm) j) i ((stF ((mn2 : Nat) : Int) tA2 sA2 kA2 nb2 ck2 hi2 lo2 ha2 cn2 sm2) i))))), (qi, .inl (cI, 4216, .inl (vI (imF (stF ((mn2 : Nat) : Int) tA2 sA2 kA2 nb2 ck2 hi2 lo2 ha2 cn2 sm2) iB)))), (qk, .inl (cZ, 2, .inl (vI (kpF b0 b1)))), (ql, .inl (cI, 25, .inl (vI le)))] := hD
      refine w_iinc (v := ((i + 1 : Nat) : Int)) (lv' := [(2, .int (iI (((i + 1 : Nat) : Int)))), (0, .ref q), (1, .int (iI (0)))]) S dX5_restore_51 hl (k := 0) rfl (by omega) (by decide) rfl (fun ls hl => ?_)
      refine lv_goto (tgt := 26) hx hb dX5_restore_54 (by decide) ?_
      have hcell : updI (fun j => if j < i then (stF ((mn2 : Nat) : Int) tA2 sA2 kA2 nb2 ck2 hi2 lo2 ha2 cn2 sm2) j else (stF ((mn : Nat) : Int) tA sA kA nb ck hi lo ha cn sm) j) i ((stF ((mn2 : Nat) : Int) tA2 sA2 kA2 nb2 ck2 hi2 lo2 ha2 cn2 sm2) i) = (fun j => if j < (i + 1) then (stF ((mn2 : Nat) : Int) tA2 sA2 kA2 nb2 ck2 hi2 lo2 ha2 cn2 sm2) j else (stF ((mn : Nat) : Int) tA sA kA nb ck hi lo ha cn sm) j) := (funext fun j => by by_cases h1 : j = i <;> by_cases h2 : j < i <;> simp [updI, h1, h2] <;> omega)
      rw [hcell] at hP hD
      exact ih5 (i + 1)  (by omega)  _ _ _ hP hD hS (lv_sub hl [0, 1, 2] rfl)
  have hcell : stF ((mn : Nat) : Int) tA sA kA nb ck hi lo ha cn sm = (fun j => if j < 0 then (stF ((mn2 : Nat) : Int) tA2 sA2 kA2 nb2 ck2 hi2 lo2 ha2 cn2 sm2) j else (stF ((mn : Nat) : Int) tA sA kA nb ck hi lo ha cn sm) j) := (funext fun j => by simp)
  rw [hcell] at hP hD
  exact loop5 2108 0  (by omega)  _ _ _ hP hD hS (lv_sub hl [0, 1, 2] rfl)
set_option maxHeartbeats 4000000 in
set_option maxRecDepth 100000 in
theorem m_restore_S0 (lc : Launch) (D : va_G) (cI cZ : ClassId) (N : Nat) (q : Nat) (qs : Nat) (qi : Nat) (qk : Nat) (ql : Nat) (mn : Nat) (tA : Int) (sA : Int) (kA : Int) (nb : Nat → Int) (ck : Nat → Int) (hi : Nat → Int) (lo : Nat → Int) (ha : Nat → Int) (cn : Nat → Int) (sm : Nat → Int) (im : Nat → Int) (le : Nat → Int) (b0 : Int) (b1 : Int) (h2 : b0 = 0) : CR lc D cI cZ N yX5_restore wsX5_restore (rmK 1 22) [.ref q, .int (iI (0))] [(q, .inr (5, [.ref qs, .ref qi, .ref qk, .ref ql])), (qs, .inl (cI, 2108, .inl (vI (stF ((mn : Nat) : Int) tA sA kA nb ck hi lo ha cn sm)))), (qi, .inl (cI, 4216, .inl (vI im))), (qk, .inl (cZ, 2, .inl (vI (kpF b0 b1)))), (ql, .inl (cI, 25, .inl (vI le)))] (some (.int (iI (-3)))) := by
  refine CR.I (cc := cX5_restore) (maxL := 3) (by decide) rfl (Nat.le_of_ble_eq_true rfl) ?_
  intro p e s m args below meth c R Q S hE A hAN hfr hlo hP hD hS hret ls hl
  have S : CallFix p m c cX5_restore 3 s args wsX5_restore RX5 := S
  have hx := S.1
  have hb := S.2.1
  have hl : lv_has ls 3 [(0, .ref q), (1, .int (iI (0)))] := hl
  refine lv_iload_n hx hb dX5_restore_0 rfl (lv_at hl 1 rfl) ?_
  refine lv_iconst (v := iI (0)) hx hb dX5_restore_1 rfl ?_
  refine lv_iconst (v := iI (1)) hx hb dX5_restore_2 rfl ?_
  refine kS_R (n := 3) S (m_in_T lc D cI cZ N 0 0 1 (by omega) (by omega) (by omega) (by omega)) gX5_restore_X5_in rfl (by decide +kernel) rfl rfl ⟨Nat.le_trans (Nat.le_of_ble_eq_true rfl) hfr, Nat.le_trans (Nat.le_of_ble_eq_true rfl) hlo⟩ hE hAN hP hD hS [] rfl (by decide) rfl hl.1 [] rfl (Nat.le_of_ble_eq_true rfl) dX5_restore_3 ⟨Nat.zero_le _, Nat.zero_le _⟩ ?_
  refine W.eq (g2 := F0 m 6 ls [.int (iI (1))]) rfl ?_
  refine b_neT (tgt := 12) S dX5_restore_6 (by decide) (by decide) (by decide) ?_
  refine lv_aload_n hx hb dX5_restore_12 rfl (lv_at hl 0 rfl) ?_
  refine w_get (C := RX5) (T := TX5) (Nf := 4) (ci := 5) (v := .ref qk) S (fun _ h => List.mem_cons_of_mem _ (List.mem_append_right _ h)) hE hP 0 rfl rfl 2 (by decide) (List.mem_of_getElem? (i := 1) rfl) rfl dX5_restore_13 ?_
  refine lv_iload_n hx hb dX5_restore_16 rfl (lv_at hl 1 rfl) ?_
  refine w_zald S hE hP 3 rfl (0) (by omega) (by omega) (by omega) dX5_restore_17 ?_
  refine w_tz (z := b0) rfl ?_
  refine b_neF (tgt := 24) S dX5_restore_18 (by decide) (by omega) ?_
  refine lv_bipush (v := iI ((-3))) hx hb dX5_restore_21 (by decide) ?_
  exact hret _ _ _ dX5_restore_23 (congrArg iI (by omega))
set_option maxHeartbeats 4000000 in
set_option maxRecDepth 100000 in
theorem m_image_1 (lc : Launch) (D : va_G) (cI cZ : ClassId) (N : Nat) (q : Nat) (qs : Nat) (qi : Nat) (qk : Nat) (ql : Nat) (mn : Nat) (tA : Int) (sA : Int) (kA : Int) (nb : Nat → Int) (ck : Nat → Int) (hi : Nat → Int) (lo : Nat → Int) (ha : Nat → Int) (cn : Nat → Int) (sm : Nat → Int) (le : Nat → Int) (b0 : Int) (b1 : Int) (iA : Nat → Int) (iB : Nat → Int)  : CM lc D cI cZ N yX5_image wsX5_image (rmK 1 22) [.ref q, .int (iI (1))] [(q, .inr (5, [.ref qs, .ref qi, .ref qk, .ref ql])), (qs, .inl (cI, 2108, .inl (vI (stF ((mn : Nat) : Int) tA sA kA nb ck hi lo ha cn sm)))), (qi, .inl (cI, 4216, .inl (vI (imF iA iB)))), (qk, .inl (cZ, 2, .inl (vI (kpF b0 b1)))), (ql, .inl (cI, 25, .inl (vI le)))] (some (.int (iI (1)))) [(q, .inr (5, [.ref qs, .ref qi, .ref qk, .ref ql])), (qs, .inl (cI, 2108, .inl (vI (stF ((mn : Nat) : Int) tA sA kA nb ck hi lo ha cn sm)))), (qi, .inl (cI, 4216, .inl (vI (imF iA (stF ((mn : Nat) : Int) tA sA kA nb ck hi lo ha cn sm))))), (qk, .inl (cZ, 2, .inl (vI (kpF b0 1)))), (ql, .inl (cI, 25, .inl (vI le)))] := by
  refine CM.I (cc := cX5_image) (maxL := 3) (by decide) rfl (Nat.le_of_ble_eq_true rfl) ?_
  intro p e s m args below meth c R Q S hE A hAN hfr hlo hP hD hS hret ls hl
  have S : CallFix p m c cX5_image 3 s args wsX5_image RX5 := S
  have hx := S.1
  have hb := S.2.1
  have hl : lv_has ls 3 [(0, .ref q), (1, .int (iI (1)))] := hl
  refine lv_iload_n hx hb dX5_image_0 rfl (lv_at hl 1 rfl) ?_
  refine lv_iconst (v := iI (0)) hx hb dX5_image_1 rfl ?_
  refine lv_iconst (v := iI (1)) hx hb dX5_image_2 rfl ?_
  refine kS_R (n := 3) S (m_in_T lc D cI cZ N 1 0 1 (by omega) (by omega) (by omega) (by omega)) gX5_image_X5_in rfl (by decide +kernel) rfl rfl ⟨Nat.le_trans (Nat.le_of_ble_eq_true rfl) hfr, Nat.le_trans (Nat.le_of_ble_eq_true rfl) hlo⟩ hE hAN hP hD hS [] rfl (by decide) rfl hl.1 [] rfl (Nat.le_of_ble_eq_true rfl) dX5_image_3 ⟨Nat.zero_le _, Nat.zero_le _⟩ ?_
  refine W.eq (g2 := F0 m 6 ls [.int (iI (1))]) rfl ?_
  refine b_neT (tgt := 12) S dX5_image_6 (by decide) (by decide) (by decide) ?_
  refine lv_iconst (v := iI (0)) hx hb dX5_image_12 rfl ?_
  refine lv_istore_n (lv' := [(2, .int (iI (0))), (0, .ref q), (1, .int (iI (1)))]) hx hb dX5_image_13 rfl hl (by decide) rfl (fun ls hl => ?_)
  have loop6 : ∀ (u i : Nat) , i + u = 2108 → ∀ (H : Heap) (locs : List Loc) (ls : Array Slot), va_P D vwCl [(q, .inr (5, [.ref qs, .ref qi, .ref qk, .ref ql])), (qs, .inl (cI, 2108, .inl (vI (stF ((mn : Nat) : Int) tA sA kA nb ck hi lo ha cn sm)))), (qi, .inl (cI, 4216, .inl (vI (imF iA (fun j => if j < i then (stF ((mn : Nat) : Int) tA sA kA nb ck hi lo ha cn sm) j else iB j))))), (qk, .inl (cZ, 2, .inl (vI (kpF b0 b1)))), (ql, .inl (cI, 25, .inl (vI le)))] H → va_D A [(q, .inr (5, [.ref qs, .ref qi, .ref qk, .ref ql])), (qs, .inl (cI, 2108, .inl (vI (stF ((mn : Nat) : Int) tA sA kA nb ck hi lo ha cn sm)))), (qi, .inl (cI, 4216, .inl (vI (imF iA (fun j => if j < i then (stF ((mn : Nat) : Int) tA sA kA nb ck hi lo ha cn sm) j else iB j))))), (qk, .inl (cZ, 2, .inl (vI (kpF b0 b1)))), (ql, .inl (cI, 25, .inl (vI le)))] → va_S A s.heap H locs → lv_has ls 3 [(2, .int (iI (((i : Nat) : Int)))), (0, .ref q), (1, .int (iI (1)))] → W p lc e R s m args below meth c H locs 0 0 Q (F0 m 14 ls []) := by
    intro u
    induction u with
    | zero =>
      intro i  hm  H locs ls hP hD hS hl
      refine lv_iload_n hx hb dX5_image_14 rfl (lv_at hl 0 rfl) ?_
      refine lv_sipush (v := iI (2108)) hx hb dX5_image_15 (by decide) ?_
      refine c_geT (tgt := 45) S dX5_image_18 (by decide) (by omega) (by omega) (by omega) ?_
      have hi5 : i = 2108 := by omega
      subst hi5
      have hP := P_row (q0 := 2) (g := vI (imF iA (stF ((mn : Nat) : Int) tA sA kA nb ck hi lo ha cn sm))) hP rfl (fun k hk => by simp only [vI, imF]; split; rfl; rw [if_pos (by omega)])
      have hD := va_D.set (p := 2) (e := .inl (cI, 4216, .inl (vI (imF iA (stF ((mn : Nat) : Int) tA sA kA nb ck hi lo ha cn sm))))) hD rfl
      refine lv_aload_n hx hb dX5_image_45 rfl (lv_at hl 1 rfl) ?_
      refine w_get (C := RX5) (T := TX5) (Nf := 4) (ci := 5) (v := .ref qk) S (fun _ h => List.mem_cons_of_mem _ (List.mem_append_right _ h)) hE hP 0 rfl rfl 2 (by decide) (List.mem_of_getElem? (i := 3) rfl) rfl dX5_image_46 ?_
      refine lv_iload_n hx hb dX5_image_49 rfl (lv_at hl 2 rfl) ?_
      refine lv_iconst (v := iI (1)) hx hb dX5_image_50 rfl ?_
      refine w_zast1 S hE hP hD hS 3 rfl (1) (by omega) (by omega) (by omega) dX5_image_51 (fun H locs hP hD hS => ?_)
      have hP : va_P D vwCl [(q, .inr (5, [.ref qs, .ref qi, .ref qk, .ref ql])), (qs, .inl (cI, 2108, .inl (vI (stF ((mn : Nat) : Int) tA sA kA nb ck hi lo ha cn sm)))), (qi, .inl (cI, 4216, .inl (vI (imF iA (stF ((mn : Nat) : Int) tA sA kA nb ck hi lo ha cn sm))))), (qk, .inl (cZ, 2, .inl (vI (updI (kpF b0 b1) 1 1)))), (ql, .inl (cI, 25, .inl (vI le)))] H := hP
      have hD : va_D A [(q, .inr (5, [.ref qs, .ref qi, .ref qk, .ref ql])), (qs, .inl (cI, 2108, .inl (vI (stF ((mn : Nat) : Int) tA sA kA nb ck hi lo ha cn sm)))), (qi, .inl (cI, 4216, .inl (vI (imF iA (stF ((mn : Nat) : Int) tA sA kA nb ck hi lo ha cn sm))))), (qk, .inl (cZ, 2, .inl (vI (updI (kpF b0 b1) 1 1)))), (ql, .inl (cI, 25, .inl (vI le)))] := hD
      have hcell : updI (kpF b0 b1) 1 1 = (kpF b0 1) := ku_1
      rw [hcell] at hP hD
      refine lv_iconst (v := iI (1)) hx hb dX5_image_52 rfl ?_
      exact hret _ _ _ _ _ dX5_image_53 rfl hP hS
    | succ u ih6 =>
      intro i  hm  H locs ls hP hD hS hl
      refine lv_iload_n hx hb dX5_image_14 rfl (lv_at hl 0 rfl) ?_
      refine lv_sipush (v := iI (2108)) hx hb dX5_image_15 (by decide) ?_
      refine c_geF (tgt := 45) S dX5_image_18 (by decide) (by omega) (by omega) (by omega) ?_
      refine lv_aload_n hx hb dX5_image_21 rfl (lv_at hl 1 rfl) ?_
      refine w_get (C := RX5) (T := TX5) (Nf := 4) (ci := 5) (v := .ref qi) S (fun _ h => List.mem_cons_of_mem _ (List.mem_append_right _ h)) hE hP 0 rfl rfl 1 (by decide) (List.mem_of_getElem? (i := 1) rfl) rfl dX5_image_22 ?_
      refine lv_sipush (v := iI (2108)) hx hb dX5_image_25 (by decide) ?_
      refine lv_iload_n hx hb dX5_image_28 rfl (lv_at hl 2 rfl) ?_
      refine w_imul S dX5_image_29 ?_
      refine w_tz (z := 2108) (by decide) ?_
      refine lv_iload_n hx hb dX5_image_30 rfl (lv_at hl 0 rfl) ?_
      refine w_iadd S dX5_image_31 ?_
      refine lv_aload_n hx hb dX5_image_32 rfl (lv_at hl 1 rfl) ?_
      refine w_get (C := RX5) (T := TX5) (Nf := 4) (ci := 5) (v := .ref qs) S (fun _ h => List.mem_cons_of_mem _ (List.mem_append_right _ h)) hE hP 0 rfl rfl 0 (by decide) (List.mem_of_getElem? (i := 2) rfl) rfl dX5_image_33 ?_
      refine lv_iload_n hx hb dX5_image_36 rfl (lv_at hl 0 rfl) ?_
      refine w_iald S hE hP 1 rfl (i) (by omega) (by omega) (by omega) dX5_image_37 ?_
      refine w_iast S hE hP hD hS 2 rfl (2108 + i) (by omega) (by omega) (by omega) dX5_image_38 (fun H locs hP hD hS => ?_)
      have hP : va_P D vwCl [(q, .inr (5, [.ref qs, .ref qi, .ref qk, .ref ql])), (qs, .inl (cI, 2108, .inl (vI (stF ((mn : Nat) : Int) tA sA kA nb ck hi lo ha cn sm)))), (qi, .inl (cI, 4216, .inl (vI (updI (imF iA (fun j => if j < i then (stF ((mn : Nat) : Int) tA sA kA nb ck hi lo ha cn sm) j else iB j)) (2108 + i) ((stF ((mn : Nat) : Int) tA sA kA nb ck hi lo ha cn sm) i))))), (qk, .inl (cZ, 2, .inl (vI (kpF b0 b1)))), (ql, .inl (cI, 25, .inl (vI le)))] H := hP
      have hD : va_D A [(q, .inr (5, [.ref qs, .ref qi, .ref qk, .ref ql])), (qs, .inl (cI, 2108, .inl (vI (stF ((mn : Nat) : Int) tA sA kA nb ck hi lo ha cn sm)))), (qi, .inl (cI, 4216, .inl (vI (updI (imF iA (fun j => if j < i then (stF ((mn : Nat) : Int) tA sA kA nb ck hi lo ha cn sm) j else iB j)) (2108 + i) ((stF ((mn : Nat) : Int) tA sA kA nb ck hi lo ha cn sm) i))))), (qk, .inl (cZ, 2, .inl (vI (kpF b0 b1)))), (ql, .inl (cI, 25, .inl (vI le)))] := hD
      refine w_iinc (v := ((i + 1 : Nat) : Int)) (lv' := [(2, .int (iI (((i + 1 : Nat) : Int)))), (0, .ref q), (1, .int (iI (1)))]) S dX5_image_39 hl (k := 0) rfl (by omega) (by decide) rfl (fun ls hl => ?_)
      refine lv_goto (tgt := 14) hx hb dX5_image_42 (by decide) ?_
      have hcell : updI (imF iA (fun j => if j < i then (stF ((mn : Nat) : Int) tA sA kA nb ck hi lo ha cn sm) j else iB j)) (2108 + i) ((stF ((mn : Nat) : Int) tA sA kA nb ck hi lo ha cn sm) i) = (imF iA (fun j => if j < (i + 1) then (stF ((mn : Nat) : Int) tA sA kA nb ck hi lo ha cn sm) j else iB j)) := (im_bs iA iB (stF ((mn : Nat) : Int) tA sA kA nb ck hi lo ha cn sm) i (by omega))
      rw [hcell] at hP hD
      exact ih6 (i + 1)  (by omega)  _ _ _ hP hD hS (lv_sub hl [0, 1, 2] rfl)
  have hcell : (imF iA iB) = (imF iA (fun j => if j < 0 then (stF ((mn : Nat) : Int) tA sA kA nb ck hi lo ha cn sm) j else iB j)) := (im_b0 iA iB (stF ((mn : Nat) : Int) tA sA kA nb ck hi lo ha cn sm))
  rw [hcell] at hP hD
  exact loop6 2108 0  (by omega)  _ _ _ hP hD hS (lv_sub hl [0, 1, 2] rfl)
set_option maxHeartbeats 4000000 in
set_option maxRecDepth 100000 in
theorem m_restore_1 (lc : Launch) (D : va_G) (cI cZ : ClassId) (N : Nat) (q : Nat) (qs : Nat) (qi : Nat) (qk : Nat) (ql : Nat) (mn : Nat) (tA : Int) (sA : Int) (kA : Int) (nb : Nat → Int) (ck : Nat → Int) (hi : Nat → Int) (lo : Nat → Int) (ha : Nat → Int) (cn : Nat → Int) (sm : Nat → Int) (le : Nat → Int) (b0 : Int) (b1 : Int) (mn2 : Nat) (tA2 : Int) (sA2 : Int) (kA2 : Int) (nb2 : Nat → Int) (ck2 : Nat → Int) (hi2 : Nat → Int) (lo2 : Nat → Int) (ha2 : Nat → Int) (cn2 : Nat → Int) (sm2 : Nat → Int) (iA : Nat → Int) (h2 : b1 = 1) : CM lc D cI cZ N yX5_restore wsX5_restore (rmK 1 22) [.ref q, .int (iI (1))] [(q, .inr (5, [.ref qs, .ref qi, .ref qk, .ref ql])), (qs, .inl (cI, 2108, .inl (vI (stF ((mn : Nat) : Int) tA sA kA nb ck hi lo ha cn sm)))), (qi, .inl (cI, 4216, .inl (vI (imF iA (stF ((mn2 : Nat) : Int) tA2 sA2 kA2 nb2 ck2 hi2 lo2 ha2 cn2 sm2))))), (qk, .inl (cZ, 2, .inl (vI (kpF b0 b1)))), (ql, .inl (cI, 25, .inl (vI le)))] (some (.int (iI (1)))) [(q, .inr (5, [.ref qs, .ref qi, .ref qk, .ref ql])), (qs, .inl (cI, 2108, .inl (vI (stF ((mn2 : Nat) : Int) tA2 sA2 kA2 nb2 ck2 hi2 lo2 ha2 cn2 sm2)))), (qi, .inl (cI, 4216, .inl (vI (imF iA (stF ((mn2 : Nat) : Int) tA2 sA2 kA2 nb2 ck2 hi2 lo2 ha2 cn2 sm2))))), (qk, .inl (cZ, 2, .inl (vI (kpF b0 b1)))), (ql, .inl (cI, 25, .inl (vI le)))] := by
  refine CM.I (cc := cX5_restore) (maxL := 3) (by decide) rfl (Nat.le_of_ble_eq_true rfl) ?_
  intro p e s m args below meth c R Q S hE A hAN hfr hlo hP hD hS hret ls hl
  have S : CallFix p m c cX5_restore 3 s args wsX5_restore RX5 := S
  have hx := S.1
  have hb := S.2.1
  have hl : lv_has ls 3 [(0, .ref q), (1, .int (iI (1)))] := hl
  refine lv_iload_n hx hb dX5_restore_0 rfl (lv_at hl 1 rfl) ?_
  refine lv_iconst (v := iI (0)) hx hb dX5_restore_1 rfl ?_
  refine lv_iconst (v := iI (1)) hx hb dX5_restore_2 rfl ?_
  refine kS_R (n := 3) S (m_in_T lc D cI cZ N 1 0 1 (by omega) (by omega) (by omega) (by omega)) gX5_restore_X5_in rfl (by decide +kernel) rfl rfl ⟨Nat.le_trans (Nat.le_of_ble_eq_true rfl) hfr, Nat.le_trans (Nat.le_of_ble_eq_true rfl) hlo⟩ hE hAN hP hD hS [] rfl (by decide) rfl hl.1 [] rfl (Nat.le_of_ble_eq_true rfl) dX5_restore_3 ⟨Nat.zero_le _, Nat.zero_le _⟩ ?_
  refine W.eq (g2 := F0 m 6 ls [.int (iI (1))]) rfl ?_
  refine b_neT (tgt := 12) S dX5_restore_6 (by decide) (by decide) (by decide) ?_
  refine lv_aload_n hx hb dX5_restore_12 rfl (lv_at hl 0 rfl) ?_
  refine w_get (C := RX5) (T := TX5) (Nf := 4) (ci := 5) (v := .ref qk) S (fun _ h => List.mem_cons_of_mem _ (List.mem_append_right _ h)) hE hP 0 rfl rfl 2 (by decide) (List.mem_of_getElem? (i := 1) rfl) rfl dX5_restore_13 ?_
  refine lv_iload_n hx hb dX5_restore_16 rfl (lv_at hl 1 rfl) ?_
  refine w_zald S hE hP 3 rfl (1) (by omega) (by omega) (by omega) dX5_restore_17 ?_
  refine w_tz (z := b1) rfl ?_
  refine b_neT (tgt := 24) S dX5_restore_18 (by decide) (by omega) (by omega) ?_
  refine lv_iconst (v := iI (0)) hx hb dX5_restore_24 rfl ?_
  refine lv_istore_n (lv' := [(2, .int (iI (0))), (0, .ref q), (1, .int (iI (1)))]) hx hb dX5_restore_25 rfl hl (by decide) rfl (fun ls hl => ?_)
  have loop7 : ∀ (u i : Nat) , i + u = 2108 → ∀ (H : Heap) (locs : List Loc) (ls : Array Slot), va_P D vwCl [(q, .inr (5, [.ref qs, .ref qi, .ref qk, .ref ql])), (qs, .inl (cI, 2108, .inl (vI (fun j => if j < i then (stF ((mn2 : Nat) : Int) tA2 sA2 kA2 nb2 ck2 hi2 lo2 ha2 cn2 sm2) j else (stF ((mn : Nat) : Int) tA sA kA nb ck hi lo ha cn sm) j)))), (qi, .inl (cI, 4216, .inl (vI (imF iA (stF ((mn2 : Nat) : Int) tA2 sA2 kA2 nb2 ck2 hi2 lo2 ha2 cn2 sm2))))), (qk, .inl (cZ, 2, .inl (vI (kpF b0 b1)))), (ql, .inl (cI, 25, .inl (vI le)))] H → va_D A [(q, .inr (5, [.ref qs, .ref qi, .ref qk, .ref ql])), (qs, .inl (cI, 2108, .inl (vI (fun j => if j < i then (stF ((mn2 : Nat) : Int) tA2 sA2 kA2 nb2 ck2 hi2 lo2 ha2 cn2 sm2) j else (stF ((mn : Nat) : Int) tA sA kA nb ck hi lo ha cn sm) j)))), (qi, .inl (cI, 4216, .inl (vI (imF iA (stF ((mn2 : Nat) : Int) tA2 sA2 kA2 nb2 ck2 hi2 lo2 ha2 cn2 sm2))))), (qk, .inl (cZ, 2, .inl (vI (kpF b0 b1)))), (ql, .inl (cI, 25, .inl (vI le)))] → va_S A s.heap H locs → lv_has ls 3 [(2, .int (iI (((i : Nat) : Int)))), (0, .ref q), (1, .int (iI (1)))] → W p lc e R s m args below meth c H locs 0 0 Q (F0 m 26 ls []) := by
    intro u
    induction u with
    | zero =>
      intro i  hm  H locs ls hP hD hS hl
      refine lv_iload_n hx hb dX5_restore_26 rfl (lv_at hl 0 rfl) ?_
      refine lv_sipush (v := iI (2108)) hx hb dX5_restore_27 (by decide) ?_
      refine c_geT (tgt := 57) S dX5_restore_30 (by decide) (by omega) (by omega) (by omega) ?_
      refine lv_iconst (v := iI (1)) hx hb dX5_restore_57 rfl ?_
      exact hret _ _ _ _ _ dX5_restore_58 rfl (P_row (q0 := 1) (g := vI (stF ((mn2 : Nat) : Int) tA2 sA2 kA2 nb2 ck2 hi2 lo2 ha2 cn2 sm2)) hP rfl (fun k hk => by simp only [vI]; rw [if_pos (by omega)])) hS
    | succ u ih7 =>
      intro i  hm  H locs ls hP hD hS hl
      refine lv_iload_n hx hb dX5_restore_26 rfl (lv_at hl 0 rfl) ?_
      refine lv_sipush (v := iI (2108)) hx hb dX5_restore_27 (by decide) ?_
      refine c_geF (tgt := 57) S dX5_restore_30 (by decide) (by omega) (by omega) (by omega) ?_
      refine lv_aload_n hx hb dX5_restore_33 rfl (lv_at hl 1 rfl) ?_
      refine w_get (C := RX5) (T := TX5) (Nf := 4) (ci := 5) (v := .ref qs) S (fun _ h => List.mem_cons_of_mem _ (List.mem_append_right _ h)) hE hP 0 rfl rfl 0 (by decide) (List.mem_of_getElem? (i := 2) rfl) rfl dX5_restore_34 ?_
      refine lv_iload_n hx hb dX5_restore_37 rfl (lv_at hl 0 rfl) ?_
      refine lv_aload_n hx hb dX5_restore_38 rfl (lv_at hl 1 rfl) ?_
      refine w_get (C := RX5) (T := TX5) (Nf := 4) (ci := 5) (v := .ref qi) S (fun _ h => List.mem_cons_of_mem _ (List.mem_append_right _ h)) hE hP 0 rfl rfl 1 (by decide) (List.mem_of_getElem? (i := 3) rfl) rfl dX5_restore_39 ?_
      refine lv_sipush (v := iI (2108)) hx hb dX5_restore_42 (by decide) ?_
      refine lv_iload_n hx hb dX5_restore_45 rfl (lv_at hl 2 rfl) ?_
      refine w_imul S dX5_restore_46 ?_
      refine w_tz (z := 2108) (by decide) ?_
      refine lv_iload_n hx hb dX5_restore_47 rfl (lv_at hl 0 rfl) ?_
      refine w_iadd S dX5_restore_48 ?_
      refine w_iald S hE hP 2 rfl (2108 + i) (by omega) (by omega) (by omega) dX5_restore_49 ?_
      refine w_tz (z := (stF ((mn2 : Nat) : Int) tA2 sA2 kA2 nb2 ck2 hi2 lo2 ha2 cn2 sm2) i) (im_at1 (by omega)) ?_
      refine w_iast S hE hP hD hS 1 rfl (i) (by omega) (by omega) (by omega) dX5_restore_50 (fun H locs hP hD hS => ?_)
      have hP : va_P D vwCl [(q, .inr (5, [.ref qs, .ref qi, .ref qk, .ref ql])), (qs, .inl (cI, 2108, .inl (vI (updI (fun j => if j < i then (stF ((mn2 : Nat) : Int) tA2 sA2 kA2 nb2 ck2 hi2 lo2 ha2 cn2 sm2) j else (stF ((mn : Nat) : Int) tA sA kA nb ck hi lo ha cn sm) j) i ((stF ((mn2 : Nat) : Int) tA2 sA2 kA2 nb2 ck2 hi2 lo2 ha2 cn2 sm2) i))))), (qi, .inl (cI, 4216, .inl (vI (imF iA (stF ((mn2 : Nat) : Int) tA2 sA2 kA2 nb2 ck2 hi2 lo2 ha2 cn2 sm2))))), (qk, .inl (cZ, 2, .inl (vI (kpF b0 b1)))), (ql, .inl (cI, 25, .inl (vI le)))] H := hP
      have hD : va_D A [(q, .inr (5, [.ref qs, .ref qi, .ref qk, .ref ql])), (qs, .inl (cI, 2108, .inl (vI (updI (fun j => if j < i then (stF ((mn2 : Nat) : Int) tA2 sA2 kA2 nb2 ck2 hi2 lo2 ha2 cn2 sm2) j else (stF ((mn : Nat) : Int) tA sA kA nb ck hi lo ha cn sm) j) i ((stF ((mn2 : Nat) : Int) tA2 sA2 kA2 nb2 ck2 hi2 lo2 ha2 cn2 sm2) i))))), (qi, .inl (cI, 4216, .inl (vI (imF iA (stF ((mn2 : Nat) : Int) tA2 sA2 kA2 nb2 ck2 hi2 lo2 ha2 cn2 sm2))))), (qk, .inl (cZ, 2, .inl (vI (kpF b0 b1)))), (ql, .inl (cI, 25, .inl (vI le)))] := hD
      refine w_iinc (v := ((i + 1 : Nat) : Int)) (lv' := [(2, .int (iI (((i + 1 : Nat) : Int)))), (0, .ref q), (1, .int (iI (1)))]) S dX5_restore_51 hl (k := 0) rfl (by omega) (by decide) rfl (fun ls hl => ?_)
      refine lv_goto (tgt := 26) hx hb dX5_restore_54 (by decide) ?_
      have hcell : updI (fun j => if j < i then (stF ((mn2 : Nat) : Int) tA2 sA2 kA2 nb2 ck2 hi2 lo2 ha2 cn2 sm2) j else (stF ((mn : Nat) : Int) tA sA kA nb ck hi lo ha cn sm) j) i ((stF ((mn2 : Nat) : Int) tA2 sA2 kA2 nb2 ck2 hi2 lo2 ha2 cn2 sm2) i) = (fun j => if j < (i + 1) then (stF ((mn2 : Nat) : Int) tA2 sA2 kA2 nb2 ck2 hi2 lo2 ha2 cn2 sm2) j else (stF ((mn : Nat) : Int) tA sA kA nb ck hi lo ha cn sm) j) := (funext fun j => by by_cases h1 : j = i <;> by_cases h2 : j < i <;> simp [updI, h1, h2] <;> omega)
      rw [hcell] at hP hD
      exact ih7 (i + 1)  (by omega)  _ _ _ hP hD hS (lv_sub hl [0, 1, 2] rfl)
  have hcell : stF ((mn : Nat) : Int) tA sA kA nb ck hi lo ha cn sm = (fun j => if j < 0 then (stF ((mn2 : Nat) : Int) tA2 sA2 kA2 nb2 ck2 hi2 lo2 ha2 cn2 sm2) j else (stF ((mn : Nat) : Int) tA sA kA nb ck hi lo ha cn sm) j) := (funext fun j => by simp)
  rw [hcell] at hP hD
  exact loop7 2108 0  (by omega)  _ _ _ hP hD hS (lv_sub hl [0, 1, 2] rfl)
set_option maxHeartbeats 4000000 in
set_option maxRecDepth 100000 in
theorem m_restore_S1 (lc : Launch) (D : va_G) (cI cZ : ClassId) (N : Nat) (q : Nat) (qs : Nat) (qi : Nat) (qk : Nat) (ql : Nat) (mn : Nat) (tA : Int) (sA : Int) (kA : Int) (nb : Nat → Int) (ck : Nat → Int) (hi : Nat → Int) (lo : Nat → Int) (ha : Nat → Int) (cn : Nat → Int) (sm : Nat → Int) (im : Nat → Int) (le : Nat → Int) (b0 : Int) (b1 : Int) (h2 : b1 = 0) : CR lc D cI cZ N yX5_restore wsX5_restore (rmK 1 22) [.ref q, .int (iI (1))] [(q, .inr (5, [.ref qs, .ref qi, .ref qk, .ref ql])), (qs, .inl (cI, 2108, .inl (vI (stF ((mn : Nat) : Int) tA sA kA nb ck hi lo ha cn sm)))), (qi, .inl (cI, 4216, .inl (vI im))), (qk, .inl (cZ, 2, .inl (vI (kpF b0 b1)))), (ql, .inl (cI, 25, .inl (vI le)))] (some (.int (iI (-3)))) := by
  refine CR.I (cc := cX5_restore) (maxL := 3) (by decide) rfl (Nat.le_of_ble_eq_true rfl) ?_
  intro p e s m args below meth c R Q S hE A hAN hfr hlo hP hD hS hret ls hl
  have S : CallFix p m c cX5_restore 3 s args wsX5_restore RX5 := S
  have hx := S.1
  have hb := S.2.1
  have hl : lv_has ls 3 [(0, .ref q), (1, .int (iI (1)))] := hl
  refine lv_iload_n hx hb dX5_restore_0 rfl (lv_at hl 1 rfl) ?_
  refine lv_iconst (v := iI (0)) hx hb dX5_restore_1 rfl ?_
  refine lv_iconst (v := iI (1)) hx hb dX5_restore_2 rfl ?_
  refine kS_R (n := 3) S (m_in_T lc D cI cZ N 1 0 1 (by omega) (by omega) (by omega) (by omega)) gX5_restore_X5_in rfl (by decide +kernel) rfl rfl ⟨Nat.le_trans (Nat.le_of_ble_eq_true rfl) hfr, Nat.le_trans (Nat.le_of_ble_eq_true rfl) hlo⟩ hE hAN hP hD hS [] rfl (by decide) rfl hl.1 [] rfl (Nat.le_of_ble_eq_true rfl) dX5_restore_3 ⟨Nat.zero_le _, Nat.zero_le _⟩ ?_
  refine W.eq (g2 := F0 m 6 ls [.int (iI (1))]) rfl ?_
  refine b_neT (tgt := 12) S dX5_restore_6 (by decide) (by decide) (by decide) ?_
  refine lv_aload_n hx hb dX5_restore_12 rfl (lv_at hl 0 rfl) ?_
  refine w_get (C := RX5) (T := TX5) (Nf := 4) (ci := 5) (v := .ref qk) S (fun _ h => List.mem_cons_of_mem _ (List.mem_append_right _ h)) hE hP 0 rfl rfl 2 (by decide) (List.mem_of_getElem? (i := 1) rfl) rfl dX5_restore_13 ?_
  refine lv_iload_n hx hb dX5_restore_16 rfl (lv_at hl 1 rfl) ?_
  refine w_zald S hE hP 3 rfl (1) (by omega) (by omega) (by omega) dX5_restore_17 ?_
  refine w_tz (z := b1) rfl ?_
  refine b_neF (tgt := 24) S dX5_restore_18 (by decide) (by omega) ?_
  refine lv_bipush (v := iI ((-3))) hx hb dX5_restore_21 (by decide) ?_
  exact hret _ _ _ dX5_restore_23 (congrArg iI (by omega))
set_option maxHeartbeats 4000000 in
set_option maxRecDepth 100000 in
theorem m_image_O (lc : Launch) (D : va_G) (cI cZ : ClassId) (N : Nat) (q : Nat) (qs : Nat) (qi : Nat) (qk : Nat) (ql : Nat) (mn : Nat) (tA : Int) (sA : Int) (kA : Int) (nb : Nat → Int) (ck : Nat → Int) (hi : Nat → Int) (lo : Nat → Int) (ha : Nat → Int) (cn : Nat → Int) (sm : Nat → Int) (im : Nat → Int) (kp : Nat → Int) (le : Nat → Int) (x : Int) (r_x : -2147483648 ≤ x ∧ x ≤ 2147483647) (h : ¬ (0 ≤ x ∧ x ≤ 1)) : CR lc D cI cZ N yX5_image wsX5_image (rmK 1 22) [.ref q, .int (iI (x))] [(q, .inr (5, [.ref qs, .ref qi, .ref qk, .ref ql])), (qs, .inl (cI, 2108, .inl (vI (stF ((mn : Nat) : Int) tA sA kA nb ck hi lo ha cn sm)))), (qi, .inl (cI, 4216, .inl (vI im))), (qk, .inl (cZ, 2, .inl (vI kp))), (ql, .inl (cI, 25, .inl (vI le)))] (some (.int (iI (-2)))) := by
  refine CR.I (cc := cX5_image) (maxL := 3) (by decide) rfl (Nat.le_of_ble_eq_true rfl) ?_
  intro p e s m args below meth c R Q S hE A hAN hfr hlo hP hD hS hret ls hl
  have S : CallFix p m c cX5_image 3 s args wsX5_image RX5 := S
  have hx := S.1
  have hb := S.2.1
  have hl : lv_has ls 3 [(0, .ref q), (1, .int (iI (x)))] := hl
  refine lv_iload_n hx hb dX5_image_0 rfl (lv_at hl 1 rfl) ?_
  refine lv_iconst (v := iI (0)) hx hb dX5_image_1 rfl ?_
  refine lv_iconst (v := iI (1)) hx hb dX5_image_2 rfl ?_
  refine kS_R (n := 3) S (m_in_F lc D cI cZ N x 0 1 (by omega) (by omega) (by omega) (by omega)) gX5_image_X5_in rfl (by decide +kernel) rfl rfl ⟨Nat.le_trans (Nat.le_of_ble_eq_true rfl) hfr, Nat.le_trans (Nat.le_of_ble_eq_true rfl) hlo⟩ hE hAN hP hD hS [] rfl (by decide) rfl hl.1 [] rfl (Nat.le_of_ble_eq_true rfl) dX5_image_3 ⟨Nat.zero_le _, Nat.zero_le _⟩ ?_
  refine W.eq (g2 := F0 m 6 ls [.int (iI (0))]) rfl ?_
  refine b_neF (tgt := 12) S dX5_image_6 (by decide) (by decide) ?_
  refine lv_bipush (v := iI ((-2))) hx hb dX5_image_9 (by decide) ?_
  exact hret _ _ _ dX5_image_11 (congrArg iI (by omega))
set_option maxHeartbeats 4000000 in
set_option maxRecDepth 100000 in
theorem m_restore_O (lc : Launch) (D : va_G) (cI cZ : ClassId) (N : Nat) (q : Nat) (qs : Nat) (qi : Nat) (qk : Nat) (ql : Nat) (mn : Nat) (tA : Int) (sA : Int) (kA : Int) (nb : Nat → Int) (ck : Nat → Int) (hi : Nat → Int) (lo : Nat → Int) (ha : Nat → Int) (cn : Nat → Int) (sm : Nat → Int) (im : Nat → Int) (kp : Nat → Int) (le : Nat → Int) (x : Int) (r_x : -2147483648 ≤ x ∧ x ≤ 2147483647) (h : ¬ (0 ≤ x ∧ x ≤ 1)) : CR lc D cI cZ N yX5_restore wsX5_restore (rmK 1 22) [.ref q, .int (iI (x))] [(q, .inr (5, [.ref qs, .ref qi, .ref qk, .ref ql])), (qs, .inl (cI, 2108, .inl (vI (stF ((mn : Nat) : Int) tA sA kA nb ck hi lo ha cn sm)))), (qi, .inl (cI, 4216, .inl (vI im))), (qk, .inl (cZ, 2, .inl (vI kp))), (ql, .inl (cI, 25, .inl (vI le)))] (some (.int (iI (-2)))) := by
  refine CR.I (cc := cX5_restore) (maxL := 3) (by decide) rfl (Nat.le_of_ble_eq_true rfl) ?_
  intro p e s m args below meth c R Q S hE A hAN hfr hlo hP hD hS hret ls hl
  have S : CallFix p m c cX5_restore 3 s args wsX5_restore RX5 := S
  have hx := S.1
  have hb := S.2.1
  have hl : lv_has ls 3 [(0, .ref q), (1, .int (iI (x)))] := hl
  refine lv_iload_n hx hb dX5_restore_0 rfl (lv_at hl 1 rfl) ?_
  refine lv_iconst (v := iI (0)) hx hb dX5_restore_1 rfl ?_
  refine lv_iconst (v := iI (1)) hx hb dX5_restore_2 rfl ?_
  refine kS_R (n := 3) S (m_in_F lc D cI cZ N x 0 1 (by omega) (by omega) (by omega) (by omega)) gX5_restore_X5_in rfl (by decide +kernel) rfl rfl ⟨Nat.le_trans (Nat.le_of_ble_eq_true rfl) hfr, Nat.le_trans (Nat.le_of_ble_eq_true rfl) hlo⟩ hE hAN hP hD hS [] rfl (by decide) rfl hl.1 [] rfl (Nat.le_of_ble_eq_true rfl) dX5_restore_3 ⟨Nat.zero_le _, Nat.zero_le _⟩ ?_
  refine W.eq (g2 := F0 m 6 ls [.int (iI (0))]) rfl ?_
  refine b_neF (tgt := 12) S dX5_restore_6 (by decide) (by decide) ?_
  refine lv_bipush (v := iI ((-2))) hx hb dX5_restore_9 (by decide) ?_
  exact hret _ _ _ dX5_restore_11 (congrArg iI (by omega))
set_option maxHeartbeats 4000000 in
set_option maxRecDepth 100000 in
theorem m_blocksSent (lc : Launch) (D : va_G) (cI cZ : ClassId) (N : Nat) (q : Nat) (qs : Nat) (qi : Nat) (qk : Nat) (ql : Nat) (mn : Nat) (tA : Int) (sA : Int) (kA : Int) (nb : Nat → Int) (ck : Nat → Int) (hi : Nat → Int) (lo : Nat → Int) (ha : Nat → Int) (cn : Nat → Int) (sm : Nat → Int) (im : Nat → Int) (kp : Nat → Int) (le : Nat → Int) (hsA : 0 ≤ sA ∧ sA ≤ 200) (hkA : 1 ≤ kA ∧ kA ≤ 20) : CR lc D cI cZ N yX5_blocksSent wsX5_blocksSent (rmK 0 0) [.ref q] [(q, .inr (5, [.ref qs, .ref qi, .ref qk, .ref ql])), (qs, .inl (cI, 2108, .inl (vI (stF ((mn : Nat) : Int) tA sA kA nb ck hi lo ha cn sm)))), (qi, .inl (cI, 4216, .inl (vI im))), (qk, .inl (cZ, 2, .inl (vI kp))), (ql, .inl (cI, 25, .inl (vI le)))] (some (.int (iI ((sA + kA - 1).tdiv kA)))) := by
  refine CR.I (cc := cX5_blocksSent) (maxL := 1) (by decide) rfl (Nat.le_of_ble_eq_true rfl) ?_
  intro p e s m args below meth c R Q S hE A hAN hfr hlo hP hD hS hret ls hl
  have S : CallFix p m c cX5_blocksSent 1 s args wsX5_blocksSent RX5 := S
  have hx := S.1
  have hb := S.2.1
  have hl : lv_has ls 1 [(0, .ref q)] := hl
  refine lv_aload_n hx hb dX5_blocksSent_0 rfl (lv_at hl 0 rfl) ?_
  refine w_get (C := RX5) (T := TX5) (Nf := 4) (ci := 5) (v := .ref qs) S (fun _ h => List.mem_cons_of_mem _ (List.mem_append_right _ h)) hE hP 0 rfl rfl 0 (by decide) (List.mem_of_getElem? (i := 1) rfl) rfl dX5_blocksSent_1 ?_
  refine lv_iconst (v := iI (2)) hx hb dX5_blocksSent_4 rfl ?_
  refine w_iald S hE hP 1 rfl (2) (by omega) (by omega) (by omega) dX5_blocksSent_5 ?_
  refine w_tz (z := sA) rfl ?_
  refine lv_aload_n hx hb dX5_blocksSent_6 rfl (lv_at hl 0 rfl) ?_
  refine w_get (C := RX5) (T := TX5) (Nf := 4) (ci := 5) (v := .ref qs) S (fun _ h => List.mem_cons_of_mem _ (List.mem_append_right _ h)) hE hP 0 rfl rfl 0 (by decide) (List.mem_of_getElem? (i := 1) rfl) rfl dX5_blocksSent_7 ?_
  refine lv_iconst (v := iI (3)) hx hb dX5_blocksSent_10 rfl ?_
  refine w_iald S hE hP 1 rfl (3) (by omega) (by omega) (by omega) dX5_blocksSent_11 ?_
  refine w_tz (z := kA) rfl ?_
  refine w_iadd S dX5_blocksSent_12 ?_
  refine lv_iconst (v := iI (1)) hx hb dX5_blocksSent_13 rfl ?_
  refine w_isub S dX5_blocksSent_14 ?_
  refine lv_aload_n hx hb dX5_blocksSent_15 rfl (lv_at hl 0 rfl) ?_
  refine w_get (C := RX5) (T := TX5) (Nf := 4) (ci := 5) (v := .ref qs) S (fun _ h => List.mem_cons_of_mem _ (List.mem_append_right _ h)) hE hP 0 rfl rfl 0 (by decide) (List.mem_of_getElem? (i := 1) rfl) rfl dX5_blocksSent_16 ?_
  refine lv_iconst (v := iI (3)) hx hb dX5_blocksSent_19 rfl ?_
  refine w_iald S hE hP 1 rfl (3) (by omega) (by omega) (by omega) dX5_blocksSent_20 ?_
  refine w_tz (z := kA) rfl ?_
  refine w_idiv S (by omega) (by omega) dX5_blocksSent_21 ?_
  exact hret _ _ _ dX5_blocksSent_22 (congrArg iI (by omega))
set_option maxHeartbeats 4000000 in
set_option maxRecDepth 100000 in
theorem m_pairs (lc : Launch) (D : va_G) (cI cZ : ClassId) (N : Nat) (q : Nat) (qs : Nat) (qi : Nat) (qk : Nat) (ql : Nat) (mn : Nat) (tA : Int) (sA : Int) (kA : Int) (nb : Nat → Int) (ck : Nat → Int) (hi : Nat → Int) (lo : Nat → Int) (ha : Nat → Int) (cn : Nat → Int) (sm : Nat → Int) (im : Nat → Int) (kp : Nat → Int) (le : Nat → Int)  : CR lc D cI cZ N yX5_pairs wsX5_pairs (rmK 0 0) [.ref q] [(q, .inr (5, [.ref qs, .ref qi, .ref qk, .ref ql])), (qs, .inl (cI, 2108, .inl (vI (stF ((mn : Nat) : Int) tA sA kA nb ck hi lo ha cn sm)))), (qi, .inl (cI, 4216, .inl (vI im))), (qk, .inl (cZ, 2, .inl (vI kp))), (ql, .inl (cI, 25, .inl (vI le)))] (some (.int (iI (sumTo ha 25)))) := by
  refine CR.I (cc := cX5_pairs) (maxL := 3) (by decide) rfl (Nat.le_of_ble_eq_true rfl) ?_
  intro p e s m args below meth c R Q S hE A hAN hfr hlo hP hD hS hret ls hl
  have S : CallFix p m c cX5_pairs 3 s args wsX5_pairs RX5 := S
  have hx := S.1
  have hb := S.2.1
  have hl : lv_has ls 3 [(0, .ref q)] := hl
  refine lv_iconst (v := iI (0)) hx hb dX5_pairs_0 rfl ?_
  refine lv_istore_n (lv' := [(1, .int (iI (0))), (0, .ref q)]) hx hb dX5_pairs_1 rfl hl (by decide) rfl (fun ls hl => ?_)
  refine lv_iconst (v := iI (0)) hx hb dX5_pairs_2 rfl ?_
  refine lv_istore_n (lv' := [(2, .int (iI (0))), (1, .int (iI (0))), (0, .ref q)]) hx hb dX5_pairs_3 rfl hl (by decide) rfl (fun ls hl => ?_)
  have loop8 : ∀ (u i : Nat) , i + u = 25 → ∀ (ls : Array Slot), lv_has ls 3 [(2, .int (iI (((i : Nat) : Int)))), (1, .int (iI (sumTo ha i))), (0, .ref q)] → W p lc e R s m args below meth c s.heap [] 0 0 Q (F0 m 4 ls []) := by
    intro u
    induction u with
    | zero =>
      intro i  hm  ls hl
      refine lv_iload_n hx hb dX5_pairs_4 rfl (lv_at hl 0 rfl) ?_
      refine lv_bipush (v := iI (25)) hx hb dX5_pairs_5 (by decide) ?_
      refine c_geT (tgt := 28) S dX5_pairs_7 (by decide) (by omega) (by omega) (by omega) ?_
      refine lv_iload_n hx hb dX5_pairs_28 rfl (lv_at hl 1 rfl) ?_
      exact hret _ _ _ dX5_pairs_29 (by rw [show i = 25 by omega])
    | succ u ih8 =>
      intro i  hm  ls hl
      refine lv_iload_n hx hb dX5_pairs_4 rfl (lv_at hl 0 rfl) ?_
      refine lv_bipush (v := iI (25)) hx hb dX5_pairs_5 (by decide) ?_
      refine c_geF (tgt := 28) S dX5_pairs_7 (by decide) (by omega) (by omega) (by omega) ?_
      refine lv_iload_n hx hb dX5_pairs_10 rfl (lv_at hl 1 rfl) ?_
      refine lv_aload_n hx hb dX5_pairs_11 rfl (lv_at hl 2 rfl) ?_
      refine w_get (C := RX5) (T := TX5) (Nf := 4) (ci := 5) (v := .ref qs) S (fun _ h => List.mem_cons_of_mem _ (List.mem_append_right _ h)) hE hP 0 rfl rfl 0 (by decide) (List.mem_of_getElem? (i := 1) rfl) rfl dX5_pairs_12 ?_
      refine lv_bipush (v := iI (83)) hx hb dX5_pairs_15 (by decide) ?_
      refine lv_iload_n hx hb dX5_pairs_17 rfl (lv_at hl 0 rfl) ?_
      refine w_iadd S dX5_pairs_18 ?_
      refine w_iald S hE hP 1 rfl (83 + i) (by omega) (by omega) (by omega) dX5_pairs_19 ?_
      refine w_tz (z := ha i) (st_ha (by omega) (by omega)) ?_
      refine w_iadd S dX5_pairs_20 ?_
      refine lv_istore_n (lv' := [(1, .int (iI ((sumTo ha i) + (ha i)))), (2, .int (iI (((i : Nat) : Int)))), (0, .ref q)]) hx hb dX5_pairs_21 rfl hl (by decide) rfl (fun ls hl => ?_)
      refine w_iinc (v := ((i + 1 : Nat) : Int)) (lv' := [(2, .int (iI (((i + 1 : Nat) : Int)))), (1, .int (iI ((sumTo ha i) + (ha i)))), (0, .ref q)]) S dX5_pairs_22 hl (k := 1) rfl (by omega) (by decide) rfl (fun ls hl => ?_)
      refine lv_goto (tgt := 4) hx hb dX5_pairs_25 (by decide) ?_
      have hloc : ((sumTo ha i) + (ha i) : Int) = sumTo ha (i + 1) := rfl
      rw [hloc] at hl
      exact ih8 (i + 1)  (by omega)  _ (lv_sub hl [0, 1, 2] rfl)
  have hloc : (0 : Int) = sumTo ha 0 := rfl
  rw [hloc] at hl
  exact loop8 25 0  (by omega)  _ (lv_sub hl [0, 1, 2] rfl)
set_option maxHeartbeats 4000000 in
set_option maxRecDepth 100000 in
theorem m_count_0 (lc : Launch) (D : va_G) (cI cZ : ClassId) (N : Nat) (q : Nat) (qs : Nat) (qi : Nat) (qk : Nat) (ql : Nat) (mn : Nat) (tA : Int) (sA : Int) (kA : Int) (nb : Nat → Int) (ck : Nat → Int) (hi : Nat → Int) (lo : Nat → Int) (ha : Nat → Int) (cn : Nat → Int) (sm : Nat → Int) (im : Nat → Int) (kp : Nat → Int) (le : Nat → Int)  : CR lc D cI cZ N yX5_count wsX5_count (rmK 2 43) [.ref q, .int (iI (0))] [(q, .inr (5, [.ref qs, .ref qi, .ref qk, .ref ql])), (qs, .inl (cI, 2108, .inl (vI (stF ((mn : Nat) : Int) tA sA kA nb ck hi lo ha cn sm)))), (qi, .inl (cI, 4216, .inl (vI im))), (qk, .inl (cZ, 2, .inl (vI kp))), (ql, .inl (cI, 25, .inl (vI le)))] (some (.int (iI (((mn : Nat) : Int))))) := by
  refine CR.I (cc := cX5_count) (maxL := 2) (by decide) rfl (Nat.le_of_ble_eq_true rfl) ?_
  intro p e s m args below meth c R Q S hE A hAN hfr hlo hP hD hS hret ls hl
  have S : CallFix p m c cX5_count 2 s args wsX5_count RX5 := S
  have hx := S.1
  have hb := S.2.1
  have hl : lv_has ls 2 [(0, .ref q), (1, .int (iI (0)))] := hl
  refine lv_iload_n hx hb dX5_count_0 rfl (lv_at hl 1 rfl) ?_
  refine lv_bipush (v := iI (10)) hx hb dX5_count_1 (by decide) ?_
  refine c_ltT (tgt := 43) S dX5_count_3 (by decide) (by omega) (by omega) (by decide) ?_
  refine lv_iload_n hx hb dX5_count_43 rfl (lv_at hl 1 rfl) ?_
  refine lv_tableIn (off := 44) (tgt := 88) hx hb dX5_count_44 (by decide) (by decide) (by decide) (by decide) ?_
  refine lv_aload_n hx hb dX5_count_88 rfl (lv_at hl 0 rfl) ?_
  refine w_get (C := RX5) (T := TX5) (Nf := 4) (ci := 5) (v := .ref qs) S (fun _ h => List.mem_cons_of_mem _ (List.mem_append_right _ h)) hE hP 0 rfl rfl 0 (by decide) (List.mem_of_getElem? (i := 1) rfl) rfl dX5_count_89 ?_
  refine lv_iconst (v := iI (0)) hx hb dX5_count_92 rfl ?_
  refine w_iald S hE hP 1 rfl (0) (by omega) (by omega) (by omega) dX5_count_93 ?_
  refine w_tz (z := ((mn : Nat) : Int)) rfl ?_
  exact hret _ _ _ dX5_count_94 rfl
set_option maxHeartbeats 4000000 in
set_option maxRecDepth 100000 in
theorem m_count_1 (lc : Launch) (D : va_G) (cI cZ : ClassId) (N : Nat) (q : Nat) (qs : Nat) (qi : Nat) (qk : Nat) (ql : Nat) (mn : Nat) (tA : Int) (sA : Int) (kA : Int) (nb : Nat → Int) (ck : Nat → Int) (hi : Nat → Int) (lo : Nat → Int) (ha : Nat → Int) (cn : Nat → Int) (sm : Nat → Int) (im : Nat → Int) (kp : Nat → Int) (le : Nat → Int)  : CR lc D cI cZ N yX5_count wsX5_count (rmK 2 43) [.ref q, .int (iI (1))] [(q, .inr (5, [.ref qs, .ref qi, .ref qk, .ref ql])), (qs, .inl (cI, 2108, .inl (vI (stF ((mn : Nat) : Int) tA sA kA nb ck hi lo ha cn sm)))), (qi, .inl (cI, 4216, .inl (vI im))), (qk, .inl (cZ, 2, .inl (vI kp))), (ql, .inl (cI, 25, .inl (vI le)))] (some (.int (iI (tA)))) := by
  refine CR.I (cc := cX5_count) (maxL := 2) (by decide) rfl (Nat.le_of_ble_eq_true rfl) ?_
  intro p e s m args below meth c R Q S hE A hAN hfr hlo hP hD hS hret ls hl
  have S : CallFix p m c cX5_count 2 s args wsX5_count RX5 := S
  have hx := S.1
  have hb := S.2.1
  have hl : lv_has ls 2 [(0, .ref q), (1, .int (iI (1)))] := hl
  refine lv_iload_n hx hb dX5_count_0 rfl (lv_at hl 1 rfl) ?_
  refine lv_bipush (v := iI (10)) hx hb dX5_count_1 (by decide) ?_
  refine c_ltT (tgt := 43) S dX5_count_3 (by decide) (by omega) (by omega) (by decide) ?_
  refine lv_iload_n hx hb dX5_count_43 rfl (lv_at hl 1 rfl) ?_
  refine lv_tableIn (off := 51) (tgt := 95) hx hb dX5_count_44 (by decide) (by decide) (by decide) (by decide) ?_
  refine lv_aload_n hx hb dX5_count_95 rfl (lv_at hl 0 rfl) ?_
  refine w_get (C := RX5) (T := TX5) (Nf := 4) (ci := 5) (v := .ref qs) S (fun _ h => List.mem_cons_of_mem _ (List.mem_append_right _ h)) hE hP 0 rfl rfl 0 (by decide) (List.mem_of_getElem? (i := 1) rfl) rfl dX5_count_96 ?_
  refine lv_iconst (v := iI (1)) hx hb dX5_count_99 rfl ?_
  refine w_iald S hE hP 1 rfl (1) (by omega) (by omega) (by omega) dX5_count_100 ?_
  refine w_tz (z := tA) rfl ?_
  exact hret _ _ _ dX5_count_101 rfl
set_option maxHeartbeats 4000000 in
set_option maxRecDepth 100000 in
theorem m_count_2 (lc : Launch) (D : va_G) (cI cZ : ClassId) (N : Nat) (q : Nat) (qs : Nat) (qi : Nat) (qk : Nat) (ql : Nat) (mn : Nat) (tA : Int) (sA : Int) (kA : Int) (nb : Nat → Int) (ck : Nat → Int) (hi : Nat → Int) (lo : Nat → Int) (ha : Nat → Int) (cn : Nat → Int) (sm : Nat → Int) (im : Nat → Int) (kp : Nat → Int) (le : Nat → Int)  : CR lc D cI cZ N yX5_count wsX5_count (rmK 2 43) [.ref q, .int (iI (2))] [(q, .inr (5, [.ref qs, .ref qi, .ref qk, .ref ql])), (qs, .inl (cI, 2108, .inl (vI (stF ((mn : Nat) : Int) tA sA kA nb ck hi lo ha cn sm)))), (qi, .inl (cI, 4216, .inl (vI im))), (qk, .inl (cZ, 2, .inl (vI kp))), (ql, .inl (cI, 25, .inl (vI le)))] (some (.int (iI (sA)))) := by
  refine CR.I (cc := cX5_count) (maxL := 2) (by decide) rfl (Nat.le_of_ble_eq_true rfl) ?_
  intro p e s m args below meth c R Q S hE A hAN hfr hlo hP hD hS hret ls hl
  have S : CallFix p m c cX5_count 2 s args wsX5_count RX5 := S
  have hx := S.1
  have hb := S.2.1
  have hl : lv_has ls 2 [(0, .ref q), (1, .int (iI (2)))] := hl
  refine lv_iload_n hx hb dX5_count_0 rfl (lv_at hl 1 rfl) ?_
  refine lv_bipush (v := iI (10)) hx hb dX5_count_1 (by decide) ?_
  refine c_ltT (tgt := 43) S dX5_count_3 (by decide) (by omega) (by omega) (by decide) ?_
  refine lv_iload_n hx hb dX5_count_43 rfl (lv_at hl 1 rfl) ?_
  refine lv_tableIn (off := 58) (tgt := 102) hx hb dX5_count_44 (by decide) (by decide) (by decide) (by decide) ?_
  refine lv_aload_n hx hb dX5_count_102 rfl (lv_at hl 0 rfl) ?_
  refine w_get (C := RX5) (T := TX5) (Nf := 4) (ci := 5) (v := .ref qs) S (fun _ h => List.mem_cons_of_mem _ (List.mem_append_right _ h)) hE hP 0 rfl rfl 0 (by decide) (List.mem_of_getElem? (i := 1) rfl) rfl dX5_count_103 ?_
  refine lv_iconst (v := iI (2)) hx hb dX5_count_106 rfl ?_
  refine w_iald S hE hP 1 rfl (2) (by omega) (by omega) (by omega) dX5_count_107 ?_
  refine w_tz (z := sA) rfl ?_
  exact hret _ _ _ dX5_count_108 rfl
set_option maxHeartbeats 4000000 in
set_option maxRecDepth 100000 in
theorem m_count_3 (lc : Launch) (D : va_G) (cI cZ : ClassId) (N : Nat) (q : Nat) (qs : Nat) (qi : Nat) (qk : Nat) (ql : Nat) (mn : Nat) (tA : Int) (sA : Int) (kA : Int) (nb : Nat → Int) (ck : Nat → Int) (hi : Nat → Int) (lo : Nat → Int) (ha : Nat → Int) (cn : Nat → Int) (sm : Nat → Int) (im : Nat → Int) (kp : Nat → Int) (le : Nat → Int)  : CR lc D cI cZ N yX5_count wsX5_count (rmK 2 43) [.ref q, .int (iI (3))] [(q, .inr (5, [.ref qs, .ref qi, .ref qk, .ref ql])), (qs, .inl (cI, 2108, .inl (vI (stF ((mn : Nat) : Int) tA sA kA nb ck hi lo ha cn sm)))), (qi, .inl (cI, 4216, .inl (vI im))), (qk, .inl (cZ, 2, .inl (vI kp))), (ql, .inl (cI, 25, .inl (vI le)))] (some (.int (iI (kA)))) := by
  refine CR.I (cc := cX5_count) (maxL := 2) (by decide) rfl (Nat.le_of_ble_eq_true rfl) ?_
  intro p e s m args below meth c R Q S hE A hAN hfr hlo hP hD hS hret ls hl
  have S : CallFix p m c cX5_count 2 s args wsX5_count RX5 := S
  have hx := S.1
  have hb := S.2.1
  have hl : lv_has ls 2 [(0, .ref q), (1, .int (iI (3)))] := hl
  refine lv_iload_n hx hb dX5_count_0 rfl (lv_at hl 1 rfl) ?_
  refine lv_bipush (v := iI (10)) hx hb dX5_count_1 (by decide) ?_
  refine c_ltT (tgt := 43) S dX5_count_3 (by decide) (by omega) (by omega) (by decide) ?_
  refine lv_iload_n hx hb dX5_count_43 rfl (lv_at hl 1 rfl) ?_
  refine lv_tableIn (off := 65) (tgt := 109) hx hb dX5_count_44 (by decide) (by decide) (by decide) (by decide) ?_
  refine lv_aload_n hx hb dX5_count_109 rfl (lv_at hl 0 rfl) ?_
  refine w_get (C := RX5) (T := TX5) (Nf := 4) (ci := 5) (v := .ref qs) S (fun _ h => List.mem_cons_of_mem _ (List.mem_append_right _ h)) hE hP 0 rfl rfl 0 (by decide) (List.mem_of_getElem? (i := 1) rfl) rfl dX5_count_110 ?_
  refine lv_iconst (v := iI (3)) hx hb dX5_count_113 rfl ?_
  refine w_iald S hE hP 1 rfl (3) (by omega) (by omega) (by omega) dX5_count_114 ?_
  refine w_tz (z := kA) rfl ?_
  exact hret _ _ _ dX5_count_115 rfl
set_option maxHeartbeats 4000000 in
set_option maxRecDepth 100000 in
theorem m_count_4 (lc : Launch) (D : va_G) (cI cZ : ClassId) (N : Nat) (q : Nat) (qs : Nat) (qi : Nat) (qk : Nat) (ql : Nat) (mn : Nat) (tA : Int) (sA : Int) (kA : Int) (nb : Nat → Int) (ck : Nat → Int) (hi : Nat → Int) (lo : Nat → Int) (ha : Nat → Int) (cn : Nat → Int) (sm : Nat → Int) (im : Nat → Int) (kp : Nat → Int) (le : Nat → Int) (hsA : 0 ≤ sA ∧ sA ≤ 200) (hkA : 1 ≤ kA ∧ kA ≤ 20) : CR lc D cI cZ N yX5_count wsX5_count (rmK 2 43) [.ref q, .int (iI (4))] [(q, .inr (5, [.ref qs, .ref qi, .ref qk, .ref ql])), (qs, .inl (cI, 2108, .inl (vI (stF ((mn : Nat) : Int) tA sA kA nb ck hi lo ha cn sm)))), (qi, .inl (cI, 4216, .inl (vI im))), (qk, .inl (cZ, 2, .inl (vI kp))), (ql, .inl (cI, 25, .inl (vI le)))] (some (.int (iI ((sA + kA - 1).tdiv kA)))) := by
  refine CR.I (cc := cX5_count) (maxL := 2) (by decide) rfl (Nat.le_of_ble_eq_true rfl) ?_
  intro p e s m args below meth c R Q S hE A hAN hfr hlo hP hD hS hret ls hl
  have S : CallFix p m c cX5_count 2 s args wsX5_count RX5 := S
  have hx := S.1
  have hb := S.2.1
  have hl : lv_has ls 2 [(0, .ref q), (1, .int (iI (4)))] := hl
  refine lv_iload_n hx hb dX5_count_0 rfl (lv_at hl 1 rfl) ?_
  refine lv_bipush (v := iI (10)) hx hb dX5_count_1 (by decide) ?_
  refine c_ltT (tgt := 43) S dX5_count_3 (by decide) (by omega) (by omega) (by decide) ?_
  refine lv_iload_n hx hb dX5_count_43 rfl (lv_at hl 1 rfl) ?_
  refine lv_tableIn (off := 72) (tgt := 116) hx hb dX5_count_44 (by decide) (by decide) (by decide) (by decide) ?_
  refine lv_aload_n hx hb dX5_count_116 rfl (lv_at hl 0 rfl) ?_
  refine kV_R (n := 0) (ci := 5) (q := (RX5, TX5, 4)) S (m_blocksSent lc D cI cZ N q qs qi qk ql mn tA sA kA nb ck hi lo ha cn sm im kp le (by omega) (by omega)) gX5_count_X5_blocksSent rfl rfl (by decide +kernel) rfl rfl ⟨Nat.le_trans (Nat.le_of_ble_eq_true rfl) hfr, Nat.le_trans (Nat.le_of_ble_eq_true rfl) hlo⟩ hE hAN hP hD hS [0, 1, 2, 3, 4] rfl (by decide) rfl rfl rfl rfl hl.1 [] rfl (Nat.le_of_ble_eq_true rfl) dX5_count_117 ⟨Nat.zero_le _, Nat.zero_le _⟩ ?_
  refine W.eq (g2 := F0 m 120 ls [.int (iI ((sA + kA - 1).tdiv kA))]) rfl ?_
  exact hret _ _ _ dX5_count_120 rfl
set_option maxHeartbeats 4000000 in
set_option maxRecDepth 100000 in
theorem m_count_5 (lc : Launch) (D : va_G) (cI cZ : ClassId) (N : Nat) (q : Nat) (qs : Nat) (qi : Nat) (qk : Nat) (ql : Nat) (mn : Nat) (tA : Int) (sA : Int) (kA : Int) (nb : Nat → Int) (ck : Nat → Int) (hi : Nat → Int) (lo : Nat → Int) (ha : Nat → Int) (cn : Nat → Int) (sm : Nat → Int) (im : Nat → Int) (kp : Nat → Int) (le : Nat → Int)  : CR lc D cI cZ N yX5_count wsX5_count (rmK 2 43) [.ref q, .int (iI (5))] [(q, .inr (5, [.ref qs, .ref qi, .ref qk, .ref ql])), (qs, .inl (cI, 2108, .inl (vI (stF ((mn : Nat) : Int) tA sA kA nb ck hi lo ha cn sm)))), (qi, .inl (cI, 4216, .inl (vI im))), (qk, .inl (cZ, 2, .inl (vI kp))), (ql, .inl (cI, 25, .inl (vI le)))] (some (.int (iI (sumTo ha 25)))) := by
  refine CR.I (cc := cX5_count) (maxL := 2) (by decide) rfl (Nat.le_of_ble_eq_true rfl) ?_
  intro p e s m args below meth c R Q S hE A hAN hfr hlo hP hD hS hret ls hl
  have S : CallFix p m c cX5_count 2 s args wsX5_count RX5 := S
  have hx := S.1
  have hb := S.2.1
  have hl : lv_has ls 2 [(0, .ref q), (1, .int (iI (5)))] := hl
  refine lv_iload_n hx hb dX5_count_0 rfl (lv_at hl 1 rfl) ?_
  refine lv_bipush (v := iI (10)) hx hb dX5_count_1 (by decide) ?_
  refine c_ltT (tgt := 43) S dX5_count_3 (by decide) (by omega) (by omega) (by decide) ?_
  refine lv_iload_n hx hb dX5_count_43 rfl (lv_at hl 1 rfl) ?_
  refine lv_tableIn (off := 77) (tgt := 121) hx hb dX5_count_44 (by decide) (by decide) (by decide) (by decide) ?_
  refine lv_aload_n hx hb dX5_count_121 rfl (lv_at hl 0 rfl) ?_
  refine kV_R (n := 0) (ci := 5) (q := (RX5, TX5, 4)) S (m_pairs lc D cI cZ N q qs qi qk ql mn tA sA kA nb ck hi lo ha cn sm im kp le ) gX5_count_X5_pairs rfl rfl (by decide +kernel) rfl rfl ⟨Nat.le_trans (Nat.le_of_ble_eq_true rfl) hfr, Nat.le_trans (Nat.le_of_ble_eq_true rfl) hlo⟩ hE hAN hP hD hS [0, 1, 2, 3, 4] rfl (by decide) rfl rfl rfl rfl hl.1 [] rfl (Nat.le_of_ble_eq_true rfl) dX5_count_122 ⟨Nat.zero_le _, Nat.zero_le _⟩ ?_
  refine W.eq (g2 := F0 m 125 ls [.int (iI (sumTo ha 25))]) rfl ?_
  exact hret _ _ _ dX5_count_125 rfl
set_option maxHeartbeats 4000000 in
set_option maxRecDepth 100000 in
theorem m_count_6 (lc : Launch) (D : va_G) (cI cZ : ClassId) (N : Nat) (q : Nat) (qs : Nat) (qi : Nat) (qk : Nat) (ql : Nat) (mn : Nat) (tA : Int) (sA : Int) (kA : Int) (nb : Nat → Int) (ck : Nat → Int) (hi : Nat → Int) (lo : Nat → Int) (ha : Nat → Int) (cn : Nat → Int) (sm : Nat → Int) (im : Nat → Int) (le : Nat → Int) (b0 : Int) (b1 : Int) (h0 : b0 = 0 ∨ b0 = 1) (h1 : b1 = 0 ∨ b1 = 1) : CR lc D cI cZ N yX5_count wsX5_count (rmK 2 43) [.ref q, .int (iI (6))] [(q, .inr (5, [.ref qs, .ref qi, .ref qk, .ref ql])), (qs, .inl (cI, 2108, .inl (vI (stF ((mn : Nat) : Int) tA sA kA nb ck hi lo ha cn sm)))), (qi, .inl (cI, 4216, .inl (vI im))), (qk, .inl (cZ, 2, .inl (vI (kpF b0 b1)))), (ql, .inl (cI, 25, .inl (vI le)))] (some (.int (iI (b0 + 2 * b1)))) := by
  refine CR.I (cc := cX5_count) (maxL := 2) (by decide) rfl (Nat.le_of_ble_eq_true rfl) ?_
  intro p e s m args below meth c R Q S hE A hAN hfr hlo hP hD hS hret ls hl
  have S : CallFix p m c cX5_count 2 s args wsX5_count RX5 := S
  have hx := S.1
  have hb := S.2.1
  have hl : lv_has ls 2 [(0, .ref q), (1, .int (iI (6)))] := hl
  refine lv_iload_n hx hb dX5_count_0 rfl (lv_at hl 1 rfl) ?_
  refine lv_bipush (v := iI (10)) hx hb dX5_count_1 (by decide) ?_
  refine c_ltT (tgt := 43) S dX5_count_3 (by decide) (by omega) (by omega) (by decide) ?_
  refine lv_iload_n hx hb dX5_count_43 rfl (lv_at hl 1 rfl) ?_
  refine lv_tableIn (off := 82) (tgt := 126) hx hb dX5_count_44 (by decide) (by decide) (by decide) (by decide) ?_
  by_cases g0 : b0 = 0
  · refine lv_aload_n hx hb dX5_count_126 rfl (lv_at hl 0 rfl) ?_
    refine w_get (C := RX5) (T := TX5) (Nf := 4) (ci := 5) (v := .ref qk) S (fun _ h => List.mem_cons_of_mem _ (List.mem_append_right _ h)) hE hP 0 rfl rfl 2 (by decide) (List.mem_of_getElem? (i := 2) rfl) rfl dX5_count_127 ?_
    refine lv_iconst (v := iI (0)) hx hb dX5_count_130 rfl ?_
    refine w_zald S hE hP 3 rfl (0) (by omega) (by omega) (by omega) dX5_count_131 ?_
    refine w_tz (z := b0) rfl ?_
    refine b_eqT (tgt := 139) S dX5_count_132 (by decide) (by omega) ?_
    refine lv_iconst (v := iI (0)) hx hb dX5_count_139 rfl ?_
    by_cases g1 : b1 = 0
    · refine lv_aload_n hx hb dX5_count_140 rfl (lv_at hl 0 rfl) ?_
      refine w_get (C := RX5) (T := TX5) (Nf := 4) (ci := 5) (v := .ref qk) S (fun _ h => List.mem_cons_of_mem _ (List.mem_append_right _ h)) hE hP 0 rfl rfl 2 (by decide) (List.mem_of_getElem? (i := 2) rfl) rfl dX5_count_141 ?_
      refine lv_iconst (v := iI (1)) hx hb dX5_count_144 rfl ?_
      refine w_zald S hE hP 3 rfl (1) (by omega) (by omega) (by omega) dX5_count_145 ?_
      refine w_tz (z := b1) rfl ?_
      refine b_eqT (tgt := 153) S dX5_count_146 (by decide) (by omega) ?_
      refine lv_iconst (v := iI (0)) hx hb dX5_count_153 rfl ?_
      refine w_iadd S dX5_count_154 ?_
      refine w_tz (z := 0) (by decide) ?_
      exact hret _ _ _ dX5_count_155 (congrArg iI (by omega))
    · refine lv_aload_n hx hb dX5_count_140 rfl (lv_at hl 0 rfl) ?_
      refine w_get (C := RX5) (T := TX5) (Nf := 4) (ci := 5) (v := .ref qk) S (fun _ h => List.mem_cons_of_mem _ (List.mem_append_right _ h)) hE hP 0 rfl rfl 2 (by decide) (List.mem_of_getElem? (i := 2) rfl) rfl dX5_count_141 ?_
      refine lv_iconst (v := iI (1)) hx hb dX5_count_144 rfl ?_
      refine w_zald S hE hP 3 rfl (1) (by omega) (by omega) (by omega) dX5_count_145 ?_
      refine w_tz (z := b1) rfl ?_
      refine b_eqF (tgt := 153) S dX5_count_146 (by decide) (by omega) (by omega) ?_
      refine lv_iconst (v := iI (2)) hx hb dX5_count_149 rfl ?_
      refine lv_goto (tgt := 154) hx hb dX5_count_150 (by decide) ?_
      refine w_iadd S dX5_count_154 ?_
      refine w_tz (z := 2) (by decide) ?_
      exact hret _ _ _ dX5_count_155 (congrArg iI (by omega))
  · refine lv_aload_n hx hb dX5_count_126 rfl (lv_at hl 0 rfl) ?_
    refine w_get (C := RX5) (T := TX5) (Nf := 4) (ci := 5) (v := .ref qk) S (fun _ h => List.mem_cons_of_mem _ (List.mem_append_right _ h)) hE hP 0 rfl rfl 2 (by decide) (List.mem_of_getElem? (i := 2) rfl) rfl dX5_count_127 ?_
    refine lv_iconst (v := iI (0)) hx hb dX5_count_130 rfl ?_
    refine w_zald S hE hP 3 rfl (0) (by omega) (by omega) (by omega) dX5_count_131 ?_
    refine w_tz (z := b0) rfl ?_
    refine b_eqF (tgt := 139) S dX5_count_132 (by decide) (by omega) (by omega) ?_
    refine lv_iconst (v := iI (1)) hx hb dX5_count_135 rfl ?_
    refine lv_goto (tgt := 140) hx hb dX5_count_136 (by decide) ?_
    by_cases g1 : b1 = 0
    · refine lv_aload_n hx hb dX5_count_140 rfl (lv_at hl 0 rfl) ?_
      refine w_get (C := RX5) (T := TX5) (Nf := 4) (ci := 5) (v := .ref qk) S (fun _ h => List.mem_cons_of_mem _ (List.mem_append_right _ h)) hE hP 0 rfl rfl 2 (by decide) (List.mem_of_getElem? (i := 2) rfl) rfl dX5_count_141 ?_
      refine lv_iconst (v := iI (1)) hx hb dX5_count_144 rfl ?_
      refine w_zald S hE hP 3 rfl (1) (by omega) (by omega) (by omega) dX5_count_145 ?_
      refine w_tz (z := b1) rfl ?_
      refine b_eqT (tgt := 153) S dX5_count_146 (by decide) (by omega) ?_
      refine lv_iconst (v := iI (0)) hx hb dX5_count_153 rfl ?_
      refine w_iadd S dX5_count_154 ?_
      refine w_tz (z := 1) (by decide) ?_
      exact hret _ _ _ dX5_count_155 (congrArg iI (by omega))
    · refine lv_aload_n hx hb dX5_count_140 rfl (lv_at hl 0 rfl) ?_
      refine w_get (C := RX5) (T := TX5) (Nf := 4) (ci := 5) (v := .ref qk) S (fun _ h => List.mem_cons_of_mem _ (List.mem_append_right _ h)) hE hP 0 rfl rfl 2 (by decide) (List.mem_of_getElem? (i := 2) rfl) rfl dX5_count_141 ?_
      refine lv_iconst (v := iI (1)) hx hb dX5_count_144 rfl ?_
      refine w_zald S hE hP 3 rfl (1) (by omega) (by omega) (by omega) dX5_count_145 ?_
      refine w_tz (z := b1) rfl ?_
      refine b_eqF (tgt := 153) S dX5_count_146 (by decide) (by omega) (by omega) ?_
      refine lv_iconst (v := iI (2)) hx hb dX5_count_149 rfl ?_
      refine lv_goto (tgt := 154) hx hb dX5_count_150 (by decide) ?_
      refine w_iadd S dX5_count_154 ?_
      refine w_tz (z := 3) (by decide) ?_
      exact hret _ _ _ dX5_count_155 (congrArg iI (by omega))
set_option maxHeartbeats 4000000 in
set_option maxRecDepth 100000 in
theorem m_count_O1 (lc : Launch) (D : va_G) (cI cZ : ClassId) (N : Nat) (q : Nat) (qs : Nat) (qi : Nat) (qk : Nat) (ql : Nat) (mn : Nat) (tA : Int) (sA : Int) (kA : Int) (nb : Nat → Int) (ck : Nat → Int) (hi : Nat → Int) (lo : Nat → Int) (ha : Nat → Int) (cn : Nat → Int) (sm : Nat → Int) (im : Nat → Int) (kp : Nat → Int) (le : Nat → Int) (x : Int) (r_x : -2147483648 ≤ x ∧ x ≤ 2147483647) (h : x < 10 ∧ ¬ (0 ≤ x ∧ x ≤ 6)) : CR lc D cI cZ N yX5_count wsX5_count (rmK 2 43) [.ref q, .int (iI (x))] [(q, .inr (5, [.ref qs, .ref qi, .ref qk, .ref ql])), (qs, .inl (cI, 2108, .inl (vI (stF ((mn : Nat) : Int) tA sA kA nb ck hi lo ha cn sm)))), (qi, .inl (cI, 4216, .inl (vI im))), (qk, .inl (cZ, 2, .inl (vI kp))), (ql, .inl (cI, 25, .inl (vI le)))] (some (.int (iI (-2)))) := by
  refine CR.I (cc := cX5_count) (maxL := 2) (by decide) rfl (Nat.le_of_ble_eq_true rfl) ?_
  intro p e s m args below meth c R Q S hE A hAN hfr hlo hP hD hS hret ls hl
  have S : CallFix p m c cX5_count 2 s args wsX5_count RX5 := S
  have hx := S.1
  have hb := S.2.1
  have hl : lv_has ls 2 [(0, .ref q), (1, .int (iI (x)))] := hl
  refine lv_iload_n hx hb dX5_count_0 rfl (lv_at hl 1 rfl) ?_
  refine lv_bipush (v := iI (10)) hx hb dX5_count_1 (by decide) ?_
  refine c_ltT (tgt := 43) S dX5_count_3 (by decide) (by omega) (by omega) (by omega) ?_
  refine lv_iload_n hx hb dX5_count_43 rfl (lv_at hl 1 rfl) ?_
  refine lv_tableOut (tgt := 156) hx hb dX5_count_44 (by rw [iI_toInt (by omega)]; omega) (by decide) ?_
  refine lv_bipush (v := iI ((-2))) hx hb dX5_count_156 (by decide) ?_
  exact hret _ _ _ dX5_count_158 (congrArg iI (by omega))
set_option maxHeartbeats 4000000 in
set_option maxRecDepth 100000 in
theorem m_count_O2 (lc : Launch) (D : va_G) (cI cZ : ClassId) (N : Nat) (q : Nat) (qs : Nat) (qi : Nat) (qk : Nat) (ql : Nat) (mn : Nat) (tA : Int) (sA : Int) (kA : Int) (nb : Nat → Int) (ck : Nat → Int) (hi : Nat → Int) (lo : Nat → Int) (ha : Nat → Int) (cn : Nat → Int) (sm : Nat → Int) (im : Nat → Int) (kp : Nat → Int) (le : Nat → Int) (x : Int) (hmn : 2 ≤ mn ∧ mn ≤ 5) (r_x : -2147483648 ≤ x ∧ x ≤ 2147483647) (h : 10 ≤ x) (h2 : ¬ ((0 ≤ x.tdiv 10 - 1 ∧ x.tdiv 10 - 1 ≤ (mn : Int) - 2) ∧ (0 ≤ x.tmod 10 ∧ x.tmod 10 ≤ 5))) : CR lc D cI cZ N yX5_count wsX5_count (rmK 2 43) [.ref q, .int (iI (x))] [(q, .inr (5, [.ref qs, .ref qi, .ref qk, .ref ql])), (qs, .inl (cI, 2108, .inl (vI (stF ((mn : Nat) : Int) tA sA kA nb ck hi lo ha cn sm)))), (qi, .inl (cI, 4216, .inl (vI im))), (qk, .inl (cZ, 2, .inl (vI kp))), (ql, .inl (cI, 25, .inl (vI le)))] (some (.int (iI (-2)))) := by
  refine CR.I (cc := cX5_count) (maxL := 2) (by decide) rfl (Nat.le_of_ble_eq_true rfl) ?_
  intro p e s m args below meth c R Q S hE A hAN hfr hlo hP hD hS hret ls hl
  have S : CallFix p m c cX5_count 2 s args wsX5_count RX5 := S
  have hx := S.1
  have hb := S.2.1
  have hl : lv_has ls 2 [(0, .ref q), (1, .int (iI (x)))] := hl
  refine lv_iload_n hx hb dX5_count_0 rfl (lv_at hl 1 rfl) ?_
  refine lv_bipush (v := iI (10)) hx hb dX5_count_1 (by decide) ?_
  refine c_ltF (tgt := 43) S dX5_count_3 (by decide) (by omega) (by omega) (by omega) ?_
  have g1 := tmod_rng (t := x) (d := 10) (by omega) (by omega)
  have g2 : 0 ≤ x.tdiv 10 ∧ x.tdiv 10 ≤ x := ⟨Int.tdiv_nonneg (by omega) (by omega), Int.tdiv_le_self _ (by omega)⟩
  by_cases h3 : (0 ≤ x.tdiv 10 - 1 ∧ x.tdiv 10 - 1 ≤ (mn : Int) - 2)
  · refine lv_aload_n hx hb dX5_count_6 rfl (lv_at hl 0 rfl) ?_
    refine lv_iload_n hx hb dX5_count_7 rfl (lv_at hl 1 rfl) ?_
    refine lv_bipush (v := iI (10)) hx hb dX5_count_8 (by decide) ?_
    refine w_idiv S (by omega) (by omega) dX5_count_10 ?_
    refine lv_iconst (v := iI (1)) hx hb dX5_count_11 rfl ?_
    refine w_isub S dX5_count_12 ?_
    refine kV_R (n := 1) (ci := 5) (q := (RX5, TX5, 4)) S (m_isLink_T lc D cI cZ N q qs qi qk ql mn tA sA kA nb ck hi lo ha cn sm im kp le ((x.tdiv 10) - 1) (by omega) (by omega) (by omega)) gX5_count_X5_isLink rfl rfl (by decide +kernel) rfl rfl ⟨Nat.le_trans (Nat.le_of_ble_eq_true rfl) hfr, Nat.le_trans (Nat.le_of_ble_eq_true rfl) hlo⟩ hE hAN hP hD hS [0, 1, 2, 3, 4] rfl (by decide) rfl rfl rfl rfl hl.1 [] rfl (Nat.le_of_ble_eq_true rfl) dX5_count_13 ⟨Nat.zero_le _, Nat.zero_le _⟩ ?_
    refine W.eq (g2 := F0 m 16 ls [.int (iI (1))]) rfl ?_
    refine b_eqF (tgt := 43) S dX5_count_16 (by decide) (by decide) (by decide) ?_
    refine lv_iload_n hx hb dX5_count_19 rfl (lv_at hl 1 rfl) ?_
    refine lv_bipush (v := iI (10)) hx hb dX5_count_20 (by decide) ?_
    refine w_irem S (by omega) (by omega) dX5_count_22 ?_
    refine lv_bipush (v := iI (6)) hx hb dX5_count_23 (by decide) ?_
    refine c_geT (tgt := 43) S dX5_count_25 (by decide) (by omega) (by omega) (by omega) ?_
    refine lv_iload_n hx hb dX5_count_43 rfl (lv_at hl 1 rfl) ?_
    refine lv_tableOut (tgt := 156) hx hb dX5_count_44 (by rw [iI_toInt (by omega)]; omega) (by decide) ?_
    refine lv_bipush (v := iI ((-2))) hx hb dX5_count_156 (by decide) ?_
    exact hret _ _ _ dX5_count_158 (congrArg iI (by omega))
  · refine lv_aload_n hx hb dX5_count_6 rfl (lv_at hl 0 rfl) ?_
    refine lv_iload_n hx hb dX5_count_7 rfl (lv_at hl 1 rfl) ?_
    refine lv_bipush (v := iI (10)) hx hb dX5_count_8 (by decide) ?_
    refine w_idiv S (by omega) (by omega) dX5_count_10 ?_
    refine lv_iconst (v := iI (1)) hx hb dX5_count_11 rfl ?_
    refine w_isub S dX5_count_12 ?_
    refine kV_R (n := 1) (ci := 5) (q := (RX5, TX5, 4)) S (m_isLink_F lc D cI cZ N q qs qi qk ql mn tA sA kA nb ck hi lo ha cn sm im kp le ((x.tdiv 10) - 1) (by omega) (by omega) (by omega)) gX5_count_X5_isLink rfl rfl (by decide +kernel) rfl rfl ⟨Nat.le_trans (Nat.le_of_ble_eq_true rfl) hfr, Nat.le_trans (Nat.le_of_ble_eq_true rfl) hlo⟩ hE hAN hP hD hS [0, 1, 2, 3, 4] rfl (by decide) rfl rfl rfl rfl hl.1 [] rfl (Nat.le_of_ble_eq_true rfl) dX5_count_13 ⟨Nat.zero_le _, Nat.zero_le _⟩ ?_
    refine W.eq (g2 := F0 m 16 ls [.int (iI (0))]) rfl ?_
    refine b_eqT (tgt := 43) S dX5_count_16 (by decide) (by decide) ?_
    refine lv_iload_n hx hb dX5_count_43 rfl (lv_at hl 1 rfl) ?_
    refine lv_tableOut (tgt := 156) hx hb dX5_count_44 (by rw [iI_toInt (by omega)]; omega) (by decide) ?_
    refine lv_bipush (v := iI ((-2))) hx hb dX5_count_156 (by decide) ?_
    exact hret _ _ _ dX5_count_158 (congrArg iI (by omega))
set_option maxHeartbeats 4000000 in
set_option maxRecDepth 100000 in
theorem m_count_L (lc : Launch) (D : va_G) (cI cZ : ClassId) (N : Nat) (q : Nat) (qs : Nat) (qi : Nat) (qk : Nat) (ql : Nat) (mn : Nat) (tA : Int) (sA : Int) (kA : Int) (nb : Nat → Int) (ck : Nat → Int) (hi : Nat → Int) (lo : Nat → Int) (ha : Nat → Int) (cn : Nat → Int) (sm : Nat → Int) (im : Nat → Int) (kp : Nat → Int) (le : Nat → Int) (lk : Nat) (wh : Nat) (hmn : 2 ≤ mn ∧ mn ≤ 5) (h : lk + 2 ≤ mn) (hwh : wh < 6) : CR lc D cI cZ N yX5_count wsX5_count (rmK 2 43) [.ref q, .int (iI (((10 + 10 * lk + wh : Nat) : Int)))] [(q, .inr (5, [.ref qs, .ref qi, .ref qk, .ref ql])), (qs, .inl (cI, 2108, .inl (vI (stF ((mn : Nat) : Int) tA sA kA nb ck hi lo ha cn sm)))), (qi, .inl (cI, 4216, .inl (vI im))), (qk, .inl (cZ, 2, .inl (vI kp))), (ql, .inl (cI, 25, .inl (vI le)))] (some (.int (iI (nb (lk * 6 + wh))))) := by
  refine CR.I (cc := cX5_count) (maxL := 2) (by decide) rfl (Nat.le_of_ble_eq_true rfl) ?_
  intro p e s m args below meth c R Q S hE A hAN hfr hlo hP hD hS hret ls hl
  have S : CallFix p m c cX5_count 2 s args wsX5_count RX5 := S
  have hx := S.1
  have hb := S.2.1
  have hl : lv_has ls 2 [(0, .ref q), (1, .int (iI (((10 + 10 * lk + wh : Nat) : Int))))] := hl
  refine lv_iload_n hx hb dX5_count_0 rfl (lv_at hl 1 rfl) ?_
  refine lv_bipush (v := iI (10)) hx hb dX5_count_1 (by decide) ?_
  refine c_ltF (tgt := 43) S dX5_count_3 (by decide) (by omega) (by omega) (by omega) ?_
  refine lv_aload_n hx hb dX5_count_6 rfl (lv_at hl 0 rfl) ?_
  refine lv_iload_n hx hb dX5_count_7 rfl (lv_at hl 1 rfl) ?_
  refine lv_bipush (v := iI (10)) hx hb dX5_count_8 (by decide) ?_
  refine w_idiv S (by omega) (by omega) dX5_count_10 ?_
  refine w_tz (z := ((1 + lk : Nat) : Int)) (by rw [show (10 : Int) = ((10 : Nat) : Int) from rfl, ← Int.ofNat_tdiv]; omega) ?_
  refine lv_iconst (v := iI (1)) hx hb dX5_count_11 rfl ?_
  refine w_isub S dX5_count_12 ?_
  refine w_tz (z := ((lk : Nat) : Int)) (by omega) ?_
  refine kV_R (n := 1) (ci := 5) (q := (RX5, TX5, 4)) S (m_isLink_T lc D cI cZ N q qs qi qk ql mn tA sA kA nb ck hi lo ha cn sm im kp le ((lk : Nat) : Int) (by omega) (by omega) (by omega)) gX5_count_X5_isLink rfl rfl (by decide +kernel) rfl rfl ⟨Nat.le_trans (Nat.le_of_ble_eq_true rfl) hfr, Nat.le_trans (Nat.le_of_ble_eq_true rfl) hlo⟩ hE hAN hP hD hS [0, 1, 2, 3, 4] rfl (by decide) rfl rfl rfl rfl hl.1 [] rfl (Nat.le_of_ble_eq_true rfl) dX5_count_13 ⟨Nat.zero_le _, Nat.zero_le _⟩ ?_
  refine W.eq (g2 := F0 m 16 ls [.int (iI (1))]) rfl ?_
  refine b_eqF (tgt := 43) S dX5_count_16 (by decide) (by decide) (by decide) ?_
  refine lv_iload_n hx hb dX5_count_19 rfl (lv_at hl 1 rfl) ?_
  refine lv_bipush (v := iI (10)) hx hb dX5_count_20 (by decide) ?_
  refine w_irem S (by omega) (by omega) dX5_count_22 ?_
  refine w_tz (z := ((wh : Nat) : Int)) (by rw [show (10 : Int) = ((10 : Nat) : Int) from rfl, ← Int.ofNat_tmod]; omega) ?_
  refine lv_bipush (v := iI (6)) hx hb dX5_count_23 (by decide) ?_
  refine c_geF (tgt := 43) S dX5_count_25 (by decide) (by omega) (by omega) (by omega) ?_
  refine lv_aload_n hx hb dX5_count_28 rfl (lv_at hl 0 rfl) ?_
  refine lv_iload_n hx hb dX5_count_29 rfl (lv_at hl 1 rfl) ?_
  refine lv_bipush (v := iI (10)) hx hb dX5_count_30 (by decide) ?_
  refine w_idiv S (by omega) (by omega) dX5_count_32 ?_
  refine w_tz (z := ((1 + lk : Nat) : Int)) (by rw [show (10 : Int) = ((10 : Nat) : Int) from rfl, ← Int.ofNat_tdiv]; omega) ?_
  refine lv_iconst (v := iI (1)) hx hb dX5_count_33 rfl ?_
  refine w_isub S dX5_count_34 ?_
  refine w_tz (z := ((lk : Nat) : Int)) (by omega) ?_
  refine lv_iload_n hx hb dX5_count_35 rfl (lv_at hl 1 rfl) ?_
  refine lv_bipush (v := iI (10)) hx hb dX5_count_36 (by decide) ?_
  refine w_irem S (by omega) (by omega) dX5_count_38 ?_
  refine w_tz (z := ((wh : Nat) : Int)) (by rw [show (10 : Int) = ((10 : Nat) : Int) from rfl, ← Int.ofNat_tmod]; omega) ?_
  refine kV_R (n := 2) (ci := 5) (q := (RX5, TX5, 4)) S (m_linkOf lc D cI cZ N q qs qi qk ql mn tA sA kA nb ck hi lo ha cn sm im kp le lk wh (by omega)) gX5_count_X5_linkOf rfl rfl (by decide +kernel) rfl rfl ⟨Nat.le_trans (Nat.le_of_ble_eq_true rfl) hfr, Nat.le_trans (Nat.le_of_ble_eq_true rfl) hlo⟩ hE hAN hP hD hS [0, 1, 2, 3, 4] rfl (by decide) rfl rfl rfl rfl hl.1 [] rfl (Nat.le_of_ble_eq_true rfl) dX5_count_39 ⟨Nat.zero_le _, Nat.zero_le _⟩ ?_
  refine W.eq (g2 := F0 m 42 ls [.int (iI (nb (lk * 6 + wh)))]) rfl ?_
  exact hret _ _ _ dX5_count_42 rfl
