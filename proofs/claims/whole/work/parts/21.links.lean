set_option maxHeartbeats 4000000 in
set_option maxRecDepth 100000 in
theorem c_read (lc : Launch) (D : va_G) (cI cZ : ClassId) (N : Nat) (k : Nat) (kn : Nat) (nb : Nat → Int) (l : Nat) (w : Nat) (hw : l * 6 + w < 24) : CR lc D cI cZ N yX1_read wsX1_read (rmK 0 0) [.ref k, .int (iI (((l : Nat) : Int))), .int (iI (((w : Nat) : Int)))] [(k, .inr (1, [.ref kn])), (kn, .inl (cI, 24, .inl (vI nb)))] (some (.int (iI (nb (l * 6 + w))))) := by
  refine CR.I (cc := cX1_read) (maxL := 3) (by decide) rfl (Nat.le_of_ble_eq_true rfl) ?_
  intro p e s m args below meth c R Q S hE A hAN hfr hlo hP hD hS hret ls hl
  have S : CallFix p m c cX1_read 3 s args wsX1_read RX1 := S
  have hx := S.1
  have hb := S.2.1
  have hl : lv_has ls 3 [(0, .ref k), (1, .int (iI (((l : Nat) : Int)))), (2, .int (iI (((w : Nat) : Int))))] := hl
  refine lv_aload_n hx hb dX1_read_0 rfl (lv_at hl 0 rfl) ?_
  refine w_get (C := RX1) (T := TX1) (Nf := 1) (ci := 1) (v := .ref kn) S (fun _ h => List.mem_cons_of_mem _ (List.mem_append_right _ h)) hE hP 0 rfl rfl 0 (by decide) (List.mem_of_getElem? (i := 1) rfl) rfl dX1_read_1 ?_
  refine lv_iload_n hx hb dX1_read_4 rfl (lv_at hl 1 rfl) ?_
  refine lv_bipush (v := iI (6)) hx hb dX1_read_5 (by decide) ?_
  refine w_imul S dX1_read_7 ?_
  refine lv_iload_n hx hb dX1_read_8 rfl (lv_at hl 2 rfl) ?_
  refine w_iadd S dX1_read_9 ?_
  refine w_iald S hE hP 1 rfl ((l * 6) + w) (by omega) (by omega) (by omega) dX1_read_10 ?_
  exact hret _ _ _ dX1_read_11 (congrArg iI (by omega))
set_option maxHeartbeats 4000000 in
set_option maxRecDepth 100000 in
theorem c_write (lc : Launch) (D : va_G) (cI cZ : ClassId) (N : Nat) (k : Nat) (kn : Nat) (nb : Nat → Int) (l : Nat) (w : Nat) (v : Int) (hw : l * 6 + w < 24) : CM lc D cI cZ N yX1_write wsX1_write (rmK 0 0) [.ref k, .int (iI (((l : Nat) : Int))), .int (iI (((w : Nat) : Int))), .int (iI (v))] [(k, .inr (1, [.ref kn])), (kn, .inl (cI, 24, .inl (vI nb)))] none [(k, .inr (1, [.ref kn])), (kn, .inl (cI, 24, .inl (vI (updI nb (l * 6 + w) v))))] := by
  refine CM.V (cc := cX1_write) (maxL := 4) (by decide) rfl (Nat.le_of_ble_eq_true rfl) ?_
  intro p e s m args below meth c R Q S hE A hAN hfr hlo hP hD hS hret ls hl
  have S : CallFix p m c cX1_write 4 s args wsX1_write RX1 := S
  have hx := S.1
  have hb := S.2.1
  have hl : lv_has ls 4 [(0, .ref k), (1, .int (iI (((l : Nat) : Int)))), (2, .int (iI (((w : Nat) : Int)))), (3, .int (iI (v)))] := hl
  refine lv_aload_n hx hb dX1_write_0 rfl (lv_at hl 0 rfl) ?_
  refine w_get (C := RX1) (T := TX1) (Nf := 1) (ci := 1) (v := .ref kn) S (fun _ h => List.mem_cons_of_mem _ (List.mem_append_right _ h)) hE hP 0 rfl rfl 0 (by decide) (List.mem_of_getElem? (i := 1) rfl) rfl dX1_write_1 ?_
  refine lv_iload_n hx hb dX1_write_4 rfl (lv_at hl 1 rfl) ?_
  refine lv_bipush (v := iI (6)) hx hb dX1_write_5 (by decide) ?_
  refine w_imul S dX1_write_7 ?_
  refine lv_iload_n hx hb dX1_write_8 rfl (lv_at hl 2 rfl) ?_
  refine w_iadd S dX1_write_9 ?_
  refine lv_iload_n hx hb dX1_write_10 rfl (lv_at hl 3 rfl) ?_
  refine w_iast S hE hP hD hS 1 rfl ((l * 6) + w) (by omega) (by omega) (by omega) dX1_write_11 (fun H locs hP hD hS => ?_)
  have hP : va_P D vwCl [(k, .inr (1, [.ref kn])), (kn, .inl (cI, 24, .inl (vI (updI nb ((l * 6) + w) v))))] H := hP
  have hD : va_D A [(k, .inr (1, [.ref kn])), (kn, .inl (cI, 24, .inl (vI (updI nb ((l * 6) + w) v))))] := hD
  exact hret _ _ _ _ dX1_write_12 hP hS
set_option maxHeartbeats 4000000 in
set_option maxRecDepth 100000 in
theorem c_ticksThere (lc : Launch) (D : va_G) (cI cZ : ClassId) (N : Nat) (k : Nat) (kn : Nat) (nb : Nat → Int) (l : Nat) (t : Int) (hnb : ∀ k, k < 24 → 0 ≤ nb k ∧ nb k ≤ 20) (hl4 : l < 4) (ht : 0 ≤ t ∧ t ≤ 100000000) : CR lc D cI cZ N yX1_ticksThere wsX1_ticksThere (rmK 1 22) [.ref k, .int (iI (((l : Nat) : Int))), .int (iI (t))] [(k, .inr (1, [.ref kn])), (kn, .inl (cI, 24, .inl (vI nb)))] (some (.int (iI (tkT nb l t)))) := by
  refine CR.I (cc := cX1_ticksThere) (maxL := 3) (by decide) rfl (Nat.le_of_ble_eq_true rfl) ?_
  intro p e s m args below meth c R Q S hE A hAN hfr hlo hP hD hS hret ls hl
  have S : CallFix p m c cX1_ticksThere 3 s args wsX1_ticksThere RX1 := S
  have hx := S.1
  have hb := S.2.1
  have hl : lv_has ls 3 [(0, .ref k), (1, .int (iI (((l : Nat) : Int)))), (2, .int (iI (t)))] := hl
  refine lv_aload_n hx hb dX1_ticksThere_0 rfl (lv_at hl 0 rfl) ?_
  refine lv_iload_n hx hb dX1_ticksThere_1 rfl (lv_at hl 1 rfl) ?_
  refine lv_iconst (v := iI (0)) hx hb dX1_ticksThere_2 rfl ?_
  refine kV_R (n := 2) (ci := 1) (q := (RX1, TX1, 1)) S (c_read lc D cI cZ N k kn nb l 0 (by omega)) gX1_ticksThere_X1_read rfl rfl (by decide +kernel) rfl rfl ⟨Nat.le_trans (Nat.le_of_ble_eq_true rfl) hfr, Nat.le_trans (Nat.le_of_ble_eq_true rfl) hlo⟩ hE hAN hP hD hS [0, 1] rfl (by decide) rfl rfl rfl rfl hl.1 [] rfl (Nat.le_of_ble_eq_true rfl) dX1_ticksThere_3 ⟨Nat.zero_le _, Nat.zero_le _⟩ ?_
  refine W.eq (g2 := F0 m 6 ls [.int (iI (nb (l * 6 + 0)))]) rfl ?_
  refine lv_iload_n hx hb dX1_ticksThere_6 rfl (lv_at hl 2 rfl) ?_
  refine lv_aload_n hx hb dX1_ticksThere_7 rfl (lv_at hl 0 rfl) ?_
  refine lv_iload_n hx hb dX1_ticksThere_8 rfl (lv_at hl 1 rfl) ?_
  refine lv_iconst (v := iI (1)) hx hb dX1_ticksThere_9 rfl ?_
  refine kV_R (n := 2) (ci := 1) (q := (RX1, TX1, 1)) S (c_read lc D cI cZ N k kn nb l 1 (by omega)) gX1_ticksThere_X1_read rfl rfl (by decide +kernel) rfl rfl ⟨Nat.le_trans (Nat.le_of_ble_eq_true rfl) hfr, Nat.le_trans (Nat.le_of_ble_eq_true rfl) hlo⟩ hE hAN hP hD hS [0, 1] rfl (by decide) rfl rfl rfl rfl hl.1 [.int (iI (t)), .int (iI (nb (l * 6 + 0)))] rfl (Nat.le_of_ble_eq_true rfl) dX1_ticksThere_10 ⟨Nat.zero_le _, Nat.zero_le _⟩ ?_
  refine W.eq (g2 := F0 m 13 ls [.int (iI (nb (l * 6 + 1))), .int (iI (t)), .int (iI (nb (l * 6 + 0)))]) rfl ?_
  have h2 := hnb (l * 6 + 1) (by omega)
  refine lv_iconst (v := iI (1)) hx hb dX1_ticksThere_13 rfl ?_
  refine w_iadd S dX1_ticksThere_14 ?_
  refine kN_R (n := 2) S (c_leftOver lc D cI cZ N t ((nb (l * 6 + 1)) + 1) (by omega) (by omega)) gX1_ticksThere_X4_leftOver_n28 hE.2.2.1.2.2.1 (List.mem_of_getElem? (i := 8) rfl) (List.mem_of_getElem? (i := 7) rfl) rfl (by decide +kernel) rfl rfl ⟨Nat.le_trans (Nat.le_of_ble_eq_true rfl) hfr, Nat.le_trans (Nat.le_of_ble_eq_true rfl) hlo⟩ hE hAN hP hD hS [] rfl (by decide) rfl hl.1 [.int (iI (nb (l * 6 + 0)))] rfl (Nat.le_of_ble_eq_true rfl) dX1_ticksThere_15 ⟨Nat.zero_le _, Nat.zero_le _⟩ ?_
  refine W.eq (g2 := F0 m 18 ls [.int (iI (t.tmod ((nb (l * 6 + 1)) + 1))), .int (iI (nb (l * 6 + 0)))]) rfl ?_
  refine w_iadd S dX1_ticksThere_18 ?_
  exact hret _ _ _ dX1_ticksThere_19 rfl
set_option maxHeartbeats 4000000 in
set_option maxRecDepth 100000 in
theorem c_ticksBack (lc : Launch) (D : va_G) (cI cZ : ClassId) (N : Nat) (k : Nat) (kn : Nat) (nb : Nat → Int) (l : Nat) (t : Int) (hnb : ∀ k, k < 24 → 0 ≤ nb k ∧ nb k ≤ 20) (hl4 : l < 4) (ht : 0 ≤ t ∧ t ≤ 100000000) : CR lc D cI cZ N yX1_ticksBack wsX1_ticksBack (rmK 1 22) [.ref k, .int (iI (((l : Nat) : Int))), .int (iI (t))] [(k, .inr (1, [.ref kn])), (kn, .inl (cI, 24, .inl (vI nb)))] (some (.int (iI (tkB nb l t)))) := by
  refine CR.I (cc := cX1_ticksBack) (maxL := 3) (by decide) rfl (Nat.le_of_ble_eq_true rfl) ?_
  intro p e s m args below meth c R Q S hE A hAN hfr hlo hP hD hS hret ls hl
  have S : CallFix p m c cX1_ticksBack 3 s args wsX1_ticksBack RX1 := S
  have hx := S.1
  have hb := S.2.1
  have hl : lv_has ls 3 [(0, .ref k), (1, .int (iI (((l : Nat) : Int)))), (2, .int (iI (t)))] := hl
  refine lv_aload_n hx hb dX1_ticksBack_0 rfl (lv_at hl 0 rfl) ?_
  refine lv_iload_n hx hb dX1_ticksBack_1 rfl (lv_at hl 1 rfl) ?_
  refine lv_iconst (v := iI (2)) hx hb dX1_ticksBack_2 rfl ?_
  refine kV_R (n := 2) (ci := 1) (q := (RX1, TX1, 1)) S (c_read lc D cI cZ N k kn nb l 2 (by omega)) gX1_ticksBack_X1_read rfl rfl (by decide +kernel) rfl rfl ⟨Nat.le_trans (Nat.le_of_ble_eq_true rfl) hfr, Nat.le_trans (Nat.le_of_ble_eq_true rfl) hlo⟩ hE hAN hP hD hS [0, 1] rfl (by decide) rfl rfl rfl rfl hl.1 [] rfl (Nat.le_of_ble_eq_true rfl) dX1_ticksBack_3 ⟨Nat.zero_le _, Nat.zero_le _⟩ ?_
  refine W.eq (g2 := F0 m 6 ls [.int (iI (nb (l * 6 + 2)))]) rfl ?_
  refine lv_iload_n hx hb dX1_ticksBack_6 rfl (lv_at hl 2 rfl) ?_
  refine lv_aload_n hx hb dX1_ticksBack_7 rfl (lv_at hl 0 rfl) ?_
  refine lv_iload_n hx hb dX1_ticksBack_8 rfl (lv_at hl 1 rfl) ?_
  refine lv_iconst (v := iI (3)) hx hb dX1_ticksBack_9 rfl ?_
  refine kV_R (n := 2) (ci := 1) (q := (RX1, TX1, 1)) S (c_read lc D cI cZ N k kn nb l 3 (by omega)) gX1_ticksBack_X1_read rfl rfl (by decide +kernel) rfl rfl ⟨Nat.le_trans (Nat.le_of_ble_eq_true rfl) hfr, Nat.le_trans (Nat.le_of_ble_eq_true rfl) hlo⟩ hE hAN hP hD hS [0, 1] rfl (by decide) rfl rfl rfl rfl hl.1 [.int (iI (t)), .int (iI (nb (l * 6 + 2)))] rfl (Nat.le_of_ble_eq_true rfl) dX1_ticksBack_10 ⟨Nat.zero_le _, Nat.zero_le _⟩ ?_
  refine W.eq (g2 := F0 m 13 ls [.int (iI (nb (l * 6 + 3))), .int (iI (t)), .int (iI (nb (l * 6 + 2)))]) rfl ?_
  have h2 := hnb (l * 6 + 3) (by omega)
  refine lv_iconst (v := iI (1)) hx hb dX1_ticksBack_13 rfl ?_
  refine w_iadd S dX1_ticksBack_14 ?_
  refine kN_R (n := 2) S (c_leftOver lc D cI cZ N t ((nb (l * 6 + 3)) + 1) (by omega) (by omega)) gX1_ticksBack_X4_leftOver_n28 hE.2.2.1.2.2.1 (List.mem_of_getElem? (i := 8) rfl) (List.mem_of_getElem? (i := 7) rfl) rfl (by decide +kernel) rfl rfl ⟨Nat.le_trans (Nat.le_of_ble_eq_true rfl) hfr, Nat.le_trans (Nat.le_of_ble_eq_true rfl) hlo⟩ hE hAN hP hD hS [] rfl (by decide) rfl hl.1 [.int (iI (nb (l * 6 + 2)))] rfl (Nat.le_of_ble_eq_true rfl) dX1_ticksBack_15 ⟨Nat.zero_le _, Nat.zero_le _⟩ ?_
  refine W.eq (g2 := F0 m 18 ls [.int (iI (t.tmod ((nb (l * 6 + 3)) + 1))), .int (iI (nb (l * 6 + 2)))]) rfl ?_
  refine w_iadd S dX1_ticksBack_18 ?_
  exact hret _ _ _ dX1_ticksBack_19 rfl
set_option maxHeartbeats 4000000 in
set_option maxRecDepth 100000 in
theorem c_drops_T (lc : Launch) (D : va_G) (cI cZ : ClassId) (N : Nat) (k : Nat) (kn : Nat) (nb : Nat → Int) (l : Nat) (x : Int) (hnb : ∀ k, k < 24 → 0 ≤ nb k ∧ nb k ≤ 20) (hl4 : l < 4) (hx0 : -100000000 ≤ x ∧ x ≤ 100000000) (h : drp nb l x) : CR lc D cI cZ N yX1_drops wsX1_drops (rmK 1 22) [.ref k, .int (iI (((l : Nat) : Int))), .int (iI (x))] [(k, .inr (1, [.ref kn])), (kn, .inl (cI, 24, .inl (vI nb)))] (some (.int (iI (1)))) := by
  refine CR.Z (cc := cX1_drops) (maxL := 4) (by decide) rfl (Nat.le_of_ble_eq_true rfl) ?_
  intro p e s m args below meth c R Q S hE A hAN hfr hlo hP hD hS hret ls hl
  have S : CallFix p m c cX1_drops 4 s args wsX1_drops RX1 := S
  have hx := S.1
  have hb := S.2.1
  have hl : lv_has ls 4 [(0, .ref k), (1, .int (iI (((l : Nat) : Int)))), (2, .int (iI (x)))] := hl
  have h4 := hnb (l * 6 + 4) (by omega)
  have h5 := hnb (l * 6 + 5) (by omega)
  have h6 := h.1
  refine lv_aload_n hx hb dX1_drops_0 rfl (lv_at hl 0 rfl) ?_
  refine lv_iload_n hx hb dX1_drops_1 rfl (lv_at hl 1 rfl) ?_
  refine lv_iconst (v := iI (4)) hx hb dX1_drops_2 rfl ?_
  refine kV_R (n := 2) (ci := 1) (q := (RX1, TX1, 1)) S (c_read lc D cI cZ N k kn nb l 4 (by omega)) gX1_drops_X1_read rfl rfl (by decide +kernel) rfl rfl ⟨Nat.le_trans (Nat.le_of_ble_eq_true rfl) hfr, Nat.le_trans (Nat.le_of_ble_eq_true rfl) hlo⟩ hE hAN hP hD hS [0, 1] rfl (by decide) rfl rfl rfl rfl hl.1 [] rfl (Nat.le_of_ble_eq_true rfl) dX1_drops_3 ⟨Nat.zero_le _, Nat.zero_le _⟩ ?_
  refine W.eq (g2 := F0 m 6 ls [.int (iI (nb (l * 6 + 4)))]) rfl ?_
  refine lv_istore_n (lv' := [(3, .int (iI (nb (l * 6 + 4)))), (0, .ref k), (1, .int (iI (((l : Nat) : Int)))), (2, .int (iI (x)))]) hx hb dX1_drops_6 rfl hl (by decide) rfl (fun ls hl => ?_)
  refine lv_iload_n hx hb dX1_drops_7 rfl (lv_at hl 0 rfl) ?_
  refine b_leF (tgt := 27) S dX1_drops_8 (by decide) (by omega) (by omega) ?_
  refine lv_iload_n hx hb dX1_drops_11 rfl (lv_at hl 3 rfl) ?_
  refine lv_iload_n hx hb dX1_drops_12 rfl (lv_at hl 0 rfl) ?_
  refine w_irem S (by omega) (by omega) dX1_drops_13 ?_
  refine lv_aload_n hx hb dX1_drops_14 rfl (lv_at hl 1 rfl) ?_
  refine lv_iload_n hx hb dX1_drops_15 rfl (lv_at hl 2 rfl) ?_
  refine lv_iconst (v := iI (5)) hx hb dX1_drops_16 rfl ?_
  refine kV_R (n := 2) (ci := 1) (q := (RX1, TX1, 1)) S (c_read lc D cI cZ N k kn nb l 5 (by omega)) gX1_drops_X1_read rfl rfl (by decide +kernel) rfl rfl ⟨Nat.le_trans (Nat.le_of_ble_eq_true rfl) hfr, Nat.le_trans (Nat.le_of_ble_eq_true rfl) hlo⟩ hE hAN hP hD hS [0, 1] rfl (by decide) rfl rfl rfl rfl hl.1 [.int (iI (x.tmod (nb (l * 6 + 4))))] rfl (Nat.le_of_ble_eq_true rfl) dX1_drops_17 ⟨Nat.zero_le _, Nat.zero_le _⟩ ?_
  refine W.eq (g2 := F0 m 20 ls [.int (iI (nb (l * 6 + 5))), .int (iI (x.tmod (nb (l * 6 + 4))))]) rfl ?_
  refine c_neF (tgt := 27) S dX1_drops_20 (by decide) h.2 ?_
  refine lv_iconst (v := iI (1)) hx hb dX1_drops_23 rfl ?_
  refine lv_goto (tgt := 28) hx hb dX1_drops_24 (by decide) ?_
  exact hret _ _ _ dX1_drops_28 rfl (Or.inr rfl)
set_option maxHeartbeats 4000000 in
set_option maxRecDepth 100000 in
theorem c_drops_F (lc : Launch) (D : va_G) (cI cZ : ClassId) (N : Nat) (k : Nat) (kn : Nat) (nb : Nat → Int) (l : Nat) (x : Int) (hnb : ∀ k, k < 24 → 0 ≤ nb k ∧ nb k ≤ 20) (hl4 : l < 4) (hx0 : -100000000 ≤ x ∧ x ≤ 100000000) (h : ¬ drp nb l x) : CR lc D cI cZ N yX1_drops wsX1_drops (rmK 1 22) [.ref k, .int (iI (((l : Nat) : Int))), .int (iI (x))] [(k, .inr (1, [.ref kn])), (kn, .inl (cI, 24, .inl (vI nb)))] (some (.int (iI (0)))) := by
  refine CR.Z (cc := cX1_drops) (maxL := 4) (by decide) rfl (Nat.le_of_ble_eq_true rfl) ?_
  intro p e s m args below meth c R Q S hE A hAN hfr hlo hP hD hS hret ls hl
  have S : CallFix p m c cX1_drops 4 s args wsX1_drops RX1 := S
  have hx := S.1
  have hb := S.2.1
  have hl : lv_has ls 4 [(0, .ref k), (1, .int (iI (((l : Nat) : Int)))), (2, .int (iI (x)))] := hl
  have h4 := hnb (l * 6 + 4) (by omega)
  have h5 := hnb (l * 6 + 5) (by omega)
  by_cases h6 : 0 < nb (l * 6 + 4)
  · refine lv_aload_n hx hb dX1_drops_0 rfl (lv_at hl 0 rfl) ?_
    refine lv_iload_n hx hb dX1_drops_1 rfl (lv_at hl 1 rfl) ?_
    refine lv_iconst (v := iI (4)) hx hb dX1_drops_2 rfl ?_
    refine kV_R (n := 2) (ci := 1) (q := (RX1, TX1, 1)) S (c_read lc D cI cZ N k kn nb l 4 (by omega)) gX1_drops_X1_read rfl rfl (by decide +kernel) rfl rfl ⟨Nat.le_trans (Nat.le_of_ble_eq_true rfl) hfr, Nat.le_trans (Nat.le_of_ble_eq_true rfl) hlo⟩ hE hAN hP hD hS [0, 1] rfl (by decide) rfl rfl rfl rfl hl.1 [] rfl (Nat.le_of_ble_eq_true rfl) dX1_drops_3 ⟨Nat.zero_le _, Nat.zero_le _⟩ ?_
    refine W.eq (g2 := F0 m 6 ls [.int (iI (nb (l * 6 + 4)))]) rfl ?_
    refine lv_istore_n (lv' := [(3, .int (iI (nb (l * 6 + 4)))), (0, .ref k), (1, .int (iI (((l : Nat) : Int)))), (2, .int (iI (x)))]) hx hb dX1_drops_6 rfl hl (by decide) rfl (fun ls hl => ?_)
    refine lv_iload_n hx hb dX1_drops_7 rfl (lv_at hl 0 rfl) ?_
    refine b_leF (tgt := 27) S dX1_drops_8 (by decide) (by omega) (by omega) ?_
    refine lv_iload_n hx hb dX1_drops_11 rfl (lv_at hl 3 rfl) ?_
    refine lv_iload_n hx hb dX1_drops_12 rfl (lv_at hl 0 rfl) ?_
    refine w_irem S (by omega) (by omega) dX1_drops_13 ?_
    have h7 := tmod_rngZ (t := x) h6
    refine lv_aload_n hx hb dX1_drops_14 rfl (lv_at hl 1 rfl) ?_
    refine lv_iload_n hx hb dX1_drops_15 rfl (lv_at hl 2 rfl) ?_
    refine lv_iconst (v := iI (5)) hx hb dX1_drops_16 rfl ?_
    refine kV_R (n := 2) (ci := 1) (q := (RX1, TX1, 1)) S (c_read lc D cI cZ N k kn nb l 5 (by omega)) gX1_drops_X1_read rfl rfl (by decide +kernel) rfl rfl ⟨Nat.le_trans (Nat.le_of_ble_eq_true rfl) hfr, Nat.le_trans (Nat.le_of_ble_eq_true rfl) hlo⟩ hE hAN hP hD hS [0, 1] rfl (by decide) rfl rfl rfl rfl hl.1 [.int (iI (x.tmod (nb (l * 6 + 4))))] rfl (Nat.le_of_ble_eq_true rfl) dX1_drops_17 ⟨Nat.zero_le _, Nat.zero_le _⟩ ?_
    refine W.eq (g2 := F0 m 20 ls [.int (iI (nb (l * 6 + 5))), .int (iI (x.tmod (nb (l * 6 + 4))))]) rfl ?_
    refine c_neT (tgt := 27) S dX1_drops_20 (by decide) (by omega) (by omega) (fun q => h ⟨h6, q⟩) ?_
    refine lv_iconst (v := iI (0)) hx hb dX1_drops_27 rfl ?_
    exact hret _ _ _ dX1_drops_28 rfl (Or.inl rfl)
  · refine lv_aload_n hx hb dX1_drops_0 rfl (lv_at hl 0 rfl) ?_
    refine lv_iload_n hx hb dX1_drops_1 rfl (lv_at hl 1 rfl) ?_
    refine lv_iconst (v := iI (4)) hx hb dX1_drops_2 rfl ?_
    refine kV_R (n := 2) (ci := 1) (q := (RX1, TX1, 1)) S (c_read lc D cI cZ N k kn nb l 4 (by omega)) gX1_drops_X1_read rfl rfl (by decide +kernel) rfl rfl ⟨Nat.le_trans (Nat.le_of_ble_eq_true rfl) hfr, Nat.le_trans (Nat.le_of_ble_eq_true rfl) hlo⟩ hE hAN hP hD hS [0, 1] rfl (by decide) rfl rfl rfl rfl hl.1 [] rfl (Nat.le_of_ble_eq_true rfl) dX1_drops_3 ⟨Nat.zero_le _, Nat.zero_le _⟩ ?_
    refine W.eq (g2 := F0 m 6 ls [.int (iI (nb (l * 6 + 4)))]) rfl ?_
    refine lv_istore_n (lv' := [(3, .int (iI (nb (l * 6 + 4)))), (0, .ref k), (1, .int (iI (((l : Nat) : Int)))), (2, .int (iI (x)))]) hx hb dX1_drops_6 rfl hl (by decide) rfl (fun ls hl => ?_)
    refine lv_iload_n hx hb dX1_drops_7 rfl (lv_at hl 0 rfl) ?_
    refine b_leT (tgt := 27) S dX1_drops_8 (by decide) (by omega) (by omega) ?_
    refine lv_iconst (v := iI (0)) hx hb dX1_drops_27 rfl ?_
    exact hret _ _ _ dX1_drops_28 rfl (Or.inl rfl)
set_option maxHeartbeats 4000000 in
set_option maxRecDepth 100000 in
theorem c_X1_copyFrom (lc : Launch) (D : va_G) (cI cZ : ClassId) (N : Nat) (k : Nat) (kn : Nat) (nb : Nat → Int) (k2 : Nat) (kn2 : Nat) (nb2 : Nat → Int)  : CM lc D cI cZ N yX1_copyFrom wsX1_copyFrom (rmK 1 26) [.ref k, .ref k2] [(k, .inr (1, [.ref kn])), (kn, .inl (cI, 24, .inl (vI nb))), (k2, .inr (1, [.ref kn2])), (kn2, .inl (cI, 24, .inl (vI nb2)))] none [(k, .inr (1, [.ref kn])), (kn, .inl (cI, 24, .inl (vI nb2))), (k2, .inr (1, [.ref kn2])), (kn2, .inl (cI, 24, .inl (vI nb2)))] := by
  refine CM.V (cc := cX1_copyFrom) (maxL := 2) (by decide) rfl (Nat.le_of_ble_eq_true rfl) ?_
  intro p e s m args below meth c R Q S hE A hAN hfr hlo hP hD hS hret ls hl
  have S : CallFix p m c cX1_copyFrom 2 s args wsX1_copyFrom RX1 := S
  have hx := S.1
  have hb := S.2.1
  have hl : lv_has ls 2 [(0, .ref k), (1, .ref k2)] := hl
  refine lv_aload_n hx hb dX1_copyFrom_0 rfl (lv_at hl 1 rfl) ?_
  refine w_get (C := RX1) (T := TX1) (Nf := 1) (ci := 1) (v := .ref kn2) S (fun _ h => List.mem_cons_of_mem _ (List.mem_append_right _ h)) hE hP 2 rfl rfl 0 (by decide) (List.mem_of_getElem? (i := 1) rfl) rfl dX1_copyFrom_1 ?_
  refine lv_iconst (v := iI (0)) hx hb dX1_copyFrom_4 rfl ?_
  refine lv_aload_n hx hb dX1_copyFrom_5 rfl (lv_at hl 0 rfl) ?_
  refine w_get (C := RX1) (T := TX1) (Nf := 1) (ci := 1) (v := .ref kn) S (fun _ h => List.mem_cons_of_mem _ (List.mem_append_right _ h)) hE hP 0 rfl rfl 0 (by decide) (List.mem_of_getElem? (i := 1) rfl) rfl dX1_copyFrom_6 ?_
  refine lv_iconst (v := iI (0)) hx hb dX1_copyFrom_9 rfl ?_
  refine lv_aload_n hx hb dX1_copyFrom_10 rfl (lv_at hl 0 rfl) ?_
  refine w_get (C := RX1) (T := TX1) (Nf := 1) (ci := 1) (v := .ref kn) S (fun _ h => List.mem_cons_of_mem _ (List.mem_append_right _ h)) hE hP 0 rfl rfl 0 (by decide) (List.mem_of_getElem? (i := 1) rfl) rfl dX1_copyFrom_11 ?_
  refine w_alen S hE hP 1 rfl dX1_copyFrom_14 ?_
  refine w_copy S hE hl.1 (List.mem_of_getElem? (i := 2) rfl) (List.mem_of_getElem? (i := 3) rfl) (List.mem_of_getElem? (i := 4) rfl) (List.mem_of_getElem? (i := 5) rfl) (Nat.le_trans (Nat.le_of_ble_eq_true rfl) hfr) (Nat.le_trans (Nat.le_of_ble_eq_true rfl) hlo) (Nat.le_of_ble_eq_true rfl) hP hD hS 3 1 rfl rfl (by decide) (by omega) dX1_copyFrom_15 (fun H locs hP hD hS => ?_)
  have hP : va_P D vwCl [(k, .inr (1, [.ref kn])), (kn, .inl (cI, 24, .inl (vI nb2))), (k2, .inr (1, [.ref kn2])), (kn2, .inl (cI, 24, .inl (vI nb2)))] H := hP
  have hD : va_D A [(k, .inr (1, [.ref kn])), (kn, .inl (cI, 24, .inl (vI nb2))), (k2, .inr (1, [.ref kn2])), (kn2, .inl (cI, 24, .inl (vI nb2)))] := hD
  exact hret _ _ _ _ dX1_copyFrom_18 hP hS
