set_option maxHeartbeats 4000000 in
set_option maxRecDepth 100000 in
theorem c_soundPath (lc : Launch) (D : va_G) (cI cZ : ClassId) (N : Nat) (w : Nat) (wc : Nat) (k : Nat) (kn : Nat) (t : Nat) (tc : Nat) (ts : Nat) (b : Nat) (bm : Nat) (br : Nat) (mn : Nat) (tA : Int) (sA : Int) (kA : Int) (ck : Nat → Int) (nb : Nat → Int) (cn : Nat → Int) (sm : Nat → Int) (mo : Nat → Int) (re : Nat → Int) (f : Nat) (g : Nat) (hmn : 2 ≤ mn ∧ mn ≤ 5) (hnb : ∀ k, k < 24 → 0 ≤ nb k ∧ nb k ≤ 20) (hta : 0 ≤ tA ∧ tA ≤ 10000) (hck : ∀ k, k < 5 → -99 ≤ ck k ∧ ck k ≤ 99) (hmo : ∀ k, k < 25 → -1000 ≤ mo k ∧ mo k ≤ 1000000000) (hfg : f < g) (hgm : g < mn) : CM lc D cI cZ N yX3_soundPath wsX3_soundPath (rmK 2 45) [.ref w, .int (iI (((f : Nat) : Int))), .int (iI (((g : Nat) : Int)))] [(w, .inr (3, [.int (iI (((mn : Nat) : Int))), .int (iI (tA)), .int (iI (sA)), .int (iI (kA)), .ref wc, .ref k, .ref t, .ref b])), (wc, .inl (cI, 5, .inl (vI ck))), (k, .inr (1, [.ref kn])), (kn, .inl (cI, 24, .inl (vI nb))), (t, .inr (2, [.ref tc, .ref ts])), (tc, .inl (cI, 1000, .inl (vI cn))), (ts, .inl (cI, 1000, .inl (vI sm))), (b, .inr (0, [.ref bm, .ref br])), (bm, .inl (cI, 25, .inl (vI mo))), (br, .inl (cI, 5, .inl (vI re)))] (some (.int (iI ((bkN nb (thN nb tA f (g - f)) g (g - f)) - tA)))) [(w, .inr (3, [.int (iI (((mn : Nat) : Int))), .int (iI ((tA + 1))), .int (iI (sA)), .int (iI (kA)), .ref wc, .ref k, .ref t, .ref b])), (wc, .inl (cI, 5, .inl (vI ck))), (k, .inr (1, [.ref kn])), (kn, .inl (cI, 24, .inl (vI nb))), (t, .inr (2, [.ref tc, .ref ts])), (tc, .inl (cI, 1000, .inl (vI cn))), (ts, .inl (cI, 1000, .inl (vI sm))), (b, .inr (0, [.ref bm, .ref br])), (bm, .inl (cI, 25, .inl (vI (nrw mo f g ((((thN nb tA f (g - f)) + ck g) - (tA + ck f)) - (((g : Nat) : Int) - ((f : Nat) : Int))) ((((thN nb tA f (g - f)) + ck g) - ((bkN nb (thN nb tA f (g - f)) g (g - f)) + ck f)) + (((g : Nat) : Int) - ((f : Nat) : Int))))))), (br, .inl (cI, 5, .inl (vI re)))] := by
  refine CM.I (cc := cX3_soundPath) (maxL := 10) (by decide) rfl (Nat.le_of_ble_eq_true rfl) ?_
  intro p e s m args below meth c R Q S hE A hAN hfr hlo hP hD hS hret ls hl
  have S : CallFix p m c cX3_soundPath 10 s args wsX3_soundPath RX3 := S
  have hx := S.1
  have hb := S.2.1
  have hl : lv_has ls 10 [(0, .ref w), (1, .int (iI (((f : Nat) : Int)))), (2, .int (iI (((g : Nat) : Int))))] := hl
  refine lv_aload_n hx hb dX3_soundPath_0 rfl (lv_at hl 0 rfl) ?_
  refine w_get (C := RX3) (T := TX3) (Nf := 8) (ci := 3) (v := .int (iI (tA))) S (fun _ h => List.mem_cons_of_mem _ (List.mem_append_left _ (List.mem_append_left _ (List.mem_append_right _ h)))) hE hP 0 rfl rfl 1 (by decide) (List.mem_of_getElem? (i := 1) rfl) rfl dX3_soundPath_1 ?_
  refine lv_istore_n (lv' := [(3, .int (iI (tA))), (0, .ref w), (1, .int (iI (((f : Nat) : Int)))), (2, .int (iI (((g : Nat) : Int))))]) hx hb dX3_soundPath_4 rfl hl (by decide) rfl (fun ls hl => ?_)
  refine lv_iload_n hx hb dX3_soundPath_5 rfl (lv_at hl 2 rfl) ?_
  refine lv_istore (lv' := [(4, .int (iI (((f : Nat) : Int)))), (3, .int (iI (tA))), (0, .ref w), (1, .int (iI (((f : Nat) : Int)))), (2, .int (iI (((g : Nat) : Int))))]) hx hb dX3_soundPath_6 hl (by decide) rfl (fun ls hl => ?_)
  have loop3 : ∀ (q j : Nat) , f + j + q = g → ∀ (H : Heap) (locs : List Loc) (ls : Array Slot), va_P D vwCl [(w, .inr (3, [.int (iI (((mn : Nat) : Int))), .int (iI (tA)), .int (iI (sA)), .int (iI (kA)), .ref wc, .ref k, .ref t, .ref b])), (wc, .inl (cI, 5, .inl (vI ck))), (k, .inr (1, [.ref kn])), (kn, .inl (cI, 24, .inl (vI nb))), (t, .inr (2, [.ref tc, .ref ts])), (tc, .inl (cI, 1000, .inl (vI cn))), (ts, .inl (cI, 1000, .inl (vI sm))), (b, .inr (0, [.ref bm, .ref br])), (bm, .inl (cI, 25, .inl (vI mo))), (br, .inl (cI, 5, .inl (vI re)))] H → va_D A [(w, .inr (3, [.int (iI (((mn : Nat) : Int))), .int (iI (tA)), .int (iI (sA)), .int (iI (kA)), .ref wc, .ref k, .ref t, .ref b])), (wc, .inl (cI, 5, .inl (vI ck))), (k, .inr (1, [.ref kn])), (kn, .inl (cI, 24, .inl (vI nb))), (t, .inr (2, [.ref tc, .ref ts])), (tc, .inl (cI, 1000, .inl (vI cn))), (ts, .inl (cI, 1000, .inl (vI sm))), (b, .inr (0, [.ref bm, .ref br])), (bm, .inl (cI, 25, .inl (vI mo))), (br, .inl (cI, 5, .inl (vI re)))] → va_S A s.heap H locs → lv_has ls 10 [(4, .int (iI (((f + j : Nat) : Int)))), (3, .int (iI (thN nb tA f j))), (0, .ref w), (1, .int (iI (((f : Nat) : Int)))), (2, .int (iI (((g : Nat) : Int))))] → W p lc e R s m args below meth c H locs 0 0 Q (F0 m 8 ls []) := by
    intro q
    induction q with
    | zero =>
      intro j  hm  H locs ls hP hD hS hl
      refine lv_iload hx hb dX3_soundPath_8 (lv_at hl 0 rfl) ?_
      refine lv_iload_n hx hb dX3_soundPath_10 rfl (lv_at hl 4 rfl) ?_
      refine c_geT (tgt := 33) S dX3_soundPath_11 (by decide) (by omega) (by omega) (by omega) ?_
      have hj : j = g - f := by omega
      subst hj
      refine lv_iload_n hx hb dX3_soundPath_33 rfl (lv_at hl 1 rfl) ?_
      refine lv_istore (lv' := [(4, .int (iI (thN nb tA f (g - f)))), (3, .int (iI (thN nb tA f (g - f)))), (0, .ref w), (1, .int (iI (((f : Nat) : Int)))), (2, .int (iI (((g : Nat) : Int))))]) hx hb dX3_soundPath_34 hl (by decide) rfl (fun ls hl => ?_)
      refine lv_iload_n hx hb dX3_soundPath_36 rfl (lv_at hl 4 rfl) ?_
      refine lv_iconst (v := iI (1)) hx hb dX3_soundPath_37 rfl ?_
      refine w_isub S dX3_soundPath_38 ?_
      refine lv_istore (lv' := [(5, .int (iI (((g : Nat) : Int) - 1))), (4, .int (iI (thN nb tA f (g - f)))), (3, .int (iI (thN nb tA f (g - f)))), (0, .ref w), (1, .int (iI (((f : Nat) : Int)))), (2, .int (iI (((g : Nat) : Int))))]) hx hb dX3_soundPath_39 hl (by decide) rfl (fun ls hl => ?_)
      have loop4 : ∀ (q j : Nat) , f + j + q = g → ∀ (H : Heap) (locs : List Loc) (ls : Array Slot), va_P D vwCl [(w, .inr (3, [.int (iI (((mn : Nat) : Int))), .int (iI (tA)), .int (iI (sA)), .int (iI (kA)), .ref wc, .ref k, .ref t, .ref b])), (wc, .inl (cI, 5, .inl (vI ck))), (k, .inr (1, [.ref kn])), (kn, .inl (cI, 24, .inl (vI nb))), (t, .inr (2, [.ref tc, .ref ts])), (tc, .inl (cI, 1000, .inl (vI cn))), (ts, .inl (cI, 1000, .inl (vI sm))), (b, .inr (0, [.ref bm, .ref br])), (bm, .inl (cI, 25, .inl (vI mo))), (br, .inl (cI, 5, .inl (vI re)))] H → va_D A [(w, .inr (3, [.int (iI (((mn : Nat) : Int))), .int (iI (tA)), .int (iI (sA)), .int (iI (kA)), .ref wc, .ref k, .ref t, .ref b])), (wc, .inl (cI, 5, .inl (vI ck))), (k, .inr (1, [.ref kn])), (kn, .inl (cI, 24, .inl (vI nb))), (t, .inr (2, [.ref tc, .ref ts])), (tc, .inl (cI, 1000, .inl (vI cn))), (ts, .inl (cI, 1000, .inl (vI sm))), (b, .inr (0, [.ref bm, .ref br])), (bm, .inl (cI, 25, .inl (vI mo))), (br, .inl (cI, 5, .inl (vI re)))] → va_S A s.heap H locs → lv_has ls 10 [(5, .int (iI (((g : Nat) : Int) - 1 - ((j : Nat) : Int)))), (4, .int (iI (bkN nb (thN nb tA f (g - f)) g j))), (3, .int (iI (thN nb tA f (g - f)))), (0, .ref w), (1, .int (iI (((f : Nat) : Int)))), (2, .int (iI (((g : Nat) : Int))))] → W p lc e R s m args below meth c H locs 0 0 Q (F0 m 41 ls []) := by
        intro q
        induction q with
        | zero =>
          intro j  hm  H locs ls hP hD hS hl
          refine lv_iload hx hb dX3_soundPath_41 (lv_at hl 0 rfl) ?_
          refine lv_iload_n hx hb dX3_soundPath_43 rfl (lv_at hl 4 rfl) ?_
          refine c_ltT (tgt := 69) S dX3_soundPath_44 (by decide) (by omega) (by omega) (by omega) ?_
          have hj : j = g - f := by omega
          subst hj
          have g3 := thN_rng (f := f) hta.1 hnb (g - f) (by omega)
          have g4 := bkN_rng (g := g) (by omega) g3.1 hnb (g - f) (by omega)
          have g5 := hck f (by omega)
          have g6 := hck g (by omega)
          refine lv_aload_n hx hb dX3_soundPath_69 rfl (lv_at hl 3 rfl) ?_
          refine w_get (C := RX3) (T := TX3) (Nf := 8) (ci := 3) (v := .int (iI (tA))) S (fun _ h => List.mem_cons_of_mem _ (List.mem_append_left _ (List.mem_append_left _ (List.mem_append_right _ h)))) hE hP 0 rfl rfl 1 (by decide) (List.mem_of_getElem? (i := 1) rfl) rfl dX3_soundPath_70 ?_
          refine lv_aload_n hx hb dX3_soundPath_73 rfl (lv_at hl 3 rfl) ?_
          refine w_get (C := RX3) (T := TX3) (Nf := 8) (ci := 3) (v := .ref wc) S (fun _ h => List.mem_cons_of_mem _ (List.mem_append_left _ (List.mem_append_left _ (List.mem_append_right _ h)))) hE hP 0 rfl rfl 4 (by decide) (List.mem_of_getElem? (i := 3) rfl) rfl dX3_soundPath_74 ?_
          refine lv_iload_n hx hb dX3_soundPath_77 rfl (lv_at hl 4 rfl) ?_
          refine w_iald S hE hP 1 rfl (f) (by omega) (by omega) (by omega) dX3_soundPath_78 ?_
          refine w_iadd S dX3_soundPath_79 ?_
          refine lv_istore (lv' := [(5, .int (iI (tA + (ck f)))), (4, .int (iI ((bkN nb (thN nb tA f (g - f)) g (g - f))))), (3, .int (iI (thN nb tA f (g - f)))), (0, .ref w), (1, .int (iI (((f : Nat) : Int)))), (2, .int (iI (((g : Nat) : Int))))]) hx hb dX3_soundPath_80 hl (by decide) rfl (fun ls hl => ?_)
          refine lv_iload_n hx hb dX3_soundPath_82 rfl (lv_at hl 2 rfl) ?_
          refine lv_aload_n hx hb dX3_soundPath_83 rfl (lv_at hl 3 rfl) ?_
          refine w_get (C := RX3) (T := TX3) (Nf := 8) (ci := 3) (v := .ref wc) S (fun _ h => List.mem_cons_of_mem _ (List.mem_append_left _ (List.mem_append_left _ (List.mem_append_right _ h)))) hE hP 0 rfl rfl 4 (by decide) (List.mem_of_getElem? (i := 3) rfl) rfl dX3_soundPath_84 ?_
          refine lv_iload_n hx hb dX3_soundPath_87 rfl (lv_at hl 5 rfl) ?_
          refine w_iald S hE hP 1 rfl (g) (by omega) (by omega) (by omega) dX3_soundPath_88 ?_
          refine w_iadd S dX3_soundPath_89 ?_
          refine lv_istore (lv' := [(6, .int (iI ((thN nb tA f (g - f)) + (ck g)))), (5, .int (iI (tA + (ck f)))), (4, .int (iI ((bkN nb (thN nb tA f (g - f)) g (g - f))))), (3, .int (iI (thN nb tA f (g - f)))), (0, .ref w), (1, .int (iI (((f : Nat) : Int)))), (2, .int (iI (((g : Nat) : Int))))]) hx hb dX3_soundPath_90 hl (by decide) rfl (fun ls hl => ?_)
          refine lv_iload hx hb dX3_soundPath_92 (lv_at hl 2 rfl) ?_
          refine lv_aload_n hx hb dX3_soundPath_94 rfl (lv_at hl 4 rfl) ?_
          refine w_get (C := RX3) (T := TX3) (Nf := 8) (ci := 3) (v := .ref wc) S (fun _ h => List.mem_cons_of_mem _ (List.mem_append_left _ (List.mem_append_left _ (List.mem_append_right _ h)))) hE hP 0 rfl rfl 4 (by decide) (List.mem_of_getElem? (i := 3) rfl) rfl dX3_soundPath_95 ?_
          refine lv_iload_n hx hb dX3_soundPath_98 rfl (lv_at hl 5 rfl) ?_
          refine w_iald S hE hP 1 rfl (f) (by omega) (by omega) (by omega) dX3_soundPath_99 ?_
          refine w_iadd S dX3_soundPath_100 ?_
          refine lv_istore (lv' := [(7, .int (iI ((bkN nb (thN nb tA f (g - f)) g (g - f)) + (ck f)))), (6, .int (iI ((thN nb tA f (g - f)) + (ck g)))), (5, .int (iI (tA + (ck f)))), (4, .int (iI ((bkN nb (thN nb tA f (g - f)) g (g - f))))), (3, .int (iI (thN nb tA f (g - f)))), (0, .ref w), (1, .int (iI (((f : Nat) : Int)))), (2, .int (iI (((g : Nat) : Int))))]) hx hb dX3_soundPath_101 hl (by decide) rfl (fun ls hl => ?_)
          refine lv_iload_n hx hb dX3_soundPath_103 rfl (lv_at hl 7 rfl) ?_
          refine lv_iload_n hx hb dX3_soundPath_104 rfl (lv_at hl 6 rfl) ?_
          refine w_isub S dX3_soundPath_105 ?_
          refine lv_istore (lv' := [(8, .int (iI (((g : Nat) : Int) - ((f : Nat) : Int)))), (7, .int (iI ((bkN nb (thN nb tA f (g - f)) g (g - f)) + (ck f)))), (6, .int (iI ((thN nb tA f (g - f)) + (ck g)))), (5, .int (iI (tA + (ck f)))), (4, .int (iI ((bkN nb (thN nb tA f (g - f)) g (g - f))))), (3, .int (iI (thN nb tA f (g - f)))), (0, .ref w), (1, .int (iI (((f : Nat) : Int)))), (2, .int (iI (((g : Nat) : Int))))]) hx hb dX3_soundPath_106 hl (by decide) rfl (fun ls hl => ?_)
          refine lv_aload_n hx hb dX3_soundPath_108 rfl (lv_at hl 6 rfl) ?_
          refine w_get (C := RX3) (T := TX3) (Nf := 8) (ci := 3) (v := .ref b) S (fun _ h => List.mem_cons_of_mem _ (List.mem_append_left _ (List.mem_append_left _ (List.mem_append_right _ h)))) hE hP 0 rfl rfl 7 (by decide) (List.mem_of_getElem? (i := 4) rfl) rfl dX3_soundPath_109 ?_
          refine lv_iload_n hx hb dX3_soundPath_112 rfl (lv_at hl 7 rfl) ?_
          refine lv_iload_n hx hb dX3_soundPath_113 rfl (lv_at hl 8 rfl) ?_
          refine lv_iload hx hb dX3_soundPath_114 (lv_at hl 2 rfl) ?_
          refine lv_iload hx hb dX3_soundPath_116 (lv_at hl 3 rfl) ?_
          refine w_isub S dX3_soundPath_118 ?_
          refine lv_iload hx hb dX3_soundPath_119 (lv_at hl 0 rfl) ?_
          refine w_isub S dX3_soundPath_121 ?_
          refine lv_iload hx hb dX3_soundPath_122 (lv_at hl 2 rfl) ?_
          refine lv_iload hx hb dX3_soundPath_124 (lv_at hl 1 rfl) ?_
          refine w_isub S dX3_soundPath_126 ?_
          refine lv_iload hx hb dX3_soundPath_127 (lv_at hl 0 rfl) ?_
          refine w_iadd S dX3_soundPath_129 ?_
          refine kV_M (n := 4) (ci := 0) (q := (RX0, TX0, 2)) S (c_narrow lc D cI cZ N b bm br mo re f g ((((thN nb tA f (g - f)) + (ck g)) - (tA + (ck f))) - (((g : Nat) : Int) - ((f : Nat) : Int))) ((((thN nb tA f (g - f)) + (ck g)) - ((bkN nb (thN nb tA f (g - f)) g (g - f)) + (ck f))) + (((g : Nat) : Int) - ((f : Nat) : Int))) (by omega) (by omega) (by omega) (by omega) (by omega)) gX3_soundPath_X0_narrow rfl rfl (by decide +kernel) rfl rfl ⟨Nat.le_trans (Nat.le_of_ble_eq_true rfl) hfr, Nat.le_trans (Nat.le_of_ble_eq_true rfl) hlo⟩ hE hAN hP hD hS [7, 8, 9] rfl (by decide) rfl rfl rfl rfl rfl hl.1 [] rfl (Nat.le_of_ble_eq_true rfl) dX3_soundPath_130 ⟨Nat.zero_le _, Nat.zero_le _⟩ (fun H locs hP hD hS => ?_)
          have hP : va_P D vwCl [(w, .inr (3, [.int (iI (((mn : Nat) : Int))), .int (iI (tA)), .int (iI (sA)), .int (iI (kA)), .ref wc, .ref k, .ref t, .ref b])), (wc, .inl (cI, 5, .inl (vI ck))), (k, .inr (1, [.ref kn])), (kn, .inl (cI, 24, .inl (vI nb))), (t, .inr (2, [.ref tc, .ref ts])), (tc, .inl (cI, 1000, .inl (vI cn))), (ts, .inl (cI, 1000, .inl (vI sm))), (b, .inr (0, [.ref bm, .ref br])), (bm, .inl (cI, 25, .inl (vI (nrw mo f g ((((thN nb tA f (g - f)) + (ck g)) - (tA + (ck f))) - (((g : Nat) : Int) - ((f : Nat) : Int))) ((((thN nb tA f (g - f)) + (ck g)) - ((bkN nb (thN nb tA f (g - f)) g (g - f)) + (ck f))) + (((g : Nat) : Int) - ((f : Nat) : Int))))))), (br, .inl (cI, 5, .inl (vI re)))] H := hP
          have hD : va_D A [(w, .inr (3, [.int (iI (((mn : Nat) : Int))), .int (iI (tA)), .int (iI (sA)), .int (iI (kA)), .ref wc, .ref k, .ref t, .ref b])), (wc, .inl (cI, 5, .inl (vI ck))), (k, .inr (1, [.ref kn])), (kn, .inl (cI, 24, .inl (vI nb))), (t, .inr (2, [.ref tc, .ref ts])), (tc, .inl (cI, 1000, .inl (vI cn))), (ts, .inl (cI, 1000, .inl (vI sm))), (b, .inr (0, [.ref bm, .ref br])), (bm, .inl (cI, 25, .inl (vI (nrw mo f g ((((thN nb tA f (g - f)) + (ck g)) - (tA + (ck f))) - (((g : Nat) : Int) - ((f : Nat) : Int))) ((((thN nb tA f (g - f)) + (ck g)) - ((bkN nb (thN nb tA f (g - f)) g (g - f)) + (ck f))) + (((g : Nat) : Int) - ((f : Nat) : Int))))))), (br, .inl (cI, 5, .inl (vI re)))] := hD
          refine W.eq (g2 := F0 m 133 ls []) rfl ?_
          refine lv_iload hx hb dX3_soundPath_133 (lv_at hl 4 rfl) ?_
          refine lv_aload_n hx hb dX3_soundPath_135 rfl (lv_at hl 6 rfl) ?_
          refine w_get (C := RX3) (T := TX3) (Nf := 8) (ci := 3) (v := .int (iI (tA))) S (fun _ h => List.mem_cons_of_mem _ (List.mem_append_left _ (List.mem_append_left _ (List.mem_append_right _ h)))) hE hP 0 rfl rfl 1 (by decide) (List.mem_of_getElem? (i := 1) rfl) rfl dX3_soundPath_136 ?_
          refine w_isub S dX3_soundPath_139 ?_
          refine lv_istore (lv' := [(9, .int (iI ((bkN nb (thN nb tA f (g - f)) g (g - f)) - tA))), (8, .int (iI (((g : Nat) : Int) - ((f : Nat) : Int)))), (7, .int (iI ((bkN nb (thN nb tA f (g - f)) g (g - f)) + (ck f)))), (6, .int (iI ((thN nb tA f (g - f)) + (ck g)))), (5, .int (iI (tA + (ck f)))), (4, .int (iI ((bkN nb (thN nb tA f (g - f)) g (g - f))))), (3, .int (iI (thN nb tA f (g - f)))), (0, .ref w), (1, .int (iI (((f : Nat) : Int)))), (2, .int (iI (((g : Nat) : Int))))]) hx hb dX3_soundPath_140 hl (by decide) rfl (fun ls hl => ?_)
          refine lv_aload_n hx hb dX3_soundPath_142 rfl (lv_at hl 7 rfl) ?_
          refine lv_dup hx hb dX3_soundPath_143 rfl ?_
          refine w_get (C := RX3) (T := TX3) (Nf := 8) (ci := 3) (v := .int (iI (tA))) S (fun _ h => List.mem_cons_of_mem _ (List.mem_append_left _ (List.mem_append_left _ (List.mem_append_right _ h)))) hE hP 0 rfl rfl 1 (by decide) (List.mem_of_getElem? (i := 1) rfl) rfl dX3_soundPath_144 ?_
          refine lv_iconst (v := iI (1)) hx hb dX3_soundPath_147 rfl ?_
          refine w_iadd S dX3_soundPath_148 ?_
          refine w_put (C := RX3) (T := TX3) (Nf := 8) (ci := 3) S (fun _ h => List.mem_cons_of_mem _ (List.mem_append_left _ (List.mem_append_left _ (List.mem_append_right _ h)))) tyX3 tyX3_ok nmX3 hE hP hD hS 0 rfl rfl 1 (by decide) (List.mem_of_getElem? (i := 1) rfl) rfl rfl (Nat.le_of_ble_eq_true rfl) dX3_soundPath_149 (fun H locs hP hD hS => ?_)
          have hP : va_P D vwCl [(w, .inr (3, [.int (iI (((mn : Nat) : Int))), .int (iI (tA + 1)), .int (iI (sA)), .int (iI (kA)), .ref wc, .ref k, .ref t, .ref b])), (wc, .inl (cI, 5, .inl (vI ck))), (k, .inr (1, [.ref kn])), (kn, .inl (cI, 24, .inl (vI nb))), (t, .inr (2, [.ref tc, .ref ts])), (tc, .inl (cI, 1000, .inl (vI cn))), (ts, .inl (cI, 1000, .inl (vI sm))), (b, .inr (0, [.ref bm, .ref br])), (bm, .inl (cI, 25, .inl (vI (nrw mo f g ((((thN nb tA f (g - f)) + (ck g)) - (tA + (ck f))) - (((g : Nat) : Int) - ((f : Nat) : Int))) ((((thN nb tA f (g - f)) + (ck g)) - ((bkN nb (thN nb tA f (g - f)) g (g - f)) + (ck f))) + (((g : Nat) : Int) - ((f : Nat) : Int))))))), (br, .inl (cI, 5, .inl (vI re)))] H := hP
          have hD : va_D A [(w, .inr (3, [.int (iI (((mn : Nat) : Int))), .int (iI (tA + 1)), .int (iI (sA)), .int (iI (kA)), .ref wc, .ref k, .ref t, .ref b])), (wc, .inl (cI, 5, .inl (vI ck))), (k, .inr (1, [.ref kn])), (kn, .inl (cI, 24, .inl (vI nb))), (t, .inr (2, [.ref tc, .ref ts])), (tc, .inl (cI, 1000, .inl (vI cn))), (ts, .inl (cI, 1000, .inl (vI sm))), (b, .inr (0, [.ref bm, .ref br])), (bm, .inl (cI, 25, .inl (vI (nrw mo f g ((((thN nb tA f (g - f)) + (ck g)) - (tA + (ck f))) - (((g : Nat) : Int) - ((f : Nat) : Int))) ((((thN nb tA f (g - f)) + (ck g)) - ((bkN nb (thN nb tA f (g - f)) g (g - f)) + (ck f))) + (((g : Nat) : Int) - ((f : Nat) : Int))))))), (br, .inl (cI, 5, .inl (vI re)))] := hD
          refine lv_iload hx hb dX3_soundPath_152 (lv_at hl 0 rfl) ?_
          exact hret _ _ _ _ _ dX3_soundPath_154 rfl hP hS
        | succ q ih4 =>
          intro j  hm  H locs ls hP hD hS hl
          refine lv_iload hx hb dX3_soundPath_41 (lv_at hl 0 rfl) ?_
          refine lv_iload_n hx hb dX3_soundPath_43 rfl (lv_at hl 4 rfl) ?_
          refine c_ltF (tgt := 69) S dX3_soundPath_44 (by decide) (by omega) (by omega) (by omega) ?_
          have h5 : ((g : Nat) : Int) - 1 - ((j : Nat) : Int) = ((g - 1 - j : Nat) : Int) := by omega
          rw [h5] at hl
          have g3 := thN_rng (f := f) hta.1 hnb (g - f) (by omega)
          have g1 := bkN_rng (g := g) (by omega) g3.1 hnb j (by omega)
          have g2 := tkB_rng (l := g - 1 - j) (by omega) g1.1 hnb
          refine lv_iload hx hb dX3_soundPath_47 (lv_at hl 1 rfl) ?_
          refine lv_aload_n hx hb dX3_soundPath_49 rfl (lv_at hl 3 rfl) ?_
          refine w_get (C := RX3) (T := TX3) (Nf := 8) (ci := 3) (v := .ref k) S (fun _ h => List.mem_cons_of_mem _ (List.mem_append_left _ (List.mem_append_left _ (List.mem_append_right _ h)))) hE hP 0 rfl rfl 5 (by decide) (List.mem_of_getElem? (i := 2) rfl) rfl dX3_soundPath_50 ?_
          refine lv_iload hx hb dX3_soundPath_53 (lv_at hl 0 rfl) ?_
          refine lv_iload hx hb dX3_soundPath_55 (lv_at hl 1 rfl) ?_
          refine kV_R (n := 2) (ci := 1) (q := (RX1, TX1, 1)) S (c_ticksBack lc D cI cZ N k kn nb (g - 1 - j) (bkN nb (thN nb tA f (g - f)) g j) (by omega) (by omega) (by omega)) gX3_soundPath_X1_ticksBack rfl rfl (by decide +kernel) rfl rfl ⟨Nat.le_trans (Nat.le_of_ble_eq_true rfl) hfr, Nat.le_trans (Nat.le_of_ble_eq_true rfl) hlo⟩ hE hAN hP hD hS [2, 3] rfl (by decide) rfl rfl rfl rfl hl.1 [.int (iI (bkN nb (thN nb tA f (g - f)) g j))] rfl (Nat.le_of_ble_eq_true rfl) dX3_soundPath_57 ⟨Nat.zero_le _, Nat.zero_le _⟩ ?_
          refine W.eq (g2 := F0 m 60 ls [.int (iI (tkB nb (g - 1 - j) (bkN nb (thN nb tA f (g - f)) g j))), .int (iI (bkN nb (thN nb tA f (g - f)) g j))]) rfl ?_
          refine w_iadd S dX3_soundPath_60 ?_
          refine lv_istore (lv' := [(4, .int (iI ((bkN nb (thN nb tA f (g - f)) g j) + (tkB nb (g - 1 - j) (bkN nb (thN nb tA f (g - f)) g j))))), (5, .int (iI (((g - 1 - j : Nat) : Int)))), (3, .int (iI (thN nb tA f (g - f)))), (0, .ref w), (1, .int (iI (((f : Nat) : Int)))), (2, .int (iI (((g : Nat) : Int))))]) hx hb dX3_soundPath_61 hl (by decide) rfl (fun ls hl => ?_)
          refine w_iinc (v := ((g - 1 - j : Nat) : Int) + (-1)) (lv' := [(5, .int (iI (((g - 1 - j : Nat) : Int) + (-1)))), (4, .int (iI ((bkN nb (thN nb tA f (g - f)) g j) + (tkB nb (g - 1 - j) (bkN nb (thN nb tA f (g - f)) g j))))), (3, .int (iI (thN nb tA f (g - f)))), (0, .ref w), (1, .int (iI (((f : Nat) : Int)))), (2, .int (iI (((g : Nat) : Int))))]) S dX3_soundPath_63 hl (k := 1) rfl (by omega) (by decide) rfl (fun ls hl => ?_)
          refine lv_goto (tgt := 41) hx hb dX3_soundPath_66 (by decide) ?_
          have hloc : (((g - 1 - j : Nat) : Int) + (-1) : Int) = ((g : Nat) : Int) - 1 - ((j + 1 : Nat) : Int) := (by omega)
          rw [hloc] at hl
          have hloc : ((bkN nb (thN nb tA f (g - f)) g j) + (tkB nb (g - 1 - j) (bkN nb (thN nb tA f (g - f)) g j)) : Int) = bkN nb (thN nb tA f (g - f)) g (j + 1) := rfl
          rw [hloc] at hl
          exact ih4 (j + 1)  (by omega)  _ _ _ hP hD hS (lv_sub hl [0, 1, 2, 3, 4, 5] rfl)
      have hloc : (((g : Nat) : Int) - 1 : Int) = ((g : Nat) : Int) - 1 - ((0 : Nat) : Int) := (by omega)
      rw [hloc] at hl
      have hloc : (thN nb tA f (g - f) : Int) = bkN nb (thN nb tA f (g - f)) g 0 := rfl
      rw [hloc] at hl
      exact loop4 (g - f) 0  (by omega)  _ _ _ hP hD hS (lv_sub hl [0, 1, 2, 3, 4, 5] rfl)
    | succ q ih3 =>
      intro j  hm  H locs ls hP hD hS hl
      refine lv_iload hx hb dX3_soundPath_8 (lv_at hl 0 rfl) ?_
      refine lv_iload_n hx hb dX3_soundPath_10 rfl (lv_at hl 4 rfl) ?_
      refine c_geF (tgt := 33) S dX3_soundPath_11 (by decide) (by omega) (by omega) (by omega) ?_
      have g1 := thN_rng (f := f) hta.1 hnb j (by omega)
      have g2 := tkT_rng (l := f + j) (by omega) g1.1 hnb
      refine lv_iload_n hx hb dX3_soundPath_14 rfl (lv_at hl 1 rfl) ?_
      refine lv_aload_n hx hb dX3_soundPath_15 rfl (lv_at hl 2 rfl) ?_
      refine w_get (C := RX3) (T := TX3) (Nf := 8) (ci := 3) (v := .ref k) S (fun _ h => List.mem_cons_of_mem _ (List.mem_append_left _ (List.mem_append_left _ (List.mem_append_right _ h)))) hE hP 0 rfl rfl 5 (by decide) (List.mem_of_getElem? (i := 2) rfl) rfl dX3_soundPath_16 ?_
      refine lv_iload hx hb dX3_soundPath_19 (lv_at hl 0 rfl) ?_
      refine lv_iload_n hx hb dX3_soundPath_21 rfl (lv_at hl 1 rfl) ?_
      refine kV_R (n := 2) (ci := 1) (q := (RX1, TX1, 1)) S (c_ticksThere lc D cI cZ N k kn nb (f + j) (thN nb tA f j) (by omega) (by omega) (by omega)) gX3_soundPath_X1_ticksThere rfl rfl (by decide +kernel) rfl rfl ⟨Nat.le_trans (Nat.le_of_ble_eq_true rfl) hfr, Nat.le_trans (Nat.le_of_ble_eq_true rfl) hlo⟩ hE hAN hP hD hS [2, 3] rfl (by decide) rfl rfl rfl rfl hl.1 [.int (iI (thN nb tA f j))] rfl (Nat.le_of_ble_eq_true rfl) dX3_soundPath_22 ⟨Nat.zero_le _, Nat.zero_le _⟩ ?_
      refine W.eq (g2 := F0 m 25 ls [.int (iI (tkT nb (f + j) (thN nb tA f j))), .int (iI (thN nb tA f j))]) rfl ?_
      refine w_iadd S dX3_soundPath_25 ?_
      refine lv_istore_n (lv' := [(3, .int (iI ((thN nb tA f j) + (tkT nb (f + j) (thN nb tA f j))))), (4, .int (iI (((f + j : Nat) : Int)))), (0, .ref w), (1, .int (iI (((f : Nat) : Int)))), (2, .int (iI (((g : Nat) : Int))))]) hx hb dX3_soundPath_26 rfl hl (by decide) rfl (fun ls hl => ?_)
      refine w_iinc (v := (((f + j) + 1 : Nat) : Int)) (lv' := [(4, .int (iI ((((f + j) + 1 : Nat) : Int)))), (3, .int (iI ((thN nb tA f j) + (tkT nb (f + j) (thN nb tA f j))))), (0, .ref w), (1, .int (iI (((f : Nat) : Int)))), (2, .int (iI (((g : Nat) : Int))))]) S dX3_soundPath_27 hl (k := 1) rfl (by omega) (by decide) rfl (fun ls hl => ?_)
      refine lv_goto (tgt := 8) hx hb dX3_soundPath_30 (by decide) ?_
      have hloc : ((((f + j) + 1 : Nat) : Int) : Int) = ((f + (j + 1) : Nat) : Int) := (by omega)
      rw [hloc] at hl
      have hloc : ((thN nb tA f j) + (tkT nb (f + j) (thN nb tA f j)) : Int) = thN nb tA f (j + 1) := rfl
      rw [hloc] at hl
      exact ih3 (j + 1)  (by omega)  _ _ _ hP hD hS (lv_sub hl [0, 1, 2, 3, 4] rfl)
  have hloc : (((f : Nat) : Int) : Int) = ((f + 0 : Nat) : Int) := (by omega)
  rw [hloc] at hl
  have hloc : (tA : Int) = thN nb tA f 0 := rfl
  rw [hloc] at hl
  exact loop3 (g - f) 0  (by omega)  _ _ _ hP hD hS (lv_sub hl [0, 1, 2, 3, 4] rfl)
set_option maxHeartbeats 4000000 in
set_option maxRecDepth 100000 in
theorem c_firstBlock_S (lc : Launch) (D : va_G) (cI cZ : ClassId) (N : Nat) (w : Nat) (wc : Nat) (k : Nat) (kn : Nat) (t : Nat) (tc : Nat) (ts : Nat) (b : Nat) (bm : Nat) (br : Nat) (mn : Nat) (tA : Int) (sA : Int) (kA : Int) (ck : Nat → Int) (nb : Nat → Int) (cn : Nat → Int) (sm : Nat → Int) (mo : Nat → Int) (re : Nat → Int) (lim : Int) (B : Nat) (hmn : 2 ≤ mn ∧ mn ≤ 5) (hcn : ∀ k, k < 1000 → 0 ≤ cn k ∧ cn k ≤ 200) (hlim : 0 ≤ lim ∧ lim ≤ 20) (hB : B < 200) (h1 : ∀ i, i < B → cn (0 * 200 + i) - cn ((mn - 1) * 200 + i) ≤ lim) (h2 : lim < cn (0 * 200 + B) - cn ((mn - 1) * 200 + B)) : CR lc D cI cZ N yX3_firstBlockAbove wsX3_firstBlockAbove (rmK 3 66) [.ref w, .int (iI (lim))] [(w, .inr (3, [.int (iI (((mn : Nat) : Int))), .int (iI (tA)), .int (iI (sA)), .int (iI (kA)), .ref wc, .ref k, .ref t, .ref b])), (wc, .inl (cI, 5, .inl (vI ck))), (k, .inr (1, [.ref kn])), (kn, .inl (cI, 24, .inl (vI nb))), (t, .inr (2, [.ref tc, .ref ts])), (tc, .inl (cI, 1000, .inl (vI cn))), (ts, .inl (cI, 1000, .inl (vI sm))), (b, .inr (0, [.ref bm, .ref br])), (bm, .inl (cI, 25, .inl (vI mo))), (br, .inl (cI, 5, .inl (vI re)))] (some (.int (iI (((B : Nat) : Int))))) := by
  refine CR.I (cc := cX3_firstBlockAbove) (maxL := 3) (by decide) rfl (Nat.le_of_ble_eq_true rfl) ?_
  intro p e s m args below meth c R Q S hE A hAN hfr hlo hP hD hS hret ls hl
  have S : CallFix p m c cX3_firstBlockAbove 3 s args wsX3_firstBlockAbove RX3 := S
  have hx := S.1
  have hb := S.2.1
  have hl : lv_has ls 3 [(0, .ref w), (1, .int (iI (lim)))] := hl
  refine lv_iconst (v := iI (0)) hx hb dX3_firstBlockAbove_0 rfl ?_
  refine lv_istore_n (lv' := [(2, .int (iI (0))), (0, .ref w), (1, .int (iI (lim)))]) hx hb dX3_firstBlockAbove_1 rfl hl (by decide) rfl (fun ls hl => ?_)
  have loop5 : ∀ (q i : Nat) , i + q = B → ∀ (ls : Array Slot), lv_has ls 3 [(2, .int (iI (((i : Nat) : Int)))), (0, .ref w), (1, .int (iI (lim)))] → W p lc e R s m args below meth c s.heap [] 0 0 Q (F0 m 2 ls []) := by
    intro q
    induction q with
    | zero =>
      intro i  hm  ls hl
      have hi : i = B := by omega
      subst hi
      have r1 := hcn (0 * 200 + i) (by omega)
      have r2 := hcn ((mn - 1) * 200 + i) (by omega)
      refine lv_iload_n hx hb dX3_firstBlockAbove_2 rfl (lv_at hl 0 rfl) ?_
      refine lv_sipush (v := iI (200)) hx hb dX3_firstBlockAbove_3 (by decide) ?_
      refine c_geF (tgt := 36) S dX3_firstBlockAbove_6 (by decide) (by omega) (by omega) (by omega) ?_
      refine lv_aload_n hx hb dX3_firstBlockAbove_9 rfl (lv_at hl 1 rfl) ?_
      refine w_get (C := RX3) (T := TX3) (Nf := 8) (ci := 3) (v := .ref t) S (fun _ h => List.mem_cons_of_mem _ (List.mem_append_left _ (List.mem_append_right _ h))) hE hP 0 rfl rfl 6 (by decide) (List.mem_of_getElem? (i := 1) rfl) rfl dX3_firstBlockAbove_10 ?_
      refine lv_iconst (v := iI (0)) hx hb dX3_firstBlockAbove_13 rfl ?_
      refine lv_aload_n hx hb dX3_firstBlockAbove_14 rfl (lv_at hl 1 rfl) ?_
      refine w_get (C := RX3) (T := TX3) (Nf := 8) (ci := 3) (v := .int (iI (((mn : Nat) : Int)))) S (fun _ h => List.mem_cons_of_mem _ (List.mem_append_left _ (List.mem_append_right _ h))) hE hP 0 rfl rfl 0 (by decide) (List.mem_of_getElem? (i := 2) rfl) rfl dX3_firstBlockAbove_15 ?_
      refine lv_iconst (v := iI (1)) hx hb dX3_firstBlockAbove_18 rfl ?_
      refine w_isub S dX3_firstBlockAbove_19 ?_
      refine w_tz (z := ((mn - 1 : Nat) : Int)) (by omega) ?_
      refine lv_iload_n hx hb dX3_firstBlockAbove_20 rfl (lv_at hl 0 rfl) ?_
      refine kV_R (n := 3) (ci := 2) (q := (RX2, TX2, 2)) S (c_lostBetween lc D cI cZ N t tc ts cn sm 0 (mn - 1) i (by omega) (by omega) (by omega)) gX3_firstBlockAbove_X2_lostBetween rfl rfl (by decide +kernel) rfl rfl ⟨Nat.le_trans (Nat.le_of_ble_eq_true rfl) hfr, Nat.le_trans (Nat.le_of_ble_eq_true rfl) hlo⟩ hE hAN hP hD hS [4, 5, 6] rfl (by decide) rfl rfl rfl rfl hl.1 [] rfl (Nat.le_of_ble_eq_true rfl) dX3_firstBlockAbove_21 ⟨Nat.zero_le _, Nat.zero_le _⟩ ?_
      refine W.eq (g2 := F0 m 24 ls [.int (iI (cn (0 * 200 + i) - cn ((mn - 1) * 200 + i)))]) rfl ?_
      refine lv_iload_n hx hb dX3_firstBlockAbove_24 rfl (lv_at hl 2 rfl) ?_
      refine c_leF (tgt := 30) S dX3_firstBlockAbove_25 (by decide) (by omega) (by omega) (by omega) ?_
      refine lv_iload_n hx hb dX3_firstBlockAbove_28 rfl (lv_at hl 0 rfl) ?_
      exact hret _ _ _ dX3_firstBlockAbove_29 (congrArg iI (by omega))
    | succ q ih5 =>
      intro i  hm  ls hl
      have r1 := hcn (0 * 200 + i) (by omega)
      have r2 := hcn ((mn - 1) * 200 + i) (by omega)
      have r3 := h1 i (by omega)
      refine lv_iload_n hx hb dX3_firstBlockAbove_2 rfl (lv_at hl 0 rfl) ?_
      refine lv_sipush (v := iI (200)) hx hb dX3_firstBlockAbove_3 (by decide) ?_
      refine c_geF (tgt := 36) S dX3_firstBlockAbove_6 (by decide) (by omega) (by omega) (by omega) ?_
      refine lv_aload_n hx hb dX3_firstBlockAbove_9 rfl (lv_at hl 1 rfl) ?_
      refine w_get (C := RX3) (T := TX3) (Nf := 8) (ci := 3) (v := .ref t) S (fun _ h => List.mem_cons_of_mem _ (List.mem_append_left _ (List.mem_append_right _ h))) hE hP 0 rfl rfl 6 (by decide) (List.mem_of_getElem? (i := 1) rfl) rfl dX3_firstBlockAbove_10 ?_
      refine lv_iconst (v := iI (0)) hx hb dX3_firstBlockAbove_13 rfl ?_
      refine lv_aload_n hx hb dX3_firstBlockAbove_14 rfl (lv_at hl 1 rfl) ?_
      refine w_get (C := RX3) (T := TX3) (Nf := 8) (ci := 3) (v := .int (iI (((mn : Nat) : Int)))) S (fun _ h => List.mem_cons_of_mem _ (List.mem_append_left _ (List.mem_append_right _ h))) hE hP 0 rfl rfl 0 (by decide) (List.mem_of_getElem? (i := 2) rfl) rfl dX3_firstBlockAbove_15 ?_
      refine lv_iconst (v := iI (1)) hx hb dX3_firstBlockAbove_18 rfl ?_
      refine w_isub S dX3_firstBlockAbove_19 ?_
      refine w_tz (z := ((mn - 1 : Nat) : Int)) (by omega) ?_
      refine lv_iload_n hx hb dX3_firstBlockAbove_20 rfl (lv_at hl 0 rfl) ?_
      refine kV_R (n := 3) (ci := 2) (q := (RX2, TX2, 2)) S (c_lostBetween lc D cI cZ N t tc ts cn sm 0 (mn - 1) i (by omega) (by omega) (by omega)) gX3_firstBlockAbove_X2_lostBetween rfl rfl (by decide +kernel) rfl rfl ⟨Nat.le_trans (Nat.le_of_ble_eq_true rfl) hfr, Nat.le_trans (Nat.le_of_ble_eq_true rfl) hlo⟩ hE hAN hP hD hS [4, 5, 6] rfl (by decide) rfl rfl rfl rfl hl.1 [] rfl (Nat.le_of_ble_eq_true rfl) dX3_firstBlockAbove_21 ⟨Nat.zero_le _, Nat.zero_le _⟩ ?_
      refine W.eq (g2 := F0 m 24 ls [.int (iI (cn (0 * 200 + i) - cn ((mn - 1) * 200 + i)))]) rfl ?_
      refine lv_iload_n hx hb dX3_firstBlockAbove_24 rfl (lv_at hl 2 rfl) ?_
      refine c_leT (tgt := 30) S dX3_firstBlockAbove_25 (by decide) (by omega) (by omega) (by omega) ?_
      refine w_iinc (v := ((i + 1 : Nat) : Int)) (lv' := [(2, .int (iI (((i + 1 : Nat) : Int)))), (0, .ref w), (1, .int (iI (lim)))]) S dX3_firstBlockAbove_30 hl (k := 0) rfl (by omega) (by decide) rfl (fun ls hl => ?_)
      refine lv_goto (tgt := 2) hx hb dX3_firstBlockAbove_33 (by decide) ?_
      exact ih5 (i + 1)  (by omega)  _ (lv_sub hl [0, 1, 2] rfl)
  exact loop5 B 0  (by omega)  _ (lv_sub hl [0, 1, 2] rfl)
set_option maxHeartbeats 4000000 in
set_option maxRecDepth 100000 in
theorem c_firstBlock_N (lc : Launch) (D : va_G) (cI cZ : ClassId) (N : Nat) (w : Nat) (wc : Nat) (k : Nat) (kn : Nat) (t : Nat) (tc : Nat) (ts : Nat) (b : Nat) (bm : Nat) (br : Nat) (mn : Nat) (tA : Int) (sA : Int) (kA : Int) (ck : Nat → Int) (nb : Nat → Int) (cn : Nat → Int) (sm : Nat → Int) (mo : Nat → Int) (re : Nat → Int) (lim : Int) (hmn : 2 ≤ mn ∧ mn ≤ 5) (hcn : ∀ k, k < 1000 → 0 ≤ cn k ∧ cn k ≤ 200) (hlim : 0 ≤ lim ∧ lim ≤ 20) (h1 : ∀ i, i < 200 → cn (0 * 200 + i) - cn ((mn - 1) * 200 + i) ≤ lim) : CR lc D cI cZ N yX3_firstBlockAbove wsX3_firstBlockAbove (rmK 3 66) [.ref w, .int (iI (lim))] [(w, .inr (3, [.int (iI (((mn : Nat) : Int))), .int (iI (tA)), .int (iI (sA)), .int (iI (kA)), .ref wc, .ref k, .ref t, .ref b])), (wc, .inl (cI, 5, .inl (vI ck))), (k, .inr (1, [.ref kn])), (kn, .inl (cI, 24, .inl (vI nb))), (t, .inr (2, [.ref tc, .ref ts])), (tc, .inl (cI, 1000, .inl (vI cn))), (ts, .inl (cI, 1000, .inl (vI sm))), (b, .inr (0, [.ref bm, .ref br])), (bm, .inl (cI, 25, .inl (vI mo))), (br, .inl (cI, 5, .inl (vI re)))] (some (.int (iI (200)))) := by
  refine CR.I (cc := cX3_firstBlockAbove) (maxL := 3) (by decide) rfl (Nat.le_of_ble_eq_true rfl) ?_
  intro p e s m args below meth c R Q S hE A hAN hfr hlo hP hD hS hret ls hl
  have S : CallFix p m c cX3_firstBlockAbove 3 s args wsX3_firstBlockAbove RX3 := S
  have hx := S.1
  have hb := S.2.1
  have hl : lv_has ls 3 [(0, .ref w), (1, .int (iI (lim)))] := hl
  refine lv_iconst (v := iI (0)) hx hb dX3_firstBlockAbove_0 rfl ?_
  refine lv_istore_n (lv' := [(2, .int (iI (0))), (0, .ref w), (1, .int (iI (lim)))]) hx hb dX3_firstBlockAbove_1 rfl hl (by decide) rfl (fun ls hl => ?_)
  have loop6 : ∀ (q i : Nat) , i + q = 200 → ∀ (ls : Array Slot), lv_has ls 3 [(2, .int (iI (((i : Nat) : Int)))), (0, .ref w), (1, .int (iI (lim)))] → W p lc e R s m args below meth c s.heap [] 0 0 Q (F0 m 2 ls []) := by
    intro q
    induction q with
    | zero =>
      intro i  hm  ls hl
      refine lv_iload_n hx hb dX3_firstBlockAbove_2 rfl (lv_at hl 0 rfl) ?_
      refine lv_sipush (v := iI (200)) hx hb dX3_firstBlockAbove_3 (by decide) ?_
      refine c_geT (tgt := 36) S dX3_firstBlockAbove_6 (by decide) (by omega) (by omega) (by omega) ?_
      refine lv_sipush (v := iI (200)) hx hb dX3_firstBlockAbove_36 (by decide) ?_
      exact hret _ _ _ dX3_firstBlockAbove_39 rfl
    | succ q ih6 =>
      intro i  hm  ls hl
      have r1 := hcn (0 * 200 + i) (by omega)
      have r2 := hcn ((mn - 1) * 200 + i) (by omega)
      have r3 := h1 i (by omega)
      refine lv_iload_n hx hb dX3_firstBlockAbove_2 rfl (lv_at hl 0 rfl) ?_
      refine lv_sipush (v := iI (200)) hx hb dX3_firstBlockAbove_3 (by decide) ?_
      refine c_geF (tgt := 36) S dX3_firstBlockAbove_6 (by decide) (by omega) (by omega) (by omega) ?_
      refine lv_aload_n hx hb dX3_firstBlockAbove_9 rfl (lv_at hl 1 rfl) ?_
      refine w_get (C := RX3) (T := TX3) (Nf := 8) (ci := 3) (v := .ref t) S (fun _ h => List.mem_cons_of_mem _ (List.mem_append_left _ (List.mem_append_right _ h))) hE hP 0 rfl rfl 6 (by decide) (List.mem_of_getElem? (i := 1) rfl) rfl dX3_firstBlockAbove_10 ?_
      refine lv_iconst (v := iI (0)) hx hb dX3_firstBlockAbove_13 rfl ?_
      refine lv_aload_n hx hb dX3_firstBlockAbove_14 rfl (lv_at hl 1 rfl) ?_
      refine w_get (C := RX3) (T := TX3) (Nf := 8) (ci := 3) (v := .int (iI (((mn : Nat) : Int)))) S (fun _ h => List.mem_cons_of_mem _ (List.mem_append_left _ (List.mem_append_right _ h))) hE hP 0 rfl rfl 0 (by decide) (List.mem_of_getElem? (i := 2) rfl) rfl dX3_firstBlockAbove_15 ?_
      refine lv_iconst (v := iI (1)) hx hb dX3_firstBlockAbove_18 rfl ?_
      refine w_isub S dX3_firstBlockAbove_19 ?_
      refine w_tz (z := ((mn - 1 : Nat) : Int)) (by omega) ?_
      refine lv_iload_n hx hb dX3_firstBlockAbove_20 rfl (lv_at hl 0 rfl) ?_
      refine kV_R (n := 3) (ci := 2) (q := (RX2, TX2, 2)) S (c_lostBetween lc D cI cZ N t tc ts cn sm 0 (mn - 1) i (by omega) (by omega) (by omega)) gX3_firstBlockAbove_X2_lostBetween rfl rfl (by decide +kernel) rfl rfl ⟨Nat.le_trans (Nat.le_of_ble_eq_true rfl) hfr, Nat.le_trans (Nat.le_of_ble_eq_true rfl) hlo⟩ hE hAN hP hD hS [4, 5, 6] rfl (by decide) rfl rfl rfl rfl hl.1 [] rfl (Nat.le_of_ble_eq_true rfl) dX3_firstBlockAbove_21 ⟨Nat.zero_le _, Nat.zero_le _⟩ ?_
      refine W.eq (g2 := F0 m 24 ls [.int (iI (cn (0 * 200 + i) - cn ((mn - 1) * 200 + i)))]) rfl ?_
      refine lv_iload_n hx hb dX3_firstBlockAbove_24 rfl (lv_at hl 2 rfl) ?_
      refine c_leT (tgt := 30) S dX3_firstBlockAbove_25 (by decide) (by omega) (by omega) (by omega) ?_
      refine w_iinc (v := ((i + 1 : Nat) : Int)) (lv' := [(2, .int (iI (((i + 1 : Nat) : Int)))), (0, .ref w), (1, .int (iI (lim)))]) S dX3_firstBlockAbove_30 hl (k := 0) rfl (by omega) (by decide) rfl (fun ls hl => ?_)
      refine lv_goto (tgt := 2) hx hb dX3_firstBlockAbove_33 (by decide) ?_
      exact ih6 (i + 1)  (by omega)  _ (lv_sub hl [0, 1, 2] rfl)
  exact loop6 200 0  (by omega)  _ (lv_sub hl [0, 1, 2] rfl)
set_option maxHeartbeats 4000000 in
set_option maxRecDepth 100000 in
theorem c_firstLink (lc : Launch) (D : va_G) (cI cZ : ClassId) (N : Nat) (w : Nat) (wc : Nat) (k : Nat) (kn : Nat) (t : Nat) (tc : Nat) (ts : Nat) (b : Nat) (bm : Nat) (br : Nat) (mn : Nat) (tA : Int) (sA : Int) (kA : Int) (ck : Nat → Int) (nb : Nat → Int) (cn : Nat → Int) (sm : Nat → Int) (mo : Nat → Int) (re : Nat → Int) (bb : Nat) (J : Nat) (hmn : 2 ≤ mn ∧ mn ≤ 5) (hcn : ∀ k, k < 1000 → 0 ≤ cn k ∧ cn k ≤ 200) (hbb : bb < 200) (hJ : J ≤ mn - 2) (h1 : ∀ i, i < J → cn (i * 200 + bb) - cn ((i + 1) * 200 + bb) ≤ 0) (h2 : J < mn - 2 → 0 < cn (J * 200 + bb) - cn ((J + 1) * 200 + bb)) : CR lc D cI cZ N yX3_firstLinkThatLost wsX3_firstLinkThatLost (rmK 3 66) [.ref w, .int (iI (((bb : Nat) : Int)))] [(w, .inr (3, [.int (iI (((mn : Nat) : Int))), .int (iI (tA)), .int (iI (sA)), .int (iI (kA)), .ref wc, .ref k, .ref t, .ref b])), (wc, .inl (cI, 5, .inl (vI ck))), (k, .inr (1, [.ref kn])), (kn, .inl (cI, 24, .inl (vI nb))), (t, .inr (2, [.ref tc, .ref ts])), (tc, .inl (cI, 1000, .inl (vI cn))), (ts, .inl (cI, 1000, .inl (vI sm))), (b, .inr (0, [.ref bm, .ref br])), (bm, .inl (cI, 25, .inl (vI mo))), (br, .inl (cI, 5, .inl (vI re)))] (some (.int (iI (((J : Nat) : Int))))) := by
  refine CR.I (cc := cX3_firstLinkThatLost) (maxL := 3) (by decide) rfl (Nat.le_of_ble_eq_true rfl) ?_
  intro p e s m args below meth c R Q S hE A hAN hfr hlo hP hD hS hret ls hl
  have S : CallFix p m c cX3_firstLinkThatLost 3 s args wsX3_firstLinkThatLost RX3 := S
  have hx := S.1
  have hb := S.2.1
  have hl : lv_has ls 3 [(0, .ref w), (1, .int (iI (((bb : Nat) : Int))))] := hl
  refine lv_iconst (v := iI (0)) hx hb dX3_firstLinkThatLost_0 rfl ?_
  refine lv_istore_n (lv' := [(2, .int (iI (0))), (0, .ref w), (1, .int (iI (((bb : Nat) : Int))))]) hx hb dX3_firstLinkThatLost_1 rfl hl (by decide) rfl (fun ls hl => ?_)
  have loop7 : ∀ (q i : Nat) , i + q = J → ∀ (ls : Array Slot), lv_has ls 3 [(2, .int (iI (((i : Nat) : Int)))), (0, .ref w), (1, .int (iI (((bb : Nat) : Int))))] → W p lc e R s m args below meth c s.heap [] 0 0 Q (F0 m 2 ls []) := by
    intro q
    induction q with
    | zero =>
      intro i  hm  ls hl
      have hi : i = J := by omega
      subst hi
      have r1 := hcn (i * 200 + bb) (by omega)
      have r2 := hcn ((i + 1) * 200 + bb) (by omega)
      by_cases h3 : i < mn - 2
      · refine lv_iload_n hx hb dX3_firstLinkThatLost_2 rfl (lv_at hl 0 rfl) ?_
        refine lv_aload_n hx hb dX3_firstLinkThatLost_3 rfl (lv_at hl 1 rfl) ?_
        refine w_get (C := RX3) (T := TX3) (Nf := 8) (ci := 3) (v := .int (iI (((mn : Nat) : Int)))) S (fun _ h => List.mem_cons_of_mem _ (List.mem_append_left _ (List.mem_append_right _ h))) hE hP 0 rfl rfl 0 (by decide) (List.mem_of_getElem? (i := 1) rfl) rfl dX3_firstLinkThatLost_4 ?_
        refine lv_iconst (v := iI (2)) hx hb dX3_firstLinkThatLost_7 rfl ?_
        refine w_isub S dX3_firstLinkThatLost_8 ?_
        refine c_geF (tgt := 35) S dX3_firstLinkThatLost_9 (by decide) (by omega) (by omega) (by omega) ?_
        have r3 := h2 h3
        refine lv_aload_n hx hb dX3_firstLinkThatLost_12 rfl (lv_at hl 1 rfl) ?_
        refine w_get (C := RX3) (T := TX3) (Nf := 8) (ci := 3) (v := .ref t) S (fun _ h => List.mem_cons_of_mem _ (List.mem_append_left _ (List.mem_append_right _ h))) hE hP 0 rfl rfl 6 (by decide) (List.mem_of_getElem? (i := 2) rfl) rfl dX3_firstLinkThatLost_13 ?_
        refine lv_iload_n hx hb dX3_firstLinkThatLost_16 rfl (lv_at hl 0 rfl) ?_
        refine lv_iload_n hx hb dX3_firstLinkThatLost_17 rfl (lv_at hl 0 rfl) ?_
        refine lv_iconst (v := iI (1)) hx hb dX3_firstLinkThatLost_18 rfl ?_
        refine w_iadd S dX3_firstLinkThatLost_19 ?_
        refine lv_iload_n hx hb dX3_firstLinkThatLost_20 rfl (lv_at hl 2 rfl) ?_
        refine kV_R (n := 3) (ci := 2) (q := (RX2, TX2, 2)) S (c_lostBetween lc D cI cZ N t tc ts cn sm i (i + 1) bb (by omega) (by omega) (by omega)) gX3_firstLinkThatLost_X2_lostBetween rfl rfl (by decide +kernel) rfl rfl ⟨Nat.le_trans (Nat.le_of_ble_eq_true rfl) hfr, Nat.le_trans (Nat.le_of_ble_eq_true rfl) hlo⟩ hE hAN hP hD hS [4, 5, 6] rfl (by decide) rfl rfl rfl rfl hl.1 [] rfl (Nat.le_of_ble_eq_true rfl) dX3_firstLinkThatLost_21 ⟨Nat.zero_le _, Nat.zero_le _⟩ ?_
        refine W.eq (g2 := F0 m 24 ls [.int (iI (cn (i * 200 + bb) - cn ((i + 1) * 200 + bb)))]) rfl ?_
        refine b_leF (tgt := 29) S dX3_firstLinkThatLost_24 (by decide) (by omega) (by omega) ?_
        refine lv_iload_n hx hb dX3_firstLinkThatLost_27 rfl (lv_at hl 0 rfl) ?_
        exact hret _ _ _ dX3_firstLinkThatLost_28 (congrArg iI (by omega))
      · refine lv_iload_n hx hb dX3_firstLinkThatLost_2 rfl (lv_at hl 0 rfl) ?_
        refine lv_aload_n hx hb dX3_firstLinkThatLost_3 rfl (lv_at hl 1 rfl) ?_
        refine w_get (C := RX3) (T := TX3) (Nf := 8) (ci := 3) (v := .int (iI (((mn : Nat) : Int)))) S (fun _ h => List.mem_cons_of_mem _ (List.mem_append_left _ (List.mem_append_right _ h))) hE hP 0 rfl rfl 0 (by decide) (List.mem_of_getElem? (i := 1) rfl) rfl dX3_firstLinkThatLost_4 ?_
        refine lv_iconst (v := iI (2)) hx hb dX3_firstLinkThatLost_7 rfl ?_
        refine w_isub S dX3_firstLinkThatLost_8 ?_
        refine c_geT (tgt := 35) S dX3_firstLinkThatLost_9 (by decide) (by omega) (by omega) (by omega) ?_
        refine lv_aload_n hx hb dX3_firstLinkThatLost_35 rfl (lv_at hl 1 rfl) ?_
        refine w_get (C := RX3) (T := TX3) (Nf := 8) (ci := 3) (v := .int (iI (((mn : Nat) : Int)))) S (fun _ h => List.mem_cons_of_mem _ (List.mem_append_left _ (List.mem_append_right _ h))) hE hP 0 rfl rfl 0 (by decide) (List.mem_of_getElem? (i := 1) rfl) rfl dX3_firstLinkThatLost_36 ?_
        refine lv_iconst (v := iI (2)) hx hb dX3_firstLinkThatLost_39 rfl ?_
        refine w_isub S dX3_firstLinkThatLost_40 ?_
        exact hret _ _ _ dX3_firstLinkThatLost_41 (congrArg iI (by omega))
    | succ q ih7 =>
      intro i  hm  ls hl
      have r1 := hcn (i * 200 + bb) (by omega)
      have r2 := hcn ((i + 1) * 200 + bb) (by omega)
      have r3 := h1 i (by omega)
      refine lv_iload_n hx hb dX3_firstLinkThatLost_2 rfl (lv_at hl 0 rfl) ?_
      refine lv_aload_n hx hb dX3_firstLinkThatLost_3 rfl (lv_at hl 1 rfl) ?_
      refine w_get (C := RX3) (T := TX3) (Nf := 8) (ci := 3) (v := .int (iI (((mn : Nat) : Int)))) S (fun _ h => List.mem_cons_of_mem _ (List.mem_append_left _ (List.mem_append_right _ h))) hE hP 0 rfl rfl 0 (by decide) (List.mem_of_getElem? (i := 1) rfl) rfl dX3_firstLinkThatLost_4 ?_
      refine lv_iconst (v := iI (2)) hx hb dX3_firstLinkThatLost_7 rfl ?_
      refine w_isub S dX3_firstLinkThatLost_8 ?_
      refine c_geF (tgt := 35) S dX3_firstLinkThatLost_9 (by decide) (by omega) (by omega) (by omega) ?_
      refine lv_aload_n hx hb dX3_firstLinkThatLost_12 rfl (lv_at hl 1 rfl) ?_
      refine w_get (C := RX3) (T := TX3) (Nf := 8) (ci := 3) (v := .ref t) S (fun _ h => List.mem_cons_of_mem _ (List.mem_append_left _ (List.mem_append_right _ h))) hE hP 0 rfl rfl 6 (by decide) (List.mem_of_getElem? (i := 2) rfl) rfl dX3_firstLinkThatLost_13 ?_
      refine lv_iload_n hx hb dX3_firstLinkThatLost_16 rfl (lv_at hl 0 rfl) ?_
      refine lv_iload_n hx hb dX3_firstLinkThatLost_17 rfl (lv_at hl 0 rfl) ?_
      refine lv_iconst (v := iI (1)) hx hb dX3_firstLinkThatLost_18 rfl ?_
      refine w_iadd S dX3_firstLinkThatLost_19 ?_
      refine lv_iload_n hx hb dX3_firstLinkThatLost_20 rfl (lv_at hl 2 rfl) ?_
      refine kV_R (n := 3) (ci := 2) (q := (RX2, TX2, 2)) S (c_lostBetween lc D cI cZ N t tc ts cn sm i (i + 1) bb (by omega) (by omega) (by omega)) gX3_firstLinkThatLost_X2_lostBetween rfl rfl (by decide +kernel) rfl rfl ⟨Nat.le_trans (Nat.le_of_ble_eq_true rfl) hfr, Nat.le_trans (Nat.le_of_ble_eq_true rfl) hlo⟩ hE hAN hP hD hS [4, 5, 6] rfl (by decide) rfl rfl rfl rfl hl.1 [] rfl (Nat.le_of_ble_eq_true rfl) dX3_firstLinkThatLost_21 ⟨Nat.zero_le _, Nat.zero_le _⟩ ?_
      refine W.eq (g2 := F0 m 24 ls [.int (iI (cn (i * 200 + bb) - cn ((i + 1) * 200 + bb)))]) rfl ?_
      refine b_leT (tgt := 29) S dX3_firstLinkThatLost_24 (by decide) (by omega) (by omega) ?_
      refine w_iinc (v := ((i + 1 : Nat) : Int)) (lv' := [(2, .int (iI (((i + 1 : Nat) : Int)))), (0, .ref w), (1, .int (iI (((bb : Nat) : Int))))]) S dX3_firstLinkThatLost_29 hl (k := 0) rfl (by omega) (by decide) rfl (fun ls hl => ?_)
      refine lv_goto (tgt := 2) hx hb dX3_firstLinkThatLost_32 (by decide) ?_
      exact ih7 (i + 1)  (by omega)  _ (lv_sub hl [0, 1, 2] rfl)
  exact loop7 J 0  (by omega)  _ (lv_sub hl [0, 1, 2] rfl)
